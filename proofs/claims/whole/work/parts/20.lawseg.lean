theorem s_law_18 (L : Nat) (xs : Nat → Int) (x3 : Int) (h : St) (K : Int → St → Prop) (F : (inR x3) ∧ (inR (((L : Int)) - 7)) ∧ (((((L : Int)) - 7) < x3 → (K 1 h)) ∧ (¬ ((((L : Int)) - 7) < x3) → (0 ≤ x3 ∧ x3 < L) ∧ (inR (and3 (xs x3.toNat) 63)) ∧ (((and3 (xs x3.toNat) 63) = 0 → (wI 40 (m_law L xs) 192 [(0, vR 9999), (1, vR 0), (2, vR 109), (3, vI x3)] [] h K)) ∧ ((and3 (xs x3.toNat) 63) = 1 → (wI 40 (m_law L xs) 267 [(0, vR 9999), (1, vR 0), (2, vR 109), (3, vI x3)] [] h K)) ∧ ((and3 (xs x3.toNat) 63) = 2 → (wI 40 (m_law L xs) 330 [(0, vR 9999), (1, vR 0), (2, vR 109), (3, vI x3)] [] h K)) ∧ ((and3 (xs x3.toNat) 63) = 3 → (wI 40 (m_law L xs) 343 [(0, vR 9999), (1, vR 0), (2, vR 109), (3, vI x3)] [] h K)) ∧ ((and3 (xs x3.toNat) 63) = 4 → (wI 40 (m_law L xs) 356 [(0, vR 9999), (1, vR 0), (2, vR 109), (3, vI x3)] [] h K)) ∧ ((and3 (xs x3.toNat) 63) = 5 → (wI 40 (m_law L xs) 369 [(0, vR 9999), (1, vR 0), (2, vR 109), (3, vI x3)] [] h K)) ∧ ((and3 (xs x3.toNat) 63) = 6 → (wI 40 (m_law L xs) 402 [(0, vR 9999), (1, vR 0), (2, vR 109), (3, vI x3)] [] h K)) ∧ ((and3 (xs x3.toNat) 63) = 7 → (wI 40 (m_law L xs) 435 [(0, vR 9999), (1, vR 0), (2, vR 109), (3, vI x3)] [] h K)) ∧ ((and3 (xs x3.toNat) 63) = 8 → (wI 40 (m_law L xs) 458 [(0, vR 9999), (1, vR 0), (2, vR 109), (3, vI x3)] [] h K)) ∧ ((and3 (xs x3.toNat) 63) = 9 → (wI 40 (m_law L xs) 481 [(0, vR 9999), (1, vR 0), (2, vR 109), (3, vI x3)] [] h K)) ∧ ((and3 (xs x3.toNat) 63) = 10 → (wI 40 (m_law L xs) 494 [(0, vR 9999), (1, vR 0), (2, vR 109), (3, vI x3)] [] h K)) ∧ ((and3 (xs x3.toNat) 63) = 11 → (wI 40 (m_law L xs) 537 [(0, vR 9999), (1, vR 0), (2, vR 109), (3, vI x3)] [] h K)) ∧ ((and3 (xs x3.toNat) 63) = 12 → (wI 40 (m_law L xs) 580 [(0, vR 9999), (1, vR 0), (2, vR 109), (3, vI x3)] [] h K)) ∧ ((and3 (xs x3.toNat) 63) = 13 → (wI 40 (m_law L xs) 623 [(0, vR 9999), (1, vR 0), (2, vR 109), (3, vI x3)] [] h K)) ∧ ((and3 (xs x3.toNat) 63) = 14 → (wI 40 (m_law L xs) 646 [(0, vR 9999), (1, vR 0), (2, vR 109), (3, vI x3)] [] h K)) ∧ ((and3 (xs x3.toNat) 63) = 15 → (wI 40 (m_law L xs) 669 [(0, vR 9999), (1, vR 0), (2, vR 109), (3, vI x3)] [] h K)) ∧ ((and3 (xs x3.toNat) 63) = 16 → (wI 40 (m_law L xs) 702 [(0, vR 9999), (1, vR 0), (2, vR 109), (3, vI x3)] [] h K)) ∧ ((and3 (xs x3.toNat) 63) = 17 → (wI 40 (m_law L xs) 735 [(0, vR 9999), (1, vR 0), (2, vR 109), (3, vI x3)] [] h K)) ∧ ((and3 (xs x3.toNat) 63) = 18 → (wI 40 (m_law L xs) 758 [(0, vR 9999), (1, vR 0), (2, vR 109), (3, vI x3)] [] h K)) ∧ ((and3 (xs x3.toNat) 63) = 19 → (wI 40 (m_law L xs) 781 [(0, vR 9999), (1, vR 0), (2, vR 109), (3, vI x3)] [] h K)) ∧ ((and3 (xs x3.toNat) 63) = 20 → (wI 40 (m_law L xs) 834 [(0, vR 9999), (1, vR 0), (2, vR 109), (3, vI x3)] [] h K)) ∧ ((and3 (xs x3.toNat) 63) = 21 → (wI 40 (m_law L xs) 887 [(0, vR 9999), (1, vR 0), (2, vR 109), (3, vI x3)] [] h K)) ∧ ((and3 (xs x3.toNat) 63) = 22 → (wI 40 (m_law L xs) 930 [(0, vR 9999), (1, vR 0), (2, vR 109), (3, vI x3)] [] h K)) ∧ ((and3 (xs x3.toNat) 63) = 23 → (wI 40 (m_law L xs) 963 [(0, vR 9999), (1, vR 0), (2, vR 109), (3, vI x3)] [] h K)) ∧ ((and3 (xs x3.toNat) 63) = 24 → (wI 40 (m_law L xs) 1006 [(0, vR 9999), (1, vR 0), (2, vR 109), (3, vI x3)] [] h K)) ∧ ((and3 (xs x3.toNat) 63) = 25 → (wI 40 (m_law L xs) 1081 [(0, vR 9999), (1, vR 0), (2, vR 109), (3, vI x3)] [] h K)) ∧ ((and3 (xs x3.toNat) 63) = 26 → (wI 40 (m_law L xs) 1124 [(0, vR 9999), (1, vR 0), (2, vR 109), (3, vI x3)] [] h K)) ∧ ((and3 (xs x3.toNat) 63) = 27 → (wI 40 (m_law L xs) 1177 [(0, vR 9999), (1, vR 0), (2, vR 109), (3, vI x3)] [] h K)) ∧ ((and3 (xs x3.toNat) 63) = 28 → (wI 40 (m_law L xs) 1220 [(0, vR 9999), (1, vR 0), (2, vR 109), (3, vI x3)] [] h K)) ∧ ((and3 (xs x3.toNat) 63) = 29 → (wI 40 (m_law L xs) 1263 [(0, vR 9999), (1, vR 0), (2, vR 109), (3, vI x3)] [] h K)) ∧ ((and3 (xs x3.toNat) 63) = 30 → (wI 40 (m_law L xs) 1306 [(0, vR 9999), (1, vR 0), (2, vR 109), (3, vI x3)] [] h K)) ∧ ((and3 (xs x3.toNat) 63) = 31 → (wI 40 (m_law L xs) 1329 [(0, vR 9999), (1, vR 0), (2, vR 109), (3, vI x3)] [] h K)) ∧ ((and3 (xs x3.toNat) 63) = 32 → (wI 40 (m_law L xs) 1372 [(0, vR 9999), (1, vR 0), (2, vR 109), (3, vI x3)] [] h K)) ∧ ((and3 (xs x3.toNat) 63) = 33 → (wI 40 (m_law L xs) 1425 [(0, vR 9999), (1, vR 0), (2, vR 109), (3, vI x3)] [] h K)) ∧ ((and3 (xs x3.toNat) 63) = 34 → (wI 40 (m_law L xs) 1438 [(0, vR 9999), (1, vR 0), (2, vR 109), (3, vI x3)] [] h K)) ∧ ((and3 (xs x3.toNat) 63) = 35 → (wI 40 (m_law L xs) 1451 [(0, vR 9999), (1, vR 0), (2, vR 109), (3, vI x3)] [] h K)) ∧ (((and3 (xs x3.toNat) 63) ≠ 0 ∧ (and3 (xs x3.toNat) 63) ≠ 1 ∧ (and3 (xs x3.toNat) 63) ≠ 2 ∧ (and3 (xs x3.toNat) 63) ≠ 3 ∧ (and3 (xs x3.toNat) 63) ≠ 4 ∧ (and3 (xs x3.toNat) 63) ≠ 5 ∧ (and3 (xs x3.toNat) 63) ≠ 6 ∧ (and3 (xs x3.toNat) 63) ≠ 7 ∧ (and3 (xs x3.toNat) 63) ≠ 8 ∧ (and3 (xs x3.toNat) 63) ≠ 9 ∧ (and3 (xs x3.toNat) 63) ≠ 10 ∧ (and3 (xs x3.toNat) 63) ≠ 11 ∧ (and3 (xs x3.toNat) 63) ≠ 12 ∧ (and3 (xs x3.toNat) 63) ≠ 13 ∧ (and3 (xs x3.toNat) 63) ≠ 14 ∧ (and3 (xs x3.toNat) 63) ≠ 15 ∧ (and3 (xs x3.toNat) 63) ≠ 16 ∧ (and3 (xs x3.toNat) 63) ≠ 17 ∧ (and3 (xs x3.toNat) 63) ≠ 18 ∧ (and3 (xs x3.toNat) 63) ≠ 19 ∧ (and3 (xs x3.toNat) 63) ≠ 20 ∧ (and3 (xs x3.toNat) 63) ≠ 21 ∧ (and3 (xs x3.toNat) 63) ≠ 22 ∧ (and3 (xs x3.toNat) 63) ≠ 23 ∧ (and3 (xs x3.toNat) 63) ≠ 24 ∧ (and3 (xs x3.toNat) 63) ≠ 25 ∧ (and3 (xs x3.toNat) 63) ≠ 26 ∧ (and3 (xs x3.toNat) 63) ≠ 27 ∧ (and3 (xs x3.toNat) 63) ≠ 28 ∧ (and3 (xs x3.toNat) 63) ≠ 29 ∧ (and3 (xs x3.toNat) 63) ≠ 30 ∧ (and3 (xs x3.toNat) 63) ≠ 31 ∧ (and3 (xs x3.toNat) 63) ≠ 32 ∧ (and3 (xs x3.toNat) 63) ≠ 33 ∧ (and3 (xs x3.toNat) 63) ≠ 34 ∧ (and3 (xs x3.toNat) 63) ≠ 35) → (wI 40 (m_law L xs) 1474 [(0, vR 9999), (1, vR 0), (2, vR 109), (3, vI x3)] [] h K)))))) : wI 40 (m_law L xs) 18 [(0, vR 9999), (1, vR 0), (2, vR 109), (3, vI x3)] [] h K := by
  refine w_iload_n rfl rfl ?_
  refine w_aload_n rfl rfl ?_
  refine w_slen rfl (Nat.succ_pos L) ?_
  refine w_bipush (by decide) (by decide) rfl ?_
  refine w_isub rfl ?_
  obtain ⟨b1, F⟩ := F
  obtain ⟨b2, F⟩ := F
  refine w_icmp_gt (tgt := 1480) rfl (by decide) ⟨b1, b2⟩ (fun q3 => ?_) (fun q3 => ?_)
  · replace F := F.1 q3
    refine w_iconst rfl ?_
    exact w_zret rfl rfl (by decide) ⟨rfl, rfl, _, rfl, F⟩
  · replace F := F.2 q3
    refine w_aload_n rfl rfl ?_
    refine w_iload_n rfl rfl ?_
    obtain ⟨b4, F⟩ := F
    refine w_sload rfl b4 ?_
    refine w_bipush (by decide) (by decide) rfl ?_
    refine w_iand rfl ?_
    obtain ⟨b5, F⟩ := F
    obtain ⟨F0, F1, F2, F3, F4, F5, F6, F7, F8, F9, F10, F11, F12, F13, F14, F15, F16, F17, F18, F19, F20, F21, F22, F23, F24, F25, F26, F27, F28, F29, F30, F31, F32, F33, F34, F35, Fd⟩ := F
    by_cases q6 : (and3 (xs x3.toNat) 63) = 0
    · have F := F0 q6
      refine w_tabIn (a := and3 (xs x3.toNat) 63) (tgt := 192) (off := 159) rfl b5 (by omega) (by omega) (by rw [q6]; rfl) (by decide) ?_
      exact F
    by_cases q7 : (and3 (xs x3.toNat) 63) = 1
    · have F := F1 q7
      refine w_tabIn (a := and3 (xs x3.toNat) 63) (tgt := 267) (off := 234) rfl b5 (by omega) (by omega) (by rw [q7]; rfl) (by decide) ?_
      exact F
    by_cases q8 : (and3 (xs x3.toNat) 63) = 2
    · have F := F2 q8
      refine w_tabIn (a := and3 (xs x3.toNat) 63) (tgt := 330) (off := 297) rfl b5 (by omega) (by omega) (by rw [q8]; rfl) (by decide) ?_
      exact F
    by_cases q9 : (and3 (xs x3.toNat) 63) = 3
    · have F := F3 q9
      refine w_tabIn (a := and3 (xs x3.toNat) 63) (tgt := 343) (off := 310) rfl b5 (by omega) (by omega) (by rw [q9]; rfl) (by decide) ?_
      exact F
    by_cases q10 : (and3 (xs x3.toNat) 63) = 4
    · have F := F4 q10
      refine w_tabIn (a := and3 (xs x3.toNat) 63) (tgt := 356) (off := 323) rfl b5 (by omega) (by omega) (by rw [q10]; rfl) (by decide) ?_
      exact F
    by_cases q11 : (and3 (xs x3.toNat) 63) = 5
    · have F := F5 q11
      refine w_tabIn (a := and3 (xs x3.toNat) 63) (tgt := 369) (off := 336) rfl b5 (by omega) (by omega) (by rw [q11]; rfl) (by decide) ?_
      exact F
    by_cases q12 : (and3 (xs x3.toNat) 63) = 6
    · have F := F6 q12
      refine w_tabIn (a := and3 (xs x3.toNat) 63) (tgt := 402) (off := 369) rfl b5 (by omega) (by omega) (by rw [q12]; rfl) (by decide) ?_
      exact F
    by_cases q13 : (and3 (xs x3.toNat) 63) = 7
    · have F := F7 q13
      refine w_tabIn (a := and3 (xs x3.toNat) 63) (tgt := 435) (off := 402) rfl b5 (by omega) (by omega) (by rw [q13]; rfl) (by decide) ?_
      exact F
    by_cases q14 : (and3 (xs x3.toNat) 63) = 8
    · have F := F8 q14
      refine w_tabIn (a := and3 (xs x3.toNat) 63) (tgt := 458) (off := 425) rfl b5 (by omega) (by omega) (by rw [q14]; rfl) (by decide) ?_
      exact F
    by_cases q15 : (and3 (xs x3.toNat) 63) = 9
    · have F := F9 q15
      refine w_tabIn (a := and3 (xs x3.toNat) 63) (tgt := 481) (off := 448) rfl b5 (by omega) (by omega) (by rw [q15]; rfl) (by decide) ?_
      exact F
    by_cases q16 : (and3 (xs x3.toNat) 63) = 10
    · have F := F10 q16
      refine w_tabIn (a := and3 (xs x3.toNat) 63) (tgt := 494) (off := 461) rfl b5 (by omega) (by omega) (by rw [q16]; rfl) (by decide) ?_
      exact F
    by_cases q17 : (and3 (xs x3.toNat) 63) = 11
    · have F := F11 q17
      refine w_tabIn (a := and3 (xs x3.toNat) 63) (tgt := 537) (off := 504) rfl b5 (by omega) (by omega) (by rw [q17]; rfl) (by decide) ?_
      exact F
    by_cases q18 : (and3 (xs x3.toNat) 63) = 12
    · have F := F12 q18
      refine w_tabIn (a := and3 (xs x3.toNat) 63) (tgt := 580) (off := 547) rfl b5 (by omega) (by omega) (by rw [q18]; rfl) (by decide) ?_
      exact F
    by_cases q19 : (and3 (xs x3.toNat) 63) = 13
    · have F := F13 q19
      refine w_tabIn (a := and3 (xs x3.toNat) 63) (tgt := 623) (off := 590) rfl b5 (by omega) (by omega) (by rw [q19]; rfl) (by decide) ?_
      exact F
    by_cases q20 : (and3 (xs x3.toNat) 63) = 14
    · have F := F14 q20
      refine w_tabIn (a := and3 (xs x3.toNat) 63) (tgt := 646) (off := 613) rfl b5 (by omega) (by omega) (by rw [q20]; rfl) (by decide) ?_
      exact F
    by_cases q21 : (and3 (xs x3.toNat) 63) = 15
    · have F := F15 q21
      refine w_tabIn (a := and3 (xs x3.toNat) 63) (tgt := 669) (off := 636) rfl b5 (by omega) (by omega) (by rw [q21]; rfl) (by decide) ?_
      exact F
    by_cases q22 : (and3 (xs x3.toNat) 63) = 16
    · have F := F16 q22
      refine w_tabIn (a := and3 (xs x3.toNat) 63) (tgt := 702) (off := 669) rfl b5 (by omega) (by omega) (by rw [q22]; rfl) (by decide) ?_
      exact F
    by_cases q23 : (and3 (xs x3.toNat) 63) = 17
    · have F := F17 q23
      refine w_tabIn (a := and3 (xs x3.toNat) 63) (tgt := 735) (off := 702) rfl b5 (by omega) (by omega) (by rw [q23]; rfl) (by decide) ?_
      exact F
    by_cases q24 : (and3 (xs x3.toNat) 63) = 18
    · have F := F18 q24
      refine w_tabIn (a := and3 (xs x3.toNat) 63) (tgt := 758) (off := 725) rfl b5 (by omega) (by omega) (by rw [q24]; rfl) (by decide) ?_
      exact F
    by_cases q25 : (and3 (xs x3.toNat) 63) = 19
    · have F := F19 q25
      refine w_tabIn (a := and3 (xs x3.toNat) 63) (tgt := 781) (off := 748) rfl b5 (by omega) (by omega) (by rw [q25]; rfl) (by decide) ?_
      exact F
    by_cases q26 : (and3 (xs x3.toNat) 63) = 20
    · have F := F20 q26
      refine w_tabIn (a := and3 (xs x3.toNat) 63) (tgt := 834) (off := 801) rfl b5 (by omega) (by omega) (by rw [q26]; rfl) (by decide) ?_
      exact F
    by_cases q27 : (and3 (xs x3.toNat) 63) = 21
    · have F := F21 q27
      refine w_tabIn (a := and3 (xs x3.toNat) 63) (tgt := 887) (off := 854) rfl b5 (by omega) (by omega) (by rw [q27]; rfl) (by decide) ?_
      exact F
    by_cases q28 : (and3 (xs x3.toNat) 63) = 22
    · have F := F22 q28
      refine w_tabIn (a := and3 (xs x3.toNat) 63) (tgt := 930) (off := 897) rfl b5 (by omega) (by omega) (by rw [q28]; rfl) (by decide) ?_
      exact F
    by_cases q29 : (and3 (xs x3.toNat) 63) = 23
    · have F := F23 q29
      refine w_tabIn (a := and3 (xs x3.toNat) 63) (tgt := 963) (off := 930) rfl b5 (by omega) (by omega) (by rw [q29]; rfl) (by decide) ?_
      exact F
    by_cases q30 : (and3 (xs x3.toNat) 63) = 24
    · have F := F24 q30
      refine w_tabIn (a := and3 (xs x3.toNat) 63) (tgt := 1006) (off := 973) rfl b5 (by omega) (by omega) (by rw [q30]; rfl) (by decide) ?_
      exact F
    by_cases q31 : (and3 (xs x3.toNat) 63) = 25
    · have F := F25 q31
      refine w_tabIn (a := and3 (xs x3.toNat) 63) (tgt := 1081) (off := 1048) rfl b5 (by omega) (by omega) (by rw [q31]; rfl) (by decide) ?_
      exact F
    by_cases q32 : (and3 (xs x3.toNat) 63) = 26
    · have F := F26 q32
      refine w_tabIn (a := and3 (xs x3.toNat) 63) (tgt := 1124) (off := 1091) rfl b5 (by omega) (by omega) (by rw [q32]; rfl) (by decide) ?_
      exact F
    by_cases q33 : (and3 (xs x3.toNat) 63) = 27
    · have F := F27 q33
      refine w_tabIn (a := and3 (xs x3.toNat) 63) (tgt := 1177) (off := 1144) rfl b5 (by omega) (by omega) (by rw [q33]; rfl) (by decide) ?_
      exact F
    by_cases q34 : (and3 (xs x3.toNat) 63) = 28
    · have F := F28 q34
      refine w_tabIn (a := and3 (xs x3.toNat) 63) (tgt := 1220) (off := 1187) rfl b5 (by omega) (by omega) (by rw [q34]; rfl) (by decide) ?_
      exact F
    by_cases q35 : (and3 (xs x3.toNat) 63) = 29
    · have F := F29 q35
      refine w_tabIn (a := and3 (xs x3.toNat) 63) (tgt := 1263) (off := 1230) rfl b5 (by omega) (by omega) (by rw [q35]; rfl) (by decide) ?_
      exact F
    by_cases q36 : (and3 (xs x3.toNat) 63) = 30
    · have F := F30 q36
      refine w_tabIn (a := and3 (xs x3.toNat) 63) (tgt := 1306) (off := 1273) rfl b5 (by omega) (by omega) (by rw [q36]; rfl) (by decide) ?_
      exact F
    by_cases q37 : (and3 (xs x3.toNat) 63) = 31
    · have F := F31 q37
      refine w_tabIn (a := and3 (xs x3.toNat) 63) (tgt := 1329) (off := 1296) rfl b5 (by omega) (by omega) (by rw [q37]; rfl) (by decide) ?_
      exact F
    by_cases q38 : (and3 (xs x3.toNat) 63) = 32
    · have F := F32 q38
      refine w_tabIn (a := and3 (xs x3.toNat) 63) (tgt := 1372) (off := 1339) rfl b5 (by omega) (by omega) (by rw [q38]; rfl) (by decide) ?_
      exact F
    by_cases q39 : (and3 (xs x3.toNat) 63) = 33
    · have F := F33 q39
      refine w_tabIn (a := and3 (xs x3.toNat) 63) (tgt := 1425) (off := 1392) rfl b5 (by omega) (by omega) (by rw [q39]; rfl) (by decide) ?_
      exact F
    by_cases q40 : (and3 (xs x3.toNat) 63) = 34
    · have F := F34 q40
      refine w_tabIn (a := and3 (xs x3.toNat) 63) (tgt := 1438) (off := 1405) rfl b5 (by omega) (by omega) (by rw [q40]; rfl) (by decide) ?_
      exact F
    by_cases q41 : (and3 (xs x3.toNat) 63) = 35
    · have F := F35 q41
      refine w_tabIn (a := and3 (xs x3.toNat) 63) (tgt := 1451) (off := 1418) rfl b5 (by omega) (by omega) (by rw [q41]; rfl) (by decide) ?_
      exact F
    have F := Fd ⟨q6, q7, q8, q9, q10, q11, q12, q13, q14, q15, q16, q17, q18, q19, q20, q21, q22, q23, q24, q25, q26, q27, q28, q29, q30, q31, q32, q33, q34, q35, q36, q37, q38, q39, q40, q41⟩
    refine w_tabOut (a := and3 (xs x3.toNat) 63) (tgt := 1474) rfl (by decide) b5 (by omega) ?_
    exact F
theorem s_law_192 (L : Nat) (xs : Nat → Int) (x3 : Int) (h : St) (K : Int → St → Prop) (F : (0 ≤ x3 + 1 ∧ x3 + 1 < L) ∧ (0 ≤ x3 + 2 ∧ x3 + 2 < L) ∧ (0 ≤ x3 + 3 ∧ x3 + 3 < L) ∧ (0 ≤ x3 + 4 ∧ x3 + 4 < L) ∧ (0 ≤ x3 + 5 ∧ x3 + 5 < L) ∧ (0 ≤ x3 + 6 ∧ x3 + 6 < L) ∧ (mwpI 40 m_C_call [vR 0, vI (xs (x3 + 1).toNat), vI (xs (x3 + 2).toNat), vI (xs (x3 + 3).toNat), vI (xs (x3 + 4).toNat), vI (xs (x3 + 5).toNat), vI (xs (x3 + 6).toNat)] h (fun z7 h7 => (mwpI 40 m_M_call [vR 109, vI (xs (x3 + 1).toNat), vI (xs (x3 + 2).toNat), vI (xs (x3 + 3).toNat), vI (xs (x3 + 4).toNat), vI (xs (x3 + 5).toNat), vI (xs (x3 + 6).toNat)] h7 (fun z8 h8 => (inR z7) ∧ (inR z8) ∧ ((z7 = z8 → (wI 40 (m_law L xs) 1474 [(0, vR 9999), (1, vR 0), (2, vR 109), (3, vI x3)] [] h8 K)) ∧ (¬ (z7 = z8) → (K 0 h8)))))))) : wI 40 (m_law L xs) 192 [(0, vR 9999), (1, vR 0), (2, vR 109), (3, vI x3)] [] h K := by
  refine w_aload_n rfl rfl ?_
  refine w_aload_n rfl rfl ?_
  refine w_iload_n rfl rfl ?_
  refine w_iconst rfl ?_
  refine w_iadd rfl ?_
  obtain ⟨b1, F⟩ := F
  refine w_sload rfl b1 ?_
  refine w_aload_n rfl rfl ?_
  refine w_iload_n rfl rfl ?_
  refine w_iconst rfl ?_
  refine w_iadd rfl ?_
  obtain ⟨b2, F⟩ := F
  refine w_sload rfl b2 ?_
  refine w_aload_n rfl rfl ?_
  refine w_iload_n rfl rfl ?_
  refine w_iconst rfl ?_
  refine w_iadd rfl ?_
  obtain ⟨b3, F⟩ := F
  refine w_sload rfl b3 ?_
  refine w_aload_n rfl rfl ?_
  refine w_iload_n rfl rfl ?_
  refine w_iconst rfl ?_
  refine w_iadd rfl ?_
  obtain ⟨b4, F⟩ := F
  refine w_sload rfl b4 ?_
  refine w_aload_n rfl rfl ?_
  refine w_iload_n rfl rfl ?_
  refine w_iconst rfl ?_
  refine w_iadd rfl ?_
  obtain ⟨b5, F⟩ := F
  refine w_sload rfl b5 ?_
  refine w_aload_n rfl rfl ?_
  refine w_iload_n rfl rfl ?_
  refine w_bipush (by decide) (by decide) rfl ?_
  refine w_iadd rfl ?_
  obtain ⟨b6, F⟩ := F
  refine w_sload rfl b6 ?_
  refine c_VI [vI (xs (x3 + 1).toNat), vI (xs (x3 + 2).toNat), vI (xs (x3 + 3).toNat), vI (xs (x3 + 4).toNat), vI (xs (x3 + 5).toNat), vI (xs (x3 + 6).toNat)] [] rfl b_C_call k_L_13 rfl rfl rfl rfl rfl rfl (mwpI_mono (fun z7 h7 F => ?_) F)
  refine w_aload_n rfl rfl ?_
  refine w_aload_n rfl rfl ?_
  refine w_iload_n rfl rfl ?_
  refine w_iconst rfl ?_
  refine w_iadd rfl ?_
  refine w_sload rfl b1 ?_
  refine w_aload_n rfl rfl ?_
  refine w_iload_n rfl rfl ?_
  refine w_iconst rfl ?_
  refine w_iadd rfl ?_
  refine w_sload rfl b2 ?_
  refine w_aload_n rfl rfl ?_
  refine w_iload_n rfl rfl ?_
  refine w_iconst rfl ?_
  refine w_iadd rfl ?_
  refine w_sload rfl b3 ?_
  refine w_aload_n rfl rfl ?_
  refine w_iload_n rfl rfl ?_
  refine w_iconst rfl ?_
  refine w_iadd rfl ?_
  refine w_sload rfl b4 ?_
  refine w_aload_n rfl rfl ?_
  refine w_iload_n rfl rfl ?_
  refine w_iconst rfl ?_
  refine w_iadd rfl ?_
  refine w_sload rfl b5 ?_
  refine w_aload_n rfl rfl ?_
  refine w_iload_n rfl rfl ?_
  refine w_bipush (by decide) (by decide) rfl ?_
  refine w_iadd rfl ?_
  refine w_sload rfl b6 ?_
  refine c_VI [vI (xs (x3 + 1).toNat), vI (xs (x3 + 2).toNat), vI (xs (x3 + 3).toNat), vI (xs (x3 + 4).toNat), vI (xs (x3 + 5).toNat), vI (xs (x3 + 6).toNat)] [vI z7] rfl b_M_call k_L_17 rfl rfl rfl rfl rfl rfl (mwpI_mono (fun z8 h8 F => ?_) F)
  obtain ⟨b9, F⟩ := F
  obtain ⟨b10, F⟩ := F
  refine w_icmp_eq (tgt := 1474) rfl (by decide) ⟨b9, b10⟩ (fun q11 => ?_) (fun q11 => ?_)
  · replace F := F.1 q11
    exact F
  · replace F := F.2 q11
    refine w_iconst rfl ?_
    exact w_zret rfl rfl (by decide) ⟨rfl, rfl, _, rfl, F⟩
theorem s_law_267 (L : Nat) (xs : Nat → Int) (x3 : Int) (h : St) (K : Int → St → Prop) (F : (0 ≤ x3 + 1 ∧ x3 + 1 < L) ∧ (0 ≤ x3 + 2 ∧ x3 + 2 < L) ∧ (inR (xs (x3 + 2).toNat)) ∧ (0 ≤ x3 + 3 ∧ x3 + 3 < L) ∧ (inR (xs (x3 + 3).toNat)) ∧ (mwpI 40 m_C_write [vR 0, vI (xs (x3 + 1).toNat), vJ (or6 (shl6 (xs (x3 + 2).toNat) 32) (and6 (xs (x3 + 3).toNat) 4294967295))] h (fun z6 h6 => (mwpI 40 m_M_write [vR 109, vI (xs (x3 + 1).toNat), vJ (or6 (shl6 (xs (x3 + 2).toNat) 32) (and6 (xs (x3 + 3).toNat) 4294967295))] h6 (fun z7 h7 => (inR z6) ∧ (inR z7) ∧ ((z6 = z7 → (wI 40 (m_law L xs) 1474 [(0, vR 9999), (1, vR 0), (2, vR 109), (3, vI x3)] [] h7 K)) ∧ (¬ (z6 = z7) → (K 0 h7)))))))) : wI 40 (m_law L xs) 267 [(0, vR 9999), (1, vR 0), (2, vR 109), (3, vI x3)] [] h K := by
  refine w_aload_n rfl rfl ?_
  refine w_aload_n rfl rfl ?_
  refine w_iload_n rfl rfl ?_
  refine w_iconst rfl ?_
  refine w_iadd rfl ?_
  obtain ⟨b1, F⟩ := F
  refine w_sload rfl b1 ?_
  refine w_aload_n rfl rfl ?_
  refine w_iload_n rfl rfl ?_
  refine w_iconst rfl ?_
  refine w_iadd rfl ?_
  obtain ⟨b2, F⟩ := F
  refine w_sload rfl b2 ?_
  obtain ⟨b3, F⟩ := F
  refine w_i2l b3 rfl ?_
  refine w_bipush (by decide) (by decide) rfl ?_
  refine w_lshl rfl ?_
  refine w_aload_n rfl rfl ?_
  refine w_iload_n rfl rfl ?_
  refine w_iconst rfl ?_
  refine w_iadd rfl ?_
  obtain ⟨b4, F⟩ := F
  refine w_sload rfl b4 ?_
  obtain ⟨b5, F⟩ := F
  refine w_i2l b5 rfl ?_
  refine w_ldc2 (z := 4294967295) kc_L_18 (by decide) rfl ?_
  refine w_land rfl ?_
  refine w_lor rfl ?_
  refine c_VI [vI (xs (x3 + 1).toNat), vJ (or6 (shl6 (xs (x3 + 2).toNat) 32) (and6 (xs (x3 + 3).toNat) 4294967295))] [] rfl b_C_write k_L_20 rfl rfl rfl rfl rfl rfl (mwpI_mono (fun z6 h6 F => ?_) F)
  refine w_aload_n rfl rfl ?_
  refine w_aload_n rfl rfl ?_
  refine w_iload_n rfl rfl ?_
  refine w_iconst rfl ?_
  refine w_iadd rfl ?_
  refine w_sload rfl b1 ?_
  refine w_aload_n rfl rfl ?_
  refine w_iload_n rfl rfl ?_
  refine w_iconst rfl ?_
  refine w_iadd rfl ?_
  refine w_sload rfl b2 ?_
  refine w_i2l b3 rfl ?_
  refine w_bipush (by decide) (by decide) rfl ?_
  refine w_lshl rfl ?_
  refine w_aload_n rfl rfl ?_
  refine w_iload_n rfl rfl ?_
  refine w_iconst rfl ?_
  refine w_iadd rfl ?_
  refine w_sload rfl b4 ?_
  refine w_i2l b5 rfl ?_
  refine w_ldc2 (z := 4294967295) kc_L_18 (by decide) rfl ?_
  refine w_land rfl ?_
  refine w_lor rfl ?_
  refine c_VI [vI (xs (x3 + 1).toNat), vJ (or6 (shl6 (xs (x3 + 2).toNat) 32) (and6 (xs (x3 + 3).toNat) 4294967295))] [vI z6] rfl b_M_write k_L_24 rfl rfl rfl rfl rfl rfl (mwpI_mono (fun z7 h7 F => ?_) F)
  obtain ⟨b8, F⟩ := F
  obtain ⟨b9, F⟩ := F
  refine w_icmp_eq (tgt := 1474) rfl (by decide) ⟨b8, b9⟩ (fun q10 => ?_) (fun q10 => ?_)
  · replace F := F.1 q10
    exact F
  · replace F := F.2 q10
    refine w_iconst rfl ?_
    exact w_zret rfl rfl (by decide) ⟨rfl, rfl, _, rfl, F⟩
theorem s_law_330 (L : Nat) (xs : Nat → Int) (x3 : Int) (h : St) (K : Int → St → Prop) (F : (mwpI 40 m_C_wipe [vR 0] h (fun z1 h1 => (mwpI 40 m_M_wipe [vR 109] h1 (fun z2 h2 => (inR z1) ∧ (inR z2) ∧ ((z1 = z2 → (wI 40 (m_law L xs) 1474 [(0, vR 9999), (1, vR 0), (2, vR 109), (3, vI x3)] [] h2 K)) ∧ (¬ (z1 = z2) → (K 0 h2)))))))) : wI 40 (m_law L xs) 330 [(0, vR 9999), (1, vR 0), (2, vR 109), (3, vI x3)] [] h K := by
  refine w_aload_n rfl rfl ?_
  refine c_VI [] [] rfl b_C_wipe k_L_25 rfl rfl rfl rfl rfl rfl (mwpI_mono (fun z1 h1 F => ?_) F)
  refine w_aload_n rfl rfl ?_
  refine c_VI [] [vI z1] rfl b_M_wipe k_L_29 rfl rfl rfl rfl rfl rfl (mwpI_mono (fun z2 h2 F => ?_) F)
  obtain ⟨b3, F⟩ := F
  obtain ⟨b4, F⟩ := F
  refine w_icmp_eq (tgt := 1474) rfl (by decide) ⟨b3, b4⟩ (fun q5 => ?_) (fun q5 => ?_)
  · replace F := F.1 q5
    exact F
  · replace F := F.2 q5
    refine w_iconst rfl ?_
    exact w_zret rfl rfl (by decide) ⟨rfl, rfl, _, rfl, F⟩
theorem s_law_343 (L : Nat) (xs : Nat → Int) (x3 : Int) (h : St) (K : Int → St → Prop) (F : (mwpI 40 m_C_fault [vR 0] h (fun z1 h1 => (mwpI 40 m_M_fault [vR 109] h1 (fun z2 h2 => (inR z1) ∧ (inR z2) ∧ ((z1 = z2 → (wI 40 (m_law L xs) 1474 [(0, vR 9999), (1, vR 0), (2, vR 109), (3, vI x3)] [] h2 K)) ∧ (¬ (z1 = z2) → (K 0 h2)))))))) : wI 40 (m_law L xs) 343 [(0, vR 9999), (1, vR 0), (2, vR 109), (3, vI x3)] [] h K := by
  refine w_aload_n rfl rfl ?_
  refine c_VI [] [] rfl b_C_fault k_L_30 rfl rfl rfl rfl rfl rfl (mwpI_mono (fun z1 h1 F => ?_) F)
  refine w_aload_n rfl rfl ?_
  refine c_VI [] [vI z1] rfl b_M_fault k_L_33 rfl rfl rfl rfl rfl rfl (mwpI_mono (fun z2 h2 F => ?_) F)
  obtain ⟨b3, F⟩ := F
  obtain ⟨b4, F⟩ := F
  refine w_icmp_eq (tgt := 1474) rfl (by decide) ⟨b3, b4⟩ (fun q5 => ?_) (fun q5 => ?_)
  · replace F := F.1 q5
    exact F
  · replace F := F.2 q5
    refine w_iconst rfl ?_
    exact w_zret rfl rfl (by decide) ⟨rfl, rfl, _, rfl, F⟩
theorem s_law_356 (L : Nat) (xs : Nat → Int) (x3 : Int) (h : St) (K : Int → St → Prop) (F : (mwpI 40 m_C_take [vR 0] h (fun z1 h1 => (mwpI 40 m_M_take [vR 109] h1 (fun z2 h2 => (inR z1) ∧ (inR z2) ∧ ((z1 = z2 → (wI 40 (m_law L xs) 1474 [(0, vR 9999), (1, vR 0), (2, vR 109), (3, vI x3)] [] h2 K)) ∧ (¬ (z1 = z2) → (K 0 h2)))))))) : wI 40 (m_law L xs) 356 [(0, vR 9999), (1, vR 0), (2, vR 109), (3, vI x3)] [] h K := by
  refine w_aload_n rfl rfl ?_
  refine c_VI [] [] rfl b_C_take k_L_34 rfl rfl rfl rfl rfl rfl (mwpI_mono (fun z1 h1 F => ?_) F)
  refine w_aload_n rfl rfl ?_
  refine c_VI [] [vI z1] rfl b_M_take k_L_37 rfl rfl rfl rfl rfl rfl (mwpI_mono (fun z2 h2 F => ?_) F)
  obtain ⟨b3, F⟩ := F
  obtain ⟨b4, F⟩ := F
  refine w_icmp_eq (tgt := 1474) rfl (by decide) ⟨b3, b4⟩ (fun q5 => ?_) (fun q5 => ?_)
  · replace F := F.1 q5
    exact F
  · replace F := F.2 q5
    refine w_iconst rfl ?_
    exact w_zret rfl rfl (by decide) ⟨rfl, rfl, _, rfl, F⟩
theorem s_law_369 (L : Nat) (xs : Nat → Int) (x3 : Int) (h : St) (K : Int → St → Prop) (F : (0 ≤ x3 + 1 ∧ x3 + 1 < L) ∧ (0 ≤ x3 + 2 ∧ x3 + 2 < L) ∧ (mwpI 40 m_C_name [vR 0, vI (xs (x3 + 1).toNat), vI (xs (x3 + 2).toNat)] h (fun z3 h3 => (mwpI 40 m_M_name [vR 109, vI (xs (x3 + 1).toNat), vI (xs (x3 + 2).toNat)] h3 (fun z4 h4 => (inR z3) ∧ (inR z4) ∧ ((z3 = z4 → (wI 40 (m_law L xs) 1474 [(0, vR 9999), (1, vR 0), (2, vR 109), (3, vI x3)] [] h4 K)) ∧ (¬ (z3 = z4) → (K 0 h4)))))))) : wI 40 (m_law L xs) 369 [(0, vR 9999), (1, vR 0), (2, vR 109), (3, vI x3)] [] h K := by
  refine w_aload_n rfl rfl ?_
  refine w_aload_n rfl rfl ?_
  refine w_iload_n rfl rfl ?_
  refine w_iconst rfl ?_
  refine w_iadd rfl ?_
  obtain ⟨b1, F⟩ := F
  refine w_sload rfl b1 ?_
  refine w_aload_n rfl rfl ?_
  refine w_iload_n rfl rfl ?_
  refine w_iconst rfl ?_
  refine w_iadd rfl ?_
  obtain ⟨b2, F⟩ := F
  refine w_sload rfl b2 ?_
  refine c_VI [vI (xs (x3 + 1).toNat), vI (xs (x3 + 2).toNat)] [] rfl b_C_name k_L_38 rfl rfl rfl rfl rfl rfl (mwpI_mono (fun z3 h3 F => ?_) F)
  refine w_aload_n rfl rfl ?_
  refine w_aload_n rfl rfl ?_
  refine w_iload_n rfl rfl ?_
  refine w_iconst rfl ?_
  refine w_iadd rfl ?_
  refine w_sload rfl b1 ?_
  refine w_aload_n rfl rfl ?_
  refine w_iload_n rfl rfl ?_
  refine w_iconst rfl ?_
  refine w_iadd rfl ?_
  refine w_sload rfl b2 ?_
  refine c_VI [vI (xs (x3 + 1).toNat), vI (xs (x3 + 2).toNat)] [vI z3] rfl b_M_name k_L_42 rfl rfl rfl rfl rfl rfl (mwpI_mono (fun z4 h4 F => ?_) F)
  obtain ⟨b5, F⟩ := F
  obtain ⟨b6, F⟩ := F
  refine w_icmp_eq (tgt := 1474) rfl (by decide) ⟨b5, b6⟩ (fun q7 => ?_) (fun q7 => ?_)
  · replace F := F.1 q7
    exact F
  · replace F := F.2 q7
    refine w_iconst rfl ?_
    exact w_zret rfl rfl (by decide) ⟨rfl, rfl, _, rfl, F⟩
theorem s_law_402 (L : Nat) (xs : Nat → Int) (x3 : Int) (h : St) (K : Int → St → Prop) (F : (0 ≤ x3 + 1 ∧ x3 + 1 < L) ∧ (0 ≤ x3 + 2 ∧ x3 + 2 < L) ∧ (mwpI 40 m_C_post [vR 0, vI (xs (x3 + 1).toNat), vI (xs (x3 + 2).toNat)] h (fun z3 h3 => (mwpI 40 m_M_post [vR 109, vI (xs (x3 + 1).toNat), vI (xs (x3 + 2).toNat)] h3 (fun z4 h4 => (inR z3) ∧ (inR z4) ∧ ((z3 = z4 → (wI 40 (m_law L xs) 1474 [(0, vR 9999), (1, vR 0), (2, vR 109), (3, vI x3)] [] h4 K)) ∧ (¬ (z3 = z4) → (K 0 h4)))))))) : wI 40 (m_law L xs) 402 [(0, vR 9999), (1, vR 0), (2, vR 109), (3, vI x3)] [] h K := by
  refine w_aload_n rfl rfl ?_
  refine w_aload_n rfl rfl ?_
  refine w_iload_n rfl rfl ?_
  refine w_iconst rfl ?_
  refine w_iadd rfl ?_
  obtain ⟨b1, F⟩ := F
  refine w_sload rfl b1 ?_
  refine w_aload_n rfl rfl ?_
  refine w_iload_n rfl rfl ?_
  refine w_iconst rfl ?_
  refine w_iadd rfl ?_
  obtain ⟨b2, F⟩ := F
  refine w_sload rfl b2 ?_
  refine c_VI [vI (xs (x3 + 1).toNat), vI (xs (x3 + 2).toNat)] [] rfl b_C_post k_L_43 rfl rfl rfl rfl rfl rfl (mwpI_mono (fun z3 h3 F => ?_) F)
  refine w_aload_n rfl rfl ?_
  refine w_aload_n rfl rfl ?_
  refine w_iload_n rfl rfl ?_
  refine w_iconst rfl ?_
  refine w_iadd rfl ?_
  refine w_sload rfl b1 ?_
  refine w_aload_n rfl rfl ?_
  refine w_iload_n rfl rfl ?_
  refine w_iconst rfl ?_
  refine w_iadd rfl ?_
  refine w_sload rfl b2 ?_
  refine c_VI [vI (xs (x3 + 1).toNat), vI (xs (x3 + 2).toNat)] [vI z3] rfl b_M_post k_L_46 rfl rfl rfl rfl rfl rfl (mwpI_mono (fun z4 h4 F => ?_) F)
  obtain ⟨b5, F⟩ := F
  obtain ⟨b6, F⟩ := F
  refine w_icmp_eq (tgt := 1474) rfl (by decide) ⟨b5, b6⟩ (fun q7 => ?_) (fun q7 => ?_)
  · replace F := F.1 q7
    exact F
  · replace F := F.2 q7
    refine w_iconst rfl ?_
    exact w_zret rfl rfl (by decide) ⟨rfl, rfl, _, rfl, F⟩
theorem s_law_435 (L : Nat) (xs : Nat → Int) (x3 : Int) (h : St) (K : Int → St → Prop) (F : (0 ≤ x3 + 1 ∧ x3 + 1 < L) ∧ (mwpI 40 m_C_apart [vR 0, vI (xs (x3 + 1).toNat)] h (fun z2 h2 => (mwpI 40 m_M_apart [vR 109, vI (xs (x3 + 1).toNat)] h2 (fun z3 h3 => (inR z2) ∧ (inR z3) ∧ ((z2 = z3 → (wI 40 (m_law L xs) 1474 [(0, vR 9999), (1, vR 0), (2, vR 109), (3, vI x3)] [] h3 K)) ∧ (¬ (z2 = z3) → (K 0 h3)))))))) : wI 40 (m_law L xs) 435 [(0, vR 9999), (1, vR 0), (2, vR 109), (3, vI x3)] [] h K := by
  refine w_aload_n rfl rfl ?_
  refine w_aload_n rfl rfl ?_
  refine w_iload_n rfl rfl ?_
  refine w_iconst rfl ?_
  refine w_iadd rfl ?_
  obtain ⟨b1, F⟩ := F
  refine w_sload rfl b1 ?_
  refine c_VI [vI (xs (x3 + 1).toNat)] [] rfl b_C_apart k_L_47 rfl rfl rfl rfl rfl rfl (mwpI_mono (fun z2 h2 F => ?_) F)
  refine w_aload_n rfl rfl ?_
  refine w_aload_n rfl rfl ?_
  refine w_iload_n rfl rfl ?_
  refine w_iconst rfl ?_
  refine w_iadd rfl ?_
  refine w_sload rfl b1 ?_
  refine c_VI [vI (xs (x3 + 1).toNat)] [vI z2] rfl b_M_apart k_L_51 rfl rfl rfl rfl rfl rfl (mwpI_mono (fun z3 h3 F => ?_) F)
  obtain ⟨b4, F⟩ := F
  obtain ⟨b5, F⟩ := F
  refine w_icmp_eq (tgt := 1474) rfl (by decide) ⟨b4, b5⟩ (fun q6 => ?_) (fun q6 => ?_)
  · replace F := F.1 q6
    exact F
  · replace F := F.2 q6
    refine w_iconst rfl ?_
    exact w_zret rfl rfl (by decide) ⟨rfl, rfl, _, rfl, F⟩
theorem s_law_458 (L : Nat) (xs : Nat → Int) (x3 : Int) (h : St) (K : Int → St → Prop) (F : (0 ≤ x3 + 1 ∧ x3 + 1 < L) ∧ (mwpI 40 m_C_hand [vR 0, vI (xs (x3 + 1).toNat)] h (fun z2 h2 => (mwpI 40 m_M_hand [vR 109, vI (xs (x3 + 1).toNat)] h2 (fun z3 h3 => (inR z2) ∧ (inR z3) ∧ ((z2 = z3 → (wI 40 (m_law L xs) 1474 [(0, vR 9999), (1, vR 0), (2, vR 109), (3, vI x3)] [] h3 K)) ∧ (¬ (z2 = z3) → (K 0 h3)))))))) : wI 40 (m_law L xs) 458 [(0, vR 9999), (1, vR 0), (2, vR 109), (3, vI x3)] [] h K := by
  refine w_aload_n rfl rfl ?_
  refine w_aload_n rfl rfl ?_
  refine w_iload_n rfl rfl ?_
  refine w_iconst rfl ?_
  refine w_iadd rfl ?_
  obtain ⟨b1, F⟩ := F
  refine w_sload rfl b1 ?_
  refine c_VI [vI (xs (x3 + 1).toNat)] [] rfl b_C_hand k_L_52 rfl rfl rfl rfl rfl rfl (mwpI_mono (fun z2 h2 F => ?_) F)
  refine w_aload_n rfl rfl ?_
  refine w_aload_n rfl rfl ?_
  refine w_iload_n rfl rfl ?_
  refine w_iconst rfl ?_
  refine w_iadd rfl ?_
  refine w_sload rfl b1 ?_
  refine c_VI [vI (xs (x3 + 1).toNat)] [vI z2] rfl b_M_hand k_L_55 rfl rfl rfl rfl rfl rfl (mwpI_mono (fun z3 h3 F => ?_) F)
  obtain ⟨b4, F⟩ := F
  obtain ⟨b5, F⟩ := F
  refine w_icmp_eq (tgt := 1474) rfl (by decide) ⟨b4, b5⟩ (fun q6 => ?_) (fun q6 => ?_)
  · replace F := F.1 q6
    exact F
  · replace F := F.2 q6
    refine w_iconst rfl ?_
    exact w_zret rfl rfl (by decide) ⟨rfl, rfl, _, rfl, F⟩
theorem s_law_481 (L : Nat) (xs : Nat → Int) (x3 : Int) (h : St) (K : Int → St → Prop) (F : (mwpI 40 m_C_hands [vR 0] h (fun z1 h1 => (mwpI 40 m_M_hands [vR 109] h1 (fun z2 h2 => (inR z1) ∧ (inR z2) ∧ ((z1 = z2 → (wI 40 (m_law L xs) 1474 [(0, vR 9999), (1, vR 0), (2, vR 109), (3, vI x3)] [] h2 K)) ∧ (¬ (z1 = z2) → (K 0 h2)))))))) : wI 40 (m_law L xs) 481 [(0, vR 9999), (1, vR 0), (2, vR 109), (3, vI x3)] [] h K := by
  refine w_aload_n rfl rfl ?_
  refine c_VI [] [] rfl b_C_hands k_L_56 rfl rfl rfl rfl rfl rfl (mwpI_mono (fun z1 h1 F => ?_) F)
  refine w_aload_n rfl rfl ?_
  refine c_VI [] [vI z1] rfl b_M_hands k_L_59 rfl rfl rfl rfl rfl rfl (mwpI_mono (fun z2 h2 F => ?_) F)
  obtain ⟨b3, F⟩ := F
  obtain ⟨b4, F⟩ := F
  refine w_icmp_eq (tgt := 1474) rfl (by decide) ⟨b3, b4⟩ (fun q5 => ?_) (fun q5 => ?_)
  · replace F := F.1 q5
    exact F
  · replace F := F.2 q5
    refine w_iconst rfl ?_
    exact w_zret rfl rfl (by decide) ⟨rfl, rfl, _, rfl, F⟩
theorem s_law_494 (L : Nat) (xs : Nat → Int) (x3 : Int) (h : St) (K : Int → St → Prop) (F : (0 ≤ x3 + 1 ∧ x3 + 1 < L) ∧ (0 ≤ x3 + 2 ∧ x3 + 2 < L) ∧ (0 ≤ x3 + 3 ∧ x3 + 3 < L) ∧ (mwpI 40 m_C_odds [vR 0, vI (xs (x3 + 1).toNat), vI (xs (x3 + 2).toNat), vI (xs (x3 + 3).toNat)] h (fun z4 h4 => (mwpI 40 m_M_odds [vR 109, vI (xs (x3 + 1).toNat), vI (xs (x3 + 2).toNat), vI (xs (x3 + 3).toNat)] h4 (fun z5 h5 => (inR z4) ∧ (inR z5) ∧ ((z4 = z5 → (wI 40 (m_law L xs) 1474 [(0, vR 9999), (1, vR 0), (2, vR 109), (3, vI x3)] [] h5 K)) ∧ (¬ (z4 = z5) → (K 0 h5)))))))) : wI 40 (m_law L xs) 494 [(0, vR 9999), (1, vR 0), (2, vR 109), (3, vI x3)] [] h K := by
  refine w_aload_n rfl rfl ?_
  refine w_aload_n rfl rfl ?_
  refine w_iload_n rfl rfl ?_
  refine w_iconst rfl ?_
  refine w_iadd rfl ?_
  obtain ⟨b1, F⟩ := F
  refine w_sload rfl b1 ?_
  refine w_aload_n rfl rfl ?_
  refine w_iload_n rfl rfl ?_
  refine w_iconst rfl ?_
  refine w_iadd rfl ?_
  obtain ⟨b2, F⟩ := F
  refine w_sload rfl b2 ?_
  refine w_aload_n rfl rfl ?_
  refine w_iload_n rfl rfl ?_
  refine w_iconst rfl ?_
  refine w_iadd rfl ?_
  obtain ⟨b3, F⟩ := F
  refine w_sload rfl b3 ?_
  refine c_VI [vI (xs (x3 + 1).toNat), vI (xs (x3 + 2).toNat), vI (xs (x3 + 3).toNat)] [] rfl b_C_odds k_L_60 rfl rfl rfl rfl rfl rfl (mwpI_mono (fun z4 h4 F => ?_) F)
  refine w_aload_n rfl rfl ?_
  refine w_aload_n rfl rfl ?_
  refine w_iload_n rfl rfl ?_
  refine w_iconst rfl ?_
  refine w_iadd rfl ?_
  refine w_sload rfl b1 ?_
  refine w_aload_n rfl rfl ?_
  refine w_iload_n rfl rfl ?_
  refine w_iconst rfl ?_
  refine w_iadd rfl ?_
  refine w_sload rfl b2 ?_
  refine w_aload_n rfl rfl ?_
  refine w_iload_n rfl rfl ?_
  refine w_iconst rfl ?_
  refine w_iadd rfl ?_
  refine w_sload rfl b3 ?_
  refine c_VI [vI (xs (x3 + 1).toNat), vI (xs (x3 + 2).toNat), vI (xs (x3 + 3).toNat)] [vI z4] rfl b_M_odds k_L_64 rfl rfl rfl rfl rfl rfl (mwpI_mono (fun z5 h5 F => ?_) F)
  obtain ⟨b6, F⟩ := F
  obtain ⟨b7, F⟩ := F
  refine w_icmp_eq (tgt := 1474) rfl (by decide) ⟨b6, b7⟩ (fun q8 => ?_) (fun q8 => ?_)
  · replace F := F.1 q8
    exact F
  · replace F := F.2 q8
    refine w_iconst rfl ?_
    exact w_zret rfl rfl (by decide) ⟨rfl, rfl, _, rfl, F⟩
theorem s_law_537 (L : Nat) (xs : Nat → Int) (x3 : Int) (h : St) (K : Int → St → Prop) (F : (0 ≤ x3 + 1 ∧ x3 + 1 < L) ∧ (0 ≤ x3 + 2 ∧ x3 + 2 < L) ∧ (0 ≤ x3 + 3 ∧ x3 + 3 < L) ∧ (mwpI 40 m_C_like [vR 0, vI (xs (x3 + 1).toNat), vI (xs (x3 + 2).toNat), vI (xs (x3 + 3).toNat)] h (fun z4 h4 => (mwpI 40 m_M_like [vR 109, vI (xs (x3 + 1).toNat), vI (xs (x3 + 2).toNat), vI (xs (x3 + 3).toNat)] h4 (fun z5 h5 => (inR z4) ∧ (inR z5) ∧ ((z4 = z5 → (wI 40 (m_law L xs) 1474 [(0, vR 9999), (1, vR 0), (2, vR 109), (3, vI x3)] [] h5 K)) ∧ (¬ (z4 = z5) → (K 0 h5)))))))) : wI 40 (m_law L xs) 537 [(0, vR 9999), (1, vR 0), (2, vR 109), (3, vI x3)] [] h K := by
  refine w_aload_n rfl rfl ?_
  refine w_aload_n rfl rfl ?_
  refine w_iload_n rfl rfl ?_
  refine w_iconst rfl ?_
  refine w_iadd rfl ?_
  obtain ⟨b1, F⟩ := F
  refine w_sload rfl b1 ?_
  refine w_aload_n rfl rfl ?_
  refine w_iload_n rfl rfl ?_
  refine w_iconst rfl ?_
  refine w_iadd rfl ?_
  obtain ⟨b2, F⟩ := F
  refine w_sload rfl b2 ?_
  refine w_aload_n rfl rfl ?_
  refine w_iload_n rfl rfl ?_
  refine w_iconst rfl ?_
  refine w_iadd rfl ?_
  obtain ⟨b3, F⟩ := F
  refine w_sload rfl b3 ?_
  refine c_VI [vI (xs (x3 + 1).toNat), vI (xs (x3 + 2).toNat), vI (xs (x3 + 3).toNat)] [] rfl b_C_like k_L_65 rfl rfl rfl rfl rfl rfl (mwpI_mono (fun z4 h4 F => ?_) F)
  refine w_aload_n rfl rfl ?_
  refine w_aload_n rfl rfl ?_
  refine w_iload_n rfl rfl ?_
  refine w_iconst rfl ?_
  refine w_iadd rfl ?_
  refine w_sload rfl b1 ?_
  refine w_aload_n rfl rfl ?_
  refine w_iload_n rfl rfl ?_
  refine w_iconst rfl ?_
  refine w_iadd rfl ?_
  refine w_sload rfl b2 ?_
  refine w_aload_n rfl rfl ?_
  refine w_iload_n rfl rfl ?_
  refine w_iconst rfl ?_
  refine w_iadd rfl ?_
  refine w_sload rfl b3 ?_
  refine c_VI [vI (xs (x3 + 1).toNat), vI (xs (x3 + 2).toNat), vI (xs (x3 + 3).toNat)] [vI z4] rfl b_M_like k_L_68 rfl rfl rfl rfl rfl rfl (mwpI_mono (fun z5 h5 F => ?_) F)
  obtain ⟨b6, F⟩ := F
  obtain ⟨b7, F⟩ := F
  refine w_icmp_eq (tgt := 1474) rfl (by decide) ⟨b6, b7⟩ (fun q8 => ?_) (fun q8 => ?_)
  · replace F := F.1 q8
    exact F
  · replace F := F.2 q8
    refine w_iconst rfl ?_
    exact w_zret rfl rfl (by decide) ⟨rfl, rfl, _, rfl, F⟩
theorem s_law_580 (L : Nat) (xs : Nat → Int) (x3 : Int) (h : St) (K : Int → St → Prop) (F : (0 ≤ x3 + 1 ∧ x3 + 1 < L) ∧ (0 ≤ x3 + 2 ∧ x3 + 2 < L) ∧ (0 ≤ x3 + 3 ∧ x3 + 3 < L) ∧ (mwpI 40 m_C_follow [vR 0, vI (xs (x3 + 1).toNat), vI (xs (x3 + 2).toNat), vI (xs (x3 + 3).toNat)] h (fun z4 h4 => (mwpI 40 m_M_follow [vR 109, vI (xs (x3 + 1).toNat), vI (xs (x3 + 2).toNat), vI (xs (x3 + 3).toNat)] h4 (fun z5 h5 => (inR z4) ∧ (inR z5) ∧ ((z4 = z5 → (wI 40 (m_law L xs) 1474 [(0, vR 9999), (1, vR 0), (2, vR 109), (3, vI x3)] [] h5 K)) ∧ (¬ (z4 = z5) → (K 0 h5)))))))) : wI 40 (m_law L xs) 580 [(0, vR 9999), (1, vR 0), (2, vR 109), (3, vI x3)] [] h K := by
  refine w_aload_n rfl rfl ?_
  refine w_aload_n rfl rfl ?_
  refine w_iload_n rfl rfl ?_
  refine w_iconst rfl ?_
  refine w_iadd rfl ?_
  obtain ⟨b1, F⟩ := F
  refine w_sload rfl b1 ?_
  refine w_aload_n rfl rfl ?_
  refine w_iload_n rfl rfl ?_
  refine w_iconst rfl ?_
  refine w_iadd rfl ?_
  obtain ⟨b2, F⟩ := F
  refine w_sload rfl b2 ?_
  refine w_aload_n rfl rfl ?_
  refine w_iload_n rfl rfl ?_
  refine w_iconst rfl ?_
  refine w_iadd rfl ?_
  obtain ⟨b3, F⟩ := F
  refine w_sload rfl b3 ?_
  refine c_VI [vI (xs (x3 + 1).toNat), vI (xs (x3 + 2).toNat), vI (xs (x3 + 3).toNat)] [] rfl b_C_follow k_L_69 rfl rfl rfl rfl rfl rfl (mwpI_mono (fun z4 h4 F => ?_) F)
  refine w_aload_n rfl rfl ?_
  refine w_aload_n rfl rfl ?_
  refine w_iload_n rfl rfl ?_
  refine w_iconst rfl ?_
  refine w_iadd rfl ?_
  refine w_sload rfl b1 ?_
  refine w_aload_n rfl rfl ?_
  refine w_iload_n rfl rfl ?_
  refine w_iconst rfl ?_
  refine w_iadd rfl ?_
  refine w_sload rfl b2 ?_
  refine w_aload_n rfl rfl ?_
  refine w_iload_n rfl rfl ?_
  refine w_iconst rfl ?_
  refine w_iadd rfl ?_
  refine w_sload rfl b3 ?_
  refine c_VI [vI (xs (x3 + 1).toNat), vI (xs (x3 + 2).toNat), vI (xs (x3 + 3).toNat)] [vI z4] rfl b_M_follow k_L_72 rfl rfl rfl rfl rfl rfl (mwpI_mono (fun z5 h5 F => ?_) F)
  obtain ⟨b6, F⟩ := F
  obtain ⟨b7, F⟩ := F
  refine w_icmp_eq (tgt := 1474) rfl (by decide) ⟨b6, b7⟩ (fun q8 => ?_) (fun q8 => ?_)
  · replace F := F.1 q8
    exact F
  · replace F := F.2 q8
    refine w_iconst rfl ?_
    exact w_zret rfl rfl (by decide) ⟨rfl, rfl, _, rfl, F⟩
theorem s_law_623 (L : Nat) (xs : Nat → Int) (x3 : Int) (h : St) (K : Int → St → Prop) (F : (0 ≤ x3 + 1 ∧ x3 + 1 < L) ∧ (mwpI 40 m_C_sum [vR 0, vI (xs (x3 + 1).toNat)] h (fun z2 h2 => (mwpI 40 m_M_sum [vR 109, vI (xs (x3 + 1).toNat)] h2 (fun z3 h3 => (inR z2) ∧ (inR z3) ∧ ((z2 = z3 → (wI 40 (m_law L xs) 1474 [(0, vR 9999), (1, vR 0), (2, vR 109), (3, vI x3)] [] h3 K)) ∧ (¬ (z2 = z3) → (K 0 h3)))))))) : wI 40 (m_law L xs) 623 [(0, vR 9999), (1, vR 0), (2, vR 109), (3, vI x3)] [] h K := by
  refine w_aload_n rfl rfl ?_
  refine w_aload_n rfl rfl ?_
  refine w_iload_n rfl rfl ?_
  refine w_iconst rfl ?_
  refine w_iadd rfl ?_
  obtain ⟨b1, F⟩ := F
  refine w_sload rfl b1 ?_
  refine c_VI [vI (xs (x3 + 1).toNat)] [] rfl b_C_sum k_L_73 rfl rfl rfl rfl rfl rfl (mwpI_mono (fun z2 h2 F => ?_) F)
  refine w_aload_n rfl rfl ?_
  refine w_aload_n rfl rfl ?_
  refine w_iload_n rfl rfl ?_
  refine w_iconst rfl ?_
  refine w_iadd rfl ?_
  refine w_sload rfl b1 ?_
  refine c_VI [vI (xs (x3 + 1).toNat)] [vI z2] rfl b_M_sum k_L_76 rfl rfl rfl rfl rfl rfl (mwpI_mono (fun z3 h3 F => ?_) F)
  obtain ⟨b4, F⟩ := F
  obtain ⟨b5, F⟩ := F
  refine w_icmp_eq (tgt := 1474) rfl (by decide) ⟨b4, b5⟩ (fun q6 => ?_) (fun q6 => ?_)
  · replace F := F.1 q6
    exact F
  · replace F := F.2 q6
    refine w_iconst rfl ?_
    exact w_zret rfl rfl (by decide) ⟨rfl, rfl, _, rfl, F⟩
theorem s_law_646 (L : Nat) (xs : Nat → Int) (x3 : Int) (h : St) (K : Int → St → Prop) (F : (0 ≤ x3 + 1 ∧ x3 + 1 < L) ∧ (mwpI 40 m_C_rules [vR 0, vI (xs (x3 + 1).toNat)] h (fun z2 h2 => (mwpI 40 m_M_rules [vR 109, vI (xs (x3 + 1).toNat)] h2 (fun z3 h3 => (inR z2) ∧ (inR z3) ∧ ((z2 = z3 → (wI 40 (m_law L xs) 1474 [(0, vR 9999), (1, vR 0), (2, vR 109), (3, vI x3)] [] h3 K)) ∧ (¬ (z2 = z3) → (K 0 h3)))))))) : wI 40 (m_law L xs) 646 [(0, vR 9999), (1, vR 0), (2, vR 109), (3, vI x3)] [] h K := by
  refine w_aload_n rfl rfl ?_
  refine w_aload_n rfl rfl ?_
  refine w_iload_n rfl rfl ?_
  refine w_iconst rfl ?_
  refine w_iadd rfl ?_
  obtain ⟨b1, F⟩ := F
  refine w_sload rfl b1 ?_
  refine c_VI [vI (xs (x3 + 1).toNat)] [] rfl b_C_rules k_L_77 rfl rfl rfl rfl rfl rfl (mwpI_mono (fun z2 h2 F => ?_) F)
  refine w_aload_n rfl rfl ?_
  refine w_aload_n rfl rfl ?_
  refine w_iload_n rfl rfl ?_
  refine w_iconst rfl ?_
  refine w_iadd rfl ?_
  refine w_sload rfl b1 ?_
  refine c_VI [vI (xs (x3 + 1).toNat)] [vI z2] rfl b_M_rules k_L_80 rfl rfl rfl rfl rfl rfl (mwpI_mono (fun z3 h3 F => ?_) F)
  obtain ⟨b4, F⟩ := F
  obtain ⟨b5, F⟩ := F
  refine w_icmp_eq (tgt := 1474) rfl (by decide) ⟨b4, b5⟩ (fun q6 => ?_) (fun q6 => ?_)
  · replace F := F.1 q6
    exact F
  · replace F := F.2 q6
    refine w_iconst rfl ?_
    exact w_zret rfl rfl (by decide) ⟨rfl, rfl, _, rfl, F⟩
theorem s_law_669 (L : Nat) (xs : Nat → Int) (x3 : Int) (h : St) (K : Int → St → Prop) (F : (0 ≤ x3 + 1 ∧ x3 + 1 < L) ∧ (0 ≤ x3 + 2 ∧ x3 + 2 < L) ∧ (mwpI 40 m_C_trace [vR 0, vI (xs (x3 + 1).toNat), vI (xs (x3 + 2).toNat)] h (fun z3 h3 => (mwpI 40 m_M_trace [vR 109, vI (xs (x3 + 1).toNat), vI (xs (x3 + 2).toNat)] h3 (fun z4 h4 => (inR z3) ∧ (inR z4) ∧ ((z3 = z4 → (wI 40 (m_law L xs) 1474 [(0, vR 9999), (1, vR 0), (2, vR 109), (3, vI x3)] [] h4 K)) ∧ (¬ (z3 = z4) → (K 0 h4)))))))) : wI 40 (m_law L xs) 669 [(0, vR 9999), (1, vR 0), (2, vR 109), (3, vI x3)] [] h K := by
  refine w_aload_n rfl rfl ?_
  refine w_aload_n rfl rfl ?_
  refine w_iload_n rfl rfl ?_
  refine w_iconst rfl ?_
  refine w_iadd rfl ?_
  obtain ⟨b1, F⟩ := F
  refine w_sload rfl b1 ?_
  refine w_aload_n rfl rfl ?_
  refine w_iload_n rfl rfl ?_
  refine w_iconst rfl ?_
  refine w_iadd rfl ?_
  obtain ⟨b2, F⟩ := F
  refine w_sload rfl b2 ?_
  refine c_VI [vI (xs (x3 + 1).toNat), vI (xs (x3 + 2).toNat)] [] rfl b_C_trace k_L_81 rfl rfl rfl rfl rfl rfl (mwpI_mono (fun z3 h3 F => ?_) F)
  refine w_aload_n rfl rfl ?_
  refine w_aload_n rfl rfl ?_
  refine w_iload_n rfl rfl ?_
  refine w_iconst rfl ?_
  refine w_iadd rfl ?_
  refine w_sload rfl b1 ?_
  refine w_aload_n rfl rfl ?_
  refine w_iload_n rfl rfl ?_
  refine w_iconst rfl ?_
  refine w_iadd rfl ?_
  refine w_sload rfl b2 ?_
  refine c_VI [vI (xs (x3 + 1).toNat), vI (xs (x3 + 2).toNat)] [vI z3] rfl b_M_trace k_L_84 rfl rfl rfl rfl rfl rfl (mwpI_mono (fun z4 h4 F => ?_) F)
  obtain ⟨b5, F⟩ := F
  obtain ⟨b6, F⟩ := F
  refine w_icmp_eq (tgt := 1474) rfl (by decide) ⟨b5, b6⟩ (fun q7 => ?_) (fun q7 => ?_)
  · replace F := F.1 q7
    exact F
  · replace F := F.2 q7
    refine w_iconst rfl ?_
    exact w_zret rfl rfl (by decide) ⟨rfl, rfl, _, rfl, F⟩
theorem s_law_702 (L : Nat) (xs : Nat → Int) (x3 : Int) (h : St) (K : Int → St → Prop) (F : (0 ≤ x3 + 1 ∧ x3 + 1 < L) ∧ (0 ≤ x3 + 2 ∧ x3 + 2 < L) ∧ (mwpI 40 m_C_held [vR 0, vI (xs (x3 + 1).toNat), vI (xs (x3 + 2).toNat)] h (fun z3 h3 => (mwpI 40 m_M_held [vR 109, vI (xs (x3 + 1).toNat), vI (xs (x3 + 2).toNat)] h3 (fun z4 h4 => (inR z3) ∧ (inR z4) ∧ ((z3 = z4 → (wI 40 (m_law L xs) 1474 [(0, vR 9999), (1, vR 0), (2, vR 109), (3, vI x3)] [] h4 K)) ∧ (¬ (z3 = z4) → (K 0 h4)))))))) : wI 40 (m_law L xs) 702 [(0, vR 9999), (1, vR 0), (2, vR 109), (3, vI x3)] [] h K := by
  refine w_aload_n rfl rfl ?_
  refine w_aload_n rfl rfl ?_
  refine w_iload_n rfl rfl ?_
  refine w_iconst rfl ?_
  refine w_iadd rfl ?_
  obtain ⟨b1, F⟩ := F
  refine w_sload rfl b1 ?_
  refine w_aload_n rfl rfl ?_
  refine w_iload_n rfl rfl ?_
  refine w_iconst rfl ?_
  refine w_iadd rfl ?_
  obtain ⟨b2, F⟩ := F
  refine w_sload rfl b2 ?_
  refine c_VI [vI (xs (x3 + 1).toNat), vI (xs (x3 + 2).toNat)] [] rfl b_C_held k_L_85 rfl rfl rfl rfl rfl rfl (mwpI_mono (fun z3 h3 F => ?_) F)
  refine w_aload_n rfl rfl ?_
  refine w_aload_n rfl rfl ?_
  refine w_iload_n rfl rfl ?_
  refine w_iconst rfl ?_
  refine w_iadd rfl ?_
  refine w_sload rfl b1 ?_
  refine w_aload_n rfl rfl ?_
  refine w_iload_n rfl rfl ?_
  refine w_iconst rfl ?_
  refine w_iadd rfl ?_
  refine w_sload rfl b2 ?_
  refine c_VI [vI (xs (x3 + 1).toNat), vI (xs (x3 + 2).toNat)] [vI z3] rfl b_M_held k_L_88 rfl rfl rfl rfl rfl rfl (mwpI_mono (fun z4 h4 F => ?_) F)
  obtain ⟨b5, F⟩ := F
  obtain ⟨b6, F⟩ := F
  refine w_icmp_eq (tgt := 1474) rfl (by decide) ⟨b5, b6⟩ (fun q7 => ?_) (fun q7 => ?_)
  · replace F := F.1 q7
    exact F
  · replace F := F.2 q7
    refine w_iconst rfl ?_
    exact w_zret rfl rfl (by decide) ⟨rfl, rfl, _, rfl, F⟩
theorem s_law_735 (L : Nat) (xs : Nat → Int) (x3 : Int) (h : St) (K : Int → St → Prop) (F : (0 ≤ x3 + 1 ∧ x3 + 1 < L) ∧ (mwpI 40 m_C_within [vR 0, vI (xs (x3 + 1).toNat)] h (fun z2 h2 => (mwpI 40 m_M_within [vR 109, vI (xs (x3 + 1).toNat)] h2 (fun z3 h3 => (inR z2) ∧ (inR z3) ∧ ((z2 = z3 → (wI 40 (m_law L xs) 1474 [(0, vR 9999), (1, vR 0), (2, vR 109), (3, vI x3)] [] h3 K)) ∧ (¬ (z2 = z3) → (K 0 h3)))))))) : wI 40 (m_law L xs) 735 [(0, vR 9999), (1, vR 0), (2, vR 109), (3, vI x3)] [] h K := by
  refine w_aload_n rfl rfl ?_
  refine w_aload_n rfl rfl ?_
  refine w_iload_n rfl rfl ?_
  refine w_iconst rfl ?_
  refine w_iadd rfl ?_
  obtain ⟨b1, F⟩ := F
  refine w_sload rfl b1 ?_
  refine c_VI [vI (xs (x3 + 1).toNat)] [] rfl b_C_within k_L_89 rfl rfl rfl rfl rfl rfl (mwpI_mono (fun z2 h2 F => ?_) F)
  refine w_aload_n rfl rfl ?_
  refine w_aload_n rfl rfl ?_
  refine w_iload_n rfl rfl ?_
  refine w_iconst rfl ?_
  refine w_iadd rfl ?_
  refine w_sload rfl b1 ?_
  refine c_VI [vI (xs (x3 + 1).toNat)] [vI z2] rfl b_M_within k_L_92 rfl rfl rfl rfl rfl rfl (mwpI_mono (fun z3 h3 F => ?_) F)
  obtain ⟨b4, F⟩ := F
  obtain ⟨b5, F⟩ := F
  refine w_icmp_eq (tgt := 1474) rfl (by decide) ⟨b4, b5⟩ (fun q6 => ?_) (fun q6 => ?_)
  · replace F := F.1 q6
    exact F
  · replace F := F.2 q6
    refine w_iconst rfl ?_
    exact w_zret rfl rfl (by decide) ⟨rfl, rfl, _, rfl, F⟩
theorem s_law_758 (L : Nat) (xs : Nat → Int) (x3 : Int) (h : St) (K : Int → St → Prop) (F : (0 ≤ x3 + 1 ∧ x3 + 1 < L) ∧ (mwpI 40 m_C_fate [vR 0, vI (xs (x3 + 1).toNat)] h (fun z2 h2 => (mwpI 40 m_M_fate [vR 109, vI (xs (x3 + 1).toNat)] h2 (fun z3 h3 => (inR z2) ∧ (inR z3) ∧ ((z2 = z3 → (wI 40 (m_law L xs) 1474 [(0, vR 9999), (1, vR 0), (2, vR 109), (3, vI x3)] [] h3 K)) ∧ (¬ (z2 = z3) → (K 0 h3)))))))) : wI 40 (m_law L xs) 758 [(0, vR 9999), (1, vR 0), (2, vR 109), (3, vI x3)] [] h K := by
  refine w_aload_n rfl rfl ?_
  refine w_aload_n rfl rfl ?_
  refine w_iload_n rfl rfl ?_
  refine w_iconst rfl ?_
  refine w_iadd rfl ?_
  obtain ⟨b1, F⟩ := F
  refine w_sload rfl b1 ?_
  refine c_VI [vI (xs (x3 + 1).toNat)] [] rfl b_C_fate k_L_93 rfl rfl rfl rfl rfl rfl (mwpI_mono (fun z2 h2 F => ?_) F)
  refine w_aload_n rfl rfl ?_
  refine w_aload_n rfl rfl ?_
  refine w_iload_n rfl rfl ?_
  refine w_iconst rfl ?_
  refine w_iadd rfl ?_
  refine w_sload rfl b1 ?_
  refine c_VI [vI (xs (x3 + 1).toNat)] [vI z2] rfl b_M_fate k_L_96 rfl rfl rfl rfl rfl rfl (mwpI_mono (fun z3 h3 F => ?_) F)
  obtain ⟨b4, F⟩ := F
  obtain ⟨b5, F⟩ := F
  refine w_icmp_eq (tgt := 1474) rfl (by decide) ⟨b4, b5⟩ (fun q6 => ?_) (fun q6 => ?_)
  · replace F := F.1 q6
    exact F
  · replace F := F.2 q6
    refine w_iconst rfl ?_
    exact w_zret rfl rfl (by decide) ⟨rfl, rfl, _, rfl, F⟩
theorem s_law_781 (L : Nat) (xs : Nat → Int) (x3 : Int) (h : St) (K : Int → St → Prop) (F : (0 ≤ x3 + 1 ∧ x3 + 1 < L) ∧ (0 ≤ x3 + 2 ∧ x3 + 2 < L) ∧ (0 ≤ x3 + 3 ∧ x3 + 3 < L) ∧ (0 ≤ x3 + 4 ∧ x3 + 4 < L) ∧ (mwpI 40 m_C_sign [vR 0, vI (xs (x3 + 1).toNat), vI (xs (x3 + 2).toNat), vI (xs (x3 + 3).toNat), vI (xs (x3 + 4).toNat)] h (fun z5 h5 => (mwpI 40 m_M_sign [vR 109, vI (xs (x3 + 1).toNat), vI (xs (x3 + 2).toNat), vI (xs (x3 + 3).toNat), vI (xs (x3 + 4).toNat)] h5 (fun z6 h6 => (inR z5) ∧ (inR z6) ∧ ((z5 = z6 → (wI 40 (m_law L xs) 1474 [(0, vR 9999), (1, vR 0), (2, vR 109), (3, vI x3)] [] h6 K)) ∧ (¬ (z5 = z6) → (K 0 h6)))))))) : wI 40 (m_law L xs) 781 [(0, vR 9999), (1, vR 0), (2, vR 109), (3, vI x3)] [] h K := by
  refine w_aload_n rfl rfl ?_
  refine w_aload_n rfl rfl ?_
  refine w_iload_n rfl rfl ?_
  refine w_iconst rfl ?_
  refine w_iadd rfl ?_
  obtain ⟨b1, F⟩ := F
  refine w_sload rfl b1 ?_
  refine w_aload_n rfl rfl ?_
  refine w_iload_n rfl rfl ?_
  refine w_iconst rfl ?_
  refine w_iadd rfl ?_
  obtain ⟨b2, F⟩ := F
  refine w_sload rfl b2 ?_
  refine w_aload_n rfl rfl ?_
  refine w_iload_n rfl rfl ?_
  refine w_iconst rfl ?_
  refine w_iadd rfl ?_
  obtain ⟨b3, F⟩ := F
  refine w_sload rfl b3 ?_
  refine w_aload_n rfl rfl ?_
  refine w_iload_n rfl rfl ?_
  refine w_iconst rfl ?_
  refine w_iadd rfl ?_
  obtain ⟨b4, F⟩ := F
  refine w_sload rfl b4 ?_
  refine c_VI [vI (xs (x3 + 1).toNat), vI (xs (x3 + 2).toNat), vI (xs (x3 + 3).toNat), vI (xs (x3 + 4).toNat)] [] rfl b_C_sign k_L_97 rfl rfl rfl rfl rfl rfl (mwpI_mono (fun z5 h5 F => ?_) F)
  refine w_aload_n rfl rfl ?_
  refine w_aload_n rfl rfl ?_
  refine w_iload_n rfl rfl ?_
  refine w_iconst rfl ?_
  refine w_iadd rfl ?_
  refine w_sload rfl b1 ?_
  refine w_aload_n rfl rfl ?_
  refine w_iload_n rfl rfl ?_
  refine w_iconst rfl ?_
  refine w_iadd rfl ?_
  refine w_sload rfl b2 ?_
  refine w_aload_n rfl rfl ?_
  refine w_iload_n rfl rfl ?_
  refine w_iconst rfl ?_
  refine w_iadd rfl ?_
  refine w_sload rfl b3 ?_
  refine w_aload_n rfl rfl ?_
  refine w_iload_n rfl rfl ?_
  refine w_iconst rfl ?_
  refine w_iadd rfl ?_
  refine w_sload rfl b4 ?_
  refine c_VI [vI (xs (x3 + 1).toNat), vI (xs (x3 + 2).toNat), vI (xs (x3 + 3).toNat), vI (xs (x3 + 4).toNat)] [vI z5] rfl b_M_sign k_L_101 rfl rfl rfl rfl rfl rfl (mwpI_mono (fun z6 h6 F => ?_) F)
  obtain ⟨b7, F⟩ := F
  obtain ⟨b8, F⟩ := F
  refine w_icmp_eq (tgt := 1474) rfl (by decide) ⟨b7, b8⟩ (fun q9 => ?_) (fun q9 => ?_)
  · replace F := F.1 q9
    exact F
  · replace F := F.2 q9
    refine w_iconst rfl ?_
    exact w_zret rfl rfl (by decide) ⟨rfl, rfl, _, rfl, F⟩
theorem s_law_834 (L : Nat) (xs : Nat → Int) (x3 : Int) (h : St) (K : Int → St → Prop) (F : (0 ≤ x3 + 1 ∧ x3 + 1 < L) ∧ (0 ≤ x3 + 2 ∧ x3 + 2 < L) ∧ (0 ≤ x3 + 3 ∧ x3 + 3 < L) ∧ (0 ≤ x3 + 4 ∧ x3 + 4 < L) ∧ (mwpI 40 m_C_tree [vR 0, vI (xs (x3 + 1).toNat), vI (xs (x3 + 2).toNat), vI (xs (x3 + 3).toNat), vI (xs (x3 + 4).toNat)] h (fun z5 h5 => (mwpI 40 m_M_tree [vR 109, vI (xs (x3 + 1).toNat), vI (xs (x3 + 2).toNat), vI (xs (x3 + 3).toNat), vI (xs (x3 + 4).toNat)] h5 (fun z6 h6 => (inR z5) ∧ (inR z6) ∧ ((z5 = z6 → (wI 40 (m_law L xs) 1474 [(0, vR 9999), (1, vR 0), (2, vR 109), (3, vI x3)] [] h6 K)) ∧ (¬ (z5 = z6) → (K 0 h6)))))))) : wI 40 (m_law L xs) 834 [(0, vR 9999), (1, vR 0), (2, vR 109), (3, vI x3)] [] h K := by
  refine w_aload_n rfl rfl ?_
  refine w_aload_n rfl rfl ?_
  refine w_iload_n rfl rfl ?_
  refine w_iconst rfl ?_
  refine w_iadd rfl ?_
  obtain ⟨b1, F⟩ := F
  refine w_sload rfl b1 ?_
  refine w_aload_n rfl rfl ?_
  refine w_iload_n rfl rfl ?_
  refine w_iconst rfl ?_
  refine w_iadd rfl ?_
  obtain ⟨b2, F⟩ := F
  refine w_sload rfl b2 ?_
  refine w_aload_n rfl rfl ?_
  refine w_iload_n rfl rfl ?_
  refine w_iconst rfl ?_
  refine w_iadd rfl ?_
  obtain ⟨b3, F⟩ := F
  refine w_sload rfl b3 ?_
  refine w_aload_n rfl rfl ?_
  refine w_iload_n rfl rfl ?_
  refine w_iconst rfl ?_
  refine w_iadd rfl ?_
  obtain ⟨b4, F⟩ := F
  refine w_sload rfl b4 ?_
  refine c_VI [vI (xs (x3 + 1).toNat), vI (xs (x3 + 2).toNat), vI (xs (x3 + 3).toNat), vI (xs (x3 + 4).toNat)] [] rfl b_C_tree k_L_102 rfl rfl rfl rfl rfl rfl (mwpI_mono (fun z5 h5 F => ?_) F)
  refine w_aload_n rfl rfl ?_
  refine w_aload_n rfl rfl ?_
  refine w_iload_n rfl rfl ?_
  refine w_iconst rfl ?_
  refine w_iadd rfl ?_
  refine w_sload rfl b1 ?_
  refine w_aload_n rfl rfl ?_
  refine w_iload_n rfl rfl ?_
  refine w_iconst rfl ?_
  refine w_iadd rfl ?_
  refine w_sload rfl b2 ?_
  refine w_aload_n rfl rfl ?_
  refine w_iload_n rfl rfl ?_
  refine w_iconst rfl ?_
  refine w_iadd rfl ?_
  refine w_sload rfl b3 ?_
  refine w_aload_n rfl rfl ?_
  refine w_iload_n rfl rfl ?_
  refine w_iconst rfl ?_
  refine w_iadd rfl ?_
  refine w_sload rfl b4 ?_
  refine c_VI [vI (xs (x3 + 1).toNat), vI (xs (x3 + 2).toNat), vI (xs (x3 + 3).toNat), vI (xs (x3 + 4).toNat)] [vI z5] rfl b_M_tree k_L_105 rfl rfl rfl rfl rfl rfl (mwpI_mono (fun z6 h6 F => ?_) F)
  obtain ⟨b7, F⟩ := F
  obtain ⟨b8, F⟩ := F
  refine w_icmp_eq (tgt := 1474) rfl (by decide) ⟨b7, b8⟩ (fun q9 => ?_) (fun q9 => ?_)
  · replace F := F.1 q9
    exact F
  · replace F := F.2 q9
    refine w_iconst rfl ?_
    exact w_zret rfl rfl (by decide) ⟨rfl, rfl, _, rfl, F⟩
theorem s_law_887 (L : Nat) (xs : Nat → Int) (x3 : Int) (h : St) (K : Int → St → Prop) (F : (0 ≤ x3 + 1 ∧ x3 + 1 < L) ∧ (0 ≤ x3 + 2 ∧ x3 + 2 < L) ∧ (0 ≤ x3 + 3 ∧ x3 + 3 < L) ∧ (mwpI 40 m_C_lacks [vR 0, vI (xs (x3 + 1).toNat), vI (xs (x3 + 2).toNat), vI (xs (x3 + 3).toNat)] h (fun z4 h4 => (mwpI 40 m_M_lacks [vR 109, vI (xs (x3 + 1).toNat), vI (xs (x3 + 2).toNat), vI (xs (x3 + 3).toNat)] h4 (fun z5 h5 => (inR z4) ∧ (inR z5) ∧ ((z4 = z5 → (wI 40 (m_law L xs) 1474 [(0, vR 9999), (1, vR 0), (2, vR 109), (3, vI x3)] [] h5 K)) ∧ (¬ (z4 = z5) → (K 0 h5)))))))) : wI 40 (m_law L xs) 887 [(0, vR 9999), (1, vR 0), (2, vR 109), (3, vI x3)] [] h K := by
  refine w_aload_n rfl rfl ?_
  refine w_aload_n rfl rfl ?_
  refine w_iload_n rfl rfl ?_
  refine w_iconst rfl ?_
  refine w_iadd rfl ?_
  obtain ⟨b1, F⟩ := F
  refine w_sload rfl b1 ?_
  refine w_aload_n rfl rfl ?_
  refine w_iload_n rfl rfl ?_
  refine w_iconst rfl ?_
  refine w_iadd rfl ?_
  obtain ⟨b2, F⟩ := F
  refine w_sload rfl b2 ?_
  refine w_aload_n rfl rfl ?_
  refine w_iload_n rfl rfl ?_
  refine w_iconst rfl ?_
  refine w_iadd rfl ?_
  obtain ⟨b3, F⟩ := F
  refine w_sload rfl b3 ?_
  refine c_VI [vI (xs (x3 + 1).toNat), vI (xs (x3 + 2).toNat), vI (xs (x3 + 3).toNat)] [] rfl b_C_lacks k_L_106 rfl rfl rfl rfl rfl rfl (mwpI_mono (fun z4 h4 F => ?_) F)
  refine w_aload_n rfl rfl ?_
  refine w_aload_n rfl rfl ?_
  refine w_iload_n rfl rfl ?_
  refine w_iconst rfl ?_
  refine w_iadd rfl ?_
  refine w_sload rfl b1 ?_
  refine w_aload_n rfl rfl ?_
  refine w_iload_n rfl rfl ?_
  refine w_iconst rfl ?_
  refine w_iadd rfl ?_
  refine w_sload rfl b2 ?_
  refine w_aload_n rfl rfl ?_
  refine w_iload_n rfl rfl ?_
  refine w_iconst rfl ?_
  refine w_iadd rfl ?_
  refine w_sload rfl b3 ?_
  refine c_VI [vI (xs (x3 + 1).toNat), vI (xs (x3 + 2).toNat), vI (xs (x3 + 3).toNat)] [vI z4] rfl b_M_lacks k_L_109 rfl rfl rfl rfl rfl rfl (mwpI_mono (fun z5 h5 F => ?_) F)
  obtain ⟨b6, F⟩ := F
  obtain ⟨b7, F⟩ := F
  refine w_icmp_eq (tgt := 1474) rfl (by decide) ⟨b6, b7⟩ (fun q8 => ?_) (fun q8 => ?_)
  · replace F := F.1 q8
    exact F
  · replace F := F.2 q8
    refine w_iconst rfl ?_
    exact w_zret rfl rfl (by decide) ⟨rfl, rfl, _, rfl, F⟩
theorem s_law_930 (L : Nat) (xs : Nat → Int) (x3 : Int) (h : St) (K : Int → St → Prop) (F : (0 ≤ x3 + 1 ∧ x3 + 1 < L) ∧ (0 ≤ x3 + 2 ∧ x3 + 2 < L) ∧ (mwpI 40 m_C_show [vR 0, vI (xs (x3 + 1).toNat), vI (xs (x3 + 2).toNat)] h (fun z3 h3 => (mwpI 40 m_M_show [vR 109, vI (xs (x3 + 1).toNat), vI (xs (x3 + 2).toNat)] h3 (fun z4 h4 => (inR z3) ∧ (inR z4) ∧ ((z3 = z4 → (wI 40 (m_law L xs) 1474 [(0, vR 9999), (1, vR 0), (2, vR 109), (3, vI x3)] [] h4 K)) ∧ (¬ (z3 = z4) → (K 0 h4)))))))) : wI 40 (m_law L xs) 930 [(0, vR 9999), (1, vR 0), (2, vR 109), (3, vI x3)] [] h K := by
  refine w_aload_n rfl rfl ?_
  refine w_aload_n rfl rfl ?_
  refine w_iload_n rfl rfl ?_
  refine w_iconst rfl ?_
  refine w_iadd rfl ?_
  obtain ⟨b1, F⟩ := F
  refine w_sload rfl b1 ?_
  refine w_aload_n rfl rfl ?_
  refine w_iload_n rfl rfl ?_
  refine w_iconst rfl ?_
  refine w_iadd rfl ?_
  obtain ⟨b2, F⟩ := F
  refine w_sload rfl b2 ?_
  refine c_VI [vI (xs (x3 + 1).toNat), vI (xs (x3 + 2).toNat)] [] rfl b_C_show k_L_110 rfl rfl rfl rfl rfl rfl (mwpI_mono (fun z3 h3 F => ?_) F)
  refine w_aload_n rfl rfl ?_
  refine w_aload_n rfl rfl ?_
  refine w_iload_n rfl rfl ?_
  refine w_iconst rfl ?_
  refine w_iadd rfl ?_
  refine w_sload rfl b1 ?_
  refine w_aload_n rfl rfl ?_
  refine w_iload_n rfl rfl ?_
  refine w_iconst rfl ?_
  refine w_iadd rfl ?_
  refine w_sload rfl b2 ?_
  refine c_VI [vI (xs (x3 + 1).toNat), vI (xs (x3 + 2).toNat)] [vI z3] rfl b_M_show k_L_113 rfl rfl rfl rfl rfl rfl (mwpI_mono (fun z4 h4 F => ?_) F)
  obtain ⟨b5, F⟩ := F
  obtain ⟨b6, F⟩ := F
  refine w_icmp_eq (tgt := 1474) rfl (by decide) ⟨b5, b6⟩ (fun q7 => ?_) (fun q7 => ?_)
  · replace F := F.1 q7
    exact F
  · replace F := F.2 q7
    refine w_iconst rfl ?_
    exact w_zret rfl rfl (by decide) ⟨rfl, rfl, _, rfl, F⟩
theorem s_law_963 (L : Nat) (xs : Nat → Int) (x3 : Int) (h : St) (K : Int → St → Prop) (F : (0 ≤ x3 + 1 ∧ x3 + 1 < L) ∧ (0 ≤ x3 + 2 ∧ x3 + 2 < L) ∧ (0 ≤ x3 + 3 ∧ x3 + 3 < L) ∧ (mwpI 40 m_C_hearer [vR 0, vI (xs (x3 + 1).toNat), vI (xs (x3 + 2).toNat), vI (xs (x3 + 3).toNat)] h (fun z4 h4 => (mwpI 40 m_M_hearer [vR 109, vI (xs (x3 + 1).toNat), vI (xs (x3 + 2).toNat), vI (xs (x3 + 3).toNat)] h4 (fun z5 h5 => (inR z4) ∧ (inR z5) ∧ ((z4 = z5 → (wI 40 (m_law L xs) 1474 [(0, vR 9999), (1, vR 0), (2, vR 109), (3, vI x3)] [] h5 K)) ∧ (¬ (z4 = z5) → (K 0 h5)))))))) : wI 40 (m_law L xs) 963 [(0, vR 9999), (1, vR 0), (2, vR 109), (3, vI x3)] [] h K := by
  refine w_aload_n rfl rfl ?_
  refine w_aload_n rfl rfl ?_
  refine w_iload_n rfl rfl ?_
  refine w_iconst rfl ?_
  refine w_iadd rfl ?_
  obtain ⟨b1, F⟩ := F
  refine w_sload rfl b1 ?_
  refine w_aload_n rfl rfl ?_
  refine w_iload_n rfl rfl ?_
  refine w_iconst rfl ?_
  refine w_iadd rfl ?_
  obtain ⟨b2, F⟩ := F
  refine w_sload rfl b2 ?_
  refine w_aload_n rfl rfl ?_
  refine w_iload_n rfl rfl ?_
  refine w_iconst rfl ?_
  refine w_iadd rfl ?_
  obtain ⟨b3, F⟩ := F
  refine w_sload rfl b3 ?_
  refine c_VI [vI (xs (x3 + 1).toNat), vI (xs (x3 + 2).toNat), vI (xs (x3 + 3).toNat)] [] rfl b_C_hearer k_L_114 rfl rfl rfl rfl rfl rfl (mwpI_mono (fun z4 h4 F => ?_) F)
  refine w_aload_n rfl rfl ?_
  refine w_aload_n rfl rfl ?_
  refine w_iload_n rfl rfl ?_
  refine w_iconst rfl ?_
  refine w_iadd rfl ?_
  refine w_sload rfl b1 ?_
  refine w_aload_n rfl rfl ?_
  refine w_iload_n rfl rfl ?_
  refine w_iconst rfl ?_
  refine w_iadd rfl ?_
  refine w_sload rfl b2 ?_
  refine w_aload_n rfl rfl ?_
  refine w_iload_n rfl rfl ?_
  refine w_iconst rfl ?_
  refine w_iadd rfl ?_
  refine w_sload rfl b3 ?_
  refine c_VI [vI (xs (x3 + 1).toNat), vI (xs (x3 + 2).toNat), vI (xs (x3 + 3).toNat)] [vI z4] rfl b_M_hearer k_L_117 rfl rfl rfl rfl rfl rfl (mwpI_mono (fun z5 h5 F => ?_) F)
  obtain ⟨b6, F⟩ := F
  obtain ⟨b7, F⟩ := F
  refine w_icmp_eq (tgt := 1474) rfl (by decide) ⟨b6, b7⟩ (fun q8 => ?_) (fun q8 => ?_)
  · replace F := F.1 q8
    exact F
  · replace F := F.2 q8
    refine w_iconst rfl ?_
    exact w_zret rfl rfl (by decide) ⟨rfl, rfl, _, rfl, F⟩
theorem s_law_1006 (L : Nat) (xs : Nat → Int) (x3 : Int) (h : St) (K : Int → St → Prop) (F : (0 ≤ x3 + 1 ∧ x3 + 1 < L) ∧ (0 ≤ x3 + 2 ∧ x3 + 2 < L) ∧ (0 ≤ x3 + 3 ∧ x3 + 3 < L) ∧ (0 ≤ x3 + 4 ∧ x3 + 4 < L) ∧ (0 ≤ x3 + 5 ∧ x3 + 5 < L) ∧ (0 ≤ x3 + 6 ∧ x3 + 6 < L) ∧ (mwpI 40 m_C_bearing [vR 0, vI (xs (x3 + 1).toNat), vI (xs (x3 + 2).toNat), vI (xs (x3 + 3).toNat), vI (xs (x3 + 4).toNat), vI (xs (x3 + 5).toNat), vI (xs (x3 + 6).toNat)] h (fun z7 h7 => (mwpI 40 m_M_bearing [vR 109, vI (xs (x3 + 1).toNat), vI (xs (x3 + 2).toNat), vI (xs (x3 + 3).toNat), vI (xs (x3 + 4).toNat), vI (xs (x3 + 5).toNat), vI (xs (x3 + 6).toNat)] h7 (fun z8 h8 => (inR z7) ∧ (inR z8) ∧ ((z7 = z8 → (wI 40 (m_law L xs) 1474 [(0, vR 9999), (1, vR 0), (2, vR 109), (3, vI x3)] [] h8 K)) ∧ (¬ (z7 = z8) → (K 0 h8)))))))) : wI 40 (m_law L xs) 1006 [(0, vR 9999), (1, vR 0), (2, vR 109), (3, vI x3)] [] h K := by
  refine w_aload_n rfl rfl ?_
  refine w_aload_n rfl rfl ?_
  refine w_iload_n rfl rfl ?_
  refine w_iconst rfl ?_
  refine w_iadd rfl ?_
  obtain ⟨b1, F⟩ := F
  refine w_sload rfl b1 ?_
  refine w_aload_n rfl rfl ?_
  refine w_iload_n rfl rfl ?_
  refine w_iconst rfl ?_
  refine w_iadd rfl ?_
  obtain ⟨b2, F⟩ := F
  refine w_sload rfl b2 ?_
  refine w_aload_n rfl rfl ?_
  refine w_iload_n rfl rfl ?_
  refine w_iconst rfl ?_
  refine w_iadd rfl ?_
  obtain ⟨b3, F⟩ := F
  refine w_sload rfl b3 ?_
  refine w_aload_n rfl rfl ?_
  refine w_iload_n rfl rfl ?_
  refine w_iconst rfl ?_
  refine w_iadd rfl ?_
  obtain ⟨b4, F⟩ := F
  refine w_sload rfl b4 ?_
  refine w_aload_n rfl rfl ?_
  refine w_iload_n rfl rfl ?_
  refine w_iconst rfl ?_
  refine w_iadd rfl ?_
  obtain ⟨b5, F⟩ := F
  refine w_sload rfl b5 ?_
  refine w_aload_n rfl rfl ?_
  refine w_iload_n rfl rfl ?_
  refine w_bipush (by decide) (by decide) rfl ?_
  refine w_iadd rfl ?_
  obtain ⟨b6, F⟩ := F
  refine w_sload rfl b6 ?_
  refine c_VI [vI (xs (x3 + 1).toNat), vI (xs (x3 + 2).toNat), vI (xs (x3 + 3).toNat), vI (xs (x3 + 4).toNat), vI (xs (x3 + 5).toNat), vI (xs (x3 + 6).toNat)] [] rfl b_C_bearing k_L_118 rfl rfl rfl rfl rfl rfl (mwpI_mono (fun z7 h7 F => ?_) F)
  refine w_aload_n rfl rfl ?_
  refine w_aload_n rfl rfl ?_
  refine w_iload_n rfl rfl ?_
  refine w_iconst rfl ?_
  refine w_iadd rfl ?_
  refine w_sload rfl b1 ?_
  refine w_aload_n rfl rfl ?_
  refine w_iload_n rfl rfl ?_
  refine w_iconst rfl ?_
  refine w_iadd rfl ?_
  refine w_sload rfl b2 ?_
  refine w_aload_n rfl rfl ?_
  refine w_iload_n rfl rfl ?_
  refine w_iconst rfl ?_
  refine w_iadd rfl ?_
  refine w_sload rfl b3 ?_
  refine w_aload_n rfl rfl ?_
  refine w_iload_n rfl rfl ?_
  refine w_iconst rfl ?_
  refine w_iadd rfl ?_
  refine w_sload rfl b4 ?_
  refine w_aload_n rfl rfl ?_
  refine w_iload_n rfl rfl ?_
  refine w_iconst rfl ?_
  refine w_iadd rfl ?_
  refine w_sload rfl b5 ?_
  refine w_aload_n rfl rfl ?_
  refine w_iload_n rfl rfl ?_
  refine w_bipush (by decide) (by decide) rfl ?_
  refine w_iadd rfl ?_
  refine w_sload rfl b6 ?_
  refine c_VI [vI (xs (x3 + 1).toNat), vI (xs (x3 + 2).toNat), vI (xs (x3 + 3).toNat), vI (xs (x3 + 4).toNat), vI (xs (x3 + 5).toNat), vI (xs (x3 + 6).toNat)] [vI z7] rfl b_M_bearing k_L_121 rfl rfl rfl rfl rfl rfl (mwpI_mono (fun z8 h8 F => ?_) F)
  obtain ⟨b9, F⟩ := F
  obtain ⟨b10, F⟩ := F
  refine w_icmp_eq (tgt := 1474) rfl (by decide) ⟨b9, b10⟩ (fun q11 => ?_) (fun q11 => ?_)
  · replace F := F.1 q11
    exact F
  · replace F := F.2 q11
    refine w_iconst rfl ?_
    exact w_zret rfl rfl (by decide) ⟨rfl, rfl, _, rfl, F⟩
theorem s_law_1081 (L : Nat) (xs : Nat → Int) (x3 : Int) (h : St) (K : Int → St → Prop) (F : (0 ≤ x3 + 1 ∧ x3 + 1 < L) ∧ (0 ≤ x3 + 2 ∧ x3 + 2 < L) ∧ (0 ≤ x3 + 3 ∧ x3 + 3 < L) ∧ (mwpI 40 m_C_patch [vR 0, vI (xs (x3 + 1).toNat), vI (xs (x3 + 2).toNat), vI (xs (x3 + 3).toNat)] h (fun z4 h4 => (mwpI 40 m_M_patch [vR 109, vI (xs (x3 + 1).toNat), vI (xs (x3 + 2).toNat), vI (xs (x3 + 3).toNat)] h4 (fun z5 h5 => (inR z4) ∧ (inR z5) ∧ ((z4 = z5 → (wI 40 (m_law L xs) 1474 [(0, vR 9999), (1, vR 0), (2, vR 109), (3, vI x3)] [] h5 K)) ∧ (¬ (z4 = z5) → (K 0 h5)))))))) : wI 40 (m_law L xs) 1081 [(0, vR 9999), (1, vR 0), (2, vR 109), (3, vI x3)] [] h K := by
  refine w_aload_n rfl rfl ?_
  refine w_aload_n rfl rfl ?_
  refine w_iload_n rfl rfl ?_
  refine w_iconst rfl ?_
  refine w_iadd rfl ?_
  obtain ⟨b1, F⟩ := F
  refine w_sload rfl b1 ?_
  refine w_aload_n rfl rfl ?_
  refine w_iload_n rfl rfl ?_
  refine w_iconst rfl ?_
  refine w_iadd rfl ?_
  obtain ⟨b2, F⟩ := F
  refine w_sload rfl b2 ?_
  refine w_aload_n rfl rfl ?_
  refine w_iload_n rfl rfl ?_
  refine w_iconst rfl ?_
  refine w_iadd rfl ?_
  obtain ⟨b3, F⟩ := F
  refine w_sload rfl b3 ?_
  refine c_VI [vI (xs (x3 + 1).toNat), vI (xs (x3 + 2).toNat), vI (xs (x3 + 3).toNat)] [] rfl b_C_patch k_L_122 rfl rfl rfl rfl rfl rfl (mwpI_mono (fun z4 h4 F => ?_) F)
  refine w_aload_n rfl rfl ?_
  refine w_aload_n rfl rfl ?_
  refine w_iload_n rfl rfl ?_
  refine w_iconst rfl ?_
  refine w_iadd rfl ?_
  refine w_sload rfl b1 ?_
  refine w_aload_n rfl rfl ?_
  refine w_iload_n rfl rfl ?_
  refine w_iconst rfl ?_
  refine w_iadd rfl ?_
  refine w_sload rfl b2 ?_
  refine w_aload_n rfl rfl ?_
  refine w_iload_n rfl rfl ?_
  refine w_iconst rfl ?_
  refine w_iadd rfl ?_
  refine w_sload rfl b3 ?_
  refine c_VI [vI (xs (x3 + 1).toNat), vI (xs (x3 + 2).toNat), vI (xs (x3 + 3).toNat)] [vI z4] rfl b_M_patch k_L_125 rfl rfl rfl rfl rfl rfl (mwpI_mono (fun z5 h5 F => ?_) F)
  obtain ⟨b6, F⟩ := F
  obtain ⟨b7, F⟩ := F
  refine w_icmp_eq (tgt := 1474) rfl (by decide) ⟨b6, b7⟩ (fun q8 => ?_) (fun q8 => ?_)
  · replace F := F.1 q8
    exact F
  · replace F := F.2 q8
    refine w_iconst rfl ?_
    exact w_zret rfl rfl (by decide) ⟨rfl, rfl, _, rfl, F⟩
theorem s_law_1124 (L : Nat) (xs : Nat → Int) (x3 : Int) (h : St) (K : Int → St → Prop) (F : (0 ≤ x3 + 1 ∧ x3 + 1 < L) ∧ (0 ≤ x3 + 2 ∧ x3 + 2 < L) ∧ (0 ≤ x3 + 3 ∧ x3 + 3 < L) ∧ (0 ≤ x3 + 4 ∧ x3 + 4 < L) ∧ (mwpI 40 m_C_isIn [vR 0, vI (xs (x3 + 1).toNat), vI (xs (x3 + 2).toNat), vI (xs (x3 + 3).toNat), vI (xs (x3 + 4).toNat)] h (fun z5 h5 => (mwpI 40 m_M_isIn [vR 109, vI (xs (x3 + 1).toNat), vI (xs (x3 + 2).toNat), vI (xs (x3 + 3).toNat), vI (xs (x3 + 4).toNat)] h5 (fun z6 h6 => (inR z5) ∧ (inR z6) ∧ ((z5 = z6 → (wI 40 (m_law L xs) 1474 [(0, vR 9999), (1, vR 0), (2, vR 109), (3, vI x3)] [] h6 K)) ∧ (¬ (z5 = z6) → (K 0 h6)))))))) : wI 40 (m_law L xs) 1124 [(0, vR 9999), (1, vR 0), (2, vR 109), (3, vI x3)] [] h K := by
  refine w_aload_n rfl rfl ?_
  refine w_aload_n rfl rfl ?_
  refine w_iload_n rfl rfl ?_
  refine w_iconst rfl ?_
  refine w_iadd rfl ?_
  obtain ⟨b1, F⟩ := F
  refine w_sload rfl b1 ?_
  refine w_aload_n rfl rfl ?_
  refine w_iload_n rfl rfl ?_
  refine w_iconst rfl ?_
  refine w_iadd rfl ?_
  obtain ⟨b2, F⟩ := F
  refine w_sload rfl b2 ?_
  refine w_aload_n rfl rfl ?_
  refine w_iload_n rfl rfl ?_
  refine w_iconst rfl ?_
  refine w_iadd rfl ?_
  obtain ⟨b3, F⟩ := F
  refine w_sload rfl b3 ?_
  refine w_aload_n rfl rfl ?_
  refine w_iload_n rfl rfl ?_
  refine w_iconst rfl ?_
  refine w_iadd rfl ?_
  obtain ⟨b4, F⟩ := F
  refine w_sload rfl b4 ?_
  refine c_VI [vI (xs (x3 + 1).toNat), vI (xs (x3 + 2).toNat), vI (xs (x3 + 3).toNat), vI (xs (x3 + 4).toNat)] [] rfl b_C_isIn k_L_126 rfl rfl rfl rfl rfl rfl (mwpI_mono (fun z5 h5 F => ?_) F)
  refine w_aload_n rfl rfl ?_
  refine w_aload_n rfl rfl ?_
  refine w_iload_n rfl rfl ?_
  refine w_iconst rfl ?_
  refine w_iadd rfl ?_
  refine w_sload rfl b1 ?_
  refine w_aload_n rfl rfl ?_
  refine w_iload_n rfl rfl ?_
  refine w_iconst rfl ?_
  refine w_iadd rfl ?_
  refine w_sload rfl b2 ?_
  refine w_aload_n rfl rfl ?_
  refine w_iload_n rfl rfl ?_
  refine w_iconst rfl ?_
  refine w_iadd rfl ?_
  refine w_sload rfl b3 ?_
  refine w_aload_n rfl rfl ?_
  refine w_iload_n rfl rfl ?_
  refine w_iconst rfl ?_
  refine w_iadd rfl ?_
  refine w_sload rfl b4 ?_
  refine c_VI [vI (xs (x3 + 1).toNat), vI (xs (x3 + 2).toNat), vI (xs (x3 + 3).toNat), vI (xs (x3 + 4).toNat)] [vI z5] rfl b_M_isIn k_L_129 rfl rfl rfl rfl rfl rfl (mwpI_mono (fun z6 h6 F => ?_) F)
  obtain ⟨b7, F⟩ := F
  obtain ⟨b8, F⟩ := F
  refine w_icmp_eq (tgt := 1474) rfl (by decide) ⟨b7, b8⟩ (fun q9 => ?_) (fun q9 => ?_)
  · replace F := F.1 q9
    exact F
  · replace F := F.2 q9
    refine w_iconst rfl ?_
    exact w_zret rfl rfl (by decide) ⟨rfl, rfl, _, rfl, F⟩
theorem s_law_1177 (L : Nat) (xs : Nat → Int) (x3 : Int) (h : St) (K : Int → St → Prop) (F : (0 ≤ x3 + 1 ∧ x3 + 1 < L) ∧ (0 ≤ x3 + 2 ∧ x3 + 2 < L) ∧ (0 ≤ x3 + 3 ∧ x3 + 3 < L) ∧ (mwpI 40 m_C_moved [vR 0, vI (xs (x3 + 1).toNat), vI (xs (x3 + 2).toNat), vI (xs (x3 + 3).toNat)] h (fun z4 h4 => (mwpI 40 m_M_moved [vR 109, vI (xs (x3 + 1).toNat), vI (xs (x3 + 2).toNat), vI (xs (x3 + 3).toNat)] h4 (fun z5 h5 => (inR z4) ∧ (inR z5) ∧ ((z4 = z5 → (wI 40 (m_law L xs) 1474 [(0, vR 9999), (1, vR 0), (2, vR 109), (3, vI x3)] [] h5 K)) ∧ (¬ (z4 = z5) → (K 0 h5)))))))) : wI 40 (m_law L xs) 1177 [(0, vR 9999), (1, vR 0), (2, vR 109), (3, vI x3)] [] h K := by
  refine w_aload_n rfl rfl ?_
  refine w_aload_n rfl rfl ?_
  refine w_iload_n rfl rfl ?_
  refine w_iconst rfl ?_
  refine w_iadd rfl ?_
  obtain ⟨b1, F⟩ := F
  refine w_sload rfl b1 ?_
  refine w_aload_n rfl rfl ?_
  refine w_iload_n rfl rfl ?_
  refine w_iconst rfl ?_
  refine w_iadd rfl ?_
  obtain ⟨b2, F⟩ := F
  refine w_sload rfl b2 ?_
  refine w_aload_n rfl rfl ?_
  refine w_iload_n rfl rfl ?_
  refine w_iconst rfl ?_
  refine w_iadd rfl ?_
  obtain ⟨b3, F⟩ := F
  refine w_sload rfl b3 ?_
  refine c_VI [vI (xs (x3 + 1).toNat), vI (xs (x3 + 2).toNat), vI (xs (x3 + 3).toNat)] [] rfl b_C_moved k_L_130 rfl rfl rfl rfl rfl rfl (mwpI_mono (fun z4 h4 F => ?_) F)
  refine w_aload_n rfl rfl ?_
  refine w_aload_n rfl rfl ?_
  refine w_iload_n rfl rfl ?_
  refine w_iconst rfl ?_
  refine w_iadd rfl ?_
  refine w_sload rfl b1 ?_
  refine w_aload_n rfl rfl ?_
  refine w_iload_n rfl rfl ?_
  refine w_iconst rfl ?_
  refine w_iadd rfl ?_
  refine w_sload rfl b2 ?_
  refine w_aload_n rfl rfl ?_
  refine w_iload_n rfl rfl ?_
  refine w_iconst rfl ?_
  refine w_iadd rfl ?_
  refine w_sload rfl b3 ?_
  refine c_VI [vI (xs (x3 + 1).toNat), vI (xs (x3 + 2).toNat), vI (xs (x3 + 3).toNat)] [vI z4] rfl b_M_moved k_L_133 rfl rfl rfl rfl rfl rfl (mwpI_mono (fun z5 h5 F => ?_) F)
  obtain ⟨b6, F⟩ := F
  obtain ⟨b7, F⟩ := F
  refine w_icmp_eq (tgt := 1474) rfl (by decide) ⟨b6, b7⟩ (fun q8 => ?_) (fun q8 => ?_)
  · replace F := F.1 q8
    exact F
  · replace F := F.2 q8
    refine w_iconst rfl ?_
    exact w_zret rfl rfl (by decide) ⟨rfl, rfl, _, rfl, F⟩
theorem s_law_1220 (L : Nat) (xs : Nat → Int) (x3 : Int) (h : St) (K : Int → St → Prop) (F : (0 ≤ x3 + 1 ∧ x3 + 1 < L) ∧ (0 ≤ x3 + 2 ∧ x3 + 2 < L) ∧ (0 ≤ x3 + 3 ∧ x3 + 3 < L) ∧ (mwpI 40 m_C_listen [vR 0, vI (xs (x3 + 1).toNat), vI (xs (x3 + 2).toNat), vI (xs (x3 + 3).toNat)] h (fun z4 h4 => (mwpI 40 m_M_listen [vR 109, vI (xs (x3 + 1).toNat), vI (xs (x3 + 2).toNat), vI (xs (x3 + 3).toNat)] h4 (fun z5 h5 => (inR z4) ∧ (inR z5) ∧ ((z4 = z5 → (wI 40 (m_law L xs) 1474 [(0, vR 9999), (1, vR 0), (2, vR 109), (3, vI x3)] [] h5 K)) ∧ (¬ (z4 = z5) → (K 0 h5)))))))) : wI 40 (m_law L xs) 1220 [(0, vR 9999), (1, vR 0), (2, vR 109), (3, vI x3)] [] h K := by
  refine w_aload_n rfl rfl ?_
  refine w_aload_n rfl rfl ?_
  refine w_iload_n rfl rfl ?_
  refine w_iconst rfl ?_
  refine w_iadd rfl ?_
  obtain ⟨b1, F⟩ := F
  refine w_sload rfl b1 ?_
  refine w_aload_n rfl rfl ?_
  refine w_iload_n rfl rfl ?_
  refine w_iconst rfl ?_
  refine w_iadd rfl ?_
  obtain ⟨b2, F⟩ := F
  refine w_sload rfl b2 ?_
  refine w_aload_n rfl rfl ?_
  refine w_iload_n rfl rfl ?_
  refine w_iconst rfl ?_
  refine w_iadd rfl ?_
  obtain ⟨b3, F⟩ := F
  refine w_sload rfl b3 ?_
  refine c_VI [vI (xs (x3 + 1).toNat), vI (xs (x3 + 2).toNat), vI (xs (x3 + 3).toNat)] [] rfl b_C_listen k_L_134 rfl rfl rfl rfl rfl rfl (mwpI_mono (fun z4 h4 F => ?_) F)
  refine w_aload_n rfl rfl ?_
  refine w_aload_n rfl rfl ?_
  refine w_iload_n rfl rfl ?_
  refine w_iconst rfl ?_
  refine w_iadd rfl ?_
  refine w_sload rfl b1 ?_
  refine w_aload_n rfl rfl ?_
  refine w_iload_n rfl rfl ?_
  refine w_iconst rfl ?_
  refine w_iadd rfl ?_
  refine w_sload rfl b2 ?_
  refine w_aload_n rfl rfl ?_
  refine w_iload_n rfl rfl ?_
  refine w_iconst rfl ?_
  refine w_iadd rfl ?_
  refine w_sload rfl b3 ?_
  refine c_VI [vI (xs (x3 + 1).toNat), vI (xs (x3 + 2).toNat), vI (xs (x3 + 3).toNat)] [vI z4] rfl b_M_listen k_L_137 rfl rfl rfl rfl rfl rfl (mwpI_mono (fun z5 h5 F => ?_) F)
  obtain ⟨b6, F⟩ := F
  obtain ⟨b7, F⟩ := F
  refine w_icmp_eq (tgt := 1474) rfl (by decide) ⟨b6, b7⟩ (fun q8 => ?_) (fun q8 => ?_)
  · replace F := F.1 q8
    exact F
  · replace F := F.2 q8
    refine w_iconst rfl ?_
    exact w_zret rfl rfl (by decide) ⟨rfl, rfl, _, rfl, F⟩
theorem s_law_1263 (L : Nat) (xs : Nat → Int) (x3 : Int) (h : St) (K : Int → St → Prop) (F : (0 ≤ x3 + 1 ∧ x3 + 1 < L) ∧ (0 ≤ x3 + 2 ∧ x3 + 2 < L) ∧ (0 ≤ x3 + 3 ∧ x3 + 3 < L) ∧ (mwpI 40 m_C_silent [vR 0, vI (xs (x3 + 1).toNat), vI (xs (x3 + 2).toNat), vI (xs (x3 + 3).toNat)] h (fun z4 h4 => (mwpI 40 m_M_silent [vR 109, vI (xs (x3 + 1).toNat), vI (xs (x3 + 2).toNat), vI (xs (x3 + 3).toNat)] h4 (fun z5 h5 => (inR z4) ∧ (inR z5) ∧ ((z4 = z5 → (wI 40 (m_law L xs) 1474 [(0, vR 9999), (1, vR 0), (2, vR 109), (3, vI x3)] [] h5 K)) ∧ (¬ (z4 = z5) → (K 0 h5)))))))) : wI 40 (m_law L xs) 1263 [(0, vR 9999), (1, vR 0), (2, vR 109), (3, vI x3)] [] h K := by
  refine w_aload_n rfl rfl ?_
  refine w_aload_n rfl rfl ?_
  refine w_iload_n rfl rfl ?_
  refine w_iconst rfl ?_
  refine w_iadd rfl ?_
  obtain ⟨b1, F⟩ := F
  refine w_sload rfl b1 ?_
  refine w_aload_n rfl rfl ?_
  refine w_iload_n rfl rfl ?_
  refine w_iconst rfl ?_
  refine w_iadd rfl ?_
  obtain ⟨b2, F⟩ := F
  refine w_sload rfl b2 ?_
  refine w_aload_n rfl rfl ?_
  refine w_iload_n rfl rfl ?_
  refine w_iconst rfl ?_
  refine w_iadd rfl ?_
  obtain ⟨b3, F⟩ := F
  refine w_sload rfl b3 ?_
  refine c_VI [vI (xs (x3 + 1).toNat), vI (xs (x3 + 2).toNat), vI (xs (x3 + 3).toNat)] [] rfl b_C_silent k_L_138 rfl rfl rfl rfl rfl rfl (mwpI_mono (fun z4 h4 F => ?_) F)
  refine w_aload_n rfl rfl ?_
  refine w_aload_n rfl rfl ?_
  refine w_iload_n rfl rfl ?_
  refine w_iconst rfl ?_
  refine w_iadd rfl ?_
  refine w_sload rfl b1 ?_
  refine w_aload_n rfl rfl ?_
  refine w_iload_n rfl rfl ?_
  refine w_iconst rfl ?_
  refine w_iadd rfl ?_
  refine w_sload rfl b2 ?_
  refine w_aload_n rfl rfl ?_
  refine w_iload_n rfl rfl ?_
  refine w_iconst rfl ?_
  refine w_iadd rfl ?_
  refine w_sload rfl b3 ?_
  refine c_VI [vI (xs (x3 + 1).toNat), vI (xs (x3 + 2).toNat), vI (xs (x3 + 3).toNat)] [vI z4] rfl b_M_silent k_L_141 rfl rfl rfl rfl rfl rfl (mwpI_mono (fun z5 h5 F => ?_) F)
  obtain ⟨b6, F⟩ := F
  obtain ⟨b7, F⟩ := F
  refine w_icmp_eq (tgt := 1474) rfl (by decide) ⟨b6, b7⟩ (fun q8 => ?_) (fun q8 => ?_)
  · replace F := F.1 q8
    exact F
  · replace F := F.2 q8
    refine w_iconst rfl ?_
    exact w_zret rfl rfl (by decide) ⟨rfl, rfl, _, rfl, F⟩
theorem s_law_1306 (L : Nat) (xs : Nat → Int) (x3 : Int) (h : St) (K : Int → St → Prop) (F : (0 ≤ x3 + 1 ∧ x3 + 1 < L) ∧ (mwpI 40 m_C_event [vR 0, vI (xs (x3 + 1).toNat)] h (fun z2 h2 => (mwpI 40 m_M_event [vR 109, vI (xs (x3 + 1).toNat)] h2 (fun z3 h3 => (inR z2) ∧ (inR z3) ∧ ((z2 = z3 → (wI 40 (m_law L xs) 1474 [(0, vR 9999), (1, vR 0), (2, vR 109), (3, vI x3)] [] h3 K)) ∧ (¬ (z2 = z3) → (K 0 h3)))))))) : wI 40 (m_law L xs) 1306 [(0, vR 9999), (1, vR 0), (2, vR 109), (3, vI x3)] [] h K := by
  refine w_aload_n rfl rfl ?_
  refine w_aload_n rfl rfl ?_
  refine w_iload_n rfl rfl ?_
  refine w_iconst rfl ?_
  refine w_iadd rfl ?_
  obtain ⟨b1, F⟩ := F
  refine w_sload rfl b1 ?_
  refine c_VI [vI (xs (x3 + 1).toNat)] [] rfl b_C_event k_L_142 rfl rfl rfl rfl rfl rfl (mwpI_mono (fun z2 h2 F => ?_) F)
  refine w_aload_n rfl rfl ?_
  refine w_aload_n rfl rfl ?_
  refine w_iload_n rfl rfl ?_
  refine w_iconst rfl ?_
  refine w_iadd rfl ?_
  refine w_sload rfl b1 ?_
  refine c_VI [vI (xs (x3 + 1).toNat)] [vI z2] rfl b_M_event k_L_145 rfl rfl rfl rfl rfl rfl (mwpI_mono (fun z3 h3 F => ?_) F)
  obtain ⟨b4, F⟩ := F
  obtain ⟨b5, F⟩ := F
  refine w_icmp_eq (tgt := 1474) rfl (by decide) ⟨b4, b5⟩ (fun q6 => ?_) (fun q6 => ?_)
  · replace F := F.1 q6
    exact F
  · replace F := F.2 q6
    refine w_iconst rfl ?_
    exact w_zret rfl rfl (by decide) ⟨rfl, rfl, _, rfl, F⟩
theorem s_law_1329 (L : Nat) (xs : Nat → Int) (x3 : Int) (h : St) (K : Int → St → Prop) (F : (0 ≤ x3 + 1 ∧ x3 + 1 < L) ∧ (0 ≤ x3 + 2 ∧ x3 + 2 < L) ∧ (0 ≤ x3 + 3 ∧ x3 + 3 < L) ∧ (mwpI 40 m_C_ahead [vR 0, vI (xs (x3 + 1).toNat), vI (xs (x3 + 2).toNat), vI (xs (x3 + 3).toNat)] h (fun z4 h4 => (mwpI 40 m_M_ahead [vR 109, vI (xs (x3 + 1).toNat), vI (xs (x3 + 2).toNat), vI (xs (x3 + 3).toNat)] h4 (fun z5 h5 => (inR z4) ∧ (inR z5) ∧ ((z4 = z5 → (wI 40 (m_law L xs) 1474 [(0, vR 9999), (1, vR 0), (2, vR 109), (3, vI x3)] [] h5 K)) ∧ (¬ (z4 = z5) → (K 0 h5)))))))) : wI 40 (m_law L xs) 1329 [(0, vR 9999), (1, vR 0), (2, vR 109), (3, vI x3)] [] h K := by
  refine w_aload_n rfl rfl ?_
  refine w_aload_n rfl rfl ?_
  refine w_iload_n rfl rfl ?_
  refine w_iconst rfl ?_
  refine w_iadd rfl ?_
  obtain ⟨b1, F⟩ := F
  refine w_sload rfl b1 ?_
  refine w_aload_n rfl rfl ?_
  refine w_iload_n rfl rfl ?_
  refine w_iconst rfl ?_
  refine w_iadd rfl ?_
  obtain ⟨b2, F⟩ := F
  refine w_sload rfl b2 ?_
  refine w_aload_n rfl rfl ?_
  refine w_iload_n rfl rfl ?_
  refine w_iconst rfl ?_
  refine w_iadd rfl ?_
  obtain ⟨b3, F⟩ := F
  refine w_sload rfl b3 ?_
  refine c_VI [vI (xs (x3 + 1).toNat), vI (xs (x3 + 2).toNat), vI (xs (x3 + 3).toNat)] [] rfl b_C_ahead k_L_146 rfl rfl rfl rfl rfl rfl (mwpI_mono (fun z4 h4 F => ?_) F)
  refine w_aload_n rfl rfl ?_
  refine w_aload_n rfl rfl ?_
  refine w_iload_n rfl rfl ?_
  refine w_iconst rfl ?_
  refine w_iadd rfl ?_
  refine w_sload rfl b1 ?_
  refine w_aload_n rfl rfl ?_
  refine w_iload_n rfl rfl ?_
  refine w_iconst rfl ?_
  refine w_iadd rfl ?_
  refine w_sload rfl b2 ?_
  refine w_aload_n rfl rfl ?_
  refine w_iload_n rfl rfl ?_
  refine w_iconst rfl ?_
  refine w_iadd rfl ?_
  refine w_sload rfl b3 ?_
  refine c_VI [vI (xs (x3 + 1).toNat), vI (xs (x3 + 2).toNat), vI (xs (x3 + 3).toNat)] [vI z4] rfl b_M_ahead k_L_149 rfl rfl rfl rfl rfl rfl (mwpI_mono (fun z5 h5 F => ?_) F)
  obtain ⟨b6, F⟩ := F
  obtain ⟨b7, F⟩ := F
  refine w_icmp_eq (tgt := 1474) rfl (by decide) ⟨b6, b7⟩ (fun q8 => ?_) (fun q8 => ?_)
  · replace F := F.1 q8
    exact F
  · replace F := F.2 q8
    refine w_iconst rfl ?_
    exact w_zret rfl rfl (by decide) ⟨rfl, rfl, _, rfl, F⟩
theorem s_law_1372 (L : Nat) (xs : Nat → Int) (x3 : Int) (h : St) (K : Int → St → Prop) (F : (0 ≤ x3 + 1 ∧ x3 + 1 < L) ∧ (0 ≤ x3 + 2 ∧ x3 + 2 < L) ∧ (0 ≤ x3 + 3 ∧ x3 + 3 < L) ∧ (0 ≤ x3 + 4 ∧ x3 + 4 < L) ∧ (mwpI 40 m_C_waves [vR 0, vI (xs (x3 + 1).toNat), vI (xs (x3 + 2).toNat), vI (xs (x3 + 3).toNat), vI (xs (x3 + 4).toNat)] h (fun z5 h5 => (mwpI 40 m_M_waves [vR 109, vI (xs (x3 + 1).toNat), vI (xs (x3 + 2).toNat), vI (xs (x3 + 3).toNat), vI (xs (x3 + 4).toNat)] h5 (fun z6 h6 => (inR z5) ∧ (inR z6) ∧ ((z5 = z6 → (wI 40 (m_law L xs) 1474 [(0, vR 9999), (1, vR 0), (2, vR 109), (3, vI x3)] [] h6 K)) ∧ (¬ (z5 = z6) → (K 0 h6)))))))) : wI 40 (m_law L xs) 1372 [(0, vR 9999), (1, vR 0), (2, vR 109), (3, vI x3)] [] h K := by
  refine w_aload_n rfl rfl ?_
  refine w_aload_n rfl rfl ?_
  refine w_iload_n rfl rfl ?_
  refine w_iconst rfl ?_
  refine w_iadd rfl ?_
  obtain ⟨b1, F⟩ := F
  refine w_sload rfl b1 ?_
  refine w_aload_n rfl rfl ?_
  refine w_iload_n rfl rfl ?_
  refine w_iconst rfl ?_
  refine w_iadd rfl ?_
  obtain ⟨b2, F⟩ := F
  refine w_sload rfl b2 ?_
  refine w_aload_n rfl rfl ?_
  refine w_iload_n rfl rfl ?_
  refine w_iconst rfl ?_
  refine w_iadd rfl ?_
  obtain ⟨b3, F⟩ := F
  refine w_sload rfl b3 ?_
  refine w_aload_n rfl rfl ?_
  refine w_iload_n rfl rfl ?_
  refine w_iconst rfl ?_
  refine w_iadd rfl ?_
  obtain ⟨b4, F⟩ := F
  refine w_sload rfl b4 ?_
  refine c_VI [vI (xs (x3 + 1).toNat), vI (xs (x3 + 2).toNat), vI (xs (x3 + 3).toNat), vI (xs (x3 + 4).toNat)] [] rfl b_C_waves k_L_150 rfl rfl rfl rfl rfl rfl (mwpI_mono (fun z5 h5 F => ?_) F)
  refine w_aload_n rfl rfl ?_
  refine w_aload_n rfl rfl ?_
  refine w_iload_n rfl rfl ?_
  refine w_iconst rfl ?_
  refine w_iadd rfl ?_
  refine w_sload rfl b1 ?_
  refine w_aload_n rfl rfl ?_
  refine w_iload_n rfl rfl ?_
  refine w_iconst rfl ?_
  refine w_iadd rfl ?_
  refine w_sload rfl b2 ?_
  refine w_aload_n rfl rfl ?_
  refine w_iload_n rfl rfl ?_
  refine w_iconst rfl ?_
  refine w_iadd rfl ?_
  refine w_sload rfl b3 ?_
  refine w_aload_n rfl rfl ?_
  refine w_iload_n rfl rfl ?_
  refine w_iconst rfl ?_
  refine w_iadd rfl ?_
  refine w_sload rfl b4 ?_
  refine c_VI [vI (xs (x3 + 1).toNat), vI (xs (x3 + 2).toNat), vI (xs (x3 + 3).toNat), vI (xs (x3 + 4).toNat)] [vI z5] rfl b_M_waves k_L_153 rfl rfl rfl rfl rfl rfl (mwpI_mono (fun z6 h6 F => ?_) F)
  obtain ⟨b7, F⟩ := F
  obtain ⟨b8, F⟩ := F
  refine w_icmp_eq (tgt := 1474) rfl (by decide) ⟨b7, b8⟩ (fun q9 => ?_) (fun q9 => ?_)
  · replace F := F.1 q9
    exact F
  · replace F := F.2 q9
    refine w_iconst rfl ?_
    exact w_zret rfl rfl (by decide) ⟨rfl, rfl, _, rfl, F⟩
theorem s_law_1425 (L : Nat) (xs : Nat → Int) (x3 : Int) (h : St) (K : Int → St → Prop) (F : (mwpI 40 m_C_keep [vR 0] h (fun z1 h1 => (mwpI 40 m_M_keep [vR 109] h1 (fun z2 h2 => (inR z1) ∧ (inR z2) ∧ ((z1 = z2 → (wI 40 (m_law L xs) 1474 [(0, vR 9999), (1, vR 0), (2, vR 109), (3, vI x3)] [] h2 K)) ∧ (¬ (z1 = z2) → (K 0 h2)))))))) : wI 40 (m_law L xs) 1425 [(0, vR 9999), (1, vR 0), (2, vR 109), (3, vI x3)] [] h K := by
  refine w_aload_n rfl rfl ?_
  refine c_VI [] [] rfl b_C_keep k_L_154 rfl rfl rfl rfl rfl rfl (mwpI_mono (fun z1 h1 F => ?_) F)
  refine w_aload_n rfl rfl ?_
  refine c_VI [] [vI z1] rfl b_M_keep k_L_157 rfl rfl rfl rfl rfl rfl (mwpI_mono (fun z2 h2 F => ?_) F)
  obtain ⟨b3, F⟩ := F
  obtain ⟨b4, F⟩ := F
  refine w_icmp_eq (tgt := 1474) rfl (by decide) ⟨b3, b4⟩ (fun q5 => ?_) (fun q5 => ?_)
  · replace F := F.1 q5
    exact F
  · replace F := F.2 q5
    refine w_iconst rfl ?_
    exact w_zret rfl rfl (by decide) ⟨rfl, rfl, _, rfl, F⟩
theorem s_law_1438 (L : Nat) (xs : Nat → Int) (x3 : Int) (h : St) (K : Int → St → Prop) (F : (mwpI 40 m_C_back [vR 0] h (fun z1 h1 => (mwpI 40 m_M_back [vR 109] h1 (fun z2 h2 => (inR z1) ∧ (inR z2) ∧ ((z1 = z2 → (wI 40 (m_law L xs) 1474 [(0, vR 9999), (1, vR 0), (2, vR 109), (3, vI x3)] [] h2 K)) ∧ (¬ (z1 = z2) → (K 0 h2)))))))) : wI 40 (m_law L xs) 1438 [(0, vR 9999), (1, vR 0), (2, vR 109), (3, vI x3)] [] h K := by
  refine w_aload_n rfl rfl ?_
  refine c_VI [] [] rfl b_C_back k_L_158 rfl rfl rfl rfl rfl rfl (mwpI_mono (fun z1 h1 F => ?_) F)
  refine w_aload_n rfl rfl ?_
  refine c_VI [] [vI z1] rfl b_M_back k_L_161 rfl rfl rfl rfl rfl rfl (mwpI_mono (fun z2 h2 F => ?_) F)
  obtain ⟨b3, F⟩ := F
  obtain ⟨b4, F⟩ := F
  refine w_icmp_eq (tgt := 1474) rfl (by decide) ⟨b3, b4⟩ (fun q5 => ?_) (fun q5 => ?_)
  · replace F := F.1 q5
    exact F
  · replace F := F.2 q5
    refine w_iconst rfl ?_
    exact w_zret rfl rfl (by decide) ⟨rfl, rfl, _, rfl, F⟩
theorem s_law_1451 (L : Nat) (xs : Nat → Int) (x3 : Int) (h : St) (K : Int → St → Prop) (F : (0 ≤ x3 + 1 ∧ x3 + 1 < L) ∧ (mwpI 40 m_C_count [vR 0, vI (xs (x3 + 1).toNat)] h (fun z2 h2 => (mwpI 40 m_M_count [vR 109, vI (xs (x3 + 1).toNat)] h2 (fun z3 h3 => (inR z2) ∧ (inR z3) ∧ ((z2 = z3 → (wI 40 (m_law L xs) 1474 [(0, vR 9999), (1, vR 0), (2, vR 109), (3, vI x3)] [] h3 K)) ∧ (¬ (z2 = z3) → (K 0 h3)))))))) : wI 40 (m_law L xs) 1451 [(0, vR 9999), (1, vR 0), (2, vR 109), (3, vI x3)] [] h K := by
  refine w_aload_n rfl rfl ?_
  refine w_aload_n rfl rfl ?_
  refine w_iload_n rfl rfl ?_
  refine w_iconst rfl ?_
  refine w_iadd rfl ?_
  obtain ⟨b1, F⟩ := F
  refine w_sload rfl b1 ?_
  refine c_VI [vI (xs (x3 + 1).toNat)] [] rfl b_C_count k_L_162 rfl rfl rfl rfl rfl rfl (mwpI_mono (fun z2 h2 F => ?_) F)
  refine w_aload_n rfl rfl ?_
  refine w_aload_n rfl rfl ?_
  refine w_iload_n rfl rfl ?_
  refine w_iconst rfl ?_
  refine w_iadd rfl ?_
  refine w_sload rfl b1 ?_
  refine c_VI [vI (xs (x3 + 1).toNat)] [vI z2] rfl b_M_count k_L_165 rfl rfl rfl rfl rfl rfl (mwpI_mono (fun z3 h3 F => ?_) F)
  obtain ⟨b4, F⟩ := F
  obtain ⟨b5, F⟩ := F
  refine w_icmp_eq (tgt := 1474) rfl (by decide) ⟨b4, b5⟩ (fun q6 => ?_) (fun q6 => ?_)
  · replace F := F.1 q6
    exact F
  · replace F := F.2 q6
    refine w_iconst rfl ?_
    exact w_zret rfl rfl (by decide) ⟨rfl, rfl, _, rfl, F⟩
theorem s_law_1474 (L : Nat) (xs : Nat → Int) (x3 : Int) (h : St) (K : Int → St → Prop) (F : (wI 40 (m_law L xs) 18 [(0, vR 9999), (1, vR 0), (2, vR 109), (3, vI (x3 + 7))] [] h K)) : wI 40 (m_law L xs) 1474 [(0, vR 9999), (1, vR 0), (2, vR 109), (3, vI x3)] [] h K := by
  refine w_iinc rfl rfl rfl rfl rfl (w_ls (ls2 := [(0, vR 9999), (1, vR 0), (2, vR 109), (3, vI (x3 + 7))]) rfl ?_)
  refine w_goto (tgt := 18) rfl (by decide) ?_
  exact F
