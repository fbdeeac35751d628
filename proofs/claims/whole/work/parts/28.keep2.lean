theorem CLog_k {h h2 : St} {n : Nat} {lg : Nat → Nat → Int} (a : ag (fun c _ => c = 1 ∨ (2 ≤ c ∧ c ≤ 7)) h h2) (r : CLog h n lg) : CLog h2 n lg := by
  obtain ⟨r1, r2, r3⟩ := r
  refine ⟨by rw [a 1 6 (by omega)]; exact r1, r2, fun i hi => ?_⟩
  rw [a 2 i (by omega), a 3 i (by omega), a 4 i (by omega), a 5 i (by omega), a 6 i (by omega), a 7 i (by omega)]
  exact r3 i hi
theorem CBr_k {h h2 : St} {n : Nat} {bg : Nat → Nat → Int} (a : ag (fun c k => (c = 85 ∧ k = 8) ∨ (88 ≤ c ∧ c ≤ 93)) h h2) (r : CBr h n bg) : CBr h2 n bg := by
  obtain ⟨r1, r2, r3⟩ := r
  refine ⟨by rw [a 85 8 (by omega)]; exact r1, r2, fun i hi => ?_⟩
  rw [a 88 i (by omega), a 89 i (by omega), a 90 i (by omega), a 91 i (by omega), a 92 i (by omega), a 93 i (by omega)]
  exact r3 i hi
theorem CLs_k {h h2 : St} {n : Nat} {ls : Nat → Nat → Int} (a : ag (fun c k => (c = 96 ∧ k = 0) ∨ (97 ≤ c ∧ c ≤ 99)) h h2) (r : CLs h n ls) : CLs h2 n ls := by
  obtain ⟨r1, r2, r3⟩ := r
  refine ⟨by rw [a 96 0 (by omega)]; exact r1, r2, fun i hi => ?_⟩
  rw [a 97 i (by omega), a 98 i (by omega), a 99 i (by omega)]
  exact r3 i hi
theorem CEv_k {h h2 : St} {n : Nat} {ev : Nat → Int} (a : ag (fun c k => (c = 96 ∧ k = 1) ∨ c = 100) h h2) (r : CEv h n ev) : CEv h2 n ev :=
  ⟨by rw [a 96 1 (by omega)]; exact r.1, r.2.1, fun i hi => by rw [a 100 i (by omega)]; exact r.2.2 i hi⟩
theorem bnds {h : St} (hr : Rel h) : (0 ≤ h 1 6 ∧ h 1 6 ≤ 60) ∧ (0 ≤ h 85 8 ∧ h 85 8 ≤ 40) ∧ (0 ≤ h 96 0 ∧ h 96 0 ≤ 20) ∧ (0 ≤ h 96 1 ∧ h 96 1 ≤ 10) ∧ h 110 0 = h 1 6 ∧ h 117 0 = h 85 8 ∧ h 119 0 = h 96 0 ∧ h 121 0 = h 96 1 := by
  obtain ⟨⟨n1, lg, l1, l2, l3⟩, c2, c3, c4, c5, ⟨n6, bg, g1, g2, g3⟩, ⟨n7, ls, s1, s2, s3⟩, ⟨n8, ev, v1, v2, v3⟩, c9⟩ := hr
  have a1 := l1.1
  have a2 := l1.2.1
  have a3 := l2.1
  have b1 := g1.1
  have b2 := g1.2.1
  have b3 := g2.1
  have d1 := s1.1
  have d2 := s1.2.1
  have d3 := s2.1
  have e1 := v1.1
  have e2 := v1.2.1
  have e3 := v2.1
  omega
theorem kNext_keep {h h4 : St} {c cur curk j k : Nat} (hj : j < k) (h1 : ∀ i, i < k → h4 c i = h c i) (h2 : h4 c k = h cur curk) : kNext h4 c cur curk j (k + 1) = kNext h c cur curk j k := by
  unfold kNext
  rw [if_pos (by omega)]
  by_cases q : j + 1 < k
  · rw [if_pos q, h1 _ q]
  · rw [if_neg q, show j + 1 = k by omega, h2]
theorem P_keep {KK : Int → Int → St → Prop} {h : St} (hr : Rel h) (k : ∀ z h2, inR z → Rel h2 → KK z z h2) : mwpI 40 m_C_keep [vR 0] h (fun z h1 => mwpI 40 m_M_keep [vR 109] h1 (fun z2 h2 => KK z z2 h2)) := by
  obtain ⟨bn1, bn2, bn3, bn4, bq1, bq2, bq3, bq4⟩ := bnds hr
  obtain ⟨r1, r2, r3, r4, r5, r6, r7, r8, ⟨kk, p1, p2, p3, p4⟩⟩ := id hr
  refine mI_intro b_C_keep rfl (s_C_keep_0 (d := 39) h _ ⟨⟨by omega, by omega⟩, fun q => ⟨by omega, ?_⟩, fun q => ?_⟩)
  · rw [p1, show ((kk : Int)).toNat = kk by omega]
    generalize eh1 : up (up (up (up (up h 105 kk (h 1 6)) 106 kk (h 85 8)) 107 kk (h 96 0)) 108 kk (h 96 1)) 0 14 ((kk : Int) + 1) = h1
    have k1 : ∀ c j, ¬ ((105 ≤ c ∧ c ≤ 108 ∧ j = kk) ∨ (c = 0 ∧ j = 14)) → h1 c j = h c j := fun c j hn => by
      rw [← eh1]
      repeat rw [up_ne (by omega)]
    have k5 : h1 105 kk = h 1 6 := by rw [← eh1]; simp [up]
    have k6 : h1 106 kk = h 85 8 := by rw [← eh1]; simp [up]
    have k7 : h1 107 kk = h 96 0 := by rw [← eh1]; simp [up]
    have k8 : h1 108 kk = h 96 1 := by rw [← eh1]; simp [up]
    have k0 : h1 0 14 = (kk : Int) + 1 := by rw [← eh1]; simp [up]
    have e0 : h1 109 13 = kk := by rw [k1 _ _ (by omega)]; exact p2
    refine mI_intro b_M_keep rfl (s_M_keep_0 (d := 38) h1 _ ⟨⟨by omega, by omega⟩, fun _ => ?_, fun z => absurd (by omega) z⟩)
    have ec : (1 : Int) + h1 109 13 = ((1 + kk : Nat) : Int) := by omega
    rw [ec]
    refine c_M_copies (a := 0) (d := 38) (by omega) (by omega) (by omega) (fun h3 g => ?_)
    obtain ⟨g1, g2, g3, g4, g5⟩ := g
    have e3 : h3 109 13 = kk := by rw [g5 109 (by omega)]; exact e0
    rw [e3]
    generalize eh4 : up h3 109 13 ((kk : Int) + 1) = h4
    have l0 : h4 109 13 = (kk : Int) + 1 := by rw [← eh4]; simp [up]
    have l1 : ∀ c j, ¬ (c = 109 ∧ j = 13) → h4 c j = h3 c j := fun c j hn => by rw [← eh4, up_ne (by omega)]
    -- cells outside the copied ones
    have l2 : ∀ c j, ¬ (110 ≤ c ∧ c ≤ 122) → ¬ (c = 109 ∧ j = 13) → h4 c j = h1 c j := fun c j q1 q2 => by rw [l1 c j q2, g5 c q1]
    have l3 : ∀ c j, ¬ (110 ≤ c ∧ c ≤ 122) → ¬ dKp c j → h4 c j = h c j := fun c j q1 q2 => by rw [l2 c j q1 (by omega), k1 c j (by omega)]
    have l4 : ∀ c, c = 110 ∨ c = 117 ∨ c = 119 ∨ c = 121 → h4 c (1 + kk) = h c 0 ∧ ∀ j, j ≠ 1 + kk → h4 c j = h c j := fun c hc => ⟨by rw [l1 _ _ (by omega), (g4 c hc).1, k1 _ _ (by omega)], fun j hj => by rw [l1 _ _ (by omega), (g4 c hc).2 j hj, k1 _ _ (by omega)]⟩
    have l5 : ∀ c, c7 c → (∀ i, i < 60 → h4 c (60 * (1 + kk) + i) = h c i) ∧ ∀ j, ¬ (60 * (1 + kk) ≤ j ∧ j < 60 * (1 + kk) + 60) → h4 c j = h c j := fun c hc => by
      have q := g1 c hc
      unfold c7 at hc
      exact ⟨fun i hi => by rw [l1 _ _ (by omega), q.1 i hi, k1 _ _ (by omega), Nat.mul_zero, Nat.zero_add], fun j hj => by rw [l1 _ _ (by omega), q.2 j hj, k1 _ _ (by omega)]⟩
    have l6 : (∀ i, i < 240 → h4 118 (240 * (1 + kk) + i) = h 118 i) ∧ ∀ j, ¬ (240 * (1 + kk) ≤ j ∧ j < 240 * (1 + kk) + 240) → h4 118 j = h 118 j :=
      ⟨fun i hi => by rw [l1 _ _ (by omega), g2.1 i hi, k1 _ _ (by omega), Nat.mul_zero, Nat.zero_add], fun j hj => by rw [l1 _ _ (by omega), g2.2 j hj, k1 _ _ (by omega)]⟩
    have l7 : (∀ i, i < 10 → h4 122 (10 * (1 + kk) + i) = h 122 i) ∧ ∀ j, ¬ (10 * (1 + kk) ≤ j ∧ j < 10 * (1 + kk) + 10) → h4 122 j = h 122 j :=
      ⟨fun i hi => by rw [l1 _ _ (by omega), g3.1 i hi, k1 _ _ (by omega), Nat.mul_zero, Nat.zero_add], fun j hj => by rw [l1 _ _ (by omega), g3.2 j hj, k1 _ _ (by omega)]⟩
    have cur : ∀ c j, (111 ≤ c ∧ c ≤ 116) ∨ c = 120 → j < 60 → h4 c j = h c j := fun c j hc hj => (l5 c hc).2 j (by omega)
    refine k _ _ ⟨by omega, by omega⟩ (Rel_of hr ?_ ?_ ?_ ?_ ?_ (fun c k p => l3 c k (by omega) (by omega)))
    · obtain ⟨n, lg, v1, v2, v3⟩ := r1
      refine ⟨n, lg, CLog_k (fun c k p => l3 c k (by omega) (by omega)) v1, ⟨?_, v2.2.1, fun i hi => ?_⟩, v3⟩
      · rw [(l4 110 (by omega)).2 0 (by omega)]; exact v2.1
      · have hn := v2.2.1
        rw [cur 111 i (by omega) (by omega), cur 112 i (by omega) (by omega), cur 113 i (by omega) (by omega), cur 114 i (by omega) (by omega), cur 115 i (by omega) (by omega), cur 116 i (by omega) (by omega)]
        exact v2.2.2 i hi
    · obtain ⟨n, bg, v1, v2, v3⟩ := r6
      refine ⟨n, bg, CBr_k (fun c k p => l3 c k (by omega) (by omega)) v1, ⟨?_, v2.2.1, fun i hi => ?_⟩, v3⟩
      · rw [(l4 117 (by omega)).2 0 (by omega)]; exact v2.1
      · have hn := v2.2.1
        rw [l6.2 (6 * i) (by omega), l6.2 (6 * i + 1) (by omega), l6.2 (6 * i + 2) (by omega), l6.2 (6 * i + 3) (by omega), l6.2 (6 * i + 4) (by omega), l6.2 (6 * i + 5) (by omega)]
        exact v2.2.2 i hi
    · obtain ⟨n, ls, v1, v2, v3⟩ := r7
      refine ⟨n, ls, CLs_k (fun c k p => l3 c k (by omega) (by omega)) v1, ⟨?_, v2.2.1, fun i hi => ?_⟩, v3⟩
      · rw [(l4 119 (by omega)).2 0 (by omega)]; exact v2.1
      · have hn := v2.2.1
        rw [cur 120 (3 * i) (by omega) (by omega), cur 120 (3 * i + 1) (by omega) (by omega), cur 120 (3 * i + 2) (by omega) (by omega)]
        exact v2.2.2 i hi
    · obtain ⟨n, ev, v1, v2, v3⟩ := r8
      refine ⟨n, ev, CEv_k (fun c k p => l3 c k (by omega) (by omega)) v1, ⟨?_, v2.2.1, fun i hi => ?_⟩, v3⟩
      · rw [(l4 121 (by omega)).2 0 (by omega)]; exact v2.1
      · have hn := v2.2.1
        rw [l7.2 i (by omega)]
        exact v2.2.2 i hi
    · refine ⟨kk + 1, by rw [l2 0 14 (by omega) (by omega), k0]; rfl, by rw [l0]; rfl, by omega, fun j hj => ?_⟩
      have x5 : ∀ c i, 105 ≤ c → c ≤ 108 → i < kk → h4 c i = h c i := fun c i q1 q2 q3 => by rw [l2 c i (by omega) (by omega), k1 c i (by omega)]
      have y5 : h4 105 kk = h 1 6 := by rw [l2 _ _ (by omega) (by omega)]; exact k5
      have y6 : h4 106 kk = h 85 8 := by rw [l2 _ _ (by omega) (by omega)]; exact k6
      have y7 : h4 107 kk = h 96 0 := by rw [l2 _ _ (by omega) (by omega)]; exact k7
      have y8 : h4 108 kk = h 96 1 := by rw [l2 _ _ (by omega) (by omega)]; exact k8
      by_cases hjk : j < kk
      · have z0 : h 105 j ≤ h 1 6 := kp_le p3 hjk (fun j hj => (p4 j hj).1.2.2.1)
        have z1 : h 106 j ≤ h 85 8 := kp_le p3 hjk (fun j hj => (p4 j hj).2.1.2.2.1)
        have z2 : h 107 j ≤ h 96 0 := kp_le p3 hjk (fun j hj => (p4 j hj).2.2.1.2.2.1)
        have z3 : h 108 j ≤ h 96 1 := kp_le p3 hjk (fun j hj => (p4 j hj).2.2.2.2.2.1)
        obtain ⟨⟨a1, a2, a3, a4⟩, ⟨b1, b2, b3, b4⟩, ⟨c1, c2, c3, c4⟩, ⟨d1, d2, d3, d4⟩⟩ := p4 j hjk
        rw [kNext_keep hjk (fun i hi => x5 105 i (by omega) (by omega) hi) y5, kNext_keep hjk (fun i hi => x5 106 i (by omega) (by omega) hi) y6, kNext_keep hjk (fun i hi => x5 107 i (by omega) (by omega) hi) y7, kNext_keep hjk (fun i hi => x5 108 i (by omega) (by omega) hi) y8, x5 105 j (by omega) (by omega) hjk, x5 106 j (by omega) (by omega) hjk, x5 107 j (by omega) (by omega) hjk, x5 108 j (by omega) (by omega) hjk, (l4 110 (by omega)).2 _ (by omega), (l4 117 (by omega)).2 _ (by omega), (l4 119 (by omega)).2 _ (by omega), (l4 121 (by omega)).2 _ (by omega)]
        refine ⟨⟨a1, a2, a3, fun i hi => ?_⟩, ⟨b1, b2, b3, fun i hi => ?_⟩, ⟨c1, c2, c3, fun i hi => ?_⟩, ⟨d1, d2, d3, fun i hi => ?_⟩⟩
        · have ff : ∀ c, (111 ≤ c ∧ c ≤ 116) ∨ c = 120 → h4 c (60 * (1 + j) + i) = h c (60 * (1 + j) + i) := fun c hc => (l5 c hc).2 _ (by omega)
          rw [ff 111 (by omega), ff 112 (by omega), ff 113 (by omega), ff 114 (by omega), ff 115 (by omega), ff 116 (by omega), cur 111 i (by omega) (by omega), cur 112 i (by omega) (by omega), cur 113 i (by omega) (by omega), cur 114 i (by omega) (by omega), cur 115 i (by omega) (by omega), cur 116 i (by omega) (by omega)]
          exact a4 i hi
        · rw [l6.2 _ (by omega), l6.2 _ (by omega)]
          exact b4 i hi
        · rw [(l5 120 (by unfold c7; omega)).2 _ (by omega), (l5 120 (by unfold c7; omega)).2 _ (by omega)]
          exact c4 i hi
        · rw [l7.2 _ (by omega), l7.2 _ (by omega)]
          exact d4 i hi
      · have e : j = kk := by omega
        subst e
        unfold kNext
        rw [if_neg (by omega), if_neg (by omega), if_neg (by omega), if_neg (by omega), y5, y6, y7, y8, (l4 110 (by omega)).1, (l4 117 (by omega)).1, (l4 119 (by omega)).1, (l4 121 (by omega)).1, l3 1 6 (by omega) (by omega), l3 85 8 (by omega) (by omega), l3 96 0 (by omega) (by omega), l3 96 1 (by omega) (by omega)]
        refine ⟨⟨bq1.symm, by omega, by omega, fun i hi => ?_⟩, ⟨bq2.symm, by omega, by omega, fun i hi => ?_⟩, ⟨bq3.symm, by omega, by omega, fun i hi => ?_⟩, ⟨bq4.symm, by omega, by omega, fun i hi => ?_⟩⟩
        · have ff : ∀ c, (111 ≤ c ∧ c ≤ 116) ∨ c = 120 → h4 c (60 * (1 + j) + i) = h4 c i := fun c hc => by rw [(l5 c hc).1 i (by omega), cur c i hc (by omega)]
          exact ⟨ff 111 (by omega), ff 112 (by omega), ff 113 (by omega), ff 114 (by omega), ff 115 (by omega), ff 116 (by omega)⟩
        · rw [l6.1 i (by omega), l6.2 i (by omega)]
        · rw [(l5 120 (by unfold c7; omega)).1 i (by omega), (l5 120 (by unfold c7; omega)).2 i (by omega)]
        · rw [l7.1 i (by omega), l7.2 i (by omega)]
  · exact mI_intro b_M_keep rfl (s_M_keep_0 (d := 38) h _ ⟨⟨by omega, by omega⟩, fun z => absurd (by omega) z, fun _ => k _ _ (by decide) hr⟩)
theorem P_back {KK : Int → Int → St → Prop} {h : St} (hr : Rel h) (k : ∀ z h2, inR z → Rel h2 → KK z z h2) : mwpI 40 m_C_back [vR 0] h (fun z h1 => mwpI 40 m_M_back [vR 109] h1 (fun z2 h2 => KK z z2 h2)) := by
  obtain ⟨bn1, bn2, bn3, bn4, bq1, bq2, bq3, bq4⟩ := bnds hr
  obtain ⟨r1, r2, r3, r4, r5, r6, r7, r8, ⟨kk, p1, p2, p3, p4⟩⟩ := id hr
  refine mI_intro b_C_back rfl (s_C_back_0 (d := 39) h _ ⟨⟨by omega, by omega⟩, fun q => ⟨by omega, ?_⟩, fun q => ?_⟩)
  · obtain ⟨m, rfl⟩ : ∃ m, kk = m + 1 := ⟨kk - 1, by omega⟩
    rw [p1, show ((m + 1 : Nat) : Int) - 1 = (m : Int) by omega, show ((m : Int)).toNat = m by omega]
    generalize eh1 : up (up (up (up (up h 0 14 (m : Int)) 1 6 (h 105 m)) 85 8 (h 106 m)) 96 0 (h 107 m)) 96 1 (h 108 m) = h1
    have k1 : ∀ c j, ¬ ((c = 0 ∧ j = 14) ∨ (c = 1 ∧ j = 6) ∨ (c = 85 ∧ j = 8) ∨ (c = 96 ∧ j = 0) ∨ (c = 96 ∧ j = 1)) → h1 c j = h c j := fun c j hn => by
      rw [← eh1]
      repeat rw [up_ne (by omega)]
    have k0 : h1 0 14 = m := by rw [← eh1]; simp [up]
    have k5 : h1 1 6 = h 105 m := by rw [← eh1]; simp [up]
    have k6 : h1 85 8 = h 106 m := by rw [← eh1]; simp [up]
    have k7 : h1 96 0 = h 107 m := by rw [← eh1]; simp [up]
    have k8 : h1 96 1 = h 108 m := by rw [← eh1]; simp [up]
    have e0 : h1 109 13 = ((m + 1 : Nat) : Int) := by rw [k1 _ _ (by omega)]; exact p2
    refine mI_intro b_M_back rfl (s_M_back_0 (d := 38) h1 _ ⟨⟨by omega, by omega⟩, fun _ => ?_, fun z => absurd (by omega) z⟩)
    have ec : (1 : Int) + (h1 109 13 - 1) = ((1 + m : Nat) : Int) := by omega
    rw [ec, show h1 109 13 - 1 = (m : Int) by omega]
    refine c_M_copies (b := 0) (d := 38) (by omega) (by omega) (by omega) (fun h4 g => ?_)
    obtain ⟨g1, g2, g3, g4, g5⟩ := g
    have l0 : h4 109 13 = m := by rw [g5 109 (by omega)]; simp [up]
    rw [l0]
    have n1 : ∀ c j, ¬ (c = 109 ∧ j = 13) → up h1 109 13 (m : Int) c j = h1 c j := fun c j hn => by rw [up_ne (by omega)]
    have l3 : ∀ c j, ¬ (110 ≤ c ∧ c ≤ 122) → ¬ (c = 109 ∧ j = 13) → h4 c j = h1 c j := fun c j q1 q2 => by rw [g5 c q1, n1 c j q2]
    have l4 : ∀ c, c = 110 ∨ c = 117 ∨ c = 119 ∨ c = 121 → h4 c 0 = h c (1 + m) ∧ ∀ j, j ≠ 0 → h4 c j = h c j := fun c hc => ⟨by rw [(g4 c hc).1, n1 _ _ (by omega), k1 _ _ (by omega)], fun j hj => by rw [(g4 c hc).2 j hj, n1 _ _ (by omega), k1 _ _ (by omega)]⟩
    have l5 : ∀ c, c7 c → (∀ i, i < 60 → h4 c i = h c (60 * (1 + m) + i)) ∧ ∀ j, 60 ≤ j → h4 c j = h c j := fun c hc => by
      have q := g1 c hc
      unfold c7 at hc
      exact ⟨fun i hi => by have z := q.1 i hi; rw [Nat.mul_zero, Nat.zero_add] at z; rw [z, n1 _ _ (by omega), k1 _ _ (by omega)], fun j hj => by rw [q.2 j (by omega), n1 _ _ (by omega), k1 _ _ (by omega)]⟩
    have l6 : (∀ i, i < 240 → h4 118 i = h 118 (240 * (1 + m) + i)) ∧ ∀ j, 240 ≤ j → h4 118 j = h 118 j :=
      ⟨fun i hi => by have z := g2.1 i hi; rw [Nat.mul_zero, Nat.zero_add] at z; rw [z, n1 _ _ (by omega), k1 _ _ (by omega)], fun j hj => by rw [g2.2 j (by omega), n1 _ _ (by omega), k1 _ _ (by omega)]⟩
    have l7 : (∀ i, i < 10 → h4 122 i = h 122 (10 * (1 + m) + i)) ∧ ∀ j, 10 ≤ j → h4 122 j = h 122 j :=
      ⟨fun i hi => by have z := g3.1 i hi; rw [Nat.mul_zero, Nat.zero_add] at z; rw [z, n1 _ _ (by omega), k1 _ _ (by omega)], fun j hj => by rw [g3.2 j (by omega), n1 _ _ (by omega), k1 _ _ (by omega)]⟩
    have z0 : h 105 m ≤ h 1 6 := kp_le p3 (by omega) (fun j hj => (p4 j hj).1.2.2.1)
    have z1 : h 106 m ≤ h 85 8 := kp_le p3 (by omega) (fun j hj => (p4 j hj).2.1.2.2.1)
    have z2 : h 107 m ≤ h 96 0 := kp_le p3 (by omega) (fun j hj => (p4 j hj).2.2.1.2.2.1)
    have z3 : h 108 m ≤ h 96 1 := kp_le p3 (by omega) (fun j hj => (p4 j hj).2.2.2.2.2.1)
    obtain ⟨⟨a1, a2, a3, a4⟩, ⟨b1, b2, b3, b4⟩, ⟨c1, c2, c3, c4⟩, ⟨d1, d2, d3, d4⟩⟩ := p4 m (by omega)
    -- the current region: as it was, below the sizes that come back
    have cu : ∀ i : Nat, (i : Int) < h 105 m → h4 111 i = h 111 i ∧ h4 112 i = h 112 i ∧ h4 113 i = h 113 i ∧ h4 114 i = h 114 i ∧ h4 115 i = h 115 i ∧ h4 116 i = h 116 i := fun i hi => by
      rw [(l5 111 (by unfold c7; omega)).1 i (by omega), (l5 112 (by unfold c7; omega)).1 i (by omega), (l5 113 (by unfold c7; omega)).1 i (by omega), (l5 114 (by unfold c7; omega)).1 i (by omega), (l5 115 (by unfold c7; omega)).1 i (by omega), (l5 116 (by unfold c7; omega)).1 i (by omega)]
      exact a4 i hi
    have cb : ∀ i : Nat, (i : Int) < 6 * h 106 m → h4 118 i = h 118 i := fun i hi => by rw [l6.1 i (by omega)]; exact b4 i hi
    have cl : ∀ i : Nat, (i : Int) < 3 * h 107 m → h4 120 i = h 120 i := fun i hi => by rw [(l5 120 (by unfold c7; omega)).1 i (by omega)]; exact c4 i hi
    have ce : ∀ i : Nat, (i : Int) < h 108 m → h4 122 i = h 122 i := fun i hi => by rw [l7.1 i (by omega)]; exact d4 i hi
    refine k _ _ ⟨by omega, by omega⟩ (Rel_of hr ?_ ?_ ?_ ?_ ?_ (fun c k p => by rw [l3 c k (by omega) (by omega), k1 c k (by omega)]))
    · obtain ⟨n, lg, v1, v2, v3⟩ := r1
      have w1 := v1.1
      have w2 := v1.2.1
      refine ⟨(h 105 m).toNat, lg, ⟨?_, by omega, fun i hi => ?_⟩, ⟨?_, by omega, fun i hi => ?_⟩, fun i hi => v3 i (by omega)⟩
      · rw [l3 _ _ (by omega) (by omega), k5]; omega
      · have g := v1.2.2 i (by omega)
        rw [l3 _ _ (by omega) (by omega), l3 _ _ (by omega) (by omega), l3 _ _ (by omega) (by omega), l3 _ _ (by omega) (by omega), l3 _ _ (by omega) (by omega), l3 _ _ (by omega) (by omega), k1 _ _ (by omega), k1 _ _ (by omega), k1 _ _ (by omega), k1 _ _ (by omega), k1 _ _ (by omega), k1 _ _ (by omega)]
        exact g
      · rw [(l4 110 (by omega)).1, ← a1]; omega
      · have g := v2.2.2 i (by omega)
        obtain ⟨q1, q2, q3, q4, q5, q6⟩ := cu i (by omega)
        rw [q1, q2, q3, q4, q5, q6]
        exact g
    · obtain ⟨n, bg, v1, v2, v3⟩ := r6
      have w1 := v1.1
      have w2 := v1.2.1
      refine ⟨(h 106 m).toNat, bg, ⟨?_, by omega, fun i hi => ?_⟩, ⟨?_, by omega, fun i hi => ?_⟩, fun i hi => v3 i (by omega)⟩
      · rw [l3 _ _ (by omega) (by omega), k6]; omega
      · have g := v1.2.2 i (by omega)
        rw [l3 _ _ (by omega) (by omega), l3 _ _ (by omega) (by omega), l3 _ _ (by omega) (by omega), l3 _ _ (by omega) (by omega), l3 _ _ (by omega) (by omega), l3 _ _ (by omega) (by omega), k1 _ _ (by omega), k1 _ _ (by omega), k1 _ _ (by omega), k1 _ _ (by omega), k1 _ _ (by omega), k1 _ _ (by omega)]
        exact g
      · rw [(l4 117 (by omega)).1, ← b1]; omega
      · have g := v2.2.2 i (by omega)
        rw [cb _ (by omega), cb _ (by omega), cb _ (by omega), cb _ (by omega), cb _ (by omega), cb _ (by omega)]
        exact g
    · obtain ⟨n, ls, v1, v2, v3⟩ := r7
      have w1 := v1.1
      have w2 := v1.2.1
      refine ⟨(h 107 m).toNat, ls, ⟨?_, by omega, fun i hi => ?_⟩, ⟨?_, by omega, fun i hi => ?_⟩, fun i hi => v3 i (by omega)⟩
      · rw [l3 _ _ (by omega) (by omega), k7]; omega
      · have g := v1.2.2 i (by omega)
        rw [l3 _ _ (by omega) (by omega), l3 _ _ (by omega) (by omega), l3 _ _ (by omega) (by omega), k1 _ _ (by omega), k1 _ _ (by omega), k1 _ _ (by omega)]
        exact g
      · rw [(l4 119 (by omega)).1, ← c1]; omega
      · have g := v2.2.2 i (by omega)
        rw [cl _ (by omega), cl _ (by omega), cl _ (by omega)]
        exact g
    · obtain ⟨n, ev, v1, v2, v3⟩ := r8
      have w1 := v1.1
      have w2 := v1.2.1
      refine ⟨(h 108 m).toNat, ev, ⟨?_, by omega, fun i hi => ?_⟩, ⟨?_, by omega, fun i hi => ?_⟩, fun i hi => v3 i (by omega)⟩
      · rw [l3 _ _ (by omega) (by omega), k8]; omega
      · rw [l3 _ _ (by omega) (by omega), k1 _ _ (by omega)]
        exact v1.2.2 i (by omega)
      · rw [(l4 121 (by omega)).1, ← d1]; omega
      · rw [ce _ (by omega)]
        exact v2.2.2 i (by omega)
    · refine ⟨m, by rw [l3 0 14 (by omega) (by omega)]; exact k0, l0, by omega, fun j hj => ?_⟩
      have x5 : ∀ c i, 105 ≤ c → c ≤ 108 → h4 c i = h c i := fun c i q1 q2 => by rw [l3 c i (by omega) (by omega), k1 c i (by omega)]
      have kn : ∀ c cur curk : Nat, 105 ≤ c → c ≤ 108 → h4 cur curk = h c m → kNext h4 c cur curk j m = kNext h c cur curk j (m + 1) := fun c cur curk q1 q2 q3 => by
        unfold kNext
        rw [if_pos (show j + 1 < m + 1 by omega), x5 c _ q1 q2, q3]
        by_cases q : j + 1 < m
        · rw [if_pos q]
        · rw [if_neg q, show j + 1 = m by omega]
      have w0 : h 105 j ≤ h 105 m := by
        have q := (p4 j (by omega)).1.2.2.1
        unfold kNext at q
        rw [if_pos (by omega)] at q
        rwa [show j + 1 = m by omega] at q
      have w1 : h 106 j ≤ h 106 m := by
        have q := (p4 j (by omega)).2.1.2.2.1
        unfold kNext at q
        rw [if_pos (by omega)] at q
        rwa [show j + 1 = m by omega] at q
      have w2 : h 107 j ≤ h 107 m := by
        have q := (p4 j (by omega)).2.2.1.2.2.1
        unfold kNext at q
        rw [if_pos (by omega)] at q
        rwa [show j + 1 = m by omega] at q
      have w3 : h 108 j ≤ h 108 m := by
        have q := (p4 j (by omega)).2.2.2.2.2.1
        unfold kNext at q
        rw [if_pos (by omega)] at q
        rwa [show j + 1 = m by omega] at q
      obtain ⟨⟨a5, a6, a7, a8⟩, ⟨b5, b6, b7, b8⟩, ⟨c5, c6, c7', c8⟩, ⟨d5, d6, d7, d8⟩⟩ := p4 j (by omega)
      rw [kn 105 1 6 (by omega) (by omega) (by rw [l3 _ _ (by omega) (by omega)]; exact k5), kn 106 85 8 (by omega) (by omega) (by rw [l3 _ _ (by omega) (by omega)]; exact k6), kn 107 96 0 (by omega) (by omega) (by rw [l3 _ _ (by omega) (by omega)]; exact k7), kn 108 96 1 (by omega) (by omega) (by rw [l3 _ _ (by omega) (by omega)]; exact k8), x5 105 j (by omega) (by omega), x5 106 j (by omega) (by omega), x5 107 j (by omega) (by omega), x5 108 j (by omega) (by omega), (l4 110 (by omega)).2 _ (by omega), (l4 117 (by omega)).2 _ (by omega), (l4 119 (by omega)).2 _ (by omega), (l4 121 (by omega)).2 _ (by omega)]
      refine ⟨⟨a5, a6, a7, fun i hi => ?_⟩, ⟨b5, b6, b7, fun i hi => ?_⟩, ⟨c5, c6, c7', fun i hi => ?_⟩, ⟨d5, d6, d7, fun i hi => ?_⟩⟩
      · obtain ⟨q1, q2, q3, q4, q5, q6⟩ := cu i (by omega)
        have ff : ∀ c, c7 c → h4 c (60 * (1 + j) + i) = h c (60 * (1 + j) + i) := fun c hc => (l5 c hc).2 _ (by omega)
        rw [q1, q2, q3, q4, q5, q6, ff 111 (by unfold c7; omega), ff 112 (by unfold c7; omega), ff 113 (by unfold c7; omega), ff 114 (by unfold c7; omega), ff 115 (by unfold c7; omega), ff 116 (by unfold c7; omega)]
        exact a8 i hi
      · rw [cb i (by omega), l6.2 _ (by omega)]
        exact b8 i hi
      · rw [cl i (by omega), (l5 120 (by unfold c7; omega)).2 _ (by omega)]
        exact c8 i hi
      · rw [ce i (by omega), l7.2 _ (by omega)]
        exact d8 i hi
  · exact mI_intro b_M_back rfl (s_M_back_0 (d := 38) h _ ⟨⟨by omega, by omega⟩, fun z => absurd (by omega) z, fun _ => k _ _ (by decide) hr⟩)
