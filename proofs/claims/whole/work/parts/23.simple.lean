theorem s_C_apart_0 {d : Nat}  (x1 : Int) (h : St) (K : Int → St → Prop) (F : (inR x1) ∧ ((0 ≤ x1 ∧ x1 ≤ 99 → (K (h 57 0) (up h 57 0 x1))) ∧ (¬ (0 ≤ x1 ∧ x1 ≤ 99) → (K ((-1)) h)))) : wI (d + 1) m_C_apart 0 [(0, vR 0), (1, vI x1)] [] h K := by
  refine w_iload_n rfl rfl ?_
  refine w_iconst rfl ?_
  refine w_bipush (by decide) (by decide) rfl ?_
  obtain ⟨b1, F⟩ := F
  refine c_SI [vI x1, vI 0, vI 99] [] rfl b_C_isAmong k_C_103 rfl rfl rfl (c_C_isAmong b1 (r_lit rfl) (r_lit rfl) ?_)
  refine w_ifne_b (tgt := 12) rfl (by decide) (fun q2 => ?_) (fun q2 => ?_)
  · replace F := F.1 q2
    refine w_aload_n rfl rfl ?_
    refine w_getR rfl f_C_26 rfl rfl rfl rfl rfl ?_
    refine w_getI rfl f_C_141 rfl rfl rfl ?_
    refine w_istore_n rfl rfl rfl rfl (w_ls (ls2 := [(0, vR 0), (1, vI x1), (2, vI (h 57 0))]) rfl ?_)
    refine w_aload_n rfl rfl ?_
    refine w_getR rfl f_C_26 rfl rfl rfl rfl rfl ?_
    refine w_iload_n rfl rfl ?_
    refine w_putI rfl f_C_141 fw_2_0 rfl rfl rfl ?_
    refine w_iload_n rfl rfl ?_
    exact w_iret rfl rfl ⟨rfl, rfl, _, rfl, F⟩
  · replace F := F.2 q2
    refine w_iconst rfl ?_
    exact w_iret rfl rfl ⟨rfl, rfl, _, rfl, F⟩
theorem s_M_apart_0 {d : Nat}  (x1 : Int) (h : St) (K : Int → St → Prop) (F : (inR x1) ∧ ((0 ≤ x1 ∧ x1 ≤ 99 → (K (h 109 14) (up h 109 14 x1))) ∧ (¬ (0 ≤ x1 ∧ x1 ≤ 99) → (K ((-1)) h)))) : wI (d + 1) m_M_apart 0 [(0, vR 109), (1, vI x1)] [] h K := by
  refine w_iload_n rfl rfl ?_
  obtain ⟨b1, F⟩ := F
  refine w_i2l b1 rfl ?_
  refine w_lconst rfl ?_
  refine w_ldc2 (z := 99) kc_M_148 (by decide) rfl ?_
  refine c_SI [vJ x1, vJ 0, vJ 99] [] rfl b_M_in k_M_130 rfl rfl rfl (c_M_in (inL_of b1) (by decide) (by decide) ?_)
  refine w_ifne_b (tgt := 14) rfl (by decide) (fun q2 => ?_) (fun q2 => ?_)
  · replace F := F.1 q2
    refine w_aload_n rfl rfl ?_
    refine w_getI rfl f_M_49 rfl rfl rfl ?_
    refine w_istore_n rfl rfl rfl rfl (w_ls (ls2 := [(0, vR 109), (1, vI x1), (2, vI (h 109 14))]) rfl ?_)
    refine w_aload_n rfl rfl ?_
    refine w_iload_n rfl rfl ?_
    refine w_putI rfl f_M_49 fw_12_14 rfl rfl rfl ?_
    refine w_iload_n rfl rfl ?_
    exact w_iret rfl rfl ⟨rfl, rfl, _, rfl, F⟩
  · replace F := F.2 q2
    refine w_iconst rfl ?_
    exact w_iret rfl rfl ⟨rfl, rfl, _, rfl, F⟩
theorem s_C_within_0 {d : Nat}  (x1 : Int) (h : St) (K : Int → St → Prop) (F : (inR x1) ∧ ((1 ≤ x1 ∧ x1 ≤ 23 → (K (h 77 0) (up h 77 0 x1))) ∧ (¬ (1 ≤ x1 ∧ x1 ≤ 23) → (K ((-1)) h)))) : wI (d + 1) m_C_within 0 [(0, vR 0), (1, vI x1)] [] h K := by
  refine w_iload_n rfl rfl ?_
  refine w_iconst rfl ?_
  refine w_bipush (by decide) (by decide) rfl ?_
  obtain ⟨b1, F⟩ := F
  refine c_SI [vI x1, vI 1, vI 23] [] rfl b_C_isAmong k_C_103 rfl rfl rfl (c_C_isAmong b1 (r_lit rfl) (r_lit rfl) ?_)
  refine w_ifne_b (tgt := 12) rfl (by decide) (fun q2 => ?_) (fun q2 => ?_)
  · replace F := F.1 q2
    refine w_aload_n rfl rfl ?_
    refine w_getR rfl f_C_47 rfl rfl rfl rfl rfl ?_
    refine w_getI rfl f_C_218 rfl rfl rfl ?_
    refine w_istore_n rfl rfl rfl rfl (w_ls (ls2 := [(0, vR 0), (1, vI x1), (2, vI (h 77 0))]) rfl ?_)
    refine w_aload_n rfl rfl ?_
    refine w_getR rfl f_C_47 rfl rfl rfl rfl rfl ?_
    refine w_iload_n rfl rfl ?_
    refine w_putI rfl f_C_218 fw_4_0 rfl rfl rfl ?_
    refine w_iload_n rfl rfl ?_
    exact w_iret rfl rfl ⟨rfl, rfl, _, rfl, F⟩
  · replace F := F.2 q2
    refine w_iconst rfl ?_
    exact w_iret rfl rfl ⟨rfl, rfl, _, rfl, F⟩
theorem s_M_within_0 {d : Nat}  (x1 : Int) (h : St) (K : Int → St → Prop) (F : (inR x1) ∧ ((1 ≤ x1 ∧ x1 ≤ 23 → (K (h 109 15) (up h 109 15 x1))) ∧ (¬ (1 ≤ x1 ∧ x1 ≤ 23) → (K ((-1)) h)))) : wI (d + 1) m_M_within 0 [(0, vR 109), (1, vI x1)] [] h K := by
  refine w_iload_n rfl rfl ?_
  obtain ⟨b1, F⟩ := F
  refine w_i2l b1 rfl ?_
  refine w_lconst rfl ?_
  refine w_ldc2 (z := 23) kc_M_240 (by decide) rfl ?_
  refine c_SI [vJ x1, vJ 1, vJ 23] [] rfl b_M_in k_M_130 rfl rfl rfl (c_M_in (inL_of b1) (by decide) (by decide) ?_)
  refine w_ifne_b (tgt := 14) rfl (by decide) (fun q2 => ?_) (fun q2 => ?_)
  · replace F := F.1 q2
    refine w_aload_n rfl rfl ?_
    refine w_getI rfl f_M_53 rfl rfl rfl ?_
    refine w_istore_n rfl rfl rfl rfl (w_ls (ls2 := [(0, vR 109), (1, vI x1), (2, vI (h 109 15))]) rfl ?_)
    refine w_aload_n rfl rfl ?_
    refine w_iload_n rfl rfl ?_
    refine w_putI rfl f_M_53 fw_12_15 rfl rfl rfl ?_
    refine w_iload_n rfl rfl ?_
    exact w_iret rfl rfl ⟨rfl, rfl, _, rfl, F⟩
  · replace F := F.2 q2
    refine w_iconst rfl ?_
    exact w_iret rfl rfl ⟨rfl, rfl, _, rfl, F⟩
theorem s_C_wipe_0 {d : Nat}  (h : St) (K : Int → St → Prop) (F : (K (h 8 1) (up h 8 1 0))) : wI d m_C_wipe 0 [(0, vR 0)] [] h K := by
  refine w_aload_n rfl rfl ?_
  refine w_getR rfl f_C_19 rfl rfl rfl rfl rfl ?_
  refine w_getI rfl f_C_117 rfl rfl rfl ?_
  refine w_istore_n rfl rfl rfl rfl (w_ls (ls2 := [(0, vR 0), (1, vI (h 8 1))]) rfl ?_)
  refine w_aload_n rfl rfl ?_
  refine w_getR rfl f_C_19 rfl rfl rfl rfl rfl ?_
  refine w_iconst rfl ?_
  refine w_putI rfl f_C_117 fw_0_1 rfl rfl rfl ?_
  refine w_iload_n rfl rfl ?_
  exact w_iret rfl rfl ⟨rfl, rfl, _, rfl, F⟩
theorem s_M_wipe_0 {d : Nat}  (h : St) (K : Int → St → Prop) (F : (K (h 109 18) (up h 109 18 0))) : wI d m_M_wipe 0 [(0, vR 109)] [] h K := by
  refine w_aload_n rfl rfl ?_
  refine w_getI rfl f_M_154 rfl rfl rfl ?_
  refine w_istore_n rfl rfl rfl rfl (w_ls (ls2 := [(0, vR 109), (1, vI (h 109 18))]) rfl ?_)
  refine w_aload_n rfl rfl ?_
  refine w_iconst rfl ?_
  refine w_putI rfl f_M_154 fw_12_18 rfl rfl rfl ?_
  refine w_iload_n rfl rfl ?_
  exact w_iret rfl rfl ⟨rfl, rfl, _, rfl, F⟩
theorem s_C_count_0 {d : Nat}  (x1 : Int) (h : St) (K : Int → St → Prop) (F : (inR x1) ∧ ((x1 = 0 → (K (h 1 6) h)) ∧ (x1 = 1 → (K (h 8 1) h)) ∧ (x1 = 2 → (K (h 8 12) h)) ∧ (x1 = 3 → (K (h 85 8) h)) ∧ (x1 = 4 → (K (h 96 0) h)) ∧ (x1 = 5 → (K (h 96 1) h)) ∧ (x1 = 6 → (K (h 0 14) h)) ∧ ((x1 ≠ 0 ∧ x1 ≠ 1 ∧ x1 ≠ 2 ∧ x1 ≠ 3 ∧ x1 ≠ 4 ∧ x1 ≠ 5 ∧ x1 ≠ 6) → (K ((-1)) h)))) : wI d m_C_count 0 [(0, vR 0), (1, vI x1)] [] h K := by
  refine w_iload_n rfl rfl ?_
  obtain ⟨b1, F⟩ := F
  obtain ⟨F0, F1, F2, F3, F4, F5, F6, Fd⟩ := F
  by_cases q2 : x1 = 0
  · have F := F0 q2
    refine w_tabIn (a := x1) (tgt := 44) (off := 43) rfl b1 (by omega) (by omega) (by rw [q2]; rfl) (by decide) ?_
    refine w_aload_n rfl rfl ?_
    refine w_getR rfl f_C_10 rfl rfl rfl rfl rfl ?_
    refine w_getI rfl f_C_110 rfl rfl rfl ?_
    exact w_iret rfl rfl ⟨rfl, rfl, _, rfl, F⟩
  by_cases q3 : x1 = 1
  · have F := F1 q3
    refine w_tabIn (a := x1) (tgt := 52) (off := 51) rfl b1 (by omega) (by omega) (by rw [q3]; rfl) (by decide) ?_
    refine w_aload_n rfl rfl ?_
    refine w_getR rfl f_C_19 rfl rfl rfl rfl rfl ?_
    refine w_getI rfl f_C_117 rfl rfl rfl ?_
    exact w_iret rfl rfl ⟨rfl, rfl, _, rfl, F⟩
  by_cases q4 : x1 = 2
  · have F := F2 q4
    refine w_tabIn (a := x1) (tgt := 60) (off := 59) rfl b1 (by omega) (by omega) (by rw [q4]; rfl) (by decide) ?_
    refine w_aload_n rfl rfl ?_
    refine w_getR rfl f_C_19 rfl rfl rfl rfl rfl ?_
    refine w_getI rfl f_C_336 rfl rfl rfl ?_
    exact w_iret rfl rfl ⟨rfl, rfl, _, rfl, F⟩
  by_cases q5 : x1 = 3
  · have F := F3 q5
    refine w_tabIn (a := x1) (tgt := 68) (off := 67) rfl b1 (by omega) (by omega) (by rw [q5]; rfl) (by decide) ?_
    refine w_aload_n rfl rfl ?_
    refine w_getR rfl f_C_61 rfl rfl rfl rfl rfl ?_
    refine w_getI rfl f_C_272 rfl rfl rfl ?_
    exact w_iret rfl rfl ⟨rfl, rfl, _, rfl, F⟩
  by_cases q6 : x1 = 4
  · have F := F4 q6
    refine w_tabIn (a := x1) (tgt := 76) (off := 75) rfl b1 (by omega) (by omega) (by rw [q6]; rfl) (by decide) ?_
    refine w_aload_n rfl rfl ?_
    refine w_getR rfl f_C_68 rfl rfl rfl rfl rfl ?_
    refine w_getI rfl f_C_295 rfl rfl rfl ?_
    exact w_iret rfl rfl ⟨rfl, rfl, _, rfl, F⟩
  by_cases q7 : x1 = 5
  · have F := F5 q7
    refine w_tabIn (a := x1) (tgt := 84) (off := 83) rfl b1 (by omega) (by omega) (by rw [q7]; rfl) (by decide) ?_
    refine w_aload_n rfl rfl ?_
    refine w_getR rfl f_C_68 rfl rfl rfl rfl rfl ?_
    refine w_getI rfl f_C_311 rfl rfl rfl ?_
    exact w_iret rfl rfl ⟨rfl, rfl, _, rfl, F⟩
  by_cases q8 : x1 = 6
  · have F := F6 q8
    refine w_tabIn (a := x1) (tgt := 92) (off := 91) rfl b1 (by omega) (by omega) (by rw [q8]; rfl) (by decide) ?_
    refine w_aload_n rfl rfl ?_
    refine w_getI rfl f_C_92 rfl rfl rfl ?_
    exact w_iret rfl rfl ⟨rfl, rfl, _, rfl, F⟩
  have F := Fd ⟨q2, q3, q4, q5, q6, q7, q8⟩
  refine w_tabOut (a := x1) (tgt := 97) rfl (by decide) b1 (by omega) ?_
  refine w_iconst rfl ?_
  exact w_iret rfl rfl ⟨rfl, rfl, _, rfl, F⟩
theorem s_M_count_0 {d : Nat}  (x1 : Int) (h : St) (K : Int → St → Prop) (F : (inR x1) ∧ ((x1 = 0 → (K (h 110 0) h)) ∧ (x1 = 1 → (K (h 109 18) h)) ∧ (x1 = 2 → (K (h 109 20) h)) ∧ (x1 = 3 → (K (h 117 0) h)) ∧ (x1 = 4 → (K (h 119 0) h)) ∧ (x1 = 5 → (K (h 121 0) h)) ∧ (x1 = 6 → (K (h 109 13) h)) ∧ ((x1 ≠ 0 ∧ x1 ≠ 1 ∧ x1 ≠ 2 ∧ x1 ≠ 3 ∧ x1 ≠ 4 ∧ x1 ≠ 5 ∧ x1 ≠ 6) → (K ((-1)) h)))) : wI d m_M_count 0 [(0, vR 109), (1, vI x1)] [] h K := by
  refine w_iload_n rfl rfl ?_
  obtain ⟨b1, F⟩ := F
  obtain ⟨F0, F1, F2, F3, F4, F5, F6, Fd⟩ := F
  by_cases q2 : x1 = 0
  · have F := F0 q2
    refine w_tabIn (a := x1) (tgt := 44) (off := 43) rfl b1 (by omega) (by omega) (by rw [q2]; rfl) (by decide) ?_
    refine w_aload_n rfl rfl ?_
    refine w_getR rfl f_M_7 rfl rfl rfl rfl rfl ?_
    refine w_iconst rfl ?_
    refine w_iaload rfl rfl rfl ⟨by decide, by decide⟩ ?_
    exact w_iret rfl rfl ⟨rfl, rfl, _, rfl, F⟩
  by_cases q3 : x1 = 1
  · have F := F1 q3
    refine w_tabIn (a := x1) (tgt := 51) (off := 50) rfl b1 (by omega) (by omega) (by rw [q3]; rfl) (by decide) ?_
    refine w_aload_n rfl rfl ?_
    refine w_getI rfl f_M_154 rfl rfl rfl ?_
    exact w_iret rfl rfl ⟨rfl, rfl, _, rfl, F⟩
  by_cases q4 : x1 = 2
  · have F := F2 q4
    refine w_tabIn (a := x1) (tgt := 56) (off := 55) rfl b1 (by omega) (by omega) (by rw [q4]; rfl) (by decide) ?_
    refine w_aload_n rfl rfl ?_
    refine w_getI rfl f_M_183 rfl rfl rfl ?_
    exact w_iret rfl rfl ⟨rfl, rfl, _, rfl, F⟩
  by_cases q5 : x1 = 3
  · have F := F3 q5
    refine w_tabIn (a := x1) (tgt := 61) (off := 60) rfl b1 (by omega) (by omega) (by rw [q5]; rfl) (by decide) ?_
    refine w_aload_n rfl rfl ?_
    refine w_getR rfl f_M_31 rfl rfl rfl rfl rfl ?_
    refine w_iconst rfl ?_
    refine w_iaload rfl rfl rfl ⟨by decide, by decide⟩ ?_
    exact w_iret rfl rfl ⟨rfl, rfl, _, rfl, F⟩
  by_cases q6 : x1 = 4
  · have F := F4 q6
    refine w_tabIn (a := x1) (tgt := 68) (off := 67) rfl b1 (by omega) (by omega) (by rw [q6]; rfl) (by decide) ?_
    refine w_aload_n rfl rfl ?_
    refine w_getR rfl f_M_37 rfl rfl rfl rfl rfl ?_
    refine w_iconst rfl ?_
    refine w_iaload rfl rfl rfl ⟨by decide, by decide⟩ ?_
    exact w_iret rfl rfl ⟨rfl, rfl, _, rfl, F⟩
  by_cases q7 : x1 = 5
  · have F := F5 q7
    refine w_tabIn (a := x1) (tgt := 75) (off := 74) rfl b1 (by omega) (by omega) (by rw [q7]; rfl) (by decide) ?_
    refine w_aload_n rfl rfl ?_
    refine w_getR rfl f_M_43 rfl rfl rfl rfl rfl ?_
    refine w_iconst rfl ?_
    refine w_iaload rfl rfl rfl ⟨by decide, by decide⟩ ?_
    exact w_iret rfl rfl ⟨rfl, rfl, _, rfl, F⟩
  by_cases q8 : x1 = 6
  · have F := F6 q8
    refine w_tabIn (a := x1) (tgt := 82) (off := 81) rfl b1 (by omega) (by omega) (by rw [q8]; rfl) (by decide) ?_
    refine w_aload_n rfl rfl ?_
    refine w_getI rfl f_M_304 rfl rfl rfl ?_
    exact w_iret rfl rfl ⟨rfl, rfl, _, rfl, F⟩
  have F := Fd ⟨q2, q3, q4, q5, q6, q7, q8⟩
  refine w_tabOut (a := x1) (tgt := 87) rfl (by decide) b1 (by omega) ?_
  refine w_iconst rfl ?_
  exact w_iret rfl rfl ⟨rfl, rfl, _, rfl, F⟩
theorem s_Places_settle_0 {d : Nat}  (x1 x2 x3 : Int) (h : St) (K : Int → St → Prop) (F : (0 ≤ x1 ∧ x1 < 4) ∧ (K ((16 * (h 86 x1.toNat)) + (h 87 x1.toNat)) (up (up h 86 x1.toNat x2) 87 x1.toNat x3))) : wI d m_Places_settle 0 [(0, vR 85), (1, vI x1), (2, vI x2), (3, vI x3)] [] h K := by
  refine w_bipush (by decide) (by decide) rfl ?_
  refine w_aload_n rfl rfl ?_
  refine w_getR rfl f_Places_11 rfl rfl rfl rfl rfl ?_
  refine w_iload_n rfl rfl ?_
  obtain ⟨b1, F⟩ := F
  refine w_iaload rfl rfl rfl b1 ?_
  refine w_imul rfl ?_
  refine w_aload_n rfl rfl ?_
  refine w_getR rfl f_Places_15 rfl rfl rfl rfl rfl ?_
  refine w_iload_n rfl rfl ?_
  refine w_iaload rfl rfl rfl b1 ?_
  refine w_iadd rfl ?_
  refine w_istore rfl rfl rfl rfl (w_ls (ls2 := [(0, vR 85), (1, vI x1), (2, vI x2), (3, vI x3), (4, vI ((16 * (h 86 x1.toNat)) + (h 87 x1.toNat)))]) rfl ?_)
  refine w_aload_n rfl rfl ?_
  refine w_getR rfl f_Places_11 rfl rfl rfl rfl rfl ?_
  refine w_iload_n rfl rfl ?_
  refine w_iload_n rfl rfl ?_
  refine w_iastore rfl rfl rfl b1 ?_
  refine w_aload_n rfl rfl ?_
  refine w_getR rfl f_Places_15 rfl rfl rfl rfl rfl ?_
  refine w_iload_n rfl rfl ?_
  refine w_iload_n rfl rfl ?_
  refine w_iastore rfl rfl rfl b1 ?_
  refine w_iload rfl rfl ?_
  exact w_iret rfl rfl ⟨rfl, rfl, _, rfl, F⟩
theorem s_C_hearer_0 {d : Nat}  (x1 x2 x3 : Int) (h : St) (K : Int → St → Prop) (F : (inR x1) ∧ ((¬ (0 ≤ x1 ∧ x1 ≤ 3) → (K ((-1)) h)) ∧ (0 ≤ x1 ∧ x1 ≤ 3 → (inR x2) ∧ (inR x3) ∧ (((0 ≤ x2 ∧ x2 ≤ 15) ∧ (0 ≤ x3 ∧ x3 ≤ 15) → (mwpI (d + 2) m_Places_settle [vR 85, vI x1, vI x2, vI x3] h (fun z6 h6 => (K z6 h6)))) ∧ (¬ ((0 ≤ x2 ∧ x2 ≤ 15) ∧ (0 ≤ x3 ∧ x3 ≤ 15)) → (K ((-1)) h)))))) : wI (d + 2) m_C_hearer 0 [(0, vR 0), (1, vI x1), (2, vI x2), (3, vI x3)] [] h K := by
  refine w_iload_n rfl rfl ?_
  obtain ⟨b1, F⟩ := F
  refine c_SI [vI x1] [] rfl b_C_isHearer k_C_259 rfl rfl rfl (c_C_isHearer b1 ?_)
  refine w_ifeq_b (tgt := 15) rfl (by decide) (fun q2 => ?_) (fun q2 => ?_)
  · replace F := F.1 q2
    refine w_iconst rfl ?_
    exact w_iret rfl rfl ⟨rfl, rfl, _, rfl, F⟩
  · replace F := F.2 q2
    refine w_iload_n rfl rfl ?_
    refine w_iload_n rfl rfl ?_
    obtain ⟨b3, F⟩ := F
    obtain ⟨b4, F⟩ := F
    refine c_SI [vI x2, vI x3] [] rfl b_C_isCell k_C_262 rfl rfl rfl (c_C_isCell b3 b4 ?_)
    refine w_ifne_b (tgt := 17) rfl (by decide) (fun q5 => ?_) (fun q5 => ?_)
    · replace F := F.1 q5
      refine w_aload_n rfl rfl ?_
      refine w_getR rfl f_C_61 rfl rfl rfl rfl rfl ?_
      refine w_iload_n rfl rfl ?_
      refine w_iload_n rfl rfl ?_
      refine w_iload_n rfl rfl ?_
      refine c_VI [vI x1, vI x2, vI x3] [] rfl b_Places_settle k_C_265 rfl rfl rfl rfl rfl rfl (mwpI_mono (fun z6 h6 F => ?_) F)
      exact w_iret rfl rfl ⟨rfl, rfl, _, rfl, F⟩
    · replace F := F.2 q5
      refine w_iconst rfl ?_
      exact w_iret rfl rfl ⟨rfl, rfl, _, rfl, F⟩
theorem s_M_hearer_0 {d : Nat}  (x1 x2 x3 : Int) (h : St) (K : Int → St → Prop) (F : (inR x1) ∧ ((¬ (0 ≤ x1 ∧ x1 ≤ 3) → (K ((-1)) h)) ∧ (0 ≤ x1 ∧ x1 ≤ 3 → (inR x2) ∧ (inR x3) ∧ (((0 ≤ x2 ∧ x2 ≤ 15) ∧ (0 ≤ x3 ∧ x3 ≤ 15) → (0 ≤ x1 ∧ x1 < 4) ∧ (K ((16 * (h 123 x1.toNat)) + (h 124 x1.toNat)) (up (up h 123 x1.toNat x2) 124 x1.toNat x3))) ∧ (¬ ((0 ≤ x2 ∧ x2 ≤ 15) ∧ (0 ≤ x3 ∧ x3 ≤ 15)) → (K ((-1)) h)))))) : wI (d + 2) m_M_hearer 0 [(0, vR 109), (1, vI x1), (2, vI x2), (3, vI x3)] [] h K := by
  refine w_iload_n rfl rfl ?_
  obtain ⟨b1, F⟩ := F
  refine w_i2l b1 rfl ?_
  refine w_lconst rfl ?_
  refine w_ldc2 (z := 3) kc_M_164 (by decide) rfl ?_
  refine c_SI [vJ x1, vJ 0, vJ 3] [] rfl b_M_in k_M_130 rfl rfl rfl (c_M_in (inL_of b1) (by decide) (by decide) ?_)
  refine w_ifeq_b (tgt := 20) rfl (by decide) (fun q2 => ?_) (fun q2 => ?_)
  · replace F := F.1 q2
    refine w_iconst rfl ?_
    exact w_iret rfl rfl ⟨rfl, rfl, _, rfl, F⟩
  · replace F := F.2 q2
    refine w_iload_n rfl rfl ?_
    refine w_iload_n rfl rfl ?_
    obtain ⟨b3, F⟩ := F
    obtain ⟨b4, F⟩ := F
    refine c_SI [vI x2, vI x3] [] rfl b_M_isCell k_M_285 rfl rfl rfl (c_M_isCell b3 b4 ?_)
    refine w_ifne_b (tgt := 22) rfl (by decide) (fun q5 => ?_) (fun q5 => ?_)
    · replace F := F.1 q5
      refine w_bipush (by decide) (by decide) rfl ?_
      refine w_aload_n rfl rfl ?_
      refine w_getR rfl f_M_56 rfl rfl rfl rfl rfl ?_
      refine w_iload_n rfl rfl ?_
      obtain ⟨b6, F⟩ := F
      refine w_iaload rfl rfl rfl b6 ?_
      refine w_imul rfl ?_
      refine w_aload_n rfl rfl ?_
      refine w_getR rfl f_M_59 rfl rfl rfl rfl rfl ?_
      refine w_iload_n rfl rfl ?_
      refine w_iaload rfl rfl rfl b6 ?_
      refine w_iadd rfl ?_
      refine w_istore rfl rfl rfl rfl (w_ls (ls2 := [(0, vR 109), (1, vI x1), (2, vI x2), (3, vI x3), (4, vI ((16 * (h 123 x1.toNat)) + (h 124 x1.toNat)))]) rfl ?_)
      refine w_aload_n rfl rfl ?_
      refine w_getR rfl f_M_56 rfl rfl rfl rfl rfl ?_
      refine w_iload_n rfl rfl ?_
      refine w_iload_n rfl rfl ?_
      refine w_iastore rfl rfl rfl b6 ?_
      refine w_aload_n rfl rfl ?_
      refine w_getR rfl f_M_59 rfl rfl rfl rfl rfl ?_
      refine w_iload_n rfl rfl ?_
      refine w_iload_n rfl rfl ?_
      refine w_iastore rfl rfl rfl b6 ?_
      refine w_iload rfl rfl ?_
      exact w_iret rfl rfl ⟨rfl, rfl, _, rfl, F⟩
    · replace F := F.2 q5
      refine w_iconst rfl ?_
      exact w_iret rfl rfl ⟨rfl, rfl, _, rfl, F⟩
theorem s_Silence_addEvent_0 {d : Nat}  (x1 : Int) (h : St) (K : Int → St → Prop) (F : (0 ≤ h 96 1 ∧ h 96 1 < 10) ∧ (K ((h 96 1) + 1) (up (up h 100 ((h 96 1).toNat) x1) 96 1 ((h 96 1) + 1)))) : wI d m_Silence_addEvent 0 [(0, vR 96), (1, vI x1)] [] h K := by
  refine w_aload_n rfl rfl ?_
  refine w_getR rfl f_Silence_28 rfl rfl rfl rfl rfl ?_
  refine w_aload_n rfl rfl ?_
  refine w_getI rfl f_Silence_15 rfl rfl rfl ?_
  refine w_iload_n rfl rfl ?_
  obtain ⟨b1, F⟩ := F
  refine w_iastore rfl rfl rfl b1 ?_
  refine w_aload_n rfl rfl ?_
  refine w_dup rfl rfl ?_
  refine w_getI rfl f_Silence_15 rfl rfl rfl ?_
  refine w_iconst rfl ?_
  refine w_iadd rfl ?_
  refine w_putI rfl f_Silence_15 fw_8_1 rfl rfl rfl ?_
  refine w_aload_n rfl rfl ?_
  refine w_getI rfl f_Silence_15 rfl rfl rfl ?_
  exact w_iret rfl rfl ⟨rfl, rfl, _, rfl, F⟩
theorem s_C_event_0 {d : Nat}  (x1 : Int) (h : St) (K : Int → St → Prop) (F : (inR x1) ∧ ((0 ≤ x1 ∧ x1 ≤ 479 → (inR (h 96 1)) ∧ (((h 96 1) < 10 → (mwpI (d + 2) m_Silence_addEvent [vR 96, vI x1] h (fun z5 h5 => (K z5 h5)))) ∧ (¬ ((h 96 1) < 10) → (K ((-3)) h)))) ∧ (¬ (0 ≤ x1 ∧ x1 ≤ 479) → (K ((-1)) h)))) : wI (d + 2) m_C_event 0 [(0, vR 0), (1, vI x1)] [] h K := by
  refine w_iload_n rfl rfl ?_
  obtain ⟨b1, F⟩ := F
  refine c_SI [vI x1] [] rfl b_C_isHour k_C_100 rfl rfl rfl (c_C_isHour b1 ?_)
  refine w_ifne_b (tgt := 9) rfl (by decide) (fun q2 => ?_) (fun q2 => ?_)
  · replace F := F.1 q2
    refine w_aload_n rfl rfl ?_
    refine w_getR rfl f_C_68 rfl rfl rfl rfl rfl ?_
    refine w_getI rfl f_C_311 rfl rfl rfl ?_
    refine w_bipush (by decide) (by decide) rfl ?_
    obtain ⟨b3, F⟩ := F
    refine w_icmp_lt (tgt := 24) rfl (by decide) ⟨b3, (r_lit rfl)⟩ (fun q4 => ?_) (fun q4 => ?_)
    · replace F := F.1 q4
      refine w_aload_n rfl rfl ?_
      refine w_getR rfl f_C_68 rfl rfl rfl rfl rfl ?_
      refine w_iload_n rfl rfl ?_
      refine c_VI [vI x1] [] rfl b_Silence_addEvent k_C_314 rfl rfl rfl rfl rfl rfl (mwpI_mono (fun z5 h5 F => ?_) F)
      exact w_iret rfl rfl ⟨rfl, rfl, _, rfl, F⟩
    · replace F := F.2 q4
      refine w_bipush (by decide) (by decide) rfl ?_
      exact w_iret rfl rfl ⟨rfl, rfl, _, rfl, F⟩
  · replace F := F.2 q2
    refine w_iconst rfl ?_
    exact w_iret rfl rfl ⟨rfl, rfl, _, rfl, F⟩
theorem s_M_event_0 {d : Nat}  (x1 : Int) (h : St) (K : Int → St → Prop) (F : (inR x1) ∧ ((0 ≤ x1 ∧ x1 ≤ 479 → (inR (h 121 0)) ∧ (((h 121 0) ≠ 10 → (0 ≤ h 121 0 ∧ h 121 0 < 30) ∧ (K ((h 121 0) + 1) (up (up h 122 ((h 121 0).toNat) x1) 121 0 ((h 121 0) + 1)))) ∧ (¬ ((h 121 0) ≠ 10) → (K ((-3)) h)))) ∧ (¬ (0 ≤ x1 ∧ x1 ≤ 479) → (K ((-1)) h)))) : wI (d + 2) m_M_event 0 [(0, vR 109), (1, vI x1)] [] h K := by
  refine w_iload_n rfl rfl ?_
  obtain ⟨b1, F⟩ := F
  refine c_SI [vI x1] [] rfl b_M_isHour k_M_145 rfl rfl rfl (c_M_isHour b1 ?_)
  refine w_ifne_b (tgt := 9) rfl (by decide) (fun q2 => ?_) (fun q2 => ?_)
  · replace F := F.1 q2
    refine w_aload_n rfl rfl ?_
    refine w_getR rfl f_M_43 rfl rfl rfl rfl rfl ?_
    refine w_iconst rfl ?_
    refine w_iaload rfl rfl rfl ⟨by decide, by decide⟩ ?_
    refine w_bipush (by decide) (by decide) rfl ?_
    obtain ⟨b3, F⟩ := F
    refine w_icmp_ne (tgt := 23) rfl (by decide) ⟨b3, (r_lit rfl)⟩ (fun q4 => ?_) (fun q4 => ?_)
    · replace F := F.1 q4
      refine w_aload_n rfl rfl ?_
      refine w_getR rfl f_M_46 rfl rfl rfl rfl rfl ?_
      refine w_aload_n rfl rfl ?_
      refine w_getR rfl f_M_43 rfl rfl rfl rfl rfl ?_
      refine w_iconst rfl ?_
      refine w_iaload rfl rfl rfl ⟨by decide, by decide⟩ ?_
      refine w_iload_n rfl rfl ?_
      obtain ⟨b5, F⟩ := F
      refine w_iastore rfl rfl rfl b5 ?_
      refine w_aload_n rfl rfl ?_
      refine w_getR rfl f_M_43 rfl rfl rfl rfl rfl ?_
      refine w_iconst rfl ?_
      refine w_dup2 rfl rfl rfl ?_
      refine w_iaload rfl rfl rfl ⟨by decide, by decide⟩ ?_
      refine w_iconst rfl ?_
      refine w_iadd rfl ?_
      refine w_iastore rfl rfl rfl ⟨by decide, by decide⟩ ?_
      refine w_aload_n rfl rfl ?_
      refine w_getR rfl f_M_43 rfl rfl rfl rfl rfl ?_
      refine w_iconst rfl ?_
      refine w_iaload rfl rfl rfl ⟨by decide, by decide⟩ ?_
      exact w_iret rfl rfl ⟨rfl, rfl, _, rfl, F⟩
    · replace F := F.2 q4
      refine w_bipush (by decide) (by decide) rfl ?_
      exact w_iret rfl rfl ⟨rfl, rfl, _, rfl, F⟩
  · replace F := F.2 q2
    refine w_iconst rfl ?_
    exact w_iret rfl rfl ⟨rfl, rfl, _, rfl, F⟩
theorem s_Silence_addListened_0 {d : Nat}  (x1 x2 x3 : Int) (h : St) (K : Int → St → Prop) (F : (0 ≤ h 96 0 ∧ h 96 0 < 20) ∧ (K ((h 96 0) + 1) (up (up (up (up h 97 ((h 96 0).toNat) x1) 98 ((h 96 0).toNat) x2) 99 ((h 96 0).toNat) x3) 96 0 ((h 96 0) + 1)))) : wI d m_Silence_addListened 0 [(0, vR 96), (1, vI x1), (2, vI x2), (3, vI x3)] [] h K := by
  refine w_aload_n rfl rfl ?_
  refine w_getR rfl f_Silence_18 rfl rfl rfl rfl rfl ?_
  refine w_aload_n rfl rfl ?_
  refine w_getI rfl f_Silence_9 rfl rfl rfl ?_
  refine w_iload_n rfl rfl ?_
  obtain ⟨b1, F⟩ := F
  refine w_iastore rfl rfl rfl b1 ?_
  refine w_aload_n rfl rfl ?_
  refine w_getR rfl f_Silence_22 rfl rfl rfl rfl rfl ?_
  refine w_aload_n rfl rfl ?_
  refine w_getI rfl f_Silence_9 rfl rfl rfl ?_
  refine w_iload_n rfl rfl ?_
  refine w_iastore rfl rfl rfl b1 ?_
  refine w_aload_n rfl rfl ?_
  refine w_getR rfl f_Silence_25 rfl rfl rfl rfl rfl ?_
  refine w_aload_n rfl rfl ?_
  refine w_getI rfl f_Silence_9 rfl rfl rfl ?_
  refine w_iload_n rfl rfl ?_
  refine w_iastore rfl rfl rfl b1 ?_
  refine w_aload_n rfl rfl ?_
  refine w_dup rfl rfl ?_
  refine w_getI rfl f_Silence_9 rfl rfl rfl ?_
  refine w_iconst rfl ?_
  refine w_iadd rfl ?_
  refine w_putI rfl f_Silence_9 fw_8_0 rfl rfl rfl ?_
  refine w_aload_n rfl rfl ?_
  refine w_getI rfl f_Silence_9 rfl rfl rfl ?_
  exact w_iret rfl rfl ⟨rfl, rfl, _, rfl, F⟩
theorem s_C_listen_0 {d : Nat}  (x1 x2 x3 : Int) (h : St) (K : Int → St → Prop) (F : (inR x1) ∧ ((¬ (0 ≤ x1 ∧ x1 ≤ 7) → (K ((-1)) h)) ∧ (0 ≤ x1 ∧ x1 ≤ 7 → (inR x2) ∧ ((¬ (0 ≤ x2 ∧ x2 ≤ 479) → (K ((-1)) h)) ∧ (0 ≤ x2 ∧ x2 ≤ 479 → (inR x3) ∧ ((¬ (0 ≤ x3 ∧ x3 ≤ 479) → (K ((-1)) h)) ∧ (0 ≤ x3 ∧ x3 ≤ 479 → ((x2 ≤ x3 → (inR (h 96 0)) ∧ (((h 96 0) < 20 → (mwpI (d + 2) m_Silence_addListened [vR 96, vI x1, vI x2, vI x3] h (fun z10 h10 => (K z10 h10)))) ∧ (¬ ((h 96 0) < 20) → (K ((-3)) h)))) ∧ (¬ (x2 ≤ x3) → (K ((-1)) h)))))))))) : wI (d + 2) m_C_listen 0 [(0, vR 0), (1, vI x1), (2, vI x2), (3, vI x3)] [] h K := by
  refine w_iload_n rfl rfl ?_
  obtain ⟨b1, F⟩ := F
  refine c_SI [vI x1] [] rfl b_C_isWave k_C_107 rfl rfl rfl (c_C_isWave b1 ?_)
  refine w_ifeq_b (tgt := 26) rfl (by decide) (fun q2 => ?_) (fun q2 => ?_)
  · replace F := F.1 q2
    refine w_iconst rfl ?_
    exact w_iret rfl rfl ⟨rfl, rfl, _, rfl, F⟩
  · replace F := F.2 q2
    refine w_iload_n rfl rfl ?_
    obtain ⟨b3, F⟩ := F
    refine c_SI [vI x2] [] rfl b_C_isHour k_C_100 rfl rfl rfl (c_C_isHour b3 ?_)
    refine w_ifeq_b (tgt := 26) rfl (by decide) (fun q4 => ?_) (fun q4 => ?_)
    · replace F := F.1 q4
      refine w_iconst rfl ?_
      exact w_iret rfl rfl ⟨rfl, rfl, _, rfl, F⟩
    · replace F := F.2 q4
      refine w_iload_n rfl rfl ?_
      obtain ⟨b5, F⟩ := F
      refine c_SI [vI x3] [] rfl b_C_isHour k_C_100 rfl rfl rfl (c_C_isHour b5 ?_)
      refine w_ifeq_b (tgt := 26) rfl (by decide) (fun q6 => ?_) (fun q6 => ?_)
      · replace F := F.1 q6
        refine w_iconst rfl ?_
        exact w_iret rfl rfl ⟨rfl, rfl, _, rfl, F⟩
      · replace F := F.2 q6
        refine w_iload_n rfl rfl ?_
        refine w_iload_n rfl rfl ?_
        refine w_icmp_le (tgt := 28) rfl (by decide) ⟨b3, b5⟩ (fun q7 => ?_) (fun q7 => ?_)
        · replace F := F.1 q7
          refine w_aload_n rfl rfl ?_
          refine w_getR rfl f_C_68 rfl rfl rfl rfl rfl ?_
          refine w_getI rfl f_C_295 rfl rfl rfl ?_
          refine w_bipush (by decide) (by decide) rfl ?_
          obtain ⟨b8, F⟩ := F
          refine w_icmp_lt (tgt := 43) rfl (by decide) ⟨b8, (r_lit rfl)⟩ (fun q9 => ?_) (fun q9 => ?_)
          · replace F := F.1 q9
            refine w_aload_n rfl rfl ?_
            refine w_getR rfl f_C_68 rfl rfl rfl rfl rfl ?_
            refine w_iload_n rfl rfl ?_
            refine w_iload_n rfl rfl ?_
            refine w_iload_n rfl rfl ?_
            refine c_VI [vI x1, vI x2, vI x3] [] rfl b_Silence_addListened k_C_298 rfl rfl rfl rfl rfl rfl (mwpI_mono (fun z10 h10 F => ?_) F)
            exact w_iret rfl rfl ⟨rfl, rfl, _, rfl, F⟩
          · replace F := F.2 q9
            refine w_bipush (by decide) (by decide) rfl ?_
            exact w_iret rfl rfl ⟨rfl, rfl, _, rfl, F⟩
        · replace F := F.2 q7
          refine w_iconst rfl ?_
          exact w_iret rfl rfl ⟨rfl, rfl, _, rfl, F⟩
theorem s_M_listen_0 {d : Nat}  (x1 x2 x3 : Int) (h : St) (K : Int → St → Prop) (F : (inR x1) ∧ ((¬ (0 ≤ x1 ∧ x1 ≤ 7) → (K ((-1)) h)) ∧ (0 ≤ x1 ∧ x1 ≤ 7 → (inR x2) ∧ ((¬ (0 ≤ x2 ∧ x2 ≤ 479) → (K ((-1)) h)) ∧ (0 ≤ x2 ∧ x2 ≤ 479 → (inR x3) ∧ ((x2 ≤ x3 ∧ x3 ≤ 479 → (inR (h 119 0)) ∧ (((h 119 0) ≠ 20 → (0 ≤ 3 * (h 119 0) ∧ 3 * (h 119 0) < 180) ∧ (0 ≤ (3 * (h 119 0)) + 1 ∧ (3 * (h 119 0)) + 1 < 180) ∧ (0 ≤ (3 * (h 119 0)) + 2 ∧ (3 * (h 119 0)) + 2 < 180) ∧ (K ((h 119 0) + 1) (up (up (up (up h 120 ((3 * (h 119 0)).toNat) x1) 120 (((3 * (h 119 0)) + 1).toNat) x2) 120 (((3 * (h 119 0)) + 2).toNat) x3) 119 0 ((h 119 0) + 1)))) ∧ (¬ ((h 119 0) ≠ 20) → (K ((-3)) h)))) ∧ (¬ (x2 ≤ x3 ∧ x3 ≤ 479) → (K ((-1)) h)))))))) : wI (d + 2) m_M_listen 0 [(0, vR 109), (1, vI x1), (2, vI x2), (3, vI x3)] [] h K := by
  refine w_iload_n rfl rfl ?_
  obtain ⟨b1, F⟩ := F
  refine w_i2l b1 rfl ?_
  refine w_lconst rfl ?_
  refine w_ldc2 (z := 7) kc_M_150 (by decide) rfl ?_
  refine c_SI [vJ x1, vJ 0, vJ 7] [] rfl b_M_in k_M_130 rfl rfl rfl (c_M_in (inL_of b1) (by decide) (by decide) ?_)
  refine w_ifeq_b (tgt := 32) rfl (by decide) (fun q2 => ?_) (fun q2 => ?_)
  · replace F := F.1 q2
    refine w_iconst rfl ?_
    exact w_iret rfl rfl ⟨rfl, rfl, _, rfl, F⟩
  · replace F := F.2 q2
    refine w_iload_n rfl rfl ?_
    obtain ⟨b3, F⟩ := F
    refine c_SI [vI x2] [] rfl b_M_isHour k_M_145 rfl rfl rfl (c_M_isHour b3 ?_)
    refine w_ifeq_b (tgt := 32) rfl (by decide) (fun q4 => ?_) (fun q4 => ?_)
    · replace F := F.1 q4
      refine w_iconst rfl ?_
      exact w_iret rfl rfl ⟨rfl, rfl, _, rfl, F⟩
    · replace F := F.2 q4
      refine w_iload_n rfl rfl ?_
      obtain ⟨b5, F⟩ := F
      refine w_i2l b5 rfl ?_
      refine w_iload_n rfl rfl ?_
      refine w_i2l b3 rfl ?_
      refine w_ldc2 (z := 479) kc_M_136 (by decide) rfl ?_
      refine c_SI [vJ x3, vJ x2, vJ 479] [] rfl b_M_in k_M_130 rfl rfl rfl (c_M_in (inL_of b5) (inL_of b3) (by decide) ?_)
      refine w_ifne_b (tgt := 34) rfl (by decide) (fun q6 => ?_) (fun q6 => ?_)
      · replace F := F.1 q6
        refine w_aload_n rfl rfl ?_
        refine w_getR rfl f_M_37 rfl rfl rfl rfl rfl ?_
        refine w_iconst rfl ?_
        refine w_iaload rfl rfl rfl ⟨by decide, by decide⟩ ?_
        refine w_bipush (by decide) (by decide) rfl ?_
        obtain ⟨b7, F⟩ := F
        refine w_icmp_ne (tgt := 48) rfl (by decide) ⟨b7, (r_lit rfl)⟩ (fun q8 => ?_) (fun q8 => ?_)
        · replace F := F.1 q8
          refine w_iconst rfl ?_
          refine w_aload_n rfl rfl ?_
          refine w_getR rfl f_M_37 rfl rfl rfl rfl rfl ?_
          refine w_iconst rfl ?_
          refine w_iaload rfl rfl rfl ⟨by decide, by decide⟩ ?_
          refine w_imul rfl ?_
          refine w_istore rfl rfl rfl rfl (w_ls (ls2 := [(0, vR 109), (1, vI x1), (2, vI x2), (3, vI x3), (4, vI (3 * (h 119 0)))]) rfl ?_)
          refine w_aload_n rfl rfl ?_
          refine w_getR rfl f_M_40 rfl rfl rfl rfl rfl ?_
          refine w_iload rfl rfl ?_
          refine w_iload_n rfl rfl ?_
          obtain ⟨b9, F⟩ := F
          refine w_iastore rfl rfl rfl b9 ?_
          refine w_aload_n rfl rfl ?_
          refine w_getR rfl f_M_40 rfl rfl rfl rfl rfl ?_
          refine w_iload rfl rfl ?_
          refine w_iconst rfl ?_
          refine w_iadd rfl ?_
          refine w_iload_n rfl rfl ?_
          obtain ⟨b10, F⟩ := F
          refine w_iastore rfl rfl rfl b10 ?_
          refine w_aload_n rfl rfl ?_
          refine w_getR rfl f_M_40 rfl rfl rfl rfl rfl ?_
          refine w_iload rfl rfl ?_
          refine w_iconst rfl ?_
          refine w_iadd rfl ?_
          refine w_iload_n rfl rfl ?_
          obtain ⟨b11, F⟩ := F
          refine w_iastore rfl rfl rfl b11 ?_
          refine w_aload_n rfl rfl ?_
          refine w_getR rfl f_M_37 rfl rfl rfl rfl rfl ?_
          refine w_iconst rfl ?_
          refine w_dup2 rfl rfl rfl ?_
          refine w_iaload rfl rfl rfl ⟨by decide, by decide⟩ ?_
          refine w_iconst rfl ?_
          refine w_iadd rfl ?_
          refine w_iastore rfl rfl rfl ⟨by decide, by decide⟩ ?_
          refine w_aload_n rfl rfl ?_
          refine w_getR rfl f_M_37 rfl rfl rfl rfl rfl ?_
          refine w_iconst rfl ?_
          refine w_iaload rfl rfl rfl ⟨by decide, by decide⟩ ?_
          exact w_iret rfl rfl ⟨rfl, rfl, _, rfl, F⟩
        · replace F := F.2 q8
          refine w_bipush (by decide) (by decide) rfl ?_
          exact w_iret rfl rfl ⟨rfl, rfl, _, rfl, F⟩
      · replace F := F.2 q6
        refine w_iconst rfl ?_
        exact w_iret rfl rfl ⟨rfl, rfl, _, rfl, F⟩
theorem lit_R (z : Int) (h1 : -2147483648 ≤ z) (h2 : z < 2147483648) : inR z := ⟨h1, h2⟩
theorem P_apart {KK : Int → Int → St → Prop} {h : St} (hr : Rel h) {a1 : Int} (r1 : inR a1) (k : ∀ z h2, inR z → Rel h2 → KK z z h2) : mwpI 40 m_C_apart [vR 0, vI a1] h (fun z h1 => mwpI 40 m_M_apart [vR 109, vI a1] h1 (fun z2 h2 => KK z z2 h2)) := by
  refine mI_intro b_C_apart rfl (s_C_apart_0 (d := 38) a1 h _ ⟨r1, fun q => ?_, fun q => ?_⟩)
  · refine mI_intro b_M_apart rfl (s_M_apart_0 (d := 38) a1 _ _ ⟨r1, fun _ => ?_, fun q2 => absurd q q2⟩)
    obtain ⟨c1, c2, c3, c4, c5, c6, c7, c8, c9⟩ := hr
    have e1 : up h 57 0 a1 109 14 = h 57 0 := by rw [up_ne (by omega)]; exact c4.1.symm
    rw [e1]
    have ag9 : ag (fun c k => ¬ dTH c k) h (up (up h 57 0 a1) 109 14 a1) := ag_up (by omega) (ag_up (by omega) ag_rfl)
    refine k _ _ (lit_R _ (by have := c4.2.1; omega) (by have := c4.2.1; omega)) ⟨RLog_c (ag_sub (fun c k p => by omega) ag9) c1, RTxt_c (ag_sub (fun c k p => by omega) ag9) c2, RBk_c (ag_sub (fun c k p => by omega) ag9) c3, ?_, RHr_c (ag_sub (fun c k p => by omega) ag9) c5, RBr_c (ag_sub (fun c k p => by omega) ag9) c6, RLs_c (ag_sub (fun c k p => by omega) ag9) c7, REv_c (ag_sub (fun c k p => by omega) ag9) c8, RKp_c (ag_sub (fun c k p => by omega) ag9) c9⟩
    unfold RTH at c4 ⊢
    simp only [up]
    simp
    omega
  · refine mI_intro b_M_apart rfl (s_M_apart_0 (d := 38) a1 _ _ ⟨r1, fun q2 => absurd q2 q, fun _ => ?_⟩)
    exact k _ _ (by decide) hr
theorem P_within {KK : Int → Int → St → Prop} {h : St} (hr : Rel h) {a1 : Int} (r1 : inR a1) (k : ∀ z h2, inR z → Rel h2 → KK z z h2) : mwpI 40 m_C_within [vR 0, vI a1] h (fun z h1 => mwpI 40 m_M_within [vR 109, vI a1] h1 (fun z2 h2 => KK z z2 h2)) := by
  refine mI_intro b_C_within rfl (s_C_within_0 (d := 38) a1 h _ ⟨r1, fun q => ?_, fun q => ?_⟩)
  · refine mI_intro b_M_within rfl (s_M_within_0 (d := 38) a1 _ _ ⟨r1, fun _ => ?_, fun q2 => absurd q q2⟩)
    obtain ⟨c1, c2, c3, c4, c5, c6, c7, c8, c9⟩ := hr
    have e1 : up h 77 0 a1 109 15 = h 77 0 := by rw [up_ne (by omega)]; exact c4.2.2.1.symm
    rw [e1]
    have ag9 : ag (fun c k => ¬ dTH c k) h (up (up h 77 0 a1) 109 15 a1) := ag_up (by omega) (ag_up (by omega) ag_rfl)
    refine k _ _ (lit_R _ (by have := c4.2.2; omega) (by have := c4.2.2; omega)) ⟨RLog_c (ag_sub (fun c k p => by omega) ag9) c1, RTxt_c (ag_sub (fun c k p => by omega) ag9) c2, RBk_c (ag_sub (fun c k p => by omega) ag9) c3, ?_, RHr_c (ag_sub (fun c k p => by omega) ag9) c5, RBr_c (ag_sub (fun c k p => by omega) ag9) c6, RLs_c (ag_sub (fun c k p => by omega) ag9) c7, REv_c (ag_sub (fun c k p => by omega) ag9) c8, RKp_c (ag_sub (fun c k p => by omega) ag9) c9⟩
    unfold RTH at c4 ⊢
    simp only [up]
    simp
    omega
  · refine mI_intro b_M_within rfl (s_M_within_0 (d := 38) a1 _ _ ⟨r1, fun q2 => absurd q2 q, fun _ => ?_⟩)
    exact k _ _ (by decide) hr
theorem P_wipe {KK : Int → Int → St → Prop} {h : St} (hr : Rel h) (k : ∀ z h2, inR z → Rel h2 → KK z z h2) : mwpI 40 m_C_wipe [vR 0] h (fun z h1 => mwpI 40 m_M_wipe [vR 109] h1 (fun z2 h2 => KK z z2 h2)) := by
  refine mI_intro b_C_wipe rfl (s_C_wipe_0 (d := 39) h _ ?_)
  refine mI_intro b_M_wipe rfl (s_M_wipe_0 (d := 39) _ _ ?_)
  obtain ⟨c1, ⟨n, tx, t1, t2, t3⟩, c3, c4, c5, c6, c7, c8, c9⟩ := hr
  have e1 : up h 8 1 0 109 18 = h 8 1 := by rw [up_ne (by omega)]; exact t2.1.trans t1.1.symm
  rw [e1]
  have ag9 : ag (fun c k => ¬ dTxt c k) h (up (up h 8 1 0) 109 18 0) := ag_up (by omega) (ag_up (by omega) ag_rfl)
  refine k _ _ (by rw [t1.1]; exact ⟨by omega, by have := t1.2.1; omega⟩) ⟨RLog_c (ag_sub (fun c k p => by omega) ag9) c1, ⟨0, tx, ⟨rfl, by decide, fun i hi => absurd hi (Nat.not_lt_zero i)⟩, ⟨rfl, by decide, fun i hi => absurd hi (Nat.not_lt_zero i)⟩, fun i hi => absurd hi (Nat.not_lt_zero i)⟩, RBk_c (ag_sub (fun c k p => by omega) ag9) c3, RTH_c (ag_sub (fun c k p => by omega) ag9) c4, RHr_c (ag_sub (fun c k p => by omega) ag9) c5, RBr_c (ag_sub (fun c k p => by omega) ag9) c6, RLs_c (ag_sub (fun c k p => by omega) ag9) c7, REv_c (ag_sub (fun c k p => by omega) ag9) c8, RKp_c (ag_sub (fun c k p => by omega) ag9) c9⟩
theorem P_count {KK : Int → Int → St → Prop} {h : St} (hr : Rel h) {a1 : Int} (r1 : inR a1) (k : ∀ z h2, inR z → Rel h2 → KK z z h2) : mwpI 40 m_C_count [vR 0, vI a1] h (fun z h1 => mwpI 40 m_M_count [vR 109, vI a1] h1 (fun z2 h2 => KK z z2 h2)) := by
  obtain ⟨⟨n1, lg, l1, l2, l3⟩, ⟨n2, tx, t1, t2, t3⟩, ⟨ni, bk, b1, b2, b3⟩, c4, c5, ⟨n6, bg, g1, g2, g3⟩, ⟨n7, ls, s1, s2, s3⟩, ⟨n8, ev, v1, v2, v3⟩, ⟨k9, p1, p2, p3, p4⟩⟩ := id hr
  have f0 : h 110 0 = h 1 6 := l2.1.trans l1.1.symm
  have f1 : h 109 18 = h 8 1 := t2.1.trans t1.1.symm
  have f2 : h 109 20 = h 8 12 := b2.1.trans b1.1.symm
  have f3 : h 117 0 = h 85 8 := g2.1.trans g1.1.symm
  have f4 : h 119 0 = h 96 0 := s2.1.trans s1.1.symm
  have f5 : h 121 0 = h 96 1 := v2.1.trans v1.1.symm
  have f6 : h 109 13 = h 0 14 := p2.trans p1.symm
  have q0 : inR (h 1 6) := by rw [l1.1]; exact ⟨by omega, by have := l1.2.1; omega⟩
  have q1 : inR (h 8 1) := by rw [t1.1]; exact ⟨by omega, by have := t1.2.1; omega⟩
  have q2 : inR (h 8 12) := by rw [b1.1]; exact ⟨by have := b3.1; omega, by have := b3.1; omega⟩
  have q3 : inR (h 85 8) := by rw [g1.1]; exact ⟨by omega, by have := g1.2.1; omega⟩
  have q4 : inR (h 96 0) := by rw [s1.1]; exact ⟨by omega, by have := s1.2.1; omega⟩
  have q5 : inR (h 96 1) := by rw [v1.1]; exact ⟨by omega, by have := v1.2.1; omega⟩
  have q6 : inR (h 0 14) := by rw [p1]; exact ⟨by omega, by omega⟩
  have key : ∀ (K : Int → St → Prop), ((a1 = 0 → K (h 1 6) h) ∧ (a1 = 1 → K (h 8 1) h) ∧ (a1 = 2 → K (h 8 12) h) ∧ (a1 = 3 → K (h 85 8) h) ∧ (a1 = 4 → K (h 96 0) h) ∧ (a1 = 5 → K (h 96 1) h) ∧ (a1 = 6 → K (h 0 14) h) ∧ ((a1 ≠ 0 ∧ a1 ≠ 1 ∧ a1 ≠ 2 ∧ a1 ≠ 3 ∧ a1 ≠ 4 ∧ a1 ≠ 5 ∧ a1 ≠ 6) → K (-1) h)) → mwpI 40 m_M_count [vR 109, vI a1] h K := by
    intro K F
    refine mI_intro b_M_count rfl (s_M_count_0 (d := 39) a1 _ _ ⟨r1, ?_⟩)
    rw [f0, f1, f2, f3, f4, f5, f6]
    exact F
  refine mI_intro b_C_count rfl (s_C_count_0 (d := 39) a1 h _ ⟨r1, fun q => key _ ?_, fun q => key _ ?_, fun q => key _ ?_, fun q => key _ ?_, fun q => key _ ?_, fun q => key _ ?_, fun q => key _ ?_, fun q => key _ ?_⟩)
  · exact ⟨fun _ => k _ _ q0 hr, fun z => by omega, fun z => by omega, fun z => by omega, fun z => by omega, fun z => by omega, fun z => by omega, fun z => by omega⟩
  · exact ⟨fun z => by omega, fun _ => k _ _ q1 hr, fun z => by omega, fun z => by omega, fun z => by omega, fun z => by omega, fun z => by omega, fun z => by omega⟩
  · exact ⟨fun z => by omega, fun z => by omega, fun _ => k _ _ q2 hr, fun z => by omega, fun z => by omega, fun z => by omega, fun z => by omega, fun z => by omega⟩
  · exact ⟨fun z => by omega, fun z => by omega, fun z => by omega, fun _ => k _ _ q3 hr, fun z => by omega, fun z => by omega, fun z => by omega, fun z => by omega⟩
  · exact ⟨fun z => by omega, fun z => by omega, fun z => by omega, fun z => by omega, fun _ => k _ _ q4 hr, fun z => by omega, fun z => by omega, fun z => by omega⟩
  · exact ⟨fun z => by omega, fun z => by omega, fun z => by omega, fun z => by omega, fun z => by omega, fun _ => k _ _ q5 hr, fun z => by omega, fun z => by omega⟩
  · exact ⟨fun z => by omega, fun z => by omega, fun z => by omega, fun z => by omega, fun z => by omega, fun z => by omega, fun _ => k _ _ q6 hr, fun z => by omega⟩
  · exact ⟨fun z => by omega, fun z => by omega, fun z => by omega, fun z => by omega, fun z => by omega, fun z => by omega, fun z => by omega, fun _ => k _ _ (by decide) hr⟩
theorem P_hearer {KK : Int → Int → St → Prop} {h : St} (hr : Rel h) {a1 a2 a3 : Int} (r1 : inR a1) (r2 : inR a2) (r3 : inR a3) (k : ∀ z h2, inR z → Rel h2 → KK z z h2) : mwpI 40 m_C_hearer [vR 0, vI a1, vI a2, vI a3] h (fun z h1 => mwpI 40 m_M_hearer [vR 109, vI a1, vI a2, vI a3] h1 (fun z2 h2 => KK z z2 h2)) := by
  have bad : ¬ ((0 ≤ a1 ∧ a1 ≤ 3) ∧ (0 ≤ a2 ∧ a2 ≤ 15) ∧ (0 ≤ a3 ∧ a3 ≤ 15)) → mwpI 40 m_M_hearer [vR 109, vI a1, vI a2, vI a3] h (fun z2 h2 => KK (-1) z2 h2) := by
    intro q
    refine mI_intro b_M_hearer rfl (s_M_hearer_0 (d := 37) a1 a2 a3 _ _ ⟨r1, fun _ => k _ _ (by decide) hr, fun q1 => ⟨r2, r3, fun q2 => absurd ⟨q1, q2⟩ q, fun _ => k _ _ (by decide) hr⟩⟩)
  refine mI_intro b_C_hearer rfl (s_C_hearer_0 (d := 37) a1 a2 a3 h _ ⟨r1, fun q => bad (by omega), fun q1 => ⟨r2, r3, fun q2 => ?_, fun q2 => bad (by omega)⟩⟩)
  refine mI_intro b_Places_settle rfl (s_Places_settle_0 (d := 38) a1 a2 a3 h _ ⟨by omega, ?_⟩)
  refine mI_intro b_M_hearer rfl (s_M_hearer_0 (d := 37) a1 a2 a3 _ _ ⟨r1, fun z => absurd q1 z, fun _ => ⟨r2, r3, fun _ => ⟨by omega, ?_⟩, fun z => absurd q2 z⟩⟩)
  obtain ⟨c1, c2, c3, c4, c5, c6, c7, c8, c9⟩ := hr
  obtain ⟨d1, d2, d3, d4⟩ := c5 a1.toNat (by omega)
  have e1 : up (up h 86 a1.toNat a2) 87 a1.toNat a3 123 a1.toNat = h 86 a1.toNat := by rw [up_ne (by omega), up_ne (by omega)]; exact d1.symm
  have e2 : up (up h 86 a1.toNat a2) 87 a1.toNat a3 124 a1.toNat = h 87 a1.toNat := by rw [up_ne (by omega), up_ne (by omega)]; exact d2.symm
  rw [e1, e2]
  have ag9 : ag (fun c k => ¬ dHr c k) h (up (up (up (up h 86 a1.toNat a2) 87 a1.toNat a3) 123 a1.toNat a2) 124 a1.toNat a3) := ag_up (by omega) (ag_up (by omega) (ag_up (by omega) (ag_up (by omega) ag_rfl)))
  refine k _ _ (lit_R _ (by omega) (by omega)) ⟨RLog_c (ag_sub (fun c k p => by omega) ag9) c1, RTxt_c (ag_sub (fun c k p => by omega) ag9) c2, RBk_c (ag_sub (fun c k p => by omega) ag9) c3, RTH_c (ag_sub (fun c k p => by omega) ag9) c4, ?_, RBr_c (ag_sub (fun c k p => by omega) ag9) c6, RLs_c (ag_sub (fun c k p => by omega) ag9) c7, REv_c (ag_sub (fun c k p => by omega) ag9) c8, RKp_c (ag_sub (fun c k p => by omega) ag9) c9⟩
  intro i hi
  by_cases hi2 : i = a1.toNat
  · subst hi2
    simp [up]
    omega
  · have := c5 i hi
    simp [up, hi2]
    omega
