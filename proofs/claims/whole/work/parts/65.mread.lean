theorem s_M_fault_0 {d : Nat}  (h : St) (K : Int → St → Prop) (F : (wI (d + 4) m_M_fault 10 [(0, vR 109)] [] (up (up h 109 23 0) 109 22 0) K)) : wI (d + 4) m_M_fault 0 [(0, vR 109)] [] h K := by
  refine w_aload_n rfl rfl ?_
  refine w_iconst rfl ?_
  refine w_putI rfl f_M_157 fw_12_23 rfl rfl rfl ?_
  refine w_aload_n rfl rfl ?_
  refine w_iconst rfl ?_
  refine w_putI rfl f_M_173 fw_12_22 rfl rfl rfl ?_
  exact F
theorem s_M_fault_10 {d : Nat}  (h : St) (K : Int → St → Prop) (F : (inR (h 109 23)) ∧ (inR (h 109 18)) ∧ (((h 109 18) ≤ (h 109 23) → (K ((-4)) h)) ∧ (¬ ((h 109 18) ≤ (h 109 23)) → (mwpI (d + 4) m_M_isItem [vR 109] h (fun z4 h4 => (inR z4) ∧ ((z4 ≠ 0 → (wI (d + 4) m_M_fault 10 [(0, vR 109)] [] h4 K)) ∧ (¬ (z4 ≠ 0) → (K (h 109 23) h4)))))))) : wI (d + 4) m_M_fault 10 [(0, vR 109)] [] h K := by
  refine w_aload_n rfl rfl ?_
  refine w_getI rfl f_M_157 rfl rfl rfl ?_
  refine w_aload_n rfl rfl ?_
  refine w_getI rfl f_M_154 rfl rfl rfl ?_
  obtain ⟨b1, F⟩ := F
  obtain ⟨b2, F⟩ := F
  refine w_icmp_ge (tgt := 38) rfl (by decide) ⟨b1, b2⟩ (fun q3 => ?_) (fun q3 => ?_)
  · replace F := F.1 q3
    refine w_bipush (by decide) (by decide) rfl ?_
    exact w_iret rfl rfl ⟨rfl, rfl, _, rfl, F⟩
  · replace F := F.2 q3
    refine w_aload_n rfl rfl ?_
    refine w_getI rfl f_M_157 rfl rfl rfl ?_
    refine w_istore_n rfl rfl rfl rfl (w_ls (ls2 := [(0, vR 109), (1, vI (h 109 23))]) rfl ?_)
    refine w_aload_n rfl rfl ?_
    refine c_VI [] [] rfl b_M_isItem k_M_176 rfl rfl rfl rfl rfl rfl (mwpI_mono (fun z4 h4 F => ?_) F)
    obtain ⟨b5, F⟩ := F
    refine w_if_ne (tgt := 35) rfl (by decide) b5 (fun q6 => ?_) (fun q6 => ?_)
    · replace F := F.1 q6
      refine w_goto (tgt := 10) rfl (by decide) ?_
      exact w_kp [0] F
    · replace F := F.2 q6
      refine w_iload_n rfl rfl ?_
      exact w_iret rfl rfl ⟨rfl, rfl, _, rfl, F⟩
theorem s_M_number_0 {d : Nat}  (h : St) (K : Int → St → Prop) (F : (wI (d + 1) m_M_number 4 [(0, vR 109), (1, vI 0), (2, vI 0)] [] h K)) : wI (d + 1) m_M_number 0 [(0, vR 109)] [] h K := by
  refine w_iconst rfl ?_
  refine w_istore_n rfl rfl rfl rfl (w_ls (ls2 := [(0, vR 109), (1, vI 0)]) rfl ?_)
  refine w_iconst rfl ?_
  refine w_istore_n rfl rfl rfl rfl (w_ls (ls2 := [(0, vR 109), (1, vI 0), (2, vI 0)]) rfl ?_)
  exact F
theorem s_M_number_4 {d : Nat}  (x1 x2 : Int) (h : St) (K : Int → St → Prop) (F : (inR (h 109 23)) ∧ (inR (h 109 18)) ∧ (((h 109 18) ≤ (h 109 23) → (inR x2) ∧ (K (cif (1 ≤ x2 ∧ x2 ≤ 3) x1 ((-1))) h)) ∧ (¬ ((h 109 18) ≤ (h 109 23)) → (0 ≤ h 109 23 ∧ h 109 23 < 200) ∧ (inR (h 125 ((h 109 23).toNat))) ∧ ((¬ (48 ≤ (h 125 ((h 109 23).toNat)) ∧ (h 125 ((h 109 23).toNat)) ≤ 57) → (inR x2) ∧ (K (cif (1 ≤ x2 ∧ x2 ≤ 3) x1 ((-1))) h)) ∧ (48 ≤ (h 125 ((h 109 23).toNat)) ∧ (h 125 ((h 109 23).toNat)) ≤ 57 → (((inR x2))) ∧ (wI (d + 1) m_M_number 4 [(0, vR 109), (1, vI (cif (3 ≤ x2) x1 (((10 * x1) + (h 125 ((h 109 23).toNat))) - 48))), (2, vI (x2 + 1))] [] (up h 109 23 ((h 109 23) + 1)) K)))))) : wI (d + 1) m_M_number 4 [(0, vR 109), (1, vI x1), (2, vI x2)] [] h K := by
  refine w_aload_n rfl rfl ?_
  refine w_getI rfl f_M_157 rfl rfl rfl ?_
  refine w_aload_n rfl rfl ?_
  refine w_getI rfl f_M_154 rfl rfl rfl ?_
  obtain ⟨b1, F⟩ := F
  obtain ⟨b2, F⟩ := F
  refine w_icmp_ge (tgt := 80) rfl (by decide) ⟨b1, b2⟩ (fun q3 => ?_) (fun q3 => ?_)
  · replace F := F.1 q3
    refine w_iload_n rfl rfl ?_
    obtain ⟨b4, F⟩ := F
    refine w_i2l b4 rfl ?_
    refine w_lconst rfl ?_
    refine w_ldc2 (z := 3) kc_M_164 (by decide) rfl ?_
    refine c_SI [vJ x2, vJ 1, vJ 3] [] rfl b_M_in k_M_130 rfl rfl rfl (c_M_in (inL_of b4) (by decide) (by decide) ?_)
    have J : ∀ (t6 : Int), t6 = cif (1 ≤ x2 ∧ x2 ≤ 3) x1 ((-1)) → wI (d + 1) m_M_number 97 [(0, vR 109), (1, vI x1), (2, vI x2)] [vI t6] h K := by
      intro t6 et6
      subst et6
      exact w_iret rfl rfl ⟨rfl, rfl, _, rfl, F⟩
    refine w_ifeq_b (tgt := 96) rfl (by decide) (fun q5 => ?_) (fun q5 => ?_)
    · refine w_iconst rfl ?_
      exact J _ (cif_f q5).symm
    · refine w_iload_n rfl rfl ?_
      refine w_goto (tgt := 97) rfl (by decide) ?_
      exact J _ (cif_t q5).symm
  · replace F := F.2 q3
    refine w_aload_n rfl rfl ?_
    refine w_getR rfl f_M_62 rfl rfl rfl rfl rfl ?_
    refine w_aload_n rfl rfl ?_
    refine w_getI rfl f_M_157 rfl rfl rfl ?_
    obtain ⟨b7, F⟩ := F
    refine w_baload rfl rfl rfl b7 ?_
    obtain ⟨b8, F⟩ := F
    refine w_i2l b8 rfl ?_
    refine w_ldc2 (z := 48) kc_M_160 (by decide) rfl ?_
    refine w_ldc2 (z := 57) kc_M_162 (by decide) rfl ?_
    refine c_SI [vJ (h 125 ((h 109 23).toNat)), vJ 48, vJ 57] [] rfl b_M_in k_M_130 rfl rfl rfl (c_M_in (inL_of b8) (by decide) (by decide) ?_)
    refine w_ifeq_b (tgt := 80) rfl (by decide) (fun q9 => ?_) (fun q9 => ?_)
    · replace F := F.1 q9
      refine w_iload_n rfl rfl ?_
      obtain ⟨b10, F⟩ := F
      refine w_i2l b10 rfl ?_
      refine w_lconst rfl ?_
      refine w_ldc2 (z := 3) kc_M_164 (by decide) rfl ?_
      refine c_SI [vJ x2, vJ 1, vJ 3] [] rfl b_M_in k_M_130 rfl rfl rfl (c_M_in (inL_of b10) (by decide) (by decide) ?_)
      have J : ∀ (t12 : Int), t12 = cif (1 ≤ x2 ∧ x2 ≤ 3) x1 ((-1)) → wI (d + 1) m_M_number 97 [(0, vR 109), (1, vI x1), (2, vI x2)] [vI t12] h K := by
        intro t12 et12
        subst et12
        exact w_iret rfl rfl ⟨rfl, rfl, _, rfl, F⟩
      refine w_ifeq_b (tgt := 96) rfl (by decide) (fun q11 => ?_) (fun q11 => ?_)
      · refine w_iconst rfl ?_
        exact J _ (cif_f q11).symm
      · refine w_iload_n rfl rfl ?_
        refine w_goto (tgt := 97) rfl (by decide) ?_
        exact J _ (cif_t q11).symm
    · replace F := F.2 q9
      refine w_iload_n rfl rfl ?_
      refine w_iconst rfl ?_
      obtain ⟨G, F⟩ := F
      have J : ∀ (t15 : Int), t15 = cif (3 ≤ x2) x1 (((10 * x1) + (h 125 ((h 109 23).toNat))) - 48) → wI (d + 1) m_M_number 63 [(0, vR 109), (1, vI x1), (2, vI x2)] [vI t15] h K := by
        intro t15 et15
        subst et15
        refine w_istore_n rfl rfl rfl rfl (w_ls (ls2 := [(0, vR 109), (1, vI (cif (3 ≤ x2) x1 (((10 * x1) + (h 125 ((h 109 23).toNat))) - 48))), (2, vI x2)]) rfl ?_)
        refine w_iinc rfl rfl rfl rfl rfl (w_ls (ls2 := [(0, vR 109), (1, vI (cif (3 ≤ x2) x1 (((10 * x1) + (h 125 ((h 109 23).toNat))) - 48))), (2, vI (x2 + 1))]) rfl ?_)
        refine w_aload_n rfl rfl ?_
        refine w_dup rfl rfl ?_
        refine w_getI rfl f_M_157 rfl rfl rfl ?_
        refine w_iconst rfl ?_
        refine w_iadd rfl ?_
        refine w_putI rfl f_M_157 fw_12_23 rfl rfl rfl ?_
        refine w_goto (tgt := 4) rfl (by decide) ?_
        exact F
      have b13 := G
      refine w_icmp_ge (tgt := 62) rfl (by decide) ⟨b13, (r_lit rfl)⟩ (fun q14 => ?_) (fun q14 => ?_)
      · refine w_iload_n rfl rfl ?_
        exact J _ (cif_t q14).symm
      · refine w_bipush (by decide) (by decide) rfl ?_
        refine w_iload_n rfl rfl ?_
        refine w_imul rfl ?_
        refine w_aload_n rfl rfl ?_
        refine w_getR rfl f_M_62 rfl rfl rfl rfl rfl ?_
        refine w_aload_n rfl rfl ?_
        refine w_getI rfl f_M_157 rfl rfl rfl ?_
        refine w_baload rfl rfl rfl b7 ?_
        refine w_iadd rfl ?_
        refine w_bipush (by decide) (by decide) rfl ?_
        refine w_isub rfl ?_
        refine w_goto (tgt := 63) rfl (by decide) ?_
        exact J _ (cif_f q14).symm
theorem s_M_more_0 {d : Nat}  (h : St) (K : Int → St → Prop) (F : (inR (h 109 23)) ∧ (inR (h 109 18)) ∧ (((h 109 18) ≤ (h 109 23) → (K ((-1)) h)) ∧ (¬ ((h 109 18) ≤ (h 109 23)) → (0 ≤ h 109 23 ∧ h 109 23 < 200) ∧ (inR (h 125 ((h 109 23).toNat))) ∧ (((h 125 ((h 109 23).toNat)) = 44 → (mwpI (d + 2) m_M_number [vR 109] (up h 109 23 ((h 109 23) + 1)) (fun z7 h7 => (K z7 h7)))) ∧ (¬ ((h 125 ((h 109 23).toNat)) = 44) → (K ((-1)) h)))))) : wI (d + 2) m_M_more 0 [(0, vR 109)] [] h K := by
  refine w_aload_n rfl rfl ?_
  refine w_getI rfl f_M_157 rfl rfl rfl ?_
  refine w_aload_n rfl rfl ?_
  refine w_getI rfl f_M_154 rfl rfl rfl ?_
  obtain ⟨b1, F⟩ := F
  obtain ⟨b2, F⟩ := F
  refine w_icmp_ge (tgt := 25) rfl (by decide) ⟨b1, b2⟩ (fun q3 => ?_) (fun q3 => ?_)
  · replace F := F.1 q3
    refine w_iconst rfl ?_
    exact w_iret rfl rfl ⟨rfl, rfl, _, rfl, F⟩
  · replace F := F.2 q3
    refine w_aload_n rfl rfl ?_
    refine w_getR rfl f_M_62 rfl rfl rfl rfl rfl ?_
    refine w_aload_n rfl rfl ?_
    refine w_getI rfl f_M_157 rfl rfl rfl ?_
    obtain ⟨b4, F⟩ := F
    refine w_baload rfl rfl rfl b4 ?_
    refine w_bipush (by decide) (by decide) rfl ?_
    obtain ⟨b5, F⟩ := F
    refine w_icmp_eq (tgt := 27) rfl (by decide) ⟨b5, (r_lit rfl)⟩ (fun q6 => ?_) (fun q6 => ?_)
    · replace F := F.1 q6
      refine w_aload_n rfl rfl ?_
      refine w_dup rfl rfl ?_
      refine w_getI rfl f_M_157 rfl rfl rfl ?_
      refine w_iconst rfl ?_
      refine w_iadd rfl ?_
      refine w_putI rfl f_M_157 fw_12_23 rfl rfl rfl ?_
      refine w_aload_n rfl rfl ?_
      refine c_VI [] [] rfl b_M_number k_M_166 rfl rfl rfl rfl rfl rfl (mwpI_mono (fun z7 h7 F => ?_) F)
      exact w_iret rfl rfl ⟨rfl, rfl, _, rfl, F⟩
    · replace F := F.2 q6
      refine w_iconst rfl ?_
      exact w_iret rfl rfl ⟨rfl, rfl, _, rfl, F⟩
theorem s_M_isItem_0 {d : Nat}  (h : St) (K : Int → St → Prop) (F : (0 ≤ h 109 23 ∧ h 109 23 < 200) ∧ (mwpI (d + 3) m_M_number [vR 109] (up h 109 23 ((h 109 23) + 1)) (fun z2 h2 => (mwpI (d + 3) m_M_more [vR 109] h2 (fun z3 h3 => (inR (h 125 ((h 109 23).toNat))) ∧ (((h 125 ((h 109 23).toNat)) ≠ 120 → ((((h 125 ((h 109 23).toNat)) ≠ 112 → (((h 125 ((h 109 23).toNat)) ≠ 107 → ((¬ ((h 125 ((h 109 23).toNat)) ≠ 120) → ((inR z2) ∧ (0 ≤ z2 ∧ z2 ≤ 11 → ((inR z3))))))) ∧ (¬ ((h 125 ((h 109 23).toNat)) ≠ 107) → ((inR z2) ∧ (0 ≤ z2 ∧ z2 ≤ 11 → ((inR z3))))))) ∧ (¬ ((h 125 ((h 109 23).toNat)) ≠ 112) → ((inR z2) ∧ (0 ≤ z2 ∧ z2 ≤ 11 → ((inR z3))))))) ∧ (wI (d + 3) m_M_isItem 155 [(0, vR 109), (1, vI (h 125 ((h 109 23).toNat))), (2, vI z2), (3, vI z3), (4, vI 0), (5, vI (b2i ((((h 125 ((h 109 23).toNat)) ≠ 112) ∧ ((((h 125 ((h 109 23).toNat)) ≠ 107) ∧ (¬ ((h 125 ((h 109 23).toNat)) ≠ 120) ∧ ((0 ≤ z2 ∧ z2 ≤ 11) ∧ ((0 ≤ z3 ∧ z3 ≤ 11) ∧ (¬ (z2 = z3) ∧ (1 ≤ (0 : Int) ∧ (0 : Int) ≤ 19)))))) ∨ (¬ ((h 125 ((h 109 23).toNat)) ≠ 107) ∧ ((0 ≤ z2 ∧ z2 ≤ 11) ∧ (1 ≤ z3 ∧ z3 ≤ 19))))) ∨ (¬ ((h 125 ((h 109 23).toNat)) ≠ 112) ∧ ((0 ≤ z2 ∧ z2 ≤ 11) ∧ (0 ≤ z3 ∧ z3 ≤ 11)))))), (6, vI 0)] [] h3 K)) ∧ (¬ ((h 125 ((h 109 23).toNat)) ≠ 120) → (mwpI (d + 3) m_M_more [vR 109] h3 (fun z24 h24 => ((((h 125 ((h 109 23).toNat)) ≠ 112 → (((h 125 ((h 109 23).toNat)) ≠ 107 → ((¬ ((h 125 ((h 109 23).toNat)) ≠ 120) → ((inR z2) ∧ (0 ≤ z2 ∧ z2 ≤ 11 → ((inR z3) ∧ (0 ≤ z3 ∧ z3 ≤ 11 → ((¬ (z2 = z3) → ((inR z24))))))))))) ∧ (¬ ((h 125 ((h 109 23).toNat)) ≠ 107) → ((inR z2) ∧ (0 ≤ z2 ∧ z2 ≤ 11 → ((inR z3))))))) ∧ (¬ ((h 125 ((h 109 23).toNat)) ≠ 112) → ((inR z2) ∧ (0 ≤ z2 ∧ z2 ≤ 11 → ((inR z3))))))) ∧ (wI (d + 3) m_M_isItem 155 [(0, vR 109), (1, vI (h 125 ((h 109 23).toNat))), (2, vI z2), (3, vI z3), (4, vI z24), (5, vI (b2i ((((h 125 ((h 109 23).toNat)) ≠ 112) ∧ ((((h 125 ((h 109 23).toNat)) ≠ 107) ∧ (¬ ((h 125 ((h 109 23).toNat)) ≠ 120) ∧ ((0 ≤ z2 ∧ z2 ≤ 11) ∧ ((0 ≤ z3 ∧ z3 ≤ 11) ∧ (¬ (z2 = z3) ∧ (1 ≤ z24 ∧ z24 ≤ 19)))))) ∨ (¬ ((h 125 ((h 109 23).toNat)) ≠ 107) ∧ ((0 ≤ z2 ∧ z2 ≤ 11) ∧ (1 ≤ z3 ∧ z3 ≤ 19))))) ∨ (¬ ((h 125 ((h 109 23).toNat)) ≠ 112) ∧ ((0 ≤ z2 ∧ z2 ≤ 11) ∧ (0 ≤ z3 ∧ z3 ≤ 11)))))), (6, vI 0)] [] h24 K)))))))))) : wI (d + 3) m_M_isItem 0 [(0, vR 109)] [] h K := by
  refine w_aload_n rfl rfl ?_
  refine w_getR rfl f_M_62 rfl rfl rfl rfl rfl ?_
  refine w_aload_n rfl rfl ?_
  refine w_getI rfl f_M_157 rfl rfl rfl ?_
  obtain ⟨b1, F⟩ := F
  refine w_baload rfl rfl rfl b1 ?_
  refine w_istore_n rfl rfl rfl rfl (w_ls (ls2 := [(0, vR 109), (1, vI (h 125 ((h 109 23).toNat)))]) rfl ?_)
  refine w_aload_n rfl rfl ?_
  refine w_dup rfl rfl ?_
  refine w_getI rfl f_M_157 rfl rfl rfl ?_
  refine w_iconst rfl ?_
  refine w_iadd rfl ?_
  refine w_putI rfl f_M_157 fw_12_23 rfl rfl rfl ?_
  refine w_aload_n rfl rfl ?_
  refine c_VI [] [] rfl b_M_number k_M_166 rfl rfl rfl rfl rfl rfl (mwpI_mono (fun z2 h2 F => ?_) F)
  refine w_istore_n rfl rfl rfl rfl (w_ls (ls2 := [(0, vR 109), (1, vI (h 125 ((h 109 23).toNat))), (2, vI z2)]) rfl ?_)
  refine w_aload_n rfl rfl ?_
  refine c_VI [] [] rfl b_M_more k_M_170 rfl rfl rfl rfl rfl rfl (mwpI_mono (fun z3 h3 F => ?_) F)
  refine w_istore_n rfl rfl rfl rfl (w_ls (ls2 := [(0, vR 109), (1, vI (h 125 ((h 109 23).toNat))), (2, vI z2), (3, vI z3)]) rfl ?_)
  refine w_iload_n rfl rfl ?_
  refine w_bipush (by decide) (by decide) rfl ?_
  obtain ⟨b4, F⟩ := F
  refine w_icmp_ne (tgt := 43) rfl (by decide) ⟨b4, (r_lit rfl)⟩ (fun q5 => ?_) (fun q5 => ?_)
  · replace F := F.1 q5
    refine w_iconst rfl ?_
    refine w_istore rfl rfl rfl rfl (w_ls (ls2 := [(0, vR 109), (1, vI (h 125 ((h 109 23).toNat))), (2, vI z2), (3, vI z3), (4, vI 0)]) rfl ?_)
    refine w_iload_n rfl rfl ?_
    refine w_bipush (by decide) (by decide) rfl ?_
    obtain ⟨G, F⟩ := F
    have J : ∀ (t23 : Int), t23 = b2i ((((h 125 ((h 109 23).toNat)) ≠ 112) ∧ ((((h 125 ((h 109 23).toNat)) ≠ 107) ∧ (¬ ((h 125 ((h 109 23).toNat)) ≠ 120) ∧ ((0 ≤ z2 ∧ z2 ≤ 11) ∧ ((0 ≤ z3 ∧ z3 ≤ 11) ∧ (¬ (z2 = z3) ∧ (1 ≤ (0 : Int) ∧ (0 : Int) ≤ 19)))))) ∨ (¬ ((h 125 ((h 109 23).toNat)) ≠ 107) ∧ ((0 ≤ z2 ∧ z2 ≤ 11) ∧ (1 ≤ z3 ∧ z3 ≤ 19))))) ∨ (¬ ((h 125 ((h 109 23).toNat)) ≠ 112) ∧ ((0 ≤ z2 ∧ z2 ≤ 11) ∧ (0 ≤ z3 ∧ z3 ≤ 11)))) → wI (d + 3) m_M_isItem 150 [(0, vR 109), (1, vI (h 125 ((h 109 23).toNat))), (2, vI z2), (3, vI z3), (4, vI 0)] [vI t23] h3 K := by
      intro t23 et23
      subst et23
      refine w_istore rfl rfl rfl rfl (w_ls (ls2 := [(0, vR 109), (1, vI (h 125 ((h 109 23).toNat))), (2, vI z2), (3, vI z3), (4, vI 0), (5, vI (b2i ((((h 125 ((h 109 23).toNat)) ≠ 112) ∧ ((((h 125 ((h 109 23).toNat)) ≠ 107) ∧ (¬ ((h 125 ((h 109 23).toNat)) ≠ 120) ∧ ((0 ≤ z2 ∧ z2 ≤ 11) ∧ ((0 ≤ z3 ∧ z3 ≤ 11) ∧ (¬ (z2 = z3) ∧ (1 ≤ (0 : Int) ∧ (0 : Int) ≤ 19)))))) ∨ (¬ ((h 125 ((h 109 23).toNat)) ≠ 107) ∧ ((0 ≤ z2 ∧ z2 ≤ 11) ∧ (1 ≤ z3 ∧ z3 ≤ 19))))) ∨ (¬ ((h 125 ((h 109 23).toNat)) ≠ 112) ∧ ((0 ≤ z2 ∧ z2 ≤ 11) ∧ (0 ≤ z3 ∧ z3 ≤ 11))))))]) rfl ?_)
      refine w_iconst rfl ?_
      refine w_istore rfl rfl rfl rfl (w_ls (ls2 := [(0, vR 109), (1, vI (h 125 ((h 109 23).toNat))), (2, vI z2), (3, vI z3), (4, vI 0), (5, vI (b2i ((((h 125 ((h 109 23).toNat)) ≠ 112) ∧ ((((h 125 ((h 109 23).toNat)) ≠ 107) ∧ (¬ ((h 125 ((h 109 23).toNat)) ≠ 120) ∧ ((0 ≤ z2 ∧ z2 ≤ 11) ∧ ((0 ≤ z3 ∧ z3 ≤ 11) ∧ (¬ (z2 = z3) ∧ (1 ≤ (0 : Int) ∧ (0 : Int) ≤ 19)))))) ∨ (¬ ((h 125 ((h 109 23).toNat)) ≠ 107) ∧ ((0 ≤ z2 ∧ z2 ≤ 11) ∧ (1 ≤ z3 ∧ z3 ≤ 19))))) ∨ (¬ ((h 125 ((h 109 23).toNat)) ≠ 112) ∧ ((0 ≤ z2 ∧ z2 ≤ 11) ∧ (0 ≤ z3 ∧ z3 ≤ 11)))))), (6, vI 0)]) rfl ?_)
      exact F
    obtain ⟨ga_, gb_⟩ := G
    refine w_icmp_ne (tgt := 74) rfl (by decide) ⟨b4, (r_lit rfl)⟩ (fun q6 => ?_) (fun q6 => ?_)
    · have G := ga_ q6
      obtain ⟨ga_, gb_⟩ := G
      refine w_iload_n rfl rfl ?_
      refine w_bipush (by decide) (by decide) rfl ?_
      refine w_icmp_ne (tgt := 107) rfl (by decide) ⟨b4, (r_lit rfl)⟩ (fun q7 => ?_) (fun q7 => ?_)
      · have G := ga_ q7
        have gb_ := G
        refine w_iload_n rfl rfl ?_
        refine w_bipush (by decide) (by decide) rfl ?_
        refine w_icmp_ne (tgt := 149) rfl (by decide) ⟨b4, (r_lit rfl)⟩ (fun q8 => ?_) (fun q8 => ?_)
        · refine w_iconst rfl ?_
          exact J _ (b2i_f (fun z => z.elim (fun y => (fun z => z.elim (fun y => (fun z => z.1 q8) y.2) (fun y => y.1 q7)) y.2) (fun y => y.1 q6))).symm
        · have G := gb_ q8
          obtain ⟨b9, ga_⟩ := G
          refine w_iload_n rfl rfl ?_
          refine c_SI [vI z2] [] rfl b_M_isName k_M_142 rfl rfl rfl (c_M_isName b9 ?_)
          refine w_ifeq_b (tgt := 149) rfl (by decide) (fun q10 => ?_) (fun q10 => ?_)
          · refine w_iconst rfl ?_
            exact J _ (b2i_f (fun z => z.elim (fun y => (fun z => z.elim (fun y => (fun z => (fun z => q10 z.1) z.2) y.2) (fun y => y.1 q7)) y.2) (fun y => y.1 q6))).symm
          · have G := ga_ q10
            have b11 := G
            refine w_iload_n rfl rfl ?_
            refine c_SI [vI z3] [] rfl b_M_isName k_M_142 rfl rfl rfl (c_M_isName b11 ?_)
            refine w_ifeq_b (tgt := 149) rfl (by decide) (fun q12 => ?_) (fun q12 => ?_)
            · refine w_iconst rfl ?_
              exact J _ (b2i_f (fun z => z.elim (fun y => (fun z => z.elim (fun y => (fun z => (fun z => (fun z => q12 z.1) z.2) z.2) y.2) (fun y => y.1 q7)) y.2) (fun y => y.1 q6))).symm
            · refine w_iload_n rfl rfl ?_
              refine w_iload_n rfl rfl ?_
              refine w_icmp_eq (tgt := 149) rfl (by decide) ⟨b9, b11⟩ (fun q13 => ?_) (fun q13 => ?_)
              · refine w_iconst rfl ?_
                exact J _ (b2i_f (fun z => z.elim (fun y => (fun z => z.elim (fun y => (fun z => (fun z => (fun z => (fun z => z.1 q13) z.2) z.2) z.2) y.2) (fun y => y.1 q7)) y.2) (fun y => y.1 q6))).symm
              · refine w_iload rfl rfl ?_
                refine w_i2l (r_lit rfl) rfl ?_
                refine w_lconst rfl ?_
                refine w_ldc2 (z := 19) kc_M_134 (by decide) rfl ?_
                refine c_SI [vJ 0, vJ 1, vJ 19] [] rfl b_M_in k_M_130 rfl rfl rfl (c_M_in (by decide) (by decide) (by decide) ?_)
                refine w_ifeq_b (tgt := 149) rfl (by decide) (fun q14 => ?_) (fun q14 => ?_)
                · refine w_iconst rfl ?_
                  exact J _ (b2i_f (fun z => z.elim (fun y => (fun z => z.elim (fun y => (fun z => (fun z => (fun z => (fun z => q14 z.2) z.2) z.2) z.2) y.2) (fun y => y.1 q7)) y.2) (fun y => y.1 q6))).symm
                · refine w_iconst rfl ?_
                  refine w_goto (tgt := 150) rfl (by decide) ?_
                  exact J _ (b2i_t (Or.inl ⟨q6, (Or.inl ⟨q7, ⟨q8, ⟨q10, ⟨q12, ⟨q13, q14⟩⟩⟩⟩⟩)⟩)).symm
      · have G := gb_ q7
        obtain ⟨b15, ga_⟩ := G
        refine w_iload_n rfl rfl ?_
        refine c_SI [vI z2] [] rfl b_M_isName k_M_142 rfl rfl rfl (c_M_isName b15 ?_)
        refine w_ifeq_b (tgt := 103) rfl (by decide) (fun q16 => ?_) (fun q16 => ?_)
        · refine w_iconst rfl ?_
          refine w_goto (tgt := 150) rfl (by decide) ?_
          exact J _ (b2i_f (fun z => z.elim (fun y => (fun z => z.elim (fun y => q7 y.1) (fun y => (fun z => q16 z.1) y.2)) y.2) (fun y => y.1 q6))).symm
        · have G := ga_ q16
          have b17 := G
          refine w_iload_n rfl rfl ?_
          refine w_i2l b17 rfl ?_
          refine w_lconst rfl ?_
          refine w_ldc2 (z := 19) kc_M_134 (by decide) rfl ?_
          refine c_SI [vJ z3, vJ 1, vJ 19] [] rfl b_M_in k_M_130 rfl rfl rfl (c_M_in (inL_of b17) (by decide) (by decide) ?_)
          refine w_ifeq_b (tgt := 103) rfl (by decide) (fun q18 => ?_) (fun q18 => ?_)
          · refine w_iconst rfl ?_
            refine w_goto (tgt := 150) rfl (by decide) ?_
            exact J _ (b2i_f (fun z => z.elim (fun y => (fun z => z.elim (fun y => q7 y.1) (fun y => (fun z => q18 z.2) y.2)) y.2) (fun y => y.1 q6))).symm
          · refine w_iconst rfl ?_
            refine w_goto (tgt := 150) rfl (by decide) ?_
            exact J _ (b2i_t (Or.inl ⟨q6, (Or.inr ⟨q7, ⟨q16, q18⟩⟩)⟩)).symm
    · have G := gb_ q6
      obtain ⟨b19, ga_⟩ := G
      refine w_iload_n rfl rfl ?_
      refine c_SI [vI z2] [] rfl b_M_isName k_M_142 rfl rfl rfl (c_M_isName b19 ?_)
      refine w_ifeq_b (tgt := 70) rfl (by decide) (fun q20 => ?_) (fun q20 => ?_)
      · refine w_iconst rfl ?_
        refine w_goto (tgt := 150) rfl (by decide) ?_
        exact J _ (b2i_f (fun z => z.elim (fun y => q6 y.1) (fun y => (fun z => q20 z.1) y.2))).symm
      · have G := ga_ q20
        have b21 := G
        refine w_iload_n rfl rfl ?_
        refine c_SI [vI z3] [] rfl b_M_isName k_M_142 rfl rfl rfl (c_M_isName b21 ?_)
        refine w_ifeq_b (tgt := 70) rfl (by decide) (fun q22 => ?_) (fun q22 => ?_)
        · refine w_iconst rfl ?_
          refine w_goto (tgt := 150) rfl (by decide) ?_
          exact J _ (b2i_f (fun z => z.elim (fun y => q6 y.1) (fun y => (fun z => q22 z.2) y.2))).symm
        · refine w_iconst rfl ?_
          refine w_goto (tgt := 150) rfl (by decide) ?_
          exact J _ (b2i_t (Or.inr ⟨q6, ⟨q20, q22⟩⟩)).symm
  · replace F := F.2 q5
    refine w_aload_n rfl rfl ?_
    refine c_VI [] [] rfl b_M_more k_M_170 rfl rfl rfl rfl rfl rfl (mwpI_mono (fun z24 h24 F => ?_) F)
    refine w_goto (tgt := 44) rfl (by decide) ?_
    refine w_istore rfl rfl rfl rfl (w_ls (ls2 := [(0, vR 109), (1, vI (h 125 ((h 109 23).toNat))), (2, vI z2), (3, vI z3), (4, vI z24)]) rfl ?_)
    refine w_iload_n rfl rfl ?_
    refine w_bipush (by decide) (by decide) rfl ?_
    obtain ⟨G, F⟩ := F
    have J : ∀ (t43 : Int), t43 = b2i ((((h 125 ((h 109 23).toNat)) ≠ 112) ∧ ((((h 125 ((h 109 23).toNat)) ≠ 107) ∧ (¬ ((h 125 ((h 109 23).toNat)) ≠ 120) ∧ ((0 ≤ z2 ∧ z2 ≤ 11) ∧ ((0 ≤ z3 ∧ z3 ≤ 11) ∧ (¬ (z2 = z3) ∧ (1 ≤ z24 ∧ z24 ≤ 19)))))) ∨ (¬ ((h 125 ((h 109 23).toNat)) ≠ 107) ∧ ((0 ≤ z2 ∧ z2 ≤ 11) ∧ (1 ≤ z3 ∧ z3 ≤ 19))))) ∨ (¬ ((h 125 ((h 109 23).toNat)) ≠ 112) ∧ ((0 ≤ z2 ∧ z2 ≤ 11) ∧ (0 ≤ z3 ∧ z3 ≤ 11)))) → wI (d + 3) m_M_isItem 150 [(0, vR 109), (1, vI (h 125 ((h 109 23).toNat))), (2, vI z2), (3, vI z3), (4, vI z24)] [vI t43] h24 K := by
      intro t43 et43
      subst et43
      refine w_istore rfl rfl rfl rfl (w_ls (ls2 := [(0, vR 109), (1, vI (h 125 ((h 109 23).toNat))), (2, vI z2), (3, vI z3), (4, vI z24), (5, vI (b2i ((((h 125 ((h 109 23).toNat)) ≠ 112) ∧ ((((h 125 ((h 109 23).toNat)) ≠ 107) ∧ (¬ ((h 125 ((h 109 23).toNat)) ≠ 120) ∧ ((0 ≤ z2 ∧ z2 ≤ 11) ∧ ((0 ≤ z3 ∧ z3 ≤ 11) ∧ (¬ (z2 = z3) ∧ (1 ≤ z24 ∧ z24 ≤ 19)))))) ∨ (¬ ((h 125 ((h 109 23).toNat)) ≠ 107) ∧ ((0 ≤ z2 ∧ z2 ≤ 11) ∧ (1 ≤ z3 ∧ z3 ≤ 19))))) ∨ (¬ ((h 125 ((h 109 23).toNat)) ≠ 112) ∧ ((0 ≤ z2 ∧ z2 ≤ 11) ∧ (0 ≤ z3 ∧ z3 ≤ 11))))))]) rfl ?_)
      refine w_iconst rfl ?_
      refine w_istore rfl rfl rfl rfl (w_ls (ls2 := [(0, vR 109), (1, vI (h 125 ((h 109 23).toNat))), (2, vI z2), (3, vI z3), (4, vI z24), (5, vI (b2i ((((h 125 ((h 109 23).toNat)) ≠ 112) ∧ ((((h 125 ((h 109 23).toNat)) ≠ 107) ∧ (¬ ((h 125 ((h 109 23).toNat)) ≠ 120) ∧ ((0 ≤ z2 ∧ z2 ≤ 11) ∧ ((0 ≤ z3 ∧ z3 ≤ 11) ∧ (¬ (z2 = z3) ∧ (1 ≤ z24 ∧ z24 ≤ 19)))))) ∨ (¬ ((h 125 ((h 109 23).toNat)) ≠ 107) ∧ ((0 ≤ z2 ∧ z2 ≤ 11) ∧ (1 ≤ z3 ∧ z3 ≤ 19))))) ∨ (¬ ((h 125 ((h 109 23).toNat)) ≠ 112) ∧ ((0 ≤ z2 ∧ z2 ≤ 11) ∧ (0 ≤ z3 ∧ z3 ≤ 11)))))), (6, vI 0)]) rfl ?_)
      exact F
    obtain ⟨ga_, gb_⟩ := G
    refine w_icmp_ne (tgt := 74) rfl (by decide) ⟨b4, (r_lit rfl)⟩ (fun q25 => ?_) (fun q25 => ?_)
    · have G := ga_ q25
      obtain ⟨ga_, gb_⟩ := G
      refine w_iload_n rfl rfl ?_
      refine w_bipush (by decide) (by decide) rfl ?_
      refine w_icmp_ne (tgt := 107) rfl (by decide) ⟨b4, (r_lit rfl)⟩ (fun q26 => ?_) (fun q26 => ?_)
      · have G := ga_ q26
        have gb_ := G
        refine w_iload_n rfl rfl ?_
        refine w_bipush (by decide) (by decide) rfl ?_
        refine w_icmp_ne (tgt := 149) rfl (by decide) ⟨b4, (r_lit rfl)⟩ (fun q27 => ?_) (fun q27 => ?_)
        · refine w_iconst rfl ?_
          exact J _ (b2i_f (fun z => z.elim (fun y => (fun z => z.elim (fun y => (fun z => z.1 q27) y.2) (fun y => y.1 q26)) y.2) (fun y => y.1 q25))).symm
        · have G := gb_ q27
          obtain ⟨b28, ga_⟩ := G
          refine w_iload_n rfl rfl ?_
          refine c_SI [vI z2] [] rfl b_M_isName k_M_142 rfl rfl rfl (c_M_isName b28 ?_)
          refine w_ifeq_b (tgt := 149) rfl (by decide) (fun q29 => ?_) (fun q29 => ?_)
          · refine w_iconst rfl ?_
            exact J _ (b2i_f (fun z => z.elim (fun y => (fun z => z.elim (fun y => (fun z => (fun z => q29 z.1) z.2) y.2) (fun y => y.1 q26)) y.2) (fun y => y.1 q25))).symm
          · have G := ga_ q29
            obtain ⟨b30, ga_⟩ := G
            refine w_iload_n rfl rfl ?_
            refine c_SI [vI z3] [] rfl b_M_isName k_M_142 rfl rfl rfl (c_M_isName b30 ?_)
            refine w_ifeq_b (tgt := 149) rfl (by decide) (fun q31 => ?_) (fun q31 => ?_)
            · refine w_iconst rfl ?_
              exact J _ (b2i_f (fun z => z.elim (fun y => (fun z => z.elim (fun y => (fun z => (fun z => (fun z => q31 z.1) z.2) z.2) y.2) (fun y => y.1 q26)) y.2) (fun y => y.1 q25))).symm
            · have G := ga_ q31
              have gb_ := G
              refine w_iload_n rfl rfl ?_
              refine w_iload_n rfl rfl ?_
              refine w_icmp_eq (tgt := 149) rfl (by decide) ⟨b28, b30⟩ (fun q32 => ?_) (fun q32 => ?_)
              · refine w_iconst rfl ?_
                exact J _ (b2i_f (fun z => z.elim (fun y => (fun z => z.elim (fun y => (fun z => (fun z => (fun z => (fun z => z.1 q32) z.2) z.2) z.2) y.2) (fun y => y.1 q26)) y.2) (fun y => y.1 q25))).symm
              · have G := gb_ q32
                have b33 := G
                refine w_iload rfl rfl ?_
                refine w_i2l b33 rfl ?_
                refine w_lconst rfl ?_
                refine w_ldc2 (z := 19) kc_M_134 (by decide) rfl ?_
                refine c_SI [vJ z24, vJ 1, vJ 19] [] rfl b_M_in k_M_130 rfl rfl rfl (c_M_in (inL_of b33) (by decide) (by decide) ?_)
                refine w_ifeq_b (tgt := 149) rfl (by decide) (fun q34 => ?_) (fun q34 => ?_)
                · refine w_iconst rfl ?_
                  exact J _ (b2i_f (fun z => z.elim (fun y => (fun z => z.elim (fun y => (fun z => (fun z => (fun z => (fun z => q34 z.2) z.2) z.2) z.2) y.2) (fun y => y.1 q26)) y.2) (fun y => y.1 q25))).symm
                · refine w_iconst rfl ?_
                  refine w_goto (tgt := 150) rfl (by decide) ?_
                  exact J _ (b2i_t (Or.inl ⟨q25, (Or.inl ⟨q26, ⟨q27, ⟨q29, ⟨q31, ⟨q32, q34⟩⟩⟩⟩⟩)⟩)).symm
      · have G := gb_ q26
        obtain ⟨b35, ga_⟩ := G
        refine w_iload_n rfl rfl ?_
        refine c_SI [vI z2] [] rfl b_M_isName k_M_142 rfl rfl rfl (c_M_isName b35 ?_)
        refine w_ifeq_b (tgt := 103) rfl (by decide) (fun q36 => ?_) (fun q36 => ?_)
        · refine w_iconst rfl ?_
          refine w_goto (tgt := 150) rfl (by decide) ?_
          exact J _ (b2i_f (fun z => z.elim (fun y => (fun z => z.elim (fun y => q26 y.1) (fun y => (fun z => q36 z.1) y.2)) y.2) (fun y => y.1 q25))).symm
        · have G := ga_ q36
          have b37 := G
          refine w_iload_n rfl rfl ?_
          refine w_i2l b37 rfl ?_
          refine w_lconst rfl ?_
          refine w_ldc2 (z := 19) kc_M_134 (by decide) rfl ?_
          refine c_SI [vJ z3, vJ 1, vJ 19] [] rfl b_M_in k_M_130 rfl rfl rfl (c_M_in (inL_of b37) (by decide) (by decide) ?_)
          refine w_ifeq_b (tgt := 103) rfl (by decide) (fun q38 => ?_) (fun q38 => ?_)
          · refine w_iconst rfl ?_
            refine w_goto (tgt := 150) rfl (by decide) ?_
            exact J _ (b2i_f (fun z => z.elim (fun y => (fun z => z.elim (fun y => q26 y.1) (fun y => (fun z => q38 z.2) y.2)) y.2) (fun y => y.1 q25))).symm
          · refine w_iconst rfl ?_
            refine w_goto (tgt := 150) rfl (by decide) ?_
            exact J _ (b2i_t (Or.inl ⟨q25, (Or.inr ⟨q26, ⟨q36, q38⟩⟩)⟩)).symm
    · have G := gb_ q25
      obtain ⟨b39, ga_⟩ := G
      refine w_iload_n rfl rfl ?_
      refine c_SI [vI z2] [] rfl b_M_isName k_M_142 rfl rfl rfl (c_M_isName b39 ?_)
      refine w_ifeq_b (tgt := 70) rfl (by decide) (fun q40 => ?_) (fun q40 => ?_)
      · refine w_iconst rfl ?_
        refine w_goto (tgt := 150) rfl (by decide) ?_
        exact J _ (b2i_f (fun z => z.elim (fun y => q25 y.1) (fun y => (fun z => q40 z.1) y.2))).symm
      · have G := ga_ q40
        have b41 := G
        refine w_iload_n rfl rfl ?_
        refine c_SI [vI z3] [] rfl b_M_isName k_M_142 rfl rfl rfl (c_M_isName b41 ?_)
        refine w_ifeq_b (tgt := 70) rfl (by decide) (fun q42 => ?_) (fun q42 => ?_)
        · refine w_iconst rfl ?_
          refine w_goto (tgt := 150) rfl (by decide) ?_
          exact J _ (b2i_f (fun z => z.elim (fun y => q25 y.1) (fun y => (fun z => q42 z.2) y.2))).symm
        · refine w_iconst rfl ?_
          refine w_goto (tgt := 150) rfl (by decide) ?_
          exact J _ (b2i_t (Or.inr ⟨q25, ⟨q40, q42⟩⟩)).symm
theorem s_M_isItem_155 {d : Nat}  (x1 x2 x3 x4 x5 x6 : Int) (h : St) (K : Int → St → Prop) (F : (inR x6) ∧ (inR (h 109 22)) ∧ (((h 109 22) ≤ x6 → (inR x5) ∧ ((x5 = 0 → (K 0 h)) ∧ (¬ (x5 = 0) → (inR (h 109 23)) ∧ (inR (h 109 18)) ∧ (((h 109 18) ≤ (h 109 23) → (K 0 h)) ∧ (¬ ((h 109 18) ≤ (h 109 23)) → (0 ≤ h 109 23 ∧ h 109 23 < 200) ∧ (inR (h 125 ((h 109 23).toNat))) ∧ (((h 125 ((h 109 23).toNat)) = 59 → (0 ≤ h 109 22 ∧ h 109 22 < 50) ∧ (K 1 (up (up (up (up (up (up h 109 23 ((h 109 23) + 1)) 127 ((h 109 22).toNat) x1) 128 ((h 109 22).toNat) x2) 129 ((h 109 22).toNat) x3) 130 ((h 109 22).toNat) x4) 109 22 ((h 109 22) + 1)))) ∧ (¬ ((h 125 ((h 109 23).toNat)) = 59) → (K 0 h)))))))) ∧ (¬ ((h 109 22) ≤ x6) → (inR x1) ∧ ((x1 ≠ 112 → (inR x5) ∧ ((x5 = 0 → (K 0 h)) ∧ (¬ (x5 = 0) → (inR (h 109 23)) ∧ (inR (h 109 18)) ∧ (((h 109 18) ≤ (h 109 23) → (K 0 h)) ∧ (¬ ((h 109 18) ≤ (h 109 23)) → (0 ≤ h 109 23 ∧ h 109 23 < 200) ∧ (inR (h 125 ((h 109 23).toNat))) ∧ (((h 125 ((h 109 23).toNat)) = 59 → (0 ≤ h 109 22 ∧ h 109 22 < 50) ∧ (K 1 (up (up (up (up (up (up h 109 23 ((h 109 23) + 1)) 127 ((h 109 22).toNat) x1) 128 ((h 109 22).toNat) x2) 129 ((h 109 22).toNat) x3) 130 ((h 109 22).toNat) x4) 109 22 ((h 109 22) + 1)))) ∧ (¬ ((h 125 ((h 109 23).toNat)) = 59) → (K 0 h)))))))) ∧ (¬ (x1 ≠ 112) → (((inR x5) ∧ (¬ (x5 = 0) → ((0 ≤ x6 ∧ x6 < 50) ∧ (inR (h 127 x6.toNat)) ∧ (¬ ((h 127 x6.toNat) ≠ 112) → ((inR (h 128 x6.toNat)) ∧ (inR x2) ∧ (¬ ((h 128 x6.toNat) = x2) → ((inR (h 129 x6.toNat)) ∧ (inR x3))))))))) ∧ (wI (d + 3) m_M_isItem 155 [(0, vR 109), (1, vI x1), (2, vI x2), (3, vI x3), (4, vI x4), (5, vI (b2i (¬ (x5 = 0) ∧ (((h 127 x6.toNat) ≠ 112) ∨ (¬ ((h 128 x6.toNat) = x2) ∧ (¬ ((h 129 x6.toNat) = x3))))))), (6, vI (x6 + 1))] [] h K)))))) : wI (d + 3) m_M_isItem 155 [(0, vR 109), (1, vI x1), (2, vI x2), (3, vI x3), (4, vI x4), (5, vI x5), (6, vI x6)] [] h K := by
  refine w_iload rfl rfl ?_
  refine w_aload_n rfl rfl ?_
  refine w_getI rfl f_M_173 rfl rfl rfl ?_
  obtain ⟨b1, F⟩ := F
  obtain ⟨b2, F⟩ := F
  refine w_icmp_ge (tgt := 222) rfl (by decide) ⟨b1, b2⟩ (fun q3 => ?_) (fun q3 => ?_)
  · replace F := F.1 q3
    refine w_iload rfl rfl ?_
    obtain ⟨b4, F⟩ := F
    refine w_if_eq (tgt := 252) rfl (by decide) b4 (fun q5 => ?_) (fun q5 => ?_)
    · replace F := F.1 q5
      refine w_iconst rfl ?_
      exact w_zret rfl rfl (by decide) ⟨rfl, rfl, _, rfl, F⟩
    · replace F := F.2 q5
      refine w_aload_n rfl rfl ?_
      refine w_getI rfl f_M_157 rfl rfl rfl ?_
      refine w_aload_n rfl rfl ?_
      refine w_getI rfl f_M_154 rfl rfl rfl ?_
      obtain ⟨b6, F⟩ := F
      obtain ⟨b7, F⟩ := F
      refine w_icmp_ge (tgt := 252) rfl (by decide) ⟨b6, b7⟩ (fun q8 => ?_) (fun q8 => ?_)
      · replace F := F.1 q8
        refine w_iconst rfl ?_
        exact w_zret rfl rfl (by decide) ⟨rfl, rfl, _, rfl, F⟩
      · replace F := F.2 q8
        refine w_aload_n rfl rfl ?_
        refine w_getR rfl f_M_62 rfl rfl rfl rfl rfl ?_
        refine w_aload_n rfl rfl ?_
        refine w_getI rfl f_M_157 rfl rfl rfl ?_
        obtain ⟨b9, F⟩ := F
        refine w_baload rfl rfl rfl b9 ?_
        refine w_bipush (by decide) (by decide) rfl ?_
        obtain ⟨b10, F⟩ := F
        refine w_icmp_eq (tgt := 254) rfl (by decide) ⟨b10, (r_lit rfl)⟩ (fun q11 => ?_) (fun q11 => ?_)
        · replace F := F.1 q11
          refine w_aload_n rfl rfl ?_
          refine w_dup rfl rfl ?_
          refine w_getI rfl f_M_157 rfl rfl rfl ?_
          refine w_iconst rfl ?_
          refine w_iadd rfl ?_
          refine w_putI rfl f_M_157 fw_12_23 rfl rfl rfl ?_
          refine w_aload_n rfl rfl ?_
          refine w_getR rfl f_M_69 rfl rfl rfl rfl rfl ?_
          refine w_aload_n rfl rfl ?_
          refine w_getI rfl f_M_173 rfl rfl rfl ?_
          refine w_iload_n rfl rfl ?_
          obtain ⟨b12, F⟩ := F
          refine w_iastore rfl rfl rfl b12 ?_
          refine w_aload_n rfl rfl ?_
          refine w_getR rfl f_M_72 rfl rfl rfl rfl rfl ?_
          refine w_aload_n rfl rfl ?_
          refine w_getI rfl f_M_173 rfl rfl rfl ?_
          refine w_iload_n rfl rfl ?_
          refine w_iastore rfl rfl rfl b12 ?_
          refine w_aload_n rfl rfl ?_
          refine w_getR rfl f_M_75 rfl rfl rfl rfl rfl ?_
          refine w_aload_n rfl rfl ?_
          refine w_getI rfl f_M_173 rfl rfl rfl ?_
          refine w_iload_n rfl rfl ?_
          refine w_iastore rfl rfl rfl b12 ?_
          refine w_aload_n rfl rfl ?_
          refine w_getR rfl f_M_78 rfl rfl rfl rfl rfl ?_
          refine w_aload_n rfl rfl ?_
          refine w_getI rfl f_M_173 rfl rfl rfl ?_
          refine w_iload rfl rfl ?_
          refine w_iastore rfl rfl rfl b12 ?_
          refine w_aload_n rfl rfl ?_
          refine w_dup rfl rfl ?_
          refine w_getI rfl f_M_173 rfl rfl rfl ?_
          refine w_iconst rfl ?_
          refine w_iadd rfl ?_
          refine w_putI rfl f_M_173 fw_12_22 rfl rfl rfl ?_
          refine w_iconst rfl ?_
          exact w_zret rfl rfl (by decide) ⟨rfl, rfl, _, rfl, F⟩
        · replace F := F.2 q11
          refine w_iconst rfl ?_
          exact w_zret rfl rfl (by decide) ⟨rfl, rfl, _, rfl, F⟩
  · replace F := F.2 q3
    refine w_iload_n rfl rfl ?_
    refine w_bipush (by decide) (by decide) rfl ?_
    obtain ⟨b13, F⟩ := F
    refine w_icmp_ne (tgt := 222) rfl (by decide) ⟨b13, (r_lit rfl)⟩ (fun q14 => ?_) (fun q14 => ?_)
    · replace F := F.1 q14
      refine w_iload rfl rfl ?_
      obtain ⟨b15, F⟩ := F
      refine w_if_eq (tgt := 252) rfl (by decide) b15 (fun q16 => ?_) (fun q16 => ?_)
      · replace F := F.1 q16
        refine w_iconst rfl ?_
        exact w_zret rfl rfl (by decide) ⟨rfl, rfl, _, rfl, F⟩
      · replace F := F.2 q16
        refine w_aload_n rfl rfl ?_
        refine w_getI rfl f_M_157 rfl rfl rfl ?_
        refine w_aload_n rfl rfl ?_
        refine w_getI rfl f_M_154 rfl rfl rfl ?_
        obtain ⟨b17, F⟩ := F
        obtain ⟨b18, F⟩ := F
        refine w_icmp_ge (tgt := 252) rfl (by decide) ⟨b17, b18⟩ (fun q19 => ?_) (fun q19 => ?_)
        · replace F := F.1 q19
          refine w_iconst rfl ?_
          exact w_zret rfl rfl (by decide) ⟨rfl, rfl, _, rfl, F⟩
        · replace F := F.2 q19
          refine w_aload_n rfl rfl ?_
          refine w_getR rfl f_M_62 rfl rfl rfl rfl rfl ?_
          refine w_aload_n rfl rfl ?_
          refine w_getI rfl f_M_157 rfl rfl rfl ?_
          obtain ⟨b20, F⟩ := F
          refine w_baload rfl rfl rfl b20 ?_
          refine w_bipush (by decide) (by decide) rfl ?_
          obtain ⟨b21, F⟩ := F
          refine w_icmp_eq (tgt := 254) rfl (by decide) ⟨b21, (r_lit rfl)⟩ (fun q22 => ?_) (fun q22 => ?_)
          · replace F := F.1 q22
            refine w_aload_n rfl rfl ?_
            refine w_dup rfl rfl ?_
            refine w_getI rfl f_M_157 rfl rfl rfl ?_
            refine w_iconst rfl ?_
            refine w_iadd rfl ?_
            refine w_putI rfl f_M_157 fw_12_23 rfl rfl rfl ?_
            refine w_aload_n rfl rfl ?_
            refine w_getR rfl f_M_69 rfl rfl rfl rfl rfl ?_
            refine w_aload_n rfl rfl ?_
            refine w_getI rfl f_M_173 rfl rfl rfl ?_
            refine w_iload_n rfl rfl ?_
            obtain ⟨b23, F⟩ := F
            refine w_iastore rfl rfl rfl b23 ?_
            refine w_aload_n rfl rfl ?_
            refine w_getR rfl f_M_72 rfl rfl rfl rfl rfl ?_
            refine w_aload_n rfl rfl ?_
            refine w_getI rfl f_M_173 rfl rfl rfl ?_
            refine w_iload_n rfl rfl ?_
            refine w_iastore rfl rfl rfl b23 ?_
            refine w_aload_n rfl rfl ?_
            refine w_getR rfl f_M_75 rfl rfl rfl rfl rfl ?_
            refine w_aload_n rfl rfl ?_
            refine w_getI rfl f_M_173 rfl rfl rfl ?_
            refine w_iload_n rfl rfl ?_
            refine w_iastore rfl rfl rfl b23 ?_
            refine w_aload_n rfl rfl ?_
            refine w_getR rfl f_M_78 rfl rfl rfl rfl rfl ?_
            refine w_aload_n rfl rfl ?_
            refine w_getI rfl f_M_173 rfl rfl rfl ?_
            refine w_iload rfl rfl ?_
            refine w_iastore rfl rfl rfl b23 ?_
            refine w_aload_n rfl rfl ?_
            refine w_dup rfl rfl ?_
            refine w_getI rfl f_M_173 rfl rfl rfl ?_
            refine w_iconst rfl ?_
            refine w_iadd rfl ?_
            refine w_putI rfl f_M_173 fw_12_22 rfl rfl rfl ?_
            refine w_iconst rfl ?_
            exact w_zret rfl rfl (by decide) ⟨rfl, rfl, _, rfl, F⟩
          · replace F := F.2 q22
            refine w_iconst rfl ?_
            exact w_zret rfl rfl (by decide) ⟨rfl, rfl, _, rfl, F⟩
    · replace F := F.2 q14
      refine w_iload rfl rfl ?_
      obtain ⟨G, F⟩ := F
      have J : ∀ (t35 : Int), t35 = b2i (¬ (x5 = 0) ∧ (((h 127 x6.toNat) ≠ 112) ∨ (¬ ((h 128 x6.toNat) = x2) ∧ (¬ ((h 129 x6.toNat) = x3))))) → wI (d + 3) m_M_isItem 214 [(0, vR 109), (1, vI x1), (2, vI x2), (3, vI x3), (4, vI x4), (5, vI x5), (6, vI x6)] [vI t35] h K := by
        intro t35 et35
        subst et35
        refine w_istore rfl rfl rfl rfl (w_ls (ls2 := [(0, vR 109), (1, vI x1), (2, vI x2), (3, vI x3), (4, vI x4), (5, vI (b2i (¬ (x5 = 0) ∧ (((h 127 x6.toNat) ≠ 112) ∨ (¬ ((h 128 x6.toNat) = x2) ∧ (¬ ((h 129 x6.toNat) = x3))))))), (6, vI x6)]) rfl ?_)
        refine w_iinc rfl rfl rfl rfl rfl (w_ls (ls2 := [(0, vR 109), (1, vI x1), (2, vI x2), (3, vI x3), (4, vI x4), (5, vI (b2i (¬ (x5 = 0) ∧ (((h 127 x6.toNat) ≠ 112) ∨ (¬ ((h 128 x6.toNat) = x2) ∧ (¬ ((h 129 x6.toNat) = x3))))))), (6, vI (x6 + 1))]) rfl ?_)
        refine w_goto (tgt := 155) rfl (by decide) ?_
        exact F
      obtain ⟨b24, gb_⟩ := G
      refine w_if_eq (tgt := 213) rfl (by decide) b24 (fun q25 => ?_) (fun q25 => ?_)
      · refine w_iconst rfl ?_
        exact J _ (b2i_f (fun z => z.1 q25)).symm
      · have G := gb_ q25
        obtain ⟨b26, b27, gb_⟩ := G
        refine w_aload_n rfl rfl ?_
        refine w_getR rfl f_M_69 rfl rfl rfl rfl rfl ?_
        refine w_iload rfl rfl ?_
        refine w_iaload rfl rfl rfl b26 ?_
        refine w_bipush (by decide) (by decide) rfl ?_
        refine w_icmp_ne (tgt := 209) rfl (by decide) ⟨b27, (r_lit rfl)⟩ (fun q28 => ?_) (fun q28 => ?_)
        · refine w_iconst rfl ?_
          refine w_goto (tgt := 214) rfl (by decide) ?_
          exact J _ (b2i_t ⟨q25, (Or.inl q28)⟩).symm
        · have G := gb_ q28
          obtain ⟨b29, b30, gb_⟩ := G
          refine w_aload_n rfl rfl ?_
          refine w_getR rfl f_M_72 rfl rfl rfl rfl rfl ?_
          refine w_iload rfl rfl ?_
          refine w_iaload rfl rfl rfl b26 ?_
          refine w_iload_n rfl rfl ?_
          refine w_icmp_eq (tgt := 213) rfl (by decide) ⟨b29, b30⟩ (fun q31 => ?_) (fun q31 => ?_)
          · refine w_iconst rfl ?_
            exact J _ (b2i_f (fun z => (fun z => z.elim q28 (fun z => z.1 q31)) z.2)).symm
          · have G := gb_ q31
            obtain ⟨b32, b33⟩ := G
            refine w_aload_n rfl rfl ?_
            refine w_getR rfl f_M_75 rfl rfl rfl rfl rfl ?_
            refine w_iload rfl rfl ?_
            refine w_iaload rfl rfl rfl b26 ?_
            refine w_iload_n rfl rfl ?_
            refine w_icmp_eq (tgt := 213) rfl (by decide) ⟨b32, b33⟩ (fun q34 => ?_) (fun q34 => ?_)
            · refine w_iconst rfl ?_
              exact J _ (b2i_f (fun z => (fun z => z.elim q28 (fun z => (fun z => z q34) z.2)) z.2)).symm
            · refine w_iconst rfl ?_
              refine w_goto (tgt := 214) rfl (by decide) ?_
              exact J _ (b2i_t ⟨q25, (Or.inr ⟨q31, q34⟩)⟩).symm
theorem MTxt_c2 {h h2 : St} {n : Nat} {tx : Nat → Int} (g : ag (fun c k => c = 125 ∨ (c = 109 ∧ k = 18)) h h2) (a : MTxt h n tx) : MTxt h2 n tx := ⟨by rw [g 109 18 (by omega)]; exact a.1, a.2.1, fun i hi => by rw [g 125 i (by omega)]; exact a.2.2 i hi⟩
noncomputable def nvA (n : Nat) (tx : Nat → Int) (a : Nat) : Int := cif (nkA n tx a) (vlA tx a (lnA n tx a)) (-1)
theorem nv_R {n : Nat} {tx : Nat → Int} {a : Nat} (hn : n ≤ 200) : -1 ≤ nvA n tx a ∧ nvA n tx a ≤ 999 := by
  unfold nvA
  by_cases y : nkA n tx a
  · rw [cif_t y]; have := vl_R hn y; omega
  · rw [cif_f y]; omega
theorem nv_p {n : Nat} {tx : Nat → Int} {a : Nat} (h : 0 ≤ nvA n tx a) : nkA n tx a ∧ nvA n tx a = vlA tx a (lnA n tx a) := by
  unfold nvA at *
  by_cases y : nkA n tx a
  · exact ⟨y, cif_t y⟩
  · rw [cif_f y] at h; exact absurd h (by decide)
theorem M_nu_4 {D : Nat} {K : Int → St → Prop} {n : Nat} {tx : Nat → Int} {a : Nat} (vt : VTxt n tx) (n2 : n ≤ 200) : ∀ (r m : Nat) (x1 : Int) (h : St), m + r = lnA n tx a → MTxt h n tx → h 109 23 = ((a + m : Nat) : Int) → a + m ≤ 300 → (m ≤ 3 → x1 = vlA tx a m) → (∀ h2, ag (fun c k => ¬ (c = 109 ∧ k = 23)) h h2 → h2 109 23 = ((a + lnA n tx a : Nat) : Int) → K (nvA n tx a) h2) → wI (D + 1) m_M_number 4 [(0, vR 109), (1, vI x1), (2, vI m)] [] h K := by
  have lc := lnA_c (n := n) (tx := tx) (a := a) n2
  intro r
  induction r with
  | zero =>
    intro m x1 h hm mt e23 b w k
    have e : m = lnA n tx a := by omega
    have fin : K (cif (1 ≤ (m : Int) ∧ (m : Int) ≤ 3) x1 (-1)) h := by
      have := k h ag_rfl (by rw [e23, e])
      unfold nvA at this
      by_cases y : nkA n tx a
      · rw [cif_t y] at this
        unfold nkA at y
        rw [cif_t (by omega), w (by omega), e]; exact this
      · rw [cif_f y] at this
        unfold nkA at y
        rw [cif_f (by omega)]; exact this
    refine s_M_number_4 _ _ h K ?_
    rw [e23, Int.toNat_natCast, mt.1]
    by_cases y : a + m < n
    · have v := vt _ y
      rw [mt.2.2 _ y]
      refine ⟨⟨by omega, by omega⟩, ⟨by omega, by omega⟩, fun z => by omega, fun _ => ⟨⟨by omega, by omega⟩, ⟨by omega, by omega⟩, fun _ => ⟨⟨by omega, by omega⟩, fin⟩, fun z => ?_⟩⟩
      exact absurd (show fgA n tx (a + lnA n tx a) by rw [← e]; exact ⟨y, z⟩) lc.2
    · refine ⟨⟨by omega, by omega⟩, ⟨by omega, by omega⟩, fun _ => ⟨⟨by omega, by omega⟩, fin⟩, fun z => by omega⟩
  | succ r ih =>
    intro m x1 h hm mt e23 b w k
    have f := lc.1 m (by omega)
    have v := vt _ f.1
    have f1 := f.1
    have f2 := f.2
    refine s_M_number_4 _ _ h K ?_
    rw [e23, Int.toNat_natCast, mt.1, mt.2.2 _ f.1]
    refine ⟨⟨by omega, by omega⟩, ⟨by omega, by omega⟩, fun z => by omega, fun _ => ⟨⟨by omega, by omega⟩, ⟨by omega, by omega⟩, fun z => absurd f.2 z, fun _ => ⟨⟨by omega, by omega⟩, ?_⟩⟩⟩
    refine ih (m + 1) _ _ (by omega) (MTxt_c2 (ag_up (by omega) ag_rfl) mt) (by rw [up_same]; omega) (by omega) (fun y => ?_) (fun h2 g2 => k h2 (ag_trans (ag_up (by omega) ag_rfl) g2))
    rw [cif_f (by omega), w (by omega), vlA]; omega
theorem c_M_number {D : Nat} {h : St} {K : Int → St → Prop} {n : Nat} {tx : Nat → Int} {a : Nat} (mt : MTxt h n tx) (vt : VTxt n tx) (e23 : h 109 23 = (a : Int)) (ha : a ≤ 300) (k : ∀ h2, ag (fun c k => ¬ (c = 109 ∧ k = 23)) h h2 → h2 109 23 = ((a + lnA n tx a : Nat) : Int) → K (nvA n tx a) h2) : mwpI (D + 2) m_M_number [vR 109] h K :=
  mI_intro b_M_number rfl (s_M_number_0 (d := D) h K (M_nu_4 vt mt.2.1 (lnA n tx a) 0 _ h (Nat.zero_add _) mt e23 ha (fun _ => rfl) k))
noncomputable def mvA (n : Nat) (tx : Nat → Int) (q : Nat) : Int := cif (mkA n tx 44 q) (nvA n tx (q + 1)) (-1)
noncomputable def mpA (n : Nat) (tx : Nat → Int) (q : Nat) : Nat := nif (mkA n tx 44 q) (q + 1 + lnA n tx (q + 1)) q
theorem mv_R {n : Nat} {tx : Nat → Int} {a : Nat} (hn : n ≤ 200) : -1 ≤ mvA n tx a ∧ mvA n tx a ≤ 999 := by
  unfold mvA
  by_cases y : mkA n tx 44 a
  · rw [cif_t y]; exact nv_R hn
  · rw [cif_f y]; omega
theorem mv_p {n : Nat} {tx : Nat → Int} {q : Nat} (h : 0 ≤ mvA n tx q) : mkA n tx 44 q ∧ nkA n tx (q + 1) ∧ mvA n tx q = vlA tx (q + 1) (lnA n tx (q + 1)) ∧ mpA n tx q = q + 1 + lnA n tx (q + 1) := by
  unfold mvA mpA at *
  by_cases y : mkA n tx 44 q
  · rw [cif_t y] at h ⊢
    have := nv_p h
    exact ⟨y, this.1, this.2, nif_t y⟩
  · rw [cif_f y] at h; exact absurd h (by decide)
theorem mv_q {n : Nat} {tx : Nat → Int} {q : Nat} (y : mkA n tx 44 q) (z : nkA n tx (q + 1)) : mvA n tx q = vlA tx (q + 1) (lnA n tx (q + 1)) ∧ mpA n tx q = q + 1 + lnA n tx (q + 1) := by
  unfold mvA mpA nvA
  exact ⟨by rw [cif_t y, cif_t z], nif_t y⟩
theorem ln_b {n : Nat} {tx : Nat → Int} {a : Nat} (hn : n ≤ 200) (ha : a ≤ 201) : a + lnA n tx a ≤ 201 := by
  have lc := lnA_c (n := n) (tx := tx) (a := a) hn
  by_cases y : lnA n tx a = 0
  · omega
  · have := (lc.1 (lnA n tx a - 1) (by omega)).1; omega
theorem mp_b {n : Nat} {tx : Nat → Int} {q : Nat} (hn : n ≤ 200) (hq : q ≤ 201) : mpA n tx q ≤ 201 := by
  unfold mpA
  by_cases y : mkA n tx 44 q
  · rw [nif_t y]; have := y.1; exact ln_b hn (by omega)
  · rw [nif_f y]; exact hq
theorem c_M_more {D : Nat} {h : St} {K : Int → St → Prop} {n : Nat} {tx : Nat → Int} {q : Nat} (mt : MTxt h n tx) (vt : VTxt n tx) (e23 : h 109 23 = (q : Int)) (hq : q ≤ 201) (k : ∀ h2, ag (fun c k => ¬ (c = 109 ∧ k = 23)) h h2 → h2 109 23 = (mpA n tx q : Int) → K (mvA n tx q) h2) : mwpI (D + 3) m_M_more [vR 109] h K := by
  have n2 := mt.2.1
  have no : ¬ mkA n tx 44 q → K (-1) h := fun z => by
    have := k h ag_rfl (by rw [e23, show mpA n tx q = q from nif_f z])
    rw [show mvA n tx q = -1 from cif_f z] at this
    exact this
  refine mI_intro b_M_more rfl (s_M_more_0 (d := D) h K ?_)
  rw [e23, Int.toNat_natCast, mt.1]
  refine ⟨⟨by omega, by omega⟩, ⟨by omega, by omega⟩, fun y => no (fun z => by have := z.1; omega), fun y => ⟨⟨by omega, by omega⟩, ?_⟩⟩
  have qn : q < n := by omega
  have v := vt q qn
  rw [mt.2.2 q qn]
  refine ⟨⟨by omega, by omega⟩, fun z => ?_, fun z => no (fun u => z u.2)⟩
  refine c_M_number (a := q + 1) (MTxt_c2 (ag_up (by omega) ag_rfl) mt) vt (by rw [up_same]; rfl) (by omega) (fun h2 g2 e2 => ?_)
  have := k h2 (ag_trans (ag_up (by omega) ag_rfl) g2) (by rw [e2, show mpA n tx q = q + 1 + lnA n tx (q + 1) from nif_t ⟨qn, z⟩])
  rw [show mvA n tx q = nvA n tx (q + 1) from cif_t ⟨qn, z⟩] at this
  exact this
def MIt (h : St) (n : Nat) (tx : Nat → Int) (r : Nat) : Prop := h 109 22 = (r : Int) ∧ ∀ k, k < r → h 127 k = tx (psA n tx k) ∧ h 128 k = w1A n tx (psA n tx k) ∧ h 129 k = w2A n tx (psA n tx k) ∧ (tx (psA n tx k) = 120 → h 130 k = w3A n tx (psA n tx k))
def agM (h h2 : St) : Prop := ag (fun c k => (c < 127 ∨ 130 < c) ∧ ¬ (c = 109 ∧ (k = 22 ∨ k = 23))) h h2
theorem MIt_c {h h2 : St} {n : Nat} {tx : Nat → Int} {r : Nat} (g : ag (fun c k => ¬ (c = 109 ∧ k = 23)) h h2) (a : MIt h n tx r) : MIt h2 n tx r :=
  ⟨by rw [g 109 22 (by omega)]; exact a.1, fun k hk => by rw [g 127 k (by omega), g 128 k (by omega), g 129 k (by omega), g 130 k (by omega)]; exact a.2 k hk⟩
def upI (h : St) (r q : Nat) (l z2 z3 z4 : Int) : St := up (up (up (up (up (up h 109 23 ((q : Int) + 1)) 127 r l) 128 r z2) 129 r z3) 130 r z4) 109 22 ((r : Int) + 1)
theorem upI_g {h : St} {r q : Nat} {l z2 z3 z4 : Int} : agM h (upI h r q l z2 z3 z4) := ag_up (by omega) (ag_up (by omega) (ag_up (by omega) (ag_up (by omega) (ag_up (by omega) (ag_up (by omega) ag_rfl)))))
theorem upI_q {h : St} {r q : Nat} {l z2 z3 z4 : Int} : upI h r q l z2 z3 z4 109 23 = ((q + 1 : Nat) : Int) := by
  unfold upI
  rw [up_ne (by omega), up_ne (by omega), up_ne (by omega), up_ne (by omega), up_ne (by omega), up_same]; rfl
theorem upI_m {h : St} {n : Nat} {tx : Nat → Int} {r q : Nat} {l z2 z3 z4 : Int} (a : MIt h n tx r) (e1 : l = tx (psA n tx r)) (e2 : z2 = w1A n tx (psA n tx r)) (e3 : z3 = w2A n tx (psA n tx r)) (e4 : tx (psA n tx r) = 120 → z4 = w3A n tx (psA n tx r)) : MIt (upI h r q l z2 z3 z4) n tx (r + 1) := by
  unfold upI
  refine ⟨by rw [up_same]; rfl, fun j hj => ?_⟩
  by_cases e : j = r
  · subst e
    refine ⟨?_, ?_, ?_, fun z => ?_⟩
    · rw [up_ne (by omega), up_ne (by omega), up_ne (by omega), up_ne (by omega), up_same]; exact e1
    · rw [up_ne (by omega), up_ne (by omega), up_ne (by omega), up_same]; exact e2
    · rw [up_ne (by omega), up_ne (by omega), up_same]; exact e3
    · rw [up_ne (by omega), up_same]; exact e4 z
  · rw [up_ne (by omega), up_ne (by omega), up_ne (by omega), up_ne (by omega), up_ne (by omega), up_ne (by omega), up_ne (by omega), up_ne (by omega), up_ne (by omega), up_ne (by omega), up_ne (by omega), up_ne (by omega), up_ne (by omega), up_ne (by omega), up_ne (by omega), up_ne (by omega), up_ne (by omega), up_ne (by omega), up_ne (by omega), up_ne (by omega), up_ne (by omega), up_ne (by omega), up_ne (by omega), up_ne (by omega)]
    exact a.2 j (by omega)
def dkA (n : Nat) (tx : Nat → Int) (z2 z3 : Int) (k : Nat) : Prop := tx (psA n tx k) ≠ 112 ∨ (w1A n tx (psA n tx k) ≠ z2 ∧ w2A n tx (psA n tx k) ≠ z3)
theorem M_it_t {h : St} {K : Int → St → Prop} {n : Nat} {tx : Nat → Int} {r q : Nat} {l z2 z3 z4 : Int} {Q : Prop} (mt : MTxt h n tx) (vt : VTxt n tx) (mi : MIt h n tx r) (hr : r < 40) (e23 : h 109 23 = (q : Int)) (hq : q ≤ 201) (k1 : Q → mkA n tx 59 q → K 1 (upI h r q l z2 z3 z4)) (k0 : ¬ (Q ∧ mkA n tx 59 q) → K 0 h) : (inR (b2i Q)) ∧ ((b2i Q = 0 → (K 0 h)) ∧ (¬ (b2i Q = 0) → (inR (h 109 23)) ∧ (inR (h 109 18)) ∧ (((h 109 18) ≤ (h 109 23) → (K 0 h)) ∧ (¬ ((h 109 18) ≤ (h 109 23)) → (0 ≤ h 109 23 ∧ h 109 23 < 200) ∧ (inR (h 125 ((h 109 23).toNat))) ∧ (((h 125 ((h 109 23).toNat)) = 59 → (0 ≤ h 109 22 ∧ h 109 22 < 50) ∧ (K 1 (up (up (up (up (up (up h 109 23 ((h 109 23) + 1)) 127 ((h 109 22).toNat) l) 128 ((h 109 22).toNat) z2) 129 ((h 109 22).toNat) z3) 130 ((h 109 22).toNat) z4) 109 22 ((h 109 22) + 1)))) ∧ (¬ ((h 125 ((h 109 23).toNat)) = 59) → (K 0 h))))))) := by
  have n2 := mt.2.1
  refine ⟨b2i_R, fun z => k0 (fun u => b2i_eq0.mp z u.1), fun z => ?_⟩
  have hQ := b2i_ne0.mp z
  rw [e23, mt.1, Int.toNat_natCast]
  refine ⟨⟨by omega, by omega⟩, ⟨by omega, by omega⟩, fun y => k0 (fun u => by have := u.2.1; omega), fun y => ⟨⟨by omega, by omega⟩, ?_⟩⟩
  have qn : q < n := by omega
  have v := vt q qn
  rw [mt.2.2 q qn, mi.1, Int.toNat_natCast]
  exact ⟨⟨by omega, by omega⟩, fun u => ⟨⟨by omega, by omega⟩, k1 hQ ⟨qn, u⟩⟩, fun u => k0 (fun w => u w.2.2)⟩
theorem M_it_155 {D : Nat} {h : St} {K : Int → St → Prop} {n : Nat} {tx : Nat → Int} {r q : Nat} {l z2 z3 z4 : Int} {P : Prop} (mt : MTxt h n tx) (vt : VTxt n tx) (mi : MIt h n tx r) (al : ∀ k, k < r → okA n tx k ∧ psA n tx k < n) (hr : r < 40) (e23 : h 109 23 = (q : Int)) (hq : q ≤ 201) (rl : inR l) (r2 : inR z2) (r3 : inR z3) (k1 : P → (l = 112 → ∀ k, k < r → dkA n tx z2 z3 k) → mkA n tx 59 q → K 1 (upI h r q l z2 z3 z4)) (k0 : ¬ (P ∧ (l = 112 → ∀ k, k < r → dkA n tx z2 z3 k) ∧ mkA n tx 59 q) → K 0 h) : ∀ (m c : Nat), c + m = r → (l ≠ 112 → c = 0) → wI (D + 3) m_M_isItem 155 [(0, vR 109), (1, vI l), (2, vI z2), (3, vI z3), (4, vI z4), (5, vI (b2i (P ∧ ∀ k, k < c → dkA n tx z2 z3 k))), (6, vI c)] [] h K := by
  intro m
  induction m with
  | zero =>
    intro c hc w
    have e : c = r := by omega
    subst e
    have m22 := mi.1
    refine s_M_isItem_155 _ _ _ _ _ _ h K ⟨⟨by omega, by omega⟩, ⟨by omega, by omega⟩, fun _ => M_it_t mt vt mi hr e23 hq (fun hQ mk => k1 hQ.1 (fun _ => hQ.2) mk) (fun no => k0 (fun u => no ⟨⟨u.1, fun k hk => ?_⟩, u.2.2⟩)), fun y => by omega⟩
    by_cases y : l = 112
    · exact u.2.1 y k hk
    · have := w y; omega
  | succ m ih =>
    intro c hc w
    have m22 := mi.1
    have hcr : c < r := by omega
    refine s_M_isItem_155 _ _ _ _ _ _ h K ⟨⟨by omega, by omega⟩, ⟨by omega, by omega⟩, fun y => by omega, fun _ => ⟨rl, fun y => ?_, fun y => ?_⟩⟩
    · have c0 := w y
      subst c0
      exact M_it_t mt vt mi hr e23 hq (fun hQ mk => k1 hQ.1 (fun u => absurd u y) mk) (fun no => k0 (fun u => no ⟨⟨u.1, fun k hk => absurd hk (Nat.not_lt_zero _)⟩, u.2.2⟩))
    · obtain ⟨ok, hn⟩ := al c hcr
      have n2 := mt.2.1
      have v := vt _ hn
      obtain ⟨a1, a2, a3, _⟩ := mi.2 c hcr
      have s1 := ok.2.1
      have s2 : 0 ≤ w2A n tx (psA n tx c) ∧ w2A n tx (psA n tx c) ≤ 19 := by
        obtain ⟨_, t1, t2, t3⟩ := ok.2
        rcases ok.1 with ⟨z, _⟩ | ⟨z, _⟩
        · rcases z with z | z
          · have := (t3 z).1; omega
          · have := t1 z; omega
        · have := (t2 z).1; omega
      rw [Int.toNat_natCast, a1, a2, a3]
      refine ⟨⟨b2i_R, fun _ => ⟨⟨by omega, by omega⟩, ⟨by omega, by omega⟩, fun _ => ⟨⟨by omega, by omega⟩, r2, fun _ => ⟨⟨by omega, by omega⟩, r3⟩⟩⟩⟩, ?_⟩
      have nx := ih (c + 1) (by omega) (fun z => absurd z y)
      rw [b2i_congr (p := ¬ (b2i (P ∧ ∀ k, k < c → dkA n tx z2 z3 k) = 0) ∧ (tx (psA n tx c) ≠ 112 ∨ (¬ (w1A n tx (psA n tx c) = z2) ∧ ¬ (w2A n tx (psA n tx c) = z3)))) (q := P ∧ ∀ k, k < c + 1 → dkA n tx z2 z3 k) ⟨fun u => ?_, fun u => ?_⟩]
      · exact nx
      · have u1 := b2i_ne0.mp u.1
        refine ⟨u1.1, fun k hk => ?_⟩
        by_cases e : k = c
        · subst e; exact u.2
        · exact u1.2 k (by omega)
      · exact ⟨b2i_ne0.mpr ⟨u.1, fun k hk => u.2 k (by omega)⟩, u.2 c (by omega)⟩
theorem dk_to {n : Nat} {tx : Nat → Int} {r : Nat} {z2 z3 : Int} : (∀ k, k < r → dkA n tx z2 z3 k) ↔ ¬ toP n tx r z2 ∧ ¬ toN n tx r z3 := by
  constructor
  · intro h
    refine ⟨fun ⟨k, a, b, c⟩ => ?_, fun ⟨k, a, b, c⟩ => ?_⟩
    · rcases h k a with z | z
      · exact z b
      · exact z.1 c
    · rcases h k a with z | z
      · exact z b
      · exact z.2 c
  · rintro ⟨h1, h2⟩ k hk
    by_cases y : tx (psA n tx k) = 112
    · exact Or.inr ⟨fun z => h1 ⟨k, hk, y, z⟩, fun z => h2 ⟨k, hk, y, z⟩⟩
    · exact Or.inl y
theorem c_M_isItem {D : Nat} {h : St} {K : Int → St → Prop} {n : Nat} {tx : Nat → Int} {r : Nat} (mt : MTxt h n tx) (vt : VTxt n tx) (mi : MIt h n tx r) (al : ∀ k, k < r → okA n tx k ∧ psA n tx k < n) (hr : r < 40) (e23 : h 109 23 = (psA n tx r : Int)) (hn : psA n tx r < n) (k1 : okA n tx r → ∀ h2, agM h h2 → MIt h2 n tx (r + 1) → h2 109 23 = (psA n tx (r + 1) : Int) → K 1 h2) (k0 : ¬ okA n tx r → ∀ h2, agM h h2 → MIt h2 n tx r → K 0 h2) : mwpI (D + 4) m_M_isItem [vR 109] h K := by
  have n2 := mt.2.1
  have v := vt _ hn
  refine mI_intro b_M_isItem rfl (s_M_isItem_0 (d := D) h K ?_)
  rw [e23, Int.toNat_natCast, mt.2.2 _ hn]
  have ps1 : psA n tx (r + 1) = nxA n tx (psA n tx r) := rfl
  have okd : okA n tx r ↔ fmA n tx (psA n tx r) ∧ soA n tx r (psA n tx r) := Iff.rfl
  rw [ps1, okd] at k1
  rw [okd] at k0
  generalize ea : psA n tx r = a at *
  have f1 := nv_R (n := n) (tx := tx) (a := a + 1) n2
  have l1 := ln_b (n := n) (tx := tx) (a := a + 1) n2 (by omega)
  refine ⟨⟨by omega, by omega⟩, ?_⟩
  refine c_M_number (a := a + 1) (MTxt_c2 (ag_up (by omega) ag_rfl) mt) vt (by rw [up_same]; rfl) (by omega) (fun h2 g2 e2 => ?_)
  have ga : ag (fun c k => ¬ (c = 109 ∧ k = 23)) h h2 := ag_trans (ag_up (by omega) ag_rfl) g2
  refine c_M_more (q := e1A n tx a) (MTxt_c2 (ag_sub (fun c k p => by omega) ga) mt) vt e2 l1 (fun h3 g3 e3 => ?_)
  have gb : ag (fun c k => ¬ (c = 109 ∧ k = 23)) h h3 := ag_trans ga g3
  have f2 := mv_R (n := n) (tx := tx) (a := e1A n tx a) n2
  have l2 := mp_b (n := n) (tx := tx) (q := e1A n tx a) n2 l1
  have r2 : inR (nvA n tx (a + 1)) := ⟨by omega, by omega⟩
  have r3 : inR (mvA n tx (e1A n tx a)) := ⟨by omega, by omega⟩
  have rl : inR (tx a) := ⟨by omega, by omega⟩
  refine ⟨rl, fun y => ⟨?_, ?_⟩, fun y => ?_⟩
  · exact ⟨fun _ => ⟨fun _ => fun z => absurd y z, fun _ => ⟨r2, fun _ => r3⟩⟩, fun _ => ⟨r2, fun _ => r3⟩⟩
  · generalize eP : (((tx a ≠ 112) ∧ (((tx a ≠ 107) ∧ (¬ (tx a ≠ 120) ∧ ((0 ≤ nvA n tx (a + 1) ∧ nvA n tx (a + 1) ≤ 11) ∧ ((0 ≤ mvA n tx (e1A n tx a) ∧ mvA n tx (e1A n tx a) ≤ 11) ∧ (¬ (nvA n tx (a + 1) = mvA n tx (e1A n tx a)) ∧ (1 ≤ (0 : Int) ∧ (0 : Int) ≤ 19)))))) ∨ (¬ (tx a ≠ 107) ∧ ((0 ≤ nvA n tx (a + 1) ∧ nvA n tx (a + 1) ≤ 11) ∧ (1 ≤ mvA n tx (e1A n tx a) ∧ mvA n tx (e1A n tx a) ≤ 19))))) ∨ (¬ (tx a ≠ 112) ∧ ((0 ≤ nvA n tx (a + 1) ∧ nvA n tx (a + 1) ≤ 11) ∧ (0 ≤ mvA n tx (e1A n tx a) ∧ mvA n tx (e1A n tx a) ≤ 11)))) = P
    have get : P → (tx a = 112 ∨ tx a = 107) ∧ (nkA n tx (a + 1) ∧ mkA n tx 44 (e1A n tx a)) ∧ nkA n tx (e1A n tx a + 1) ∧ nvA n tx (a + 1) = w1A n tx a ∧ mvA n tx (e1A n tx a) = w2A n tx a ∧ mpA n tx (e1A n tx a) = e2A n tx a := fun hP => by
      rw [← eP] at hP
      have x1 := nv_p (n := n) (tx := tx) (a := a + 1) (by omega)
      have x2 := mv_p (n := n) (tx := tx) (q := e1A n tx a) (by omega)
      exact ⟨by omega, ⟨x1.1, x2.1⟩, x2.2.1, x1.2, x2.2.2.1, x2.2.2.2⟩
    have cv := M_it_155 (D := D) (K := K) (h := h3) (r := r) (q := mpA n tx (e1A n tx a)) (l := tx a) (z2 := nvA n tx (a + 1)) (z3 := mvA n tx (e1A n tx a)) (z4 := 0) (P := P) (MTxt_c2 (ag_sub (fun c k p => by omega) gb) mt) vt (MIt_c gb mi) al hr e3 l2 rl r2 r3 (fun hP dk mk => ?_) (fun no => k0 (fun ok => no ?_) h3 (ag_sub (fun c k p => by omega) gb) (MIt_c gb mi)) r 0 (Nat.zero_add _) (fun _ => rfl)
    · rw [b2i_congr (q := P) ⟨fun u => u.1, fun u => ⟨u, fun k hk => absurd hk (Nat.not_lt_zero _)⟩⟩] at cv
      exact cv
    · obtain ⟨x1, x2, x3, x4, x5, x6⟩ := get hP
      rw [x6] at mk
      have fm : fmA n tx a := Or.inl ⟨x1, x2, x3, mk⟩
      have so : soA n tx r a := by
        rw [← eP, x4, x5] at hP
        rw [x4, x5] at dk
        refine ⟨by omega, fun u => by omega, fun u => absurd u y, fun u => ⟨by omega, dk_to.mp (dk u)⟩⟩
      refine k1 ⟨fm, so⟩ _ (ag_trans (ag_sub (fun c k p => by omega) gb) upI_g) (upI_m (MIt_c gb mi) (by rw [ea]) (by rw [ea]; exact x4) (by rw [ea]; exact x5) (fun z => absurd (by rw [ea] at z; exact z) y)) ?_
      rw [upI_q, show nxA n tx a = e2A n tx a + 1 from nif_f y, x6]
    · obtain ⟨fm, so⟩ := ok
      rcases fm with ⟨x1, ⟨x2, x3⟩, x4, x5⟩ | ⟨x1, _⟩
      · have e4 : nvA n tx (a + 1) = w1A n tx a := cif_t x2
        obtain ⟨e5, e6⟩ := mv_q x3 x4
        have e5' : mvA n tx (e1A n tx a) = w2A n tx a := e5
        have e6' : mpA n tx (e1A n tx a) = e2A n tx a := e6
        obtain ⟨s1, s2, _, s4⟩ := so
        rw [← eP, e4, e5', e6']
        refine ⟨?_, fun u => dk_to.mpr (s4 u).2, x5⟩
        rcases x1 with x1 | x1
        · have := (s4 x1).1; omega
        · have := s2 x1; omega
      · exact absurd x1 y
  · have y2 : tx a = 120 := Classical.not_not.mp y
    refine c_M_more (q := mpA n tx (e1A n tx a)) (MTxt_c2 (ag_sub (fun c k p => by omega) gb) mt) vt e3 l2 (fun h4 g4 e4 => ?_)
    have gc : ag (fun c k => ¬ (c = 109 ∧ k = 23)) h h4 := ag_trans gb g4
    have f3 := mv_R (n := n) (tx := tx) (a := mpA n tx (e1A n tx a)) n2
    have l3 := mp_b (n := n) (tx := tx) (q := mpA n tx (e1A n tx a)) n2 l2
    have r4 : inR (mvA n tx (mpA n tx (e1A n tx a))) := ⟨by omega, by omega⟩
    refine ⟨⟨fun _ => ⟨fun _ => fun _ => ⟨r2, fun _ => ⟨r3, fun _ => fun _ => r4⟩⟩, fun z => absurd (by omega) z⟩, fun z => absurd (by omega) z⟩, ?_⟩
    generalize eP : (((tx a ≠ 112) ∧ (((tx a ≠ 107) ∧ (¬ (tx a ≠ 120) ∧ ((0 ≤ nvA n tx (a + 1) ∧ nvA n tx (a + 1) ≤ 11) ∧ ((0 ≤ mvA n tx (e1A n tx a) ∧ mvA n tx (e1A n tx a) ≤ 11) ∧ (¬ (nvA n tx (a + 1) = mvA n tx (e1A n tx a)) ∧ (1 ≤ mvA n tx (mpA n tx (e1A n tx a)) ∧ mvA n tx (mpA n tx (e1A n tx a)) ≤ 19)))))) ∨ (¬ (tx a ≠ 107) ∧ ((0 ≤ nvA n tx (a + 1) ∧ nvA n tx (a + 1) ≤ 11) ∧ (1 ≤ mvA n tx (e1A n tx a) ∧ mvA n tx (e1A n tx a) ≤ 19))))) ∨ (¬ (tx a ≠ 112) ∧ ((0 ≤ nvA n tx (a + 1) ∧ nvA n tx (a + 1) ≤ 11) ∧ (0 ≤ mvA n tx (e1A n tx a) ∧ mvA n tx (e1A n tx a) ≤ 11)))) = P
    have get : P → ((nkA n tx (a + 1) ∧ mkA n tx 44 (e1A n tx a)) ∧ (nkA n tx (e1A n tx a + 1) ∧ mkA n tx 44 (e2A n tx a)) ∧ nkA n tx (e2A n tx a + 1)) ∧ nvA n tx (a + 1) = w1A n tx a ∧ mvA n tx (e1A n tx a) = w2A n tx a ∧ mpA n tx (e1A n tx a) = e2A n tx a ∧ mvA n tx (e2A n tx a) = w3A n tx a ∧ mpA n tx (e2A n tx a) = e3A n tx a := fun hP => by
      rw [← eP] at hP
      have x1 := nv_p (n := n) (tx := tx) (a := a + 1) (by omega)
      have x2 := mv_p (n := n) (tx := tx) (q := e1A n tx a) (by omega)
      have x6 : mpA n tx (e1A n tx a) = e2A n tx a := x2.2.2.2
      rw [x6] at hP
      have x3 := mv_p (n := n) (tx := tx) (q := e2A n tx a) (by omega)
      exact ⟨⟨⟨x1.1, x2.1⟩, ⟨x2.2.1, x3.1⟩, x3.2.1⟩, x1.2, x2.2.2.1, x6, x3.2.2.1, x3.2.2.2⟩
    have cv := M_it_155 (D := D) (K := K) (h := h4) (r := r) (q := mpA n tx (mpA n tx (e1A n tx a))) (l := tx a) (z2 := nvA n tx (a + 1)) (z3 := mvA n tx (e1A n tx a)) (z4 := mvA n tx (mpA n tx (e1A n tx a))) (P := P) (MTxt_c2 (ag_sub (fun c k p => by omega) gc) mt) vt (MIt_c gc mi) al hr e4 l3 rl r2 r3 (fun hP dk mk => ?_) (fun no => k0 (fun ok => no ?_) h4 (ag_sub (fun c k p => by omega) gc) (MIt_c gc mi)) r 0 (Nat.zero_add _) (fun _ => rfl)
    · rw [b2i_congr (q := P) ⟨fun u => u.1, fun u => ⟨u, fun k hk => absurd hk (Nat.not_lt_zero _)⟩⟩] at cv
      exact cv
    · obtain ⟨⟨x1, x2, x3⟩, x4, x5, x6, x7, x8⟩ := get hP
      rw [x6, x8] at mk
      have fm : fmA n tx a := Or.inr ⟨y2, x1, x2, x3, mk⟩
      have so : soA n tx r a := by
        rw [← eP, x6, x4, x5, x7] at hP
        exact ⟨by omega, fun u => by omega, fun u => ⟨by omega, by omega, by omega⟩, fun u => by omega⟩
      refine k1 ⟨fm, so⟩ _ (ag_trans (ag_sub (fun c k p => by omega) gc) upI_g) (upI_m (MIt_c gc mi) (by rw [ea]) (by rw [ea]; exact x4) (by rw [ea]; exact x5) (fun z => by rw [ea, x6]; exact x7)) ?_
      rw [upI_q, show nxA n tx a = e3A n tx a + 1 from nif_t y2, x6, x8]
    · obtain ⟨fm, so⟩ := ok
      rcases fm with ⟨x1, _⟩ | ⟨x1, ⟨x2, x3⟩, ⟨x4, x5⟩, x6, x7⟩
      · omega
      · have e7 : nvA n tx (a + 1) = w1A n tx a := cif_t x2
        obtain ⟨e5, e6⟩ := mv_q x3 x4
        have e5' : mvA n tx (e1A n tx a) = w2A n tx a := e5
        have e6' : mpA n tx (e1A n tx a) = e2A n tx a := e6
        obtain ⟨e8, e9⟩ := mv_q x5 x6
        have e8' : mvA n tx (e2A n tx a) = w3A n tx a := e8
        have e9' : mpA n tx (e2A n tx a) = e3A n tx a := e9
        obtain ⟨s1, s2, s3, s4⟩ := so
        have s5 := s3 x1
        rw [← eP, e6', e9', e7, e5', e8']
        exact ⟨by omega, fun u => by omega, x7⟩
theorem M_ft_10 {D : Nat} {K : Int → St → Prop} {n : Nat} {tx : Nat → Int} (vt : VTxt n tx) : ∀ (m r : Nat) (h : St), r + m = 40 → MTxt h n tx → MIt h n tx r → h 109 23 = (psA n tx r : Int) → (∀ k, k < r → okA n tx k ∧ psA n tx k < n) → (∀ h2, agM h h2 → MIt h2 n tx (rdA n tx) → K (ftA n tx) h2) → wI (D + 4) m_M_fault 10 [(0, vR 109)] [] h K := by
  intro m
  induction m with
  | zero =>
    intro r h hr mt mi e23 al k
    have n2 := mt.2.1
    have m1 := mt.1
    have pb := ps_b r (fun k hk => (al k hk).1)
    have er : r = rdA n tx := lst_u (Or.inr ⟨by omega, fun j hj z => z.elim (fun z => by have := (al j (by omega)).2; omega) (fun z => z (al j (by omega)).1)⟩)
    have kk := k h ag_rfl (by rw [← er]; exact mi)
    unfold ftA at kk
    rw [← er, cif_t (by omega)] at kk
    exact s_M_fault_10 h K ⟨⟨by omega, by omega⟩, ⟨by omega, by omega⟩, fun _ => kk, fun y => by omega⟩
  | succ m ih =>
    intro r h hr mt mi e23 al k
    have n2 := mt.2.1
    have m1 := mt.1
    have pb := ps_b r (fun k hk => (al k hk).1)
    have nol : ∀ j, j < r → ¬ (n ≤ psA n tx j ∨ ¬ okA n tx j) := fun j hj z => z.elim (fun z => by have := (al j hj).2; omega) (fun z => z (al j hj).1)
    refine s_M_fault_10 h K ⟨⟨by omega, by omega⟩, ⟨by omega, by omega⟩, fun y => ?_, fun y => ?_⟩
    · have er : r = rdA n tx := lst_u (Or.inl ⟨by omega, Or.inl (by omega), nol⟩)
      have kk := k h ag_rfl (by rw [← er]; exact mi)
      unfold ftA at kk
      rw [← er, cif_t (by omega)] at kk
      exact kk
    · refine c_M_isItem mt vt mi al (by omega) e23 (by omega) (fun ok h2 g2 c2 e2 => ⟨by decide, fun _ => ?_, fun z => absurd (by decide) z⟩) (fun no h2 g2 c2 => ⟨by decide, fun z => absurd rfl z, fun _ => ?_⟩)
      · refine ih (r + 1) h2 (by omega) (MTxt_c2 (ag_sub (fun c k p => by omega) g2) mt) c2 e2 (fun j hj => ?_) (fun h3 g3 => k h3 (ag_trans g2 g3))
        by_cases e : j = r
        · subst e; exact ⟨ok, by omega⟩
        · exact al j (by omega)
      · have er : r = rdA n tx := lst_u (Or.inl ⟨by omega, Or.inr no, nol⟩)
        have kk := k h2 g2 (by rw [← er]; exact c2)
        unfold ftA at kk
        rw [← er, cif_f (by omega)] at kk
        rw [e23]; exact kk
theorem c_M_fault {D : Nat} {h : St} {K : Int → St → Prop} {n : Nat} {tx : Nat → Int} (mt : MTxt h n tx) (vt : VTxt n tx) (k : ∀ h2, agM h h2 → MIt h2 n tx (rdA n tx) → K (ftA n tx) h2) : mwpI (D + 5) m_M_fault [vR 109] h K := by
  refine mI_intro b_M_fault rfl (s_M_fault_0 (d := D) h K ?_)
  have g : agM h (up (up h 109 23 0) 109 22 0) := ag_up (by omega) (ag_up (by omega) ag_rfl)
  exact M_ft_10 vt 40 0 _ (by omega) (MTxt_c2 (ag_sub (fun c k p => by omega) g) mt) ⟨by rw [up_same]; rfl, fun k hk => absurd hk (Nat.not_lt_zero _)⟩ (by rw [up_ne (by omega), up_same]; rfl) (fun k hk => absurd hk (Nat.not_lt_zero _)) (fun h2 g2 => k h2 (ag_trans g g2))
theorem ft_R {n : Nat} {tx : Nat → Int} (hn : n ≤ 200) (al : ∀ k, k < rdA n tx → okA n tx k ∧ psA n tx k < n) : -4 ≤ ftA n tx ∧ ftA n tx ≤ 200 := by
  have pb := ps_b (rdA n tx) (fun k hk => (al k hk).1)
  unfold ftA
  by_cases y : n ≤ psA n tx (rdA n tx)
  · rw [cif_t y]; omega
  · rw [cif_f y]; omega
