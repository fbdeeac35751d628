theorem s_C_name_0 {d : Nat}  (x1 x2 : Int) (h : St) (K : Int → St → Prop) (F : (inR x1) ∧ ((¬ (0 ≤ x1 ∧ x1 ≤ 11) → (K ((-1)) h)) ∧ (0 ≤ x1 ∧ x1 ≤ 11 → (inR x2) ∧ ((0 ≤ x2 ∧ x2 ≤ 19 → (0 ≤ x2 ∧ x2 < 20) ∧ (0 ≤ x1 ∧ x1 < 12) ∧ (K (h (16 + x2.toNat) x1.toNat) h)) ∧ (¬ (0 ≤ x2 ∧ x2 ≤ 19) → (K ((-1)) h)))))) : wI (d + 2) m_C_name 0 [(0, vR 0), (1, vI x1), (2, vI x2)] [] h K := by
  refine w_iload_n rfl rfl ?_
  obtain ⟨b1, F⟩ := F
  refine c_SI [vI x1] [] rfl b_C_isName k_C_96 rfl rfl rfl (c_C_isName b1 ?_)
  refine w_ifeq_b (tgt := 14) rfl (by decide) (fun q2 => ?_) (fun q2 => ?_)
  · replace F := F.1 q2
    refine w_iconst rfl ?_
    exact w_iret rfl rfl ⟨rfl, rfl, _, rfl, F⟩
  · replace F := F.2 q2
    refine w_iload_n rfl rfl ?_
    obtain ⟨b3, F⟩ := F
    refine c_SI [vI x2] [] rfl b_C_isDay k_C_131 rfl rfl rfl (c_C_isDay b3 ?_)
    refine w_ifne_b (tgt := 16) rfl (by decide) (fun q4 => ?_) (fun q4 => ?_)
    · replace F := F.1 q4
      refine w_aload_n rfl rfl ?_
      refine w_getR rfl f_C_19 rfl rfl rfl rfl rfl ?_
      refine w_getR rfl f_C_134 rfl rfl rfl rfl rfl ?_
      refine w_iload_n rfl rfl ?_
      obtain ⟨b5, F⟩ := F
      refine w_aaload rfl rfl rfl b5 rfl ?_
      refine w_iload_n rfl rfl ?_
      obtain ⟨b6, F⟩ := F
      refine w_iaload rfl (rw_16 b5).1 (rw_16 b5).2 b6 ?_
      exact w_iret rfl rfl ⟨rfl, rfl, _, rfl, F⟩
    · replace F := F.2 q4
      refine w_iconst rfl ?_
      exact w_iret rfl rfl ⟨rfl, rfl, _, rfl, F⟩
theorem s_M_name_0 {d : Nat}  (x1 x2 : Int) (h : St) (K : Int → St → Prop) (F : (inR x1) ∧ (((0 ≤ x1 ∧ x1 ≤ 11 → ((inR x2) ∧ (0 ≤ x2 ∧ x2 ≤ 19 → ((0 ≤ (12 * x2) + x1 ∧ (12 * x2) + x1 < 240))))))) ∧ (K (cif (0 ≤ x1 ∧ x1 ≤ 11) (cif (0 ≤ x2 ∧ x2 ≤ 19) (h 126 (((12 * x2) + x1).toNat)) ((-1))) ((-1))) h)) : wI (d + 2) m_M_name 0 [(0, vR 109), (1, vI x1), (2, vI x2)] [] h K := by
  refine w_iload_n rfl rfl ?_
  obtain ⟨b1, F⟩ := F
  refine c_SI [vI x1] [] rfl b_M_isName k_M_142 rfl rfl rfl (c_M_isName b1 ?_)
  obtain ⟨G, F⟩ := F
  have J : ∀ (t6 : Int), t6 = cif (0 ≤ x1 ∧ x1 ≤ 11) (cif (0 ≤ x2 ∧ x2 ≤ 19) (h 126 (((12 * x2) + x1).toNat)) ((-1))) ((-1)) → wI (d + 2) m_M_name 29 [(0, vR 109), (1, vI x1), (2, vI x2)] [vI t6] h K := by
    intro t6 et6
    subst et6
    exact w_iret rfl rfl ⟨rfl, rfl, _, rfl, F⟩
  have ga_ := G
  refine w_ifeq_b (tgt := 28) rfl (by decide) (fun q2 => ?_) (fun q2 => ?_)
  · refine w_iconst rfl ?_
    exact J _ (cif_f q2).symm
  · have G := ga_ q2
    obtain ⟨b3, ga_⟩ := G
    refine w_iload_n rfl rfl ?_
    refine c_SI [vI x2] [] rfl b_M_isDay k_M_138 rfl rfl rfl (c_M_isDay b3 ?_)
    refine w_ifeq_b (tgt := 28) rfl (by decide) (fun q4 => ?_) (fun q4 => ?_)
    · refine w_iconst rfl ?_
      exact J _ ((cif_t q2).trans (cif_f q4)).symm
    · have G := ga_ q4
      have b5 := G
      refine w_aload_n rfl rfl ?_
      refine w_getR rfl f_M_66 rfl rfl rfl rfl rfl ?_
      refine w_bipush (by decide) (by decide) rfl ?_
      refine w_iload_n rfl rfl ?_
      refine w_imul rfl ?_
      refine w_iload_n rfl rfl ?_
      refine w_iadd rfl ?_
      refine w_iaload rfl rfl rfl b5 ?_
      refine w_goto (tgt := 29) rfl (by decide) ?_
      exact J _ ((cif_t q2).trans (cif_t q4)).symm
theorem s_C_post_0 {d : Nat}  (x1 x2 : Int) (h : St) (K : Int → St → Prop) (F : (inR x1) ∧ ((¬ (0 ≤ x1 ∧ x1 ≤ 11) → (K ((-1)) h)) ∧ (0 ≤ x1 ∧ x1 ≤ 11 → (inR x2) ∧ ((0 ≤ x2 ∧ x2 ≤ 19 → (0 ≤ x2 ∧ x2 < 20) ∧ (0 ≤ x1 ∧ x1 < 12) ∧ (K (h (37 + x2.toNat) x1.toNat) h)) ∧ (¬ (0 ≤ x2 ∧ x2 ≤ 19) → (K ((-1)) h)))))) : wI (d + 2) m_C_post 0 [(0, vR 0), (1, vI x1), (2, vI x2)] [] h K := by
  refine w_iload_n rfl rfl ?_
  obtain ⟨b1, F⟩ := F
  refine c_SI [vI x1] [] rfl b_C_isName k_C_96 rfl rfl rfl (c_C_isName b1 ?_)
  refine w_ifeq_b (tgt := 14) rfl (by decide) (fun q2 => ?_) (fun q2 => ?_)
  · replace F := F.1 q2
    refine w_iconst rfl ?_
    exact w_iret rfl rfl ⟨rfl, rfl, _, rfl, F⟩
  · replace F := F.2 q2
    refine w_iload_n rfl rfl ?_
    obtain ⟨b3, F⟩ := F
    refine c_SI [vI x2] [] rfl b_C_isDay k_C_131 rfl rfl rfl (c_C_isDay b3 ?_)
    refine w_ifne_b (tgt := 16) rfl (by decide) (fun q4 => ?_) (fun q4 => ?_)
    · replace F := F.1 q4
      refine w_aload_n rfl rfl ?_
      refine w_getR rfl f_C_19 rfl rfl rfl rfl rfl ?_
      refine w_getR rfl f_C_138 rfl rfl rfl rfl rfl ?_
      refine w_iload_n rfl rfl ?_
      obtain ⟨b5, F⟩ := F
      refine w_aaload rfl rfl rfl b5 rfl ?_
      refine w_iload_n rfl rfl ?_
      obtain ⟨b6, F⟩ := F
      refine w_iaload rfl (rw_37 b5).1 (rw_37 b5).2 b6 ?_
      exact w_iret rfl rfl ⟨rfl, rfl, _, rfl, F⟩
    · replace F := F.2 q4
      refine w_iconst rfl ?_
      exact w_iret rfl rfl ⟨rfl, rfl, _, rfl, F⟩
theorem s_M_postOf_0 {d : Nat}  (x1 x2 : Int) (h : St) (K : Int → St → Prop) (F : (wI d m_M_postOf 6 [(0, vR 109), (1, vI x1), (2, vI x2), (3, vI ((-4))), (4, vI 0)] [] h K)) : wI d m_M_postOf 0 [(0, vR 109), (1, vI x1), (2, vI x2)] [] h K := by
  refine w_bipush (by decide) (by decide) rfl ?_
  refine w_istore_n rfl rfl rfl rfl (w_ls (ls2 := [(0, vR 109), (1, vI x1), (2, vI x2), (3, vI ((-4)))]) rfl ?_)
  refine w_iconst rfl ?_
  refine w_istore rfl rfl rfl rfl (w_ls (ls2 := [(0, vR 109), (1, vI x1), (2, vI x2), (3, vI ((-4))), (4, vI 0)]) rfl ?_)
  exact F
theorem s_M_postOf_6 {d : Nat}  (x1 x2 x3 x4 : Int) (h : St) (K : Int → St → Prop) (F : (inR x4) ∧ ((12 ≤ x4 → (K x3 h)) ∧ (¬ (12 ≤ x4) → (0 ≤ (12 * x2) + x4 ∧ (12 * x2) + x4 < 240) ∧ (((inR (h 126 (((12 * x2) + x4).toNat))) ∧ (inR x1))) ∧ (wI d m_M_postOf 6 [(0, vR 109), (1, vI x1), (2, vI x2), (3, vI (cif ((h 126 (((12 * x2) + x4).toNat)) ≠ x1) x3 x4)), (4, vI (x4 + 1))] [] h K)))) : wI d m_M_postOf 6 [(0, vR 109), (1, vI x1), (2, vI x2), (3, vI x3), (4, vI x4)] [] h K := by
  refine w_iload rfl rfl ?_
  refine w_bipush (by decide) (by decide) rfl ?_
  obtain ⟨b1, F⟩ := F
  refine w_icmp_ge (tgt := 42) rfl (by decide) ⟨b1, (r_lit rfl)⟩ (fun q2 => ?_) (fun q2 => ?_)
  · replace F := F.1 q2
    refine w_iload_n rfl rfl ?_
    exact w_iret rfl rfl ⟨rfl, rfl, _, rfl, F⟩
  · replace F := F.2 q2
    refine w_aload_n rfl rfl ?_
    refine w_getR rfl f_M_66 rfl rfl rfl rfl rfl ?_
    refine w_bipush (by decide) (by decide) rfl ?_
    refine w_iload_n rfl rfl ?_
    refine w_imul rfl ?_
    refine w_iload rfl rfl ?_
    refine w_iadd rfl ?_
    obtain ⟨b3, F⟩ := F
    refine w_iaload rfl rfl rfl b3 ?_
    refine w_iload_n rfl rfl ?_
    obtain ⟨G, F⟩ := F
    have J : ∀ (t7 : Int), t7 = cif ((h 126 (((12 * x2) + x4).toNat)) ≠ x1) x3 x4 → wI d m_M_postOf 35 [(0, vR 109), (1, vI x1), (2, vI x2), (3, vI x3), (4, vI x4)] [vI t7] h K := by
      intro t7 et7
      subst et7
      refine w_istore_n rfl rfl rfl rfl (w_ls (ls2 := [(0, vR 109), (1, vI x1), (2, vI x2), (3, vI (cif ((h 126 (((12 * x2) + x4).toNat)) ≠ x1) x3 x4)), (4, vI x4)]) rfl ?_)
      refine w_iinc rfl rfl rfl rfl rfl (w_ls (ls2 := [(0, vR 109), (1, vI x1), (2, vI x2), (3, vI (cif ((h 126 (((12 * x2) + x4).toNat)) ≠ x1) x3 x4)), (4, vI (x4 + 1))]) rfl ?_)
      refine w_goto (tgt := 6) rfl (by decide) ?_
      exact F
    obtain ⟨b4, b5⟩ := G
    refine w_icmp_ne (tgt := 34) rfl (by decide) ⟨b4, b5⟩ (fun q6 => ?_) (fun q6 => ?_)
    · refine w_iload_n rfl rfl ?_
      exact J _ (cif_t q6).symm
    · refine w_iload rfl rfl ?_
      refine w_goto (tgt := 35) rfl (by decide) ?_
      exact J _ (cif_f q6).symm
theorem s_M_post_0 {d : Nat}  (x1 x2 : Int) (h : St) (K : Int → St → Prop) (F : (inR x1) ∧ ((¬ (0 ≤ x1 ∧ x1 ≤ 11) → (K ((-1)) h)) ∧ (0 ≤ x1 ∧ x1 ≤ 11 → (inR x2) ∧ ((¬ (0 ≤ x2 ∧ x2 ≤ 19) → (K ((-1)) h)) ∧ (0 ≤ x2 ∧ x2 ≤ 19 → (mwpI (d + 2) m_M_postOf [vR 109, vI x1, vI x2] h (fun z5 h5 => (K z5 h5)))))))) : wI (d + 2) m_M_post 0 [(0, vR 109), (1, vI x1), (2, vI x2)] [] h K := by
  refine w_iload_n rfl rfl ?_
  obtain ⟨b1, F⟩ := F
  refine c_SI [vI x1] [] rfl b_M_isName k_M_142 rfl rfl rfl (c_M_isName b1 ?_)
  refine w_ifeq_b (tgt := 23) rfl (by decide) (fun q2 => ?_) (fun q2 => ?_)
  · replace F := F.1 q2
    refine w_iconst rfl ?_
    exact w_iret rfl rfl ⟨rfl, rfl, _, rfl, F⟩
  · replace F := F.2 q2
    refine w_iload_n rfl rfl ?_
    obtain ⟨b3, F⟩ := F
    refine c_SI [vI x2] [] rfl b_M_isDay k_M_138 rfl rfl rfl (c_M_isDay b3 ?_)
    refine w_ifeq_b (tgt := 23) rfl (by decide) (fun q4 => ?_) (fun q4 => ?_)
    · replace F := F.1 q4
      refine w_iconst rfl ?_
      exact w_iret rfl rfl ⟨rfl, rfl, _, rfl, F⟩
    · replace F := F.2 q4
      refine w_aload_n rfl rfl ?_
      refine w_iload_n rfl rfl ?_
      refine w_iload_n rfl rfl ?_
      refine c_VI [vI x1, vI x2] [] rfl b_M_postOf k_M_190 rfl rfl rfl rfl rfl rfl (mwpI_mono (fun z5 h5 F => ?_) F)
      refine w_goto (tgt := 24) rfl (by decide) ?_
      exact w_iret rfl rfl ⟨rfl, rfl, _, rfl, F⟩
theorem s_Book_append_0 {d : Nat}  (x1 x2 : Int) (h : St) (K : Int → St → Prop) (F : (wI d m_Book_append 5 [(0, vR 8), (1, vI x1), (2, vJ x2), (4, vI (x1 - 1))] [] h K)) : wI d m_Book_append 0 [(0, vR 8), (1, vI x1), (2, vJ x2)] [] h K := by
  refine w_iload_n rfl rfl ?_
  refine w_iconst rfl ?_
  refine w_isub rfl ?_
  refine w_istore rfl rfl rfl rfl (w_ls (ls2 := [(0, vR 8), (1, vI x1), (2, vJ x2), (4, vI (x1 - 1))]) rfl ?_)
  exact F
theorem s_Book_append_5 {d : Nat}  (x1 x2 x4 : Int) (h : St) (K : Int → St → Prop) (F : (inR x4) ∧ ((x4 < 0 → (K (h 8 1) h)) ∧ (¬ (x4 < 0) → (0 ≤ h 8 1 ∧ h 8 1 < 200) ∧ (wI d m_Book_append 5 [(0, vR 8), (1, vI x1), (2, vJ x2), (4, vI (x4 + (-1)))] [] (up (up h 9 ((h 8 1).toNat) (byt (byt (ushr6 x2 (8 * x4))))) 8 1 ((h 8 1) + 1)) K)))) : wI d m_Book_append 5 [(0, vR 8), (1, vI x1), (2, vJ x2), (4, vI x4)] [] h K := by
  refine w_iload rfl rfl ?_
  obtain ⟨b1, F⟩ := F
  refine w_if_lt (tgt := 44) rfl (by decide) b1 (fun q2 => ?_) (fun q2 => ?_)
  · replace F := F.1 q2
    refine w_aload_n rfl rfl ?_
    refine w_getI rfl f_Book_15 rfl rfl rfl ?_
    exact w_iret rfl rfl ⟨rfl, rfl, _, rfl, F⟩
  · replace F := F.2 q2
    refine w_aload_n rfl rfl ?_
    refine w_getR rfl f_Book_11 rfl rfl rfl rfl rfl ?_
    refine w_aload_n rfl rfl ?_
    refine w_getI rfl f_Book_15 rfl rfl rfl ?_
    refine w_lload_n rfl rfl ?_
    refine w_bipush (by decide) (by decide) rfl ?_
    refine w_iload rfl rfl ?_
    refine w_imul rfl ?_
    refine w_lushr rfl ?_
    refine w_l2i rfl ?_
    refine w_i2b rfl ?_
    obtain ⟨b3, F⟩ := F
    refine w_bastore rfl rfl rfl b3 ?_
    refine w_aload_n rfl rfl ?_
    refine w_dup rfl rfl ?_
    refine w_getI rfl f_Book_15 rfl rfl rfl ?_
    refine w_iconst rfl ?_
    refine w_iadd rfl ?_
    refine w_putI rfl f_Book_15 fw_0_1 rfl rfl rfl ?_
    refine w_iinc rfl rfl rfl rfl rfl (w_ls (ls2 := [(0, vR 8), (1, vI x1), (2, vJ x2), (4, vI (x4 + (-1)))]) rfl ?_)
    refine w_goto (tgt := 5) rfl (by decide) ?_
    exact F
theorem s_C_write_0 {d : Nat}  (x1 x2 : Int) (h : St) (K : Int → St → Prop) (F : (inR x1) ∧ ((1 ≤ x1 ∧ x1 ≤ 8 → (inR ((h 8 1) + x1)) ∧ ((((h 8 1) + x1) ≤ 200 → (mwpI (d + 1) m_Book_append [vR 8, vI x1, vJ x2] h (fun z5 h5 => (K z5 h5)))) ∧ (¬ (((h 8 1) + x1) ≤ 200) → (K ((-3)) h)))) ∧ (¬ (1 ≤ x1 ∧ x1 ≤ 8) → (K ((-1)) h)))) : wI (d + 1) m_C_write 0 [(0, vR 0), (1, vI x1), (2, vJ x2)] [] h K := by
  refine w_iload_n rfl rfl ?_
  refine w_iconst rfl ?_
  refine w_bipush (by decide) (by decide) rfl ?_
  obtain ⟨b1, F⟩ := F
  refine c_SI [vI x1, vI 1, vI 8] [] rfl b_C_isAmong k_C_103 rfl rfl rfl (c_C_isAmong b1 (r_lit rfl) (r_lit rfl) ?_)
  refine w_ifne_b (tgt := 12) rfl (by decide) (fun q2 => ?_) (fun q2 => ?_)
  · replace F := F.1 q2
    refine w_aload_n rfl rfl ?_
    refine w_getR rfl f_C_19 rfl rfl rfl rfl rfl ?_
    refine w_getI rfl f_C_117 rfl rfl rfl ?_
    refine w_iload_n rfl rfl ?_
    refine w_iadd rfl ?_
    refine w_sipush (by decide) (by decide) rfl ?_
    obtain ⟨b3, F⟩ := F
    refine w_icmp_le (tgt := 30) rfl (by decide) ⟨b3, (r_lit rfl)⟩ (fun q4 => ?_) (fun q4 => ?_)
    · replace F := F.1 q4
      refine w_aload_n rfl rfl ?_
      refine w_getR rfl f_C_19 rfl rfl rfl rfl rfl ?_
      refine w_iload_n rfl rfl ?_
      refine w_lload_n rfl rfl ?_
      refine c_VI [vI x1, vJ x2] [] rfl b_Book_append k_C_120 rfl rfl rfl rfl rfl rfl (mwpI_mono (fun z5 h5 F => ?_) F)
      exact w_iret rfl rfl ⟨rfl, rfl, _, rfl, F⟩
    · replace F := F.2 q4
      refine w_bipush (by decide) (by decide) rfl ?_
      exact w_iret rfl rfl ⟨rfl, rfl, _, rfl, F⟩
  · replace F := F.2 q2
    refine w_iconst rfl ?_
    exact w_iret rfl rfl ⟨rfl, rfl, _, rfl, F⟩
theorem s_M_write_0 {d : Nat}  (x1 x2 : Int) (h : St) (K : Int → St → Prop) (F : (inR x1) ∧ ((1 ≤ x1 ∧ x1 ≤ 8 → (inR ((h 109 18) + x1)) ∧ ((((h 109 18) + x1) ≤ 200 → (wI (d + 1) m_M_write 34 [(0, vR 109), (1, vI x1), (2, vJ x2), (4, vI (x1 - 1))] [] h K)) ∧ (¬ (((h 109 18) + x1) ≤ 200) → (K ((-3)) h)))) ∧ (¬ (1 ≤ x1 ∧ x1 ≤ 8) → (K ((-1)) h)))) : wI (d + 1) m_M_write 0 [(0, vR 109), (1, vI x1), (2, vJ x2)] [] h K := by
  refine w_iload_n rfl rfl ?_
  obtain ⟨b1, F⟩ := F
  refine w_i2l b1 rfl ?_
  refine w_lconst rfl ?_
  refine w_ldc2 (z := 8) kc_M_152 (by decide) rfl ?_
  refine c_SI [vJ x1, vJ 1, vJ 8] [] rfl b_M_in k_M_130 rfl rfl rfl (c_M_in (inL_of b1) (by decide) (by decide) ?_)
  refine w_ifne_b (tgt := 14) rfl (by decide) (fun q2 => ?_) (fun q2 => ?_)
  · replace F := F.1 q2
    refine w_aload_n rfl rfl ?_
    refine w_getI rfl f_M_154 rfl rfl rfl ?_
    refine w_iload_n rfl rfl ?_
    refine w_iadd rfl ?_
    refine w_sipush (by decide) (by decide) rfl ?_
    obtain ⟨b3, F⟩ := F
    refine w_icmp_le (tgt := 29) rfl (by decide) ⟨b3, (r_lit rfl)⟩ (fun q4 => ?_) (fun q4 => ?_)
    · replace F := F.1 q4
      refine w_iload_n rfl rfl ?_
      refine w_iconst rfl ?_
      refine w_isub rfl ?_
      refine w_istore rfl rfl rfl rfl (w_ls (ls2 := [(0, vR 109), (1, vI x1), (2, vJ x2), (4, vI (x1 - 1))]) rfl ?_)
      exact F
    · replace F := F.2 q4
      refine w_bipush (by decide) (by decide) rfl ?_
      exact w_iret rfl rfl ⟨rfl, rfl, _, rfl, F⟩
  · replace F := F.2 q2
    refine w_iconst rfl ?_
    exact w_iret rfl rfl ⟨rfl, rfl, _, rfl, F⟩
theorem s_M_write_34 {d : Nat}  (x1 x2 x4 : Int) (h : St) (K : Int → St → Prop) (F : (inR x4) ∧ ((x4 < 0 → (K (h 109 18) h)) ∧ (¬ (x4 < 0) → (0 ≤ h 109 18 ∧ h 109 18 < 200) ∧ (wI (d + 1) m_M_write 34 [(0, vR 109), (1, vI x1), (2, vJ x2), (4, vI (x4 + (-1)))] [] (up (up h 125 ((h 109 18).toNat) (byt (byt (shr6 x2 (8 * x4))))) 109 18 ((h 109 18) + 1)) K)))) : wI (d + 1) m_M_write 34 [(0, vR 109), (1, vI x1), (2, vJ x2), (4, vI x4)] [] h K := by
  refine w_iload rfl rfl ?_
  obtain ⟨b1, F⟩ := F
  refine w_if_lt (tgt := 73) rfl (by decide) b1 (fun q2 => ?_) (fun q2 => ?_)
  · replace F := F.1 q2
    refine w_aload_n rfl rfl ?_
    refine w_getI rfl f_M_154 rfl rfl rfl ?_
    exact w_iret rfl rfl ⟨rfl, rfl, _, rfl, F⟩
  · replace F := F.2 q2
    refine w_aload_n rfl rfl ?_
    refine w_getR rfl f_M_62 rfl rfl rfl rfl rfl ?_
    refine w_aload_n rfl rfl ?_
    refine w_getI rfl f_M_154 rfl rfl rfl ?_
    refine w_lload_n rfl rfl ?_
    refine w_bipush (by decide) (by decide) rfl ?_
    refine w_iload rfl rfl ?_
    refine w_imul rfl ?_
    refine w_lshr rfl ?_
    refine w_l2i rfl ?_
    refine w_i2b rfl ?_
    obtain ⟨b3, F⟩ := F
    refine w_bastore rfl rfl rfl b3 ?_
    refine w_aload_n rfl rfl ?_
    refine w_dup rfl rfl ?_
    refine w_getI rfl f_M_154 rfl rfl rfl ?_
    refine w_iconst rfl ?_
    refine w_iadd rfl ?_
    refine w_putI rfl f_M_154 fw_12_18 rfl rfl rfl ?_
    refine w_iinc rfl rfl rfl rfl rfl (w_ls (ls2 := [(0, vR 109), (1, vI x1), (2, vJ x2), (4, vI (x4 + (-1)))]) rfl ?_)
    refine w_goto (tgt := 34) rfl (by decide) ?_
    exact F
theorem P_name {KK : Int → Int → St → Prop} {h : St} (hr : Rel h) {a1 a2 : Int} (r1 : inR a1) (r2 : inR a2) (k : ∀ z h2, inR z → Rel h2 → KK z z h2) : mwpI 40 m_C_name [vR 0, vI a1, vI a2] h (fun z h1 => mwpI 40 m_M_name [vR 109, vI a1, vI a2] h1 (fun z2 h2 => KK z z2 h2)) := by
  obtain ⟨c1, c2, ⟨ni, bk, b1, b2, b3⟩, c4⟩ := id hr
  have kb := k (-1) h (by decide) hr
  have mm : ∀ K : Int → St → Prop, ((0 ≤ a1 ∧ a1 ≤ 11) ∧ (0 ≤ a2 ∧ a2 ≤ 19) → K (bk a2.toNat a1.toNat) h) → (¬ ((0 ≤ a1 ∧ a1 ≤ 11) ∧ (0 ≤ a2 ∧ a2 ≤ 19)) → K (-1) h) → mwpI 40 m_M_name [vR 109, vI a1, vI a2] h K := by
    intro K k1 k2
    refine mI_intro b_M_name rfl (s_M_name_0 (d := 37) a1 a2 _ _ ⟨r1, fun _ => ⟨r2, fun _ => by omega⟩, ?_⟩)
    by_cases q1 : 0 ≤ a1 ∧ a1 ≤ 11
    · rw [cif_t q1]
      by_cases q2 : 0 ≤ a2 ∧ a2 ≤ 19
      · rw [cif_t q2]
        have e : (12 * a2 + a1).toNat = 12 * a2.toNat + a1.toNat := by omega
        rw [e, b2.2 _ (by omega) _ (by omega)]
        exact k1 ⟨q1, q2⟩
      · rw [cif_f q2]; exact k2 (fun z => q2 z.2)
    · rw [cif_f q1]; exact k2 (fun z => q1 z.1)
  refine mI_intro b_C_name rfl (s_C_name_0 (d := 37) a1 a2 h _ ⟨r1, fun q => mm _ (fun z => absurd z.1 q) (fun _ => kb), fun q1 => ⟨r2, fun q2 => ⟨by omega, by omega, ?_⟩, fun q => mm _ (fun z => absurd z.2 q) (fun _ => kb)⟩⟩)
  rw [b1.2.1 _ (by omega) _ (by omega)]
  refine mm _ (fun _ => k _ _ ?_ hr) (fun z => absurd ⟨q1, q2⟩ z)
  rcases b3.2 a2.toNat (by omega) a1.toNat (by omega) with e | e
  · rw [e]; decide
  · exact ⟨by omega, by omega⟩
theorem lastP_R {f : Nat → Int} {v : Int} : ∀ n : Nat, n ≤ 1000 → -4 ≤ lastP f v n ∧ lastP f v n < 1000
  | 0, _ => by simp [lastP]
  | n + 1, hn => by
    have ih := lastP_R (f := f) (v := v) n (by omega)
    unfold lastP
    split
    · omega
    · exact ih
theorem M_postOf_l {d : Nat} {h : St} {K : Int → St → Prop} {bk : Nat → Nat → Int} {a1 a2 : Int} (r1 : inR a1) (q2 : 0 ≤ a2 ∧ a2 ≤ 19) (hb : ∀ d, d < 20 → ∀ p, p < 12 → h 126 (12 * d + p) = bk d p) (hv : ∀ d, d < 20 → ∀ p, p < 12 → bk d p = -4 ∨ (0 ≤ bk d p ∧ bk d p ≤ 11)) (hK : K (lastP (bk a2.toNat) a1 12) h) :
    ∀ (m p : Nat), p + m = 12 → wI d m_M_postOf 6 [(0, vR 109), (1, vI a1), (2, vI a2), (3, vI (lastP (bk a2.toNat) a1 p)), (4, vI (p : Int))] [] h K := by
  intro m
  induction m with
  | zero =>
    intro p hp
    have e : p = 12 := by omega
    subst e
    exact s_M_postOf_6 a1 a2 _ _ h K ⟨⟨by omega, by omega⟩, fun _ => hK, fun z => absurd (by omega) z⟩
  | succ m ih =>
    intro p hp
    have e : (12 * a2 + (p : Int)).toNat = 12 * a2.toNat + p := by omega
    have e2 := hb a2.toNat (by omega) p (by omega)
    have e3 := hv a2.toNat (by omega) p (by omega)
    refine s_M_postOf_6 a1 a2 _ _ h K ⟨⟨by omega, by omega⟩, fun z => by omega, fun _ => ⟨by omega, ⟨?_, r1⟩, ?_⟩⟩
    · rw [e, e2]; rcases e3 with e3 | e3
      · rw [e3]; decide
      · exact ⟨by omega, by omega⟩
    · rw [e, e2]
      have e4 : cif (bk a2.toNat p ≠ a1) (lastP (bk a2.toNat) a1 p) (p : Int) = lastP (bk a2.toNat) a1 (p + 1) := by
        by_cases q : bk a2.toNat p = a1
        · rw [cif_f (fun z => z q)]; simp [lastP, q]
        · rw [cif_t q]; simp [lastP, q]
      rw [e4]
      exact ih (p + 1) (by omega)
theorem c_M_postOf {d : Nat} {h : St} {K : Int → St → Prop} {bk : Nat → Nat → Int} {a1 a2 : Int} (r1 : inR a1) (q2 : 0 ≤ a2 ∧ a2 ≤ 19) (hb : ∀ d, d < 20 → ∀ p, p < 12 → h 126 (12 * d + p) = bk d p) (hv : ∀ d, d < 20 → ∀ p, p < 12 → bk d p = -4 ∨ (0 ≤ bk d p ∧ bk d p ≤ 11)) (hK : K (lastP (bk a2.toNat) a1 12) h) : mwpI (d + 1) m_M_postOf [vR 109, vI a1, vI a2] h K :=
  mI_intro b_M_postOf rfl (s_M_postOf_0 a1 a2 h K (M_postOf_l r1 q2 hb hv hK 12 0 rfl))
theorem P_post {KK : Int → Int → St → Prop} {h : St} (hr : Rel h) {a1 a2 : Int} (r1 : inR a1) (r2 : inR a2) (k : ∀ z h2, inR z → Rel h2 → KK z z h2) : mwpI 40 m_C_post [vR 0, vI a1, vI a2] h (fun z h1 => mwpI 40 m_M_post [vR 109, vI a1, vI a2] h1 (fun z2 h2 => KK z z2 h2)) := by
  obtain ⟨c1, c2, ⟨ni, bk, b1, b2, b3⟩, c4⟩ := id hr
  have kb := k (-1) h (by decide) hr
  have bad : ¬ ((0 ≤ a1 ∧ a1 ≤ 11) ∧ (0 ≤ a2 ∧ a2 ≤ 19)) → mwpI 40 m_M_post [vR 109, vI a1, vI a2] h (fun z2 h2 => KK (-1) z2 h2) := fun q =>
    mI_intro b_M_post rfl (s_M_post_0 (d := 37) a1 a2 _ _ ⟨r1, fun _ => kb, fun q1 => ⟨r2, fun _ => kb, fun q2 => absurd ⟨q1, q2⟩ q⟩⟩)
  refine mI_intro b_C_post rfl (s_C_post_0 (d := 37) a1 a2 h _ ⟨r1, fun q => bad (fun z => q z.1), fun q1 => ⟨r2, fun q2 => ⟨by omega, by omega, ?_⟩, fun q => bad (fun z => q z.2)⟩⟩)
  rw [b1.2.2 _ (by omega) _ (by omega), show ((a1.toNat : Nat) : Int) = a1 by omega]
  refine mI_intro b_M_post rfl (s_M_post_0 (d := 37) a1 a2 _ _ ⟨r1, fun z => absurd q1 z, fun _ => ⟨r2, fun z => absurd q2 z, fun _ => c_M_postOf (d := 38) r1 q2 b2.2 b3.2 ?_⟩⟩)
  have := lastP_R (f := bk a2.toNat) (v := a1) 12 (by omega)
  exact k _ _ ⟨by omega, by omega⟩ hr
theorem byt_toInt (y : Int64) : byt y.toInt = y.toInt8.toInt := by
  rw [Int64.toInt_toInt8]
  rfl
theorem sh_eq {x : Int64} {s : Nat} (hs : s ≤ 56) {a : UInt64} {b : Int64} (ha : (a.toBitVec % 64).toNat = s) (hb : (b.toBitVec.smod 64).toNat = s) : (x.toUInt64 >>> a).toInt64.toInt8 = (x >>> b).toInt8 := by
  apply Int8.toBitVec_inj.mp
  apply BitVec.eq_of_getLsbD_eq
  intro i hi
  rw [Int64.toBitVec_toInt8, Int64.toBitVec_toInt8, BitVec.getLsbD_signExtend, BitVec.getLsbD_signExtend, UInt64.toBitVec_toInt64, UInt64.toBitVec_shiftRight, Int64.toBitVec_shiftRight, BitVec.getLsbD_sshiftRight', BitVec.ushiftRight_eq', BitVec.getLsbD_ushiftRight, ha, hb]
  rw [if_pos (by omega), if_pos (by omega), if_pos (by omega)]
  have e : decide (64 ≤ i) = false := by simp; omega
  rw [e]
  simp
theorem byt_sh (v : Int) : ∀ j : Nat, j < 8 → byt (ushr6 v (8 * (j : Int))) = byt (shr6 v (8 * (j : Int))) := by
  intro j hj
  unfold ushr6 shr6
  rw [byt_toInt, byt_toInt]
  congr 1
  match j, hj with
  | 0, _ => exact sh_eq (s := 0) (by decide) (by decide) (by decide)
  | 1, _ => exact sh_eq (s := 8) (by decide) (by decide) (by decide)
  | 2, _ => exact sh_eq (s := 16) (by decide) (by decide) (by decide)
  | 3, _ => exact sh_eq (s := 24) (by decide) (by decide) (by decide)
  | 4, _ => exact sh_eq (s := 32) (by decide) (by decide) (by decide)
  | 5, _ => exact sh_eq (s := 40) (by decide) (by decide) (by decide)
  | 6, _ => exact sh_eq (s := 48) (by decide) (by decide) (by decide)
  | 7, _ => exact sh_eq (s := 56) (by decide) (by decide) (by decide)
def wrt (tx : Nat → Int) (n : Nat) (v : Int) : Nat → (Nat → Int)
  | 0 => tx
  | m + 1 => wrt (fun i => if i = n then byt (byt (shr6 v (8 * (m : Int)))) else tx i) (n + 1) v m
theorem byt_R (z : Int) : -128 ≤ byt z ∧ byt z ≤ 127 := by
  have h3 := @Int.le_bmod z 256 (by decide)
  have h4 := @Int.bmod_lt z 256 (by decide)
  unfold byt
  omega
theorem wrt_V {v : Int} : ∀ (m n : Nat) (tx : Nat → Int), VTxt n tx → VTxt (n + m) (wrt tx n v m)
  | 0, n, tx, h => h
  | m + 1, n, tx, h => by
    have ih := wrt_V (v := v) m (n + 1) (fun i => if i = n then byt (byt (shr6 v (8 * (m : Int)))) else tx i) (fun i hi => by
      by_cases e : i = n
      · simp only [if_pos e]; exact byt_R _
      · simp only [if_neg e]; exact h i (by omega))
    rw [show n + (m + 1) = n + 1 + m by omega]
    exact ih
theorem C_append {d : Nat} {v a1 : Int} {K : Int → St → Prop} : ∀ (m n : Nat) (tx : Nat → Int) (h : St), CTxt h n tx → n + m ≤ 200 → m ≤ 8 → (∀ h2, CTxt h2 (n + m) (wrt tx n v m) → ag (fun c k => ¬ (c = 9 ∨ (c = 8 ∧ k = 1))) h h2 → K ((n + m : Nat) : Int) h2) → wI d m_Book_append 5 [(0, vR 8), (1, vI a1), (2, vJ v), (4, vI ((m : Int) - 1))] [] h K := by
  intro m
  induction m with
  | zero =>
    intro n tx h c hn _ k
    refine s_Book_append_5 a1 v _ h K ⟨⟨by omega, by omega⟩, fun _ => ?_, fun z => absurd (by omega) z⟩
    rw [c.1]
    exact k h c ag_rfl
  | succ m ih =>
    intro n tx h c hn hm k
    have w1 := c.1
    refine s_Book_append_5 a1 v _ h K ⟨⟨by omega, by omega⟩, fun z => by omega, fun _ => ⟨by omega, ?_⟩⟩
    rw [w1, show ((n : Int)).toNat = n by omega, show ((m + 1 : Nat) : Int) - 1 = (m : Int) by omega, show (m : Int) + (-1) = (m : Int) - 1 by omega, byt_sh v m (by omega)]
    refine ih (n + 1) (fun i => if i = n then byt (byt (shr6 v (8 * (m : Int)))) else tx i) _ ⟨?_, by omega, fun i hi => ?_⟩ (by omega) (by omega) (fun h2 g1 g2 => ?_)
    · simp [up]
    · by_cases e : i = n
      · subst e; simp [up]
      · simp [up, e, c.2.2 i (by omega)]
    · have g3 := k h2 (by rw [show n + (m + 1) = n + 1 + m by omega]; exact g1) (ag_trans (ag_up (by omega) (ag_up (by omega) ag_rfl)) g2)
      rwa [show n + (m + 1) = n + 1 + m by omega] at g3
theorem M_append {d : Nat} {v a1 : Int} {K : Int → St → Prop} : ∀ (m n : Nat) (tx : Nat → Int) (h : St), MTxt h n tx → n + m ≤ 200 → m ≤ 8 → (∀ h2, MTxt h2 (n + m) (wrt tx n v m) → ag (fun c k => ¬ (c = 125 ∨ (c = 109 ∧ k = 18))) h h2 → K ((n + m : Nat) : Int) h2) → wI (d + 1) m_M_write 34 [(0, vR 109), (1, vI a1), (2, vJ v), (4, vI ((m : Int) - 1))] [] h K := by
  intro m
  induction m with
  | zero =>
    intro n tx h c hn _ k
    refine s_M_write_34 a1 v _ h K ⟨⟨by omega, by omega⟩, fun _ => ?_, fun z => absurd (by omega) z⟩
    rw [c.1]
    exact k h c ag_rfl
  | succ m ih =>
    intro n tx h c hn hm k
    have w1 := c.1
    refine s_M_write_34 a1 v _ h K ⟨⟨by omega, by omega⟩, fun z => by omega, fun _ => ⟨by omega, ?_⟩⟩
    rw [w1, show ((n : Int)).toNat = n by omega, show ((m + 1 : Nat) : Int) - 1 = (m : Int) by omega, show (m : Int) + (-1) = (m : Int) - 1 by omega]
    refine ih (n + 1) (fun i => if i = n then byt (byt (shr6 v (8 * (m : Int)))) else tx i) _ ⟨?_, by omega, fun i hi => ?_⟩ (by omega) (by omega) (fun h2 g1 g2 => ?_)
    · simp [up]
    · by_cases e : i = n
      · subst e; simp [up]
      · simp [up, e, c.2.2 i (by omega)]
    · have g3 := k h2 (by rw [show n + (m + 1) = n + 1 + m by omega]; exact g1) (ag_trans (ag_up (by omega) (ag_up (by omega) ag_rfl)) g2)
      rwa [show n + (m + 1) = n + 1 + m by omega] at g3
theorem P_write {KK : Int → Int → St → Prop} {h : St} (hr : Rel h) {a1 a2 : Int} (r1 : inR a1) (r2 : inL a2) (k : ∀ z h2, inR z → Rel h2 → KK z z h2) : mwpI 40 m_C_write [vR 0, vI a1, vJ a2] h (fun z h1 => mwpI 40 m_M_write [vR 109, vI a1, vJ a2] h1 (fun z2 h2 => KK z z2 h2)) := by
  obtain ⟨c1, ⟨n, tx, v1, v2, v3⟩, c3, c4, c5, c6, c7, c8, c9⟩ := id hr
  have w1 := v1.1
  have w2 := v2.1
  have w3 := v1.2.1
  refine mI_intro b_C_write rfl (s_C_write_0 (d := 38) a1 a2 h _ ⟨r1, fun q => ⟨⟨by omega, by omega⟩, fun q2 => ?_, fun q2 => ?_⟩, fun q => ?_⟩)
  · refine mI_intro b_Book_append rfl (s_Book_append_0 (d := 38) a1 a2 h _ ?_)
    rw [show a1 - 1 = ((a1.toNat : Nat) : Int) - 1 by omega]
    refine C_append a1.toNat n tx h v1 (by omega) (by omega) (fun h1 g1 g2 => ?_)
    have m1 : MTxt h1 n tx := ⟨by rw [g2 _ _ (by omega)]; exact w2, v2.2.1, fun i hi => by rw [g2 _ _ (by omega)]; exact v2.2.2 i hi⟩
    refine mI_intro b_M_write rfl (s_M_write_0 (d := 38) a1 a2 h1 _ ⟨r1, fun _ => ⟨⟨by rw [m1.1]; omega, by rw [m1.1]; omega⟩, fun _ => ?_, fun z => absurd (by rw [m1.1]; omega) z⟩, fun z => absurd q z⟩)
    rw [show a1 - 1 = ((a1.toNat : Nat) : Int) - 1 by omega]
    refine M_append a1.toNat n tx h1 m1 (by omega) (by omega) (fun h2 f1 f2 => ?_)
    have ag9 : ag (fun c k => ¬ dTxt c k) h h2 := ag_trans (ag_sub (fun c k p => by omega) g2) (ag_sub (fun c k p => by omega) f2)
    exact k _ _ ⟨by omega, by omega⟩ ⟨RLog_c (ag_sub (fun c k p => by omega) ag9) c1, ⟨n + a1.toNat, wrt tx n a2 a1.toNat, ⟨by rw [f2 _ _ (by omega)]; exact g1.1, g1.2.1, fun i hi => by rw [f2 _ _ (by omega)]; exact g1.2.2 i hi⟩, f1, wrt_V _ _ _ v3⟩, RBk_c (ag_sub (fun c k p => by omega) ag9) c3, RTH_c (ag_sub (fun c k p => by omega) ag9) c4, RHr_c (ag_sub (fun c k p => by omega) ag9) c5, RBr_c (ag_sub (fun c k p => by omega) ag9) c6, RLs_c (ag_sub (fun c k p => by omega) ag9) c7, REv_c (ag_sub (fun c k p => by omega) ag9) c8, RKp_c (ag_sub (fun c k p => by omega) ag9) c9⟩
  · exact mI_intro b_M_write rfl (s_M_write_0 (d := 38) a1 a2 h _ ⟨r1, fun _ => ⟨⟨by omega, by omega⟩, fun z => by omega, fun _ => k _ _ (by decide) hr⟩, fun z => absurd q z⟩)
  · exact mI_intro b_M_write rfl (s_M_write_0 (d := 38) a1 a2 h _ ⟨r1, fun z => absurd z q, fun _ => k _ _ (by decide) hr⟩)
