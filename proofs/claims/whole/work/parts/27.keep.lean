theorem s_M_copies_0 {d : Nat}  (x1 x2 : Int) (h : St) (K : St → Prop) (F : (0 ≤ x1 ∧ x1 < 3) ∧ (0 ≤ x2 ∧ x2 < 3) ∧ (wV d m_M_copies 50 [(0, vR 109), (1, vI x1), (2, vI x2), (3, vI 0)] [] (up (up (up (up h 110 x2.toNat (h 110 x1.toNat)) 117 x2.toNat (h 117 x1.toNat)) 119 x2.toNat (h 119 x1.toNat)) 121 x2.toNat (h 121 x1.toNat)) K)) : wV d m_M_copies 0 [(0, vR 109), (1, vI x1), (2, vI x2)] [] h K := by
  refine w_aload_n rfl rfl ?_
  refine w_getR rfl f_M_7 rfl rfl rfl rfl rfl ?_
  refine w_iload_n rfl rfl ?_
  refine w_aload_n rfl rfl ?_
  refine w_getR rfl f_M_7 rfl rfl rfl rfl rfl ?_
  refine w_iload_n rfl rfl ?_
  obtain ⟨b1, F⟩ := F
  refine w_iaload rfl rfl rfl b1 ?_
  obtain ⟨b2, F⟩ := F
  refine w_iastore rfl rfl rfl b2 ?_
  refine w_aload_n rfl rfl ?_
  refine w_getR rfl f_M_31 rfl rfl rfl rfl rfl ?_
  refine w_iload_n rfl rfl ?_
  refine w_aload_n rfl rfl ?_
  refine w_getR rfl f_M_31 rfl rfl rfl rfl rfl ?_
  refine w_iload_n rfl rfl ?_
  refine w_iaload rfl rfl rfl b1 ?_
  refine w_iastore rfl rfl rfl b2 ?_
  refine w_aload_n rfl rfl ?_
  refine w_getR rfl f_M_37 rfl rfl rfl rfl rfl ?_
  refine w_iload_n rfl rfl ?_
  refine w_aload_n rfl rfl ?_
  refine w_getR rfl f_M_37 rfl rfl rfl rfl rfl ?_
  refine w_iload_n rfl rfl ?_
  refine w_iaload rfl rfl rfl b1 ?_
  refine w_iastore rfl rfl rfl b2 ?_
  refine w_aload_n rfl rfl ?_
  refine w_getR rfl f_M_43 rfl rfl rfl rfl rfl ?_
  refine w_iload_n rfl rfl ?_
  refine w_aload_n rfl rfl ?_
  refine w_getR rfl f_M_43 rfl rfl rfl rfl rfl ?_
  refine w_iload_n rfl rfl ?_
  refine w_iaload rfl rfl rfl b1 ?_
  refine w_iastore rfl rfl rfl b2 ?_
  refine w_iconst rfl ?_
  refine w_istore_n rfl rfl rfl rfl (w_ls (ls2 := [(0, vR 109), (1, vI x1), (2, vI x2), (3, vI 0)]) rfl ?_)
  exact F
theorem s_M_copies_50 {d : Nat}  (x1 x2 x3 : Int) (h : St) (K : St → Prop) (F : (inR x3) ∧ ((60 ≤ x3 → (wV d m_M_copies 178 [(0, vR 109), (1, vI x1), (2, vI x2), (3, vI 0)] [] h K)) ∧ (¬ (60 ≤ x3) → (0 ≤ (60 * x1) + x3 ∧ (60 * x1) + x3 < 180) ∧ (0 ≤ (60 * x2) + x3 ∧ (60 * x2) + x3 < 180) ∧ (wV d m_M_copies 50 [(0, vR 109), (1, vI x1), (2, vI x2), (3, vI (x3 + 1))] [] (up (up (up (up (up (up (up h 111 (((60 * x2) + x3).toNat) (h 111 (((60 * x1) + x3).toNat))) 112 (((60 * x2) + x3).toNat) (h 112 (((60 * x1) + x3).toNat))) 113 (((60 * x2) + x3).toNat) (h 113 (((60 * x1) + x3).toNat))) 114 (((60 * x2) + x3).toNat) (h 114 (((60 * x1) + x3).toNat))) 115 (((60 * x2) + x3).toNat) (h 115 (((60 * x1) + x3).toNat))) 116 (((60 * x2) + x3).toNat) (h 116 (((60 * x1) + x3).toNat))) 120 (((60 * x2) + x3).toNat) (h 120 (((60 * x1) + x3).toNat))) K)))) : wV d m_M_copies 50 [(0, vR 109), (1, vI x1), (2, vI x2), (3, vI x3)] [] h K := by
  refine w_iload_n rfl rfl ?_
  refine w_bipush (by decide) (by decide) rfl ?_
  obtain ⟨b1, F⟩ := F
  refine w_icmp_ge (tgt := 176) rfl (by decide) ⟨b1, (r_lit rfl)⟩ (fun q2 => ?_) (fun q2 => ?_)
  · replace F := F.1 q2
    refine w_iconst rfl ?_
    refine w_istore_n rfl rfl rfl rfl (w_ls (ls2 := [(0, vR 109), (1, vI x1), (2, vI x2), (3, vI 0)]) rfl ?_)
    exact F
  · replace F := F.2 q2
    refine w_bipush (by decide) (by decide) rfl ?_
    refine w_iload_n rfl rfl ?_
    refine w_imul rfl ?_
    refine w_iload_n rfl rfl ?_
    refine w_iadd rfl ?_
    refine w_istore rfl rfl rfl rfl (w_ls (ls2 := [(0, vR 109), (1, vI x1), (2, vI x2), (3, vI x3), (4, vI ((60 * x1) + x3))]) rfl ?_)
    refine w_bipush (by decide) (by decide) rfl ?_
    refine w_iload_n rfl rfl ?_
    refine w_imul rfl ?_
    refine w_iload_n rfl rfl ?_
    refine w_iadd rfl ?_
    refine w_istore rfl rfl rfl rfl (w_ls (ls2 := [(0, vR 109), (1, vI x1), (2, vI x2), (3, vI x3), (4, vI ((60 * x1) + x3)), (5, vI ((60 * x2) + x3))]) rfl ?_)
    refine w_aload_n rfl rfl ?_
    refine w_getR rfl f_M_13 rfl rfl rfl rfl rfl ?_
    refine w_iload rfl rfl ?_
    refine w_aload_n rfl rfl ?_
    refine w_getR rfl f_M_13 rfl rfl rfl rfl rfl ?_
    refine w_iload rfl rfl ?_
    obtain ⟨b3, F⟩ := F
    refine w_iaload rfl rfl rfl b3 ?_
    obtain ⟨b4, F⟩ := F
    refine w_iastore rfl rfl rfl b4 ?_
    refine w_aload_n rfl rfl ?_
    refine w_getR rfl f_M_16 rfl rfl rfl rfl rfl ?_
    refine w_iload rfl rfl ?_
    refine w_aload_n rfl rfl ?_
    refine w_getR rfl f_M_16 rfl rfl rfl rfl rfl ?_
    refine w_iload rfl rfl ?_
    refine w_iaload rfl rfl rfl b3 ?_
    refine w_iastore rfl rfl rfl b4 ?_
    refine w_aload_n rfl rfl ?_
    refine w_getR rfl f_M_19 rfl rfl rfl rfl rfl ?_
    refine w_iload rfl rfl ?_
    refine w_aload_n rfl rfl ?_
    refine w_getR rfl f_M_19 rfl rfl rfl rfl rfl ?_
    refine w_iload rfl rfl ?_
    refine w_iaload rfl rfl rfl b3 ?_
    refine w_iastore rfl rfl rfl b4 ?_
    refine w_aload_n rfl rfl ?_
    refine w_getR rfl f_M_22 rfl rfl rfl rfl rfl ?_
    refine w_iload rfl rfl ?_
    refine w_aload_n rfl rfl ?_
    refine w_getR rfl f_M_22 rfl rfl rfl rfl rfl ?_
    refine w_iload rfl rfl ?_
    refine w_iaload rfl rfl rfl b3 ?_
    refine w_iastore rfl rfl rfl b4 ?_
    refine w_aload_n rfl rfl ?_
    refine w_getR rfl f_M_25 rfl rfl rfl rfl rfl ?_
    refine w_iload rfl rfl ?_
    refine w_aload_n rfl rfl ?_
    refine w_getR rfl f_M_25 rfl rfl rfl rfl rfl ?_
    refine w_iload rfl rfl ?_
    refine w_iaload rfl rfl rfl b3 ?_
    refine w_iastore rfl rfl rfl b4 ?_
    refine w_aload_n rfl rfl ?_
    refine w_getR rfl f_M_28 rfl rfl rfl rfl rfl ?_
    refine w_iload rfl rfl ?_
    refine w_aload_n rfl rfl ?_
    refine w_getR rfl f_M_28 rfl rfl rfl rfl rfl ?_
    refine w_iload rfl rfl ?_
    refine w_iaload rfl rfl rfl b3 ?_
    refine w_iastore rfl rfl rfl b4 ?_
    refine w_aload_n rfl rfl ?_
    refine w_getR rfl f_M_40 rfl rfl rfl rfl rfl ?_
    refine w_iload rfl rfl ?_
    refine w_aload_n rfl rfl ?_
    refine w_getR rfl f_M_40 rfl rfl rfl rfl rfl ?_
    refine w_iload rfl rfl ?_
    refine w_iaload rfl rfl rfl b3 ?_
    refine w_iastore rfl rfl rfl b4 ?_
    refine w_iinc rfl rfl rfl rfl rfl (w_ls (ls2 := [(0, vR 109), (1, vI x1), (2, vI x2), (3, vI (x3 + 1)), (4, vI ((60 * x1) + x3)), (5, vI ((60 * x2) + x3))]) rfl ?_)
    refine w_goto (tgt := 50) rfl (by decide) ?_
    exact w_kp [0, 1, 2, 3] F
theorem s_M_copies_178 {d : Nat}  (x1 x2 x3 : Int) (h : St) (K : St → Prop) (F : (inR x3) ∧ ((240 ≤ x3 → (wV d m_M_copies 217 [(0, vR 109), (1, vI x1), (2, vI x2), (3, vI 0)] [] h K)) ∧ (¬ (240 ≤ x3) → (0 ≤ (240 * x1) + x3 ∧ (240 * x1) + x3 < 720) ∧ (0 ≤ (240 * x2) + x3 ∧ (240 * x2) + x3 < 720) ∧ (wV d m_M_copies 178 [(0, vR 109), (1, vI x1), (2, vI x2), (3, vI (x3 + 1))] [] (up h 118 (((240 * x2) + x3).toNat) (h 118 (((240 * x1) + x3).toNat))) K)))) : wV d m_M_copies 178 [(0, vR 109), (1, vI x1), (2, vI x2), (3, vI x3)] [] h K := by
  refine w_iload_n rfl rfl ?_
  refine w_sipush (by decide) (by decide) rfl ?_
  obtain ⟨b1, F⟩ := F
  refine w_icmp_ge (tgt := 215) rfl (by decide) ⟨b1, (r_lit rfl)⟩ (fun q2 => ?_) (fun q2 => ?_)
  · replace F := F.1 q2
    refine w_iconst rfl ?_
    refine w_istore_n rfl rfl rfl rfl (w_ls (ls2 := [(0, vR 109), (1, vI x1), (2, vI x2), (3, vI 0)]) rfl ?_)
    exact F
  · replace F := F.2 q2
    refine w_aload_n rfl rfl ?_
    refine w_getR rfl f_M_34 rfl rfl rfl rfl rfl ?_
    refine w_sipush (by decide) (by decide) rfl ?_
    refine w_iload_n rfl rfl ?_
    refine w_imul rfl ?_
    refine w_iload_n rfl rfl ?_
    refine w_iadd rfl ?_
    refine w_aload_n rfl rfl ?_
    refine w_getR rfl f_M_34 rfl rfl rfl rfl rfl ?_
    refine w_sipush (by decide) (by decide) rfl ?_
    refine w_iload_n rfl rfl ?_
    refine w_imul rfl ?_
    refine w_iload_n rfl rfl ?_
    refine w_iadd rfl ?_
    obtain ⟨b3, F⟩ := F
    refine w_iaload rfl rfl rfl b3 ?_
    obtain ⟨b4, F⟩ := F
    refine w_iastore rfl rfl rfl b4 ?_
    refine w_iinc rfl rfl rfl rfl rfl (w_ls (ls2 := [(0, vR 109), (1, vI x1), (2, vI x2), (3, vI (x3 + 1))]) rfl ?_)
    refine w_goto (tgt := 178) rfl (by decide) ?_
    exact F
theorem s_M_copies_217 {d : Nat}  (x1 x2 x3 : Int) (h : St) (K : St → Prop) (F : (inR x3) ∧ ((10 ≤ x3 → (K h)) ∧ (¬ (10 ≤ x3) → (0 ≤ (10 * x1) + x3 ∧ (10 * x1) + x3 < 30) ∧ (0 ≤ (10 * x2) + x3 ∧ (10 * x2) + x3 < 30) ∧ (wV d m_M_copies 217 [(0, vR 109), (1, vI x1), (2, vI x2), (3, vI (x3 + 1))] [] (up h 122 (((10 * x2) + x3).toNat) (h 122 (((10 * x1) + x3).toNat))) K)))) : wV d m_M_copies 217 [(0, vR 109), (1, vI x1), (2, vI x2), (3, vI x3)] [] h K := by
  refine w_iload_n rfl rfl ?_
  refine w_bipush (by decide) (by decide) rfl ?_
  obtain ⟨b1, F⟩ := F
  refine w_icmp_ge (tgt := 251) rfl (by decide) ⟨b1, (r_lit rfl)⟩ (fun q2 => ?_) (fun q2 => ?_)
  · replace F := F.1 q2
    exact w_vret rfl rfl ⟨rfl, rfl, rfl, F⟩
  · replace F := F.2 q2
    refine w_aload_n rfl rfl ?_
    refine w_getR rfl f_M_46 rfl rfl rfl rfl rfl ?_
    refine w_bipush (by decide) (by decide) rfl ?_
    refine w_iload_n rfl rfl ?_
    refine w_imul rfl ?_
    refine w_iload_n rfl rfl ?_
    refine w_iadd rfl ?_
    refine w_aload_n rfl rfl ?_
    refine w_getR rfl f_M_46 rfl rfl rfl rfl rfl ?_
    refine w_bipush (by decide) (by decide) rfl ?_
    refine w_iload_n rfl rfl ?_
    refine w_imul rfl ?_
    refine w_iload_n rfl rfl ?_
    refine w_iadd rfl ?_
    obtain ⟨b3, F⟩ := F
    refine w_iaload rfl rfl rfl b3 ?_
    obtain ⟨b4, F⟩ := F
    refine w_iastore rfl rfl rfl b4 ?_
    refine w_iinc rfl rfl rfl rfl rfl (w_ls (ls2 := [(0, vR 109), (1, vI x1), (2, vI x2), (3, vI (x3 + 1))]) rfl ?_)
    refine w_goto (tgt := 217) rfl (by decide) ?_
    exact F
theorem s_C_keep_0 {d : Nat}  (h : St) (K : Int → St → Prop) (F : (inR (h 0 14)) ∧ (((h 0 14) < 2 → (0 ≤ h 0 14 ∧ h 0 14 < 2) ∧ (K ((h 0 14) + 1) (up (up (up (up (up h 105 ((h 0 14).toNat) (h 1 6)) 106 ((h 0 14).toNat) (h 85 8)) 107 ((h 0 14).toNat) (h 96 0)) 108 ((h 0 14).toNat) (h 96 1)) 0 14 ((h 0 14) + 1)))) ∧ (¬ ((h 0 14) < 2) → (K ((-3)) h)))) : wI d m_C_keep 0 [(0, vR 0)] [] h K := by
  refine w_aload_n rfl rfl ?_
  refine w_getI rfl f_C_92 rfl rfl rfl ?_
  refine w_iconst rfl ?_
  obtain ⟨b1, F⟩ := F
  refine w_icmp_lt (tgt := 11) rfl (by decide) ⟨b1, (r_lit rfl)⟩ (fun q2 => ?_) (fun q2 => ?_)
  · replace F := F.1 q2
    refine w_aload_n rfl rfl ?_
    refine w_getR rfl f_C_79 rfl rfl rfl rfl rfl ?_
    refine w_aload_n rfl rfl ?_
    refine w_getI rfl f_C_92 rfl rfl rfl ?_
    refine w_aload_n rfl rfl ?_
    refine w_getR rfl f_C_10 rfl rfl rfl rfl rfl ?_
    refine w_getI rfl f_C_110 rfl rfl rfl ?_
    obtain ⟨b3, F⟩ := F
    refine w_iastore rfl rfl rfl b3 ?_
    refine w_aload_n rfl rfl ?_
    refine w_getR rfl f_C_83 rfl rfl rfl rfl rfl ?_
    refine w_aload_n rfl rfl ?_
    refine w_getI rfl f_C_92 rfl rfl rfl ?_
    refine w_aload_n rfl rfl ?_
    refine w_getR rfl f_C_61 rfl rfl rfl rfl rfl ?_
    refine w_getI rfl f_C_272 rfl rfl rfl ?_
    refine w_iastore rfl rfl rfl b3 ?_
    refine w_aload_n rfl rfl ?_
    refine w_getR rfl f_C_86 rfl rfl rfl rfl rfl ?_
    refine w_aload_n rfl rfl ?_
    refine w_getI rfl f_C_92 rfl rfl rfl ?_
    refine w_aload_n rfl rfl ?_
    refine w_getR rfl f_C_68 rfl rfl rfl rfl rfl ?_
    refine w_getI rfl f_C_295 rfl rfl rfl ?_
    refine w_iastore rfl rfl rfl b3 ?_
    refine w_aload_n rfl rfl ?_
    refine w_getR rfl f_C_89 rfl rfl rfl rfl rfl ?_
    refine w_aload_n rfl rfl ?_
    refine w_getI rfl f_C_92 rfl rfl rfl ?_
    refine w_aload_n rfl rfl ?_
    refine w_getR rfl f_C_68 rfl rfl rfl rfl rfl ?_
    refine w_getI rfl f_C_311 rfl rfl rfl ?_
    refine w_iastore rfl rfl rfl b3 ?_
    refine w_aload_n rfl rfl ?_
    refine w_dup rfl rfl ?_
    refine w_getI rfl f_C_92 rfl rfl rfl ?_
    refine w_iconst rfl ?_
    refine w_iadd rfl ?_
    refine w_putI rfl f_C_92 fw_11_14 rfl rfl rfl ?_
    refine w_aload_n rfl rfl ?_
    refine w_getI rfl f_C_92 rfl rfl rfl ?_
    exact w_iret rfl rfl ⟨rfl, rfl, _, rfl, F⟩
  · replace F := F.2 q2
    refine w_bipush (by decide) (by decide) rfl ?_
    exact w_iret rfl rfl ⟨rfl, rfl, _, rfl, F⟩
theorem s_M_keep_0 {d : Nat}  (h : St) (K : Int → St → Prop) (F : (inR (h 109 13)) ∧ (((h 109 13) ≠ 2 → (mwpV (d + 1) m_M_copies [vR 109, vI 0, vI (1 + (h 109 13))] h (fun h3 => (K ((h3 109 13) + 1) (up h3 109 13 ((h3 109 13) + 1)))))) ∧ (¬ ((h 109 13) ≠ 2) → (K ((-3)) h)))) : wI (d + 1) m_M_keep 0 [(0, vR 109)] [] h K := by
  refine w_aload_n rfl rfl ?_
  refine w_getI rfl f_M_304 rfl rfl rfl ?_
  refine w_iconst rfl ?_
  obtain ⟨b1, F⟩ := F
  refine w_icmp_ne (tgt := 11) rfl (by decide) ⟨b1, (r_lit rfl)⟩ (fun q2 => ?_) (fun q2 => ?_)
  · replace F := F.1 q2
    refine w_aload_n rfl rfl ?_
    refine w_iconst rfl ?_
    refine w_iconst rfl ?_
    refine w_aload_n rfl rfl ?_
    refine w_getI rfl f_M_304 rfl rfl rfl ?_
    refine w_iadd rfl ?_
    refine c_VV [vI 0, vI (1 + (h 109 13))] [] rfl b_M_copies k_M_307 rfl rfl rfl rfl rfl rfl (mwpV_mono (fun h3 F => ?_) F)
    refine w_aload_n rfl rfl ?_
    refine w_dup rfl rfl ?_
    refine w_getI rfl f_M_304 rfl rfl rfl ?_
    refine w_iconst rfl ?_
    refine w_iadd rfl ?_
    refine w_putI rfl f_M_304 fw_12_13 rfl rfl rfl ?_
    refine w_aload_n rfl rfl ?_
    refine w_getI rfl f_M_304 rfl rfl rfl ?_
    exact w_iret rfl rfl ⟨rfl, rfl, _, rfl, F⟩
  · replace F := F.2 q2
    refine w_bipush (by decide) (by decide) rfl ?_
    exact w_iret rfl rfl ⟨rfl, rfl, _, rfl, F⟩
theorem s_C_back_0 {d : Nat}  (h : St) (K : Int → St → Prop) (F : (inR (h 0 14)) ∧ ((0 < (h 0 14) → (0 ≤ (h 0 14) - 1 ∧ (h 0 14) - 1 < 2) ∧ (K ((h 0 14) - 1) (up (up (up (up (up h 0 14 ((h 0 14) - 1)) 1 6 (h 105 (((h 0 14) - 1).toNat))) 85 8 (h 106 (((h 0 14) - 1).toNat))) 96 0 (h 107 (((h 0 14) - 1).toNat))) 96 1 (h 108 (((h 0 14) - 1).toNat))))) ∧ (¬ (0 < (h 0 14)) → (K ((-2)) h)))) : wI d m_C_back 0 [(0, vR 0)] [] h K := by
  refine w_aload_n rfl rfl ?_
  refine w_getI rfl f_C_92 rfl rfl rfl ?_
  obtain ⟨b1, F⟩ := F
  refine w_if_gt (tgt := 10) rfl (by decide) b1 (fun q2 => ?_) (fun q2 => ?_)
  · replace F := F.1 q2
    refine w_aload_n rfl rfl ?_
    refine w_dup rfl rfl ?_
    refine w_getI rfl f_C_92 rfl rfl rfl ?_
    refine w_iconst rfl ?_
    refine w_isub rfl ?_
    refine w_putI rfl f_C_92 fw_11_14 rfl rfl rfl ?_
    refine w_aload_n rfl rfl ?_
    refine w_getR rfl f_C_10 rfl rfl rfl rfl rfl ?_
    refine w_aload_n rfl rfl ?_
    refine w_getR rfl f_C_79 rfl rfl rfl rfl rfl ?_
    refine w_aload_n rfl rfl ?_
    refine w_getI rfl f_C_92 rfl rfl rfl ?_
    obtain ⟨b3, F⟩ := F
    refine w_iaload rfl rfl rfl b3 ?_
    refine w_putI rfl f_C_110 fw_1_6 rfl rfl rfl ?_
    refine w_aload_n rfl rfl ?_
    refine w_getR rfl f_C_61 rfl rfl rfl rfl rfl ?_
    refine w_aload_n rfl rfl ?_
    refine w_getR rfl f_C_83 rfl rfl rfl rfl rfl ?_
    refine w_aload_n rfl rfl ?_
    refine w_getI rfl f_C_92 rfl rfl rfl ?_
    refine w_iaload rfl rfl rfl b3 ?_
    refine w_putI rfl f_C_272 fw_6_8 rfl rfl rfl ?_
    refine w_aload_n rfl rfl ?_
    refine w_getR rfl f_C_68 rfl rfl rfl rfl rfl ?_
    refine w_aload_n rfl rfl ?_
    refine w_getR rfl f_C_86 rfl rfl rfl rfl rfl ?_
    refine w_aload_n rfl rfl ?_
    refine w_getI rfl f_C_92 rfl rfl rfl ?_
    refine w_iaload rfl rfl rfl b3 ?_
    refine w_putI rfl f_C_295 fw_8_0 rfl rfl rfl ?_
    refine w_aload_n rfl rfl ?_
    refine w_getR rfl f_C_68 rfl rfl rfl rfl rfl ?_
    refine w_aload_n rfl rfl ?_
    refine w_getR rfl f_C_89 rfl rfl rfl rfl rfl ?_
    refine w_aload_n rfl rfl ?_
    refine w_getI rfl f_C_92 rfl rfl rfl ?_
    refine w_iaload rfl rfl rfl b3 ?_
    refine w_putI rfl f_C_311 fw_8_1 rfl rfl rfl ?_
    refine w_aload_n rfl rfl ?_
    refine w_getI rfl f_C_92 rfl rfl rfl ?_
    exact w_iret rfl rfl ⟨rfl, rfl, _, rfl, F⟩
  · replace F := F.2 q2
    refine w_bipush (by decide) (by decide) rfl ?_
    exact w_iret rfl rfl ⟨rfl, rfl, _, rfl, F⟩
theorem s_M_back_0 {d : Nat}  (h : St) (K : Int → St → Prop) (F : (inR (h 109 13)) ∧ (((h 109 13) ≠ 0 → (mwpV (d + 1) m_M_copies [vR 109, vI (1 + ((h 109 13) - 1)), vI 0] (up h 109 13 ((h 109 13) - 1)) (fun h3 => (K (h3 109 13) h3)))) ∧ (¬ ((h 109 13) ≠ 0) → (K ((-2)) h)))) : wI (d + 1) m_M_back 0 [(0, vR 109)] [] h K := by
  refine w_aload_n rfl rfl ?_
  refine w_getI rfl f_M_304 rfl rfl rfl ?_
  obtain ⟨b1, F⟩ := F
  refine w_if_ne (tgt := 10) rfl (by decide) b1 (fun q2 => ?_) (fun q2 => ?_)
  · replace F := F.1 q2
    refine w_aload_n rfl rfl ?_
    refine w_dup rfl rfl ?_
    refine w_getI rfl f_M_304 rfl rfl rfl ?_
    refine w_iconst rfl ?_
    refine w_isub rfl ?_
    refine w_putI rfl f_M_304 fw_12_13 rfl rfl rfl ?_
    refine w_aload_n rfl rfl ?_
    refine w_iconst rfl ?_
    refine w_aload_n rfl rfl ?_
    refine w_getI rfl f_M_304 rfl rfl rfl ?_
    refine w_iadd rfl ?_
    refine w_iconst rfl ?_
    refine c_VV [vI (1 + ((h 109 13) - 1)), vI 0] [] rfl b_M_copies k_M_307 rfl rfl rfl rfl rfl rfl (mwpV_mono (fun h3 F => ?_) F)
    refine w_aload_n rfl rfl ?_
    refine w_getI rfl f_M_304 rfl rfl rfl ?_
    exact w_iret rfl rfl ⟨rfl, rfl, _, rfl, F⟩
  · replace F := F.2 q2
    refine w_bipush (by decide) (by decide) rfl ?_
    exact w_iret rfl rfl ⟨rfl, rfl, _, rfl, F⟩
def cpd (h h2 : St) (c L a b m : Nat) : Prop := (∀ i, i < m → h2 c (L * b + i) = h c (L * a + i)) ∧ ∀ j, ¬ (L * b ≤ j ∧ j < L * b + m) → h2 c j = h c j
theorem cpd_0 (h : St) (c L a b : Nat) : cpd h h c L a b 0 := ⟨fun i hi => absurd hi (Nat.not_lt_zero i), fun _ _ => rfl⟩
theorem cpd_s {h h2 h3 : St} {c L a b m : Nat} (hL : m < L) (hab : a ≠ b) (g : cpd h h2 c L a b m) (e : ∀ j, h3 c j = if j = L * b + m then h2 c (L * a + m) else h2 c j) : cpd h h3 c L a b (m + 1) := by
  have far : ∀ i, i ≤ m → ¬ (L * b ≤ L * a + i ∧ L * a + i < L * b + m) := by
    intro i hi ⟨q1, q2⟩
    rcases Nat.lt_or_ge a b with z | z
    · have := Nat.mul_le_mul_left L (show a + 1 ≤ b from z)
      rw [Nat.mul_succ] at this
      omega
    · have := Nat.mul_le_mul_left L (show b + 1 ≤ a by omega)
      rw [Nat.mul_succ] at this
      omega
  refine ⟨fun i hi => ?_, fun j hj => ?_⟩
  · rw [e]
    by_cases q : i = m
    · subst q
      rw [if_pos rfl]
      exact g.2 _ (far i (Nat.le_refl _))
    · rw [if_neg (by omega)]
      exact g.1 i (by omega)
  · rw [e, if_neg (by omega)]
    exact g.2 j (by omega)
theorem cpd_t {h h2 h3 : St} {c L a b m : Nat} (g : cpd h h2 c L a b m) (e : ∀ j, h3 c j = h2 c j) : cpd h h3 c L a b m := ⟨fun i hi => by rw [e]; exact g.1 i hi, fun j hj => by rw [e]; exact g.2 j hj⟩
def c7 (c : Nat) : Prop := (111 ≤ c ∧ c ≤ 116) ∨ c = 120
theorem cp_60 {d a b : Nat} {K : St → Prop} {h0 : St} (ha : a < 3) (hb : b < 3) (hab : a ≠ b) (k : ∀ h2, (∀ c, c7 c → cpd h0 h2 c 60 a b 60) → (∀ c, ¬ c7 c → h2 c = h0 c) → wV d m_M_copies 178 [(0, vR 109), (1, vI (a : Int)), (2, vI (b : Int)), (3, vI 0)] [] h2 K) :
    ∀ (m i : Nat) (h : St), i + m = 60 → (∀ c, c7 c → cpd h0 h c 60 a b i) → (∀ c, ¬ c7 c → h c = h0 c) → wV d m_M_copies 50 [(0, vR 109), (1, vI (a : Int)), (2, vI (b : Int)), (3, vI (i : Int))] [] h K := by
  intro m
  induction m with
  | zero =>
    intro i h hi g1 g2
    have e : i = 60 := by omega
    subst e
    exact s_M_copies_50 _ _ _ h K ⟨⟨by omega, by omega⟩, fun _ => k h g1 g2, fun z => absurd (by omega) z⟩
  | succ m ih =>
    intro i h hi g1 g2
    refine s_M_copies_50 _ _ _ h K ⟨⟨by omega, by omega⟩, fun z => by omega, fun _ => ⟨by omega, by omega, ?_⟩⟩
    rw [show (60 * (a : Int) + (i : Int)).toNat = 60 * a + i by omega, show (60 * (b : Int) + (i : Int)).toNat = 60 * b + i by omega]
    refine ih (i + 1) _ (by omega) (fun c hc => cpd_s (by omega) hab (g1 c hc) (fun j => ?_)) (fun c hc => ?_)
    · have hc2 : c = 111 ∨ c = 112 ∨ c = 113 ∨ c = 114 ∨ c = 115 ∨ c = 116 ∨ c = 120 := by unfold c7 at hc; omega
      by_cases e : j = 60 * b + i
      · subst e
        rw [if_pos rfl]
        rcases hc2 with rfl | rfl | rfl | rfl | rfl | rfl | rfl <;> simp [up]
      · rw [if_neg e]
        rcases hc2 with rfl | rfl | rfl | rfl | rfl | rfl | rfl <;> simp [up, e]
    · rw [← g2 c hc]
      unfold c7 at hc
      rw [up_row _ _ _ _ _ (by omega), up_row _ _ _ _ _ (by omega), up_row _ _ _ _ _ (by omega), up_row _ _ _ _ _ (by omega), up_row _ _ _ _ _ (by omega), up_row _ _ _ _ _ (by omega), up_row _ _ _ _ _ (by omega)]
theorem cp_240 {d a b : Nat} {K : St → Prop} {h0 : St} (ha : a < 3) (hb : b < 3) (hab : a ≠ b) (k : ∀ h2, cpd h0 h2 118 240 a b 240 → (∀ c, c ≠ 118 → h2 c = h0 c) → wV d m_M_copies 217 [(0, vR 109), (1, vI (a : Int)), (2, vI (b : Int)), (3, vI 0)] [] h2 K) :
    ∀ (m i : Nat) (h : St), i + m = 240 → cpd h0 h 118 240 a b i → (∀ c, c ≠ 118 → h c = h0 c) → wV d m_M_copies 178 [(0, vR 109), (1, vI (a : Int)), (2, vI (b : Int)), (3, vI (i : Int))] [] h K := by
  intro m
  induction m with
  | zero =>
    intro i h hi g1 g2
    have e : i = 240 := by omega
    subst e
    exact s_M_copies_178 _ _ _ h K ⟨⟨by omega, by omega⟩, fun _ => k h g1 g2, fun z => absurd (by omega) z⟩
  | succ m ih =>
    intro i h hi g1 g2
    refine s_M_copies_178 _ _ _ h K ⟨⟨by omega, by omega⟩, fun z => by omega, fun _ => ⟨by omega, by omega, ?_⟩⟩
    rw [show (240 * (a : Int) + (i : Int)).toNat = 240 * a + i by omega, show (240 * (b : Int) + (i : Int)).toNat = 240 * b + i by omega]
    exact ih (i + 1) _ (by omega) (cpd_s (by omega) hab g1 (fun j => by simp [up])) (fun c hc => by rw [← g2 c hc, up_row _ _ _ _ _ hc])
theorem cp_10 {d a b : Nat} {K : St → Prop} {h0 : St} (ha : a < 3) (hb : b < 3) (hab : a ≠ b) (k : ∀ h2, cpd h0 h2 122 10 a b 10 → (∀ c, c ≠ 122 → h2 c = h0 c) → K h2) :
    ∀ (m i : Nat) (h : St), i + m = 10 → cpd h0 h 122 10 a b i → (∀ c, c ≠ 122 → h c = h0 c) → wV d m_M_copies 217 [(0, vR 109), (1, vI (a : Int)), (2, vI (b : Int)), (3, vI (i : Int))] [] h K := by
  intro m
  induction m with
  | zero =>
    intro i h hi g1 g2
    have e : i = 10 := by omega
    subst e
    exact s_M_copies_217 _ _ _ h K ⟨⟨by omega, by omega⟩, fun _ => k h g1 g2, fun z => absurd (by omega) z⟩
  | succ m ih =>
    intro i h hi g1 g2
    refine s_M_copies_217 _ _ _ h K ⟨⟨by omega, by omega⟩, fun z => by omega, fun _ => ⟨by omega, by omega, ?_⟩⟩
    rw [show (10 * (a : Int) + (i : Int)).toNat = 10 * a + i by omega, show (10 * (b : Int) + (i : Int)).toNat = 10 * b + i by omega]
    exact ih (i + 1) _ (by omega) (cpd_s (by omega) hab g1 (fun j => by simp [up])) (fun c hc => by rw [← g2 c hc, up_row _ _ _ _ _ hc])
def cpAll (h h2 : St) (a b : Nat) : Prop := (∀ c, c7 c → cpd h h2 c 60 a b 60) ∧ cpd h h2 118 240 a b 240 ∧ cpd h h2 122 10 a b 10 ∧ (∀ c, c = 110 ∨ c = 117 ∨ c = 119 ∨ c = 121 → h2 c b = h c a ∧ ∀ j, j ≠ b → h2 c j = h c j) ∧ ∀ c, ¬ (110 ≤ c ∧ c ≤ 122) → h2 c = h c
theorem c_M_copies {d a b : Nat} {K : St → Prop} {h : St} (ha : a < 3) (hb : b < 3) (hab : a ≠ b) (k : ∀ h2, cpAll h h2 a b → K h2) : mwpV (d + 1) m_M_copies [vR 109, vI (a : Int), vI (b : Int)] h K := by
  refine mV_intro b_M_copies rfl (s_M_copies_0 _ _ h K ⟨by omega, by omega, ?_⟩)
  rw [show ((a : Int)).toNat = a by omega, show ((b : Int)).toNat = b by omega]
  refine cp_60 ha hb hab (fun h2 f1 f2 => cp_240 ha hb hab (fun h3 g1 g2 => cp_10 ha hb hab (fun h4 e1 e2 => k h4 ?_) 10 0 h3 rfl (cpd_0 _ _ _ _ _) (fun _ _ => rfl)) 240 0 h2 rfl (cpd_0 _ _ _ _ _) (fun _ _ => rfl)) 60 0 _ rfl (fun c _ => cpd_0 _ _ _ _ _) (fun _ _ => rfl)
  have r : ∀ c, c ≠ 110 → c ≠ 117 → c ≠ 119 → c ≠ 121 → (up (up (up (up h 110 b (h 110 a)) 117 b (h 117 a)) 119 b (h 119 a)) 121 b (h 121 a)) c = h c := fun c q1 q2 q3 q4 => by rw [up_row _ _ _ _ _ q4, up_row _ _ _ _ _ q3, up_row _ _ _ _ _ q2, up_row _ _ _ _ _ q1]
  refine ⟨fun c hc => ?_, ?_, ?_, fun c hc => ?_, fun c hc => ?_⟩
  · have f := f1 c hc
    unfold c7 at hc
    unfold cpd at f ⊢
    rw [r c (by omega) (by omega) (by omega) (by omega)] at f
    rw [e2 c (by omega), g2 c (by omega)]
    exact f
  · unfold cpd at g1 ⊢
    rw [f2 118 (by unfold c7; omega), r 118 (by omega) (by omega) (by omega) (by omega)] at g1
    rw [e2 118 (by omega)]
    exact g1
  · unfold cpd at e1 ⊢
    rw [g2 122 (by omega), f2 122 (by unfold c7; omega), r 122 (by omega) (by omega) (by omega) (by omega)] at e1
    exact e1
  · rw [e2 c (by omega), g2 c (by omega), f2 c (by unfold c7; omega)]
    rcases hc with rfl | rfl | rfl | rfl
    · exact ⟨by simp [up], fun j hj => by simp [up, hj]⟩
    · exact ⟨by simp [up], fun j hj => by simp [up, hj]⟩
    · exact ⟨by simp [up], fun j hj => by simp [up, hj]⟩
    · exact ⟨by simp [up], fun j hj => by simp [up, hj]⟩
  · rw [e2 c (by omega), g2 c (by omega), f2 c (by unfold c7; omega), r c (by omega) (by omega) (by omega) (by omega)]
