theorem s_CallLog_heardOn_0 {d : Nat}  (x1 x2 : Int) (h : St) (K : Int → St → Prop) (F : (wI (d + 1) m_CallLog_heardOn 5 [(0, vR 1), (1, vI x1), (2, vI x2), (3, vI 0), (4, vI 0)] [] h K)) : wI (d + 1) m_CallLog_heardOn 0 [(0, vR 1), (1, vI x1), (2, vI x2)] [] h K := by
  refine w_iconst rfl ?_
  refine w_istore_n rfl rfl rfl rfl (w_ls (ls2 := [(0, vR 1), (1, vI x1), (2, vI x2), (3, vI 0)]) rfl ?_)
  refine w_iconst rfl ?_
  refine w_istore rfl rfl rfl rfl (w_ls (ls2 := [(0, vR 1), (1, vI x1), (2, vI x2), (3, vI 0), (4, vI 0)]) rfl ?_)
  exact F
theorem s_CallLog_heardOn_5 {d : Nat}  (x1 x2 x3 x4 : Int) (h : St) (K : Int → St → Prop) (F : (inR x4) ∧ (inR (h 1 6)) ∧ (((h 1 6) ≤ x4 → (K x3 h)) ∧ (¬ ((h 1 6) ≤ x4) → (mwpI (d + 1) m_CallLog_isOn [vR 1, vI x4, vI x1, vI x2] h (fun z4 h4 => (inR z4) ∧ ((z4 = 0 → (wI (d + 1) m_CallLog_heardOn 5 [(0, vR 1), (1, vI x1), (2, vI x2), (3, vI x3), (4, vI (x4 + 1))] [] h4 K)) ∧ (¬ (z4 = 0) → (0 ≤ x4 ∧ x4 < 60) ∧ (wI (d + 1) m_CallLog_heardOn 5 [(0, vR 1), (1, vI x1), (2, vI x2), (3, vI (or3 x3 (or3 (shl3 1 (h4 2 x4.toNat)) (shl3 1 (h4 3 x4.toNat))))), (4, vI (x4 + 1))] [] h4 K)))))))) : wI (d + 1) m_CallLog_heardOn 5 [(0, vR 1), (1, vI x1), (2, vI x2), (3, vI x3), (4, vI x4)] [] h K := by
  refine w_iload rfl rfl ?_
  refine w_aload_n rfl rfl ?_
  refine w_getI rfl f_CallLog_30 rfl rfl rfl ?_
  obtain ⟨b1, F⟩ := F
  obtain ⟨b2, F⟩ := F
  refine w_icmp_ge (tgt := 53) rfl (by decide) ⟨b1, b2⟩ (fun q3 => ?_) (fun q3 => ?_)
  · replace F := F.1 q3
    refine w_iload_n rfl rfl ?_
    exact w_iret rfl rfl ⟨rfl, rfl, _, rfl, F⟩
  · replace F := F.2 q3
    refine w_aload_n rfl rfl ?_
    refine w_iload rfl rfl ?_
    refine w_iload_n rfl rfl ?_
    refine w_iload_n rfl rfl ?_
    refine c_VI [vI x4, vI x1, vI x2] [] rfl b_CallLog_isOn k_CallLog_34 rfl rfl rfl rfl rfl rfl (mwpI_mono (fun z4 h4 F => ?_) F)
    obtain ⟨b5, F⟩ := F
    refine w_if_eq (tgt := 47) rfl (by decide) b5 (fun q6 => ?_) (fun q6 => ?_)
    · replace F := F.1 q6
      refine w_iinc rfl rfl rfl rfl rfl (w_ls (ls2 := [(0, vR 1), (1, vI x1), (2, vI x2), (3, vI x3), (4, vI (x4 + 1))]) rfl ?_)
      refine w_goto (tgt := 5) rfl (by decide) ?_
      exact F
    · replace F := F.2 q6
      refine w_iload_n rfl rfl ?_
      refine w_iconst rfl ?_
      refine w_aload_n rfl rfl ?_
      refine w_getR rfl f_CallLog_11 rfl rfl rfl rfl rfl ?_
      refine w_iload rfl rfl ?_
      obtain ⟨b7, F⟩ := F
      refine w_iaload rfl rfl rfl b7 ?_
      refine w_ishl rfl ?_
      refine w_iconst rfl ?_
      refine w_aload_n rfl rfl ?_
      refine w_getR rfl f_CallLog_15 rfl rfl rfl rfl rfl ?_
      refine w_iload rfl rfl ?_
      refine w_iaload rfl rfl rfl b7 ?_
      refine w_ishl rfl ?_
      refine w_ior rfl ?_
      refine w_ior rfl ?_
      refine w_istore_n rfl rfl rfl rfl (w_ls (ls2 := [(0, vR 1), (1, vI x1), (2, vI x2), (3, vI (or3 x3 (or3 (shl3 1 (h4 2 x4.toNat)) (shl3 1 (h4 3 x4.toNat))))), (4, vI x4)]) rfl ?_)
      refine w_iinc rfl rfl rfl rfl rfl (w_ls (ls2 := [(0, vR 1), (1, vI x1), (2, vI x2), (3, vI (or3 x3 (or3 (shl3 1 (h4 2 x4.toNat)) (shl3 1 (h4 3 x4.toNat))))), (4, vI (x4 + 1))]) rfl ?_)
      refine w_goto (tgt := 5) rfl (by decide) ?_
      exact F
theorem s_Tree_solve_0 {d : Nat}  (x1 : Int) (h : St) (K : St → Prop) (F : (mwpV (d + 2) m_Tree_gather [vR 79, vI x1] h (fun h1 => (wV (d + 2) m_Tree_solve 7 [(0, vR 79), (1, vI x1), (2, vR 78), (3, vI 0)] [] h1 K)))) : wV (d + 2) m_Tree_solve 0 [(0, vR 79), (1, vI x1), (2, vR 78)] [] h K := by
  refine w_aload_n rfl rfl ?_
  refine w_iload_n rfl rfl ?_
  refine c_VV [vI x1] [] rfl b_Tree_gather k_Tree_37 rfl rfl rfl rfl rfl rfl (mwpV_mono (fun h1 F => ?_) F)
  refine w_iconst rfl ?_
  refine w_istore_n rfl rfl rfl rfl (w_ls (ls2 := [(0, vR 79), (1, vI x1), (2, vR 78), (3, vI 0)]) rfl ?_)
  exact F
theorem s_Tree_solve_7 {d : Nat}  (x1 x3 : Int) (h : St) (K : St → Prop) (F : (inR x3) ∧ (inR (h 79 1)) ∧ (((h 79 1) ≤ x3 → (mwpV (d + 2) m_Tree_setHope [vR 79] h (fun h4 => (mwpV (d + 2) m_JA_fill [vR 83, vI ((-1))] h4 (fun h5 => (mwpV (d + 2) m_Tree_grow [vR 79, vI 0, vI 0, vI 0] (up (up h5 79 0 ((-1))) 79 7 0) (fun h6 => (K h6)))))))) ∧ (¬ ((h 79 1) ≤ x3) → (wV (d + 2) m_Tree_solve 18 [(0, vR 79), (1, vI x1), (2, vR 78), (3, vI x3), (4, vI 0)] [] h K)))) : wV (d + 2) m_Tree_solve 7 [(0, vR 79), (1, vI x1), (2, vR 78), (3, vI x3)] [] h K := by
  refine w_iload_n rfl rfl ?_
  refine w_aload_n rfl rfl ?_
  refine w_getI rfl f_Tree_15 rfl rfl rfl ?_
  obtain ⟨b1, F⟩ := F
  obtain ⟨b2, F⟩ := F
  refine w_icmp_ge (tgt := 70) rfl (by decide) ⟨b1, b2⟩ (fun q3 => ?_) (fun q3 => ?_)
  · replace F := F.1 q3
    refine w_aload_n rfl rfl ?_
    refine c_VV [] [] rfl b_Tree_setHope k_Tree_41 rfl rfl rfl rfl rfl rfl (mwpV_mono (fun h4 F => ?_) F)
    refine w_aload_n rfl rfl ?_
    refine w_getR rfl f_Tree_28 rfl rfl rfl rfl rfl ?_
    refine w_iconst rfl ?_
    refine c_SV [vR 83, vI ((-1))] [] rfl b_JA_fill k_Tree_44 rfl rfl rfl (mwpV_mono (fun h5 F => ?_) F)
    refine w_aload_n rfl rfl ?_
    refine w_iconst rfl ?_
    refine w_putI rfl f_Tree_9 fw_10_0 rfl rfl rfl ?_
    refine w_aload_n rfl rfl ?_
    refine w_iconst rfl ?_
    refine w_putI rfl f_Tree_34 fw_10_7 rfl rfl rfl ?_
    refine w_aload_n rfl rfl ?_
    refine w_iconst rfl ?_
    refine w_iconst rfl ?_
    refine w_iconst rfl ?_
    refine c_VV [vI 0, vI 0, vI 0] [] rfl b_Tree_grow k_Tree_50 rfl rfl rfl rfl rfl rfl (mwpV_mono (fun h6 F => ?_) F)
    exact w_vret rfl rfl ⟨rfl, rfl, rfl, F⟩
  · replace F := F.2 q3
    refine w_iconst rfl ?_
    refine w_istore rfl rfl rfl rfl (w_ls (ls2 := [(0, vR 79), (1, vI x1), (2, vR 78), (3, vI x3), (4, vI 0)]) rfl ?_)
    exact F
theorem s_Tree_solve_18 {d : Nat}  (x1 x3 x4 : Int) (h : St) (K : St → Prop) (F : (inR x4) ∧ (inR (h 79 1)) ∧ (((h 79 1) ≤ x4 → (wV (d + 2) m_Tree_solve 7 [(0, vR 79), (1, vI x1), (2, vR 78), (3, vI (x3 + 1))] [] h K)) ∧ (¬ ((h 79 1) ≤ x4) → (0 ≤ x3 ∧ x3 < 6) ∧ (0 ≤ x4 ∧ x4 < 6) ∧ (0 ≤ ((h 80 x3.toNat) * 12) + (h 80 x4.toNat) ∧ ((h 80 x3.toNat) * 12) + (h 80 x4.toNat) < 144) ∧ (0 ≤ (x3 * 6) + x4 ∧ (x3 * 6) + x4 < 36) ∧ (wV (d + 2) m_Tree_solve 18 [(0, vR 79), (1, vI x1), (2, vR 78), (3, vI x3), (4, vI (x4 + 1))] [] (up h 81 (((x3 * 6) + x4).toNat) (h 78 ((((h 80 x3.toNat) * 12) + (h 80 x4.toNat)).toNat))) K)))) : wV (d + 2) m_Tree_solve 18 [(0, vR 79), (1, vI x1), (2, vR 78), (3, vI x3), (4, vI x4)] [] h K := by
  refine w_iload rfl rfl ?_
  refine w_aload_n rfl rfl ?_
  refine w_getI rfl f_Tree_15 rfl rfl rfl ?_
  obtain ⟨b1, F⟩ := F
  obtain ⟨b2, F⟩ := F
  refine w_icmp_ge (tgt := 64) rfl (by decide) ⟨b1, b2⟩ (fun q3 => ?_) (fun q3 => ?_)
  · replace F := F.1 q3
    refine w_iinc rfl rfl rfl rfl rfl (w_ls (ls2 := [(0, vR 79), (1, vI x1), (2, vR 78), (3, vI (x3 + 1)), (4, vI x4)]) rfl ?_)
    refine w_goto (tgt := 7) rfl (by decide) ?_
    exact w_kp [0, 1, 2, 3] F
  · replace F := F.2 q3
    refine w_aload_n rfl rfl ?_
    refine w_getR rfl f_Tree_22 rfl rfl rfl rfl rfl ?_
    refine w_iload_n rfl rfl ?_
    refine w_bipush (by decide) (by decide) rfl ?_
    refine w_imul rfl ?_
    refine w_iload rfl rfl ?_
    refine w_iadd rfl ?_
    refine w_aload_n rfl rfl ?_
    refine w_aload_n rfl rfl ?_
    refine w_getR rfl f_Tree_18 rfl rfl rfl rfl rfl ?_
    refine w_iload_n rfl rfl ?_
    obtain ⟨b4, F⟩ := F
    refine w_iaload rfl rfl rfl b4 ?_
    refine w_bipush (by decide) (by decide) rfl ?_
    refine w_imul rfl ?_
    refine w_aload_n rfl rfl ?_
    refine w_getR rfl f_Tree_18 rfl rfl rfl rfl rfl ?_
    refine w_iload rfl rfl ?_
    obtain ⟨b5, F⟩ := F
    refine w_iaload rfl rfl rfl b5 ?_
    refine w_iadd rfl ?_
    obtain ⟨b6, F⟩ := F
    refine w_iaload rfl rfl rfl b6 ?_
    obtain ⟨b7, F⟩ := F
    refine w_iastore rfl rfl rfl b7 ?_
    refine w_iinc rfl rfl rfl rfl rfl (w_ls (ls2 := [(0, vR 79), (1, vI x1), (2, vR 78), (3, vI x3), (4, vI (x4 + 1))]) rfl ?_)
    refine w_goto (tgt := 18) rfl (by decide) ?_
    exact F
theorem s_Tree_gather_0 {d : Nat}  (x1 : Int) (h : St) (K : St → Prop) (F : (wV d m_Tree_gather 7 [(0, vR 79), (1, vI x1), (2, vI 0)] [] (up h 79 1 0) K)) : wV d m_Tree_gather 0 [(0, vR 79), (1, vI x1)] [] h K := by
  refine w_aload_n rfl rfl ?_
  refine w_iconst rfl ?_
  refine w_putI rfl f_Tree_15 fw_10_1 rfl rfl rfl ?_
  refine w_iconst rfl ?_
  refine w_istore_n rfl rfl rfl rfl (w_ls (ls2 := [(0, vR 79), (1, vI x1), (2, vI 0)]) rfl ?_)
  exact F
theorem s_Tree_gather_7 {d : Nat}  (x1 x2 : Int) (h : St) (K : St → Prop) (F : (inR x2) ∧ ((12 ≤ x2 → (K h)) ∧ (¬ (12 ≤ x2) → (inR (h 79 1)) ∧ ((6 ≤ (h 79 1) → (K h)) ∧ (¬ (6 ≤ (h 79 1)) → (inR (and3 (shr3 x1 x2) 1)) ∧ (((and3 (shr3 x1 x2) 1) = 0 → (wV d m_Tree_gather 7 [(0, vR 79), (1, vI x1), (2, vI (x2 + 1))] [] h K)) ∧ (¬ ((and3 (shr3 x1 x2) 1) = 0) → (0 ≤ h 79 1 ∧ h 79 1 < 6) ∧ (wV d m_Tree_gather 7 [(0, vR 79), (1, vI x1), (2, vI (x2 + 1))] [] (up (up h 80 ((h 79 1).toNat) x2) 79 1 ((h 79 1) + 1)) K)))))))) : wV d m_Tree_gather 7 [(0, vR 79), (1, vI x1), (2, vI x2)] [] h K := by
  refine w_iload_n rfl rfl ?_
  refine w_bipush (by decide) (by decide) rfl ?_
  obtain ⟨b1, F⟩ := F
  refine w_icmp_ge (tgt := 56) rfl (by decide) ⟨b1, (r_lit rfl)⟩ (fun q2 => ?_) (fun q2 => ?_)
  · replace F := F.1 q2
    exact w_vret rfl rfl ⟨rfl, rfl, rfl, F⟩
  · replace F := F.2 q2
    refine w_aload_n rfl rfl ?_
    refine w_getI rfl f_Tree_15 rfl rfl rfl ?_
    refine w_bipush (by decide) (by decide) rfl ?_
    obtain ⟨b3, F⟩ := F
    refine w_icmp_ge (tgt := 56) rfl (by decide) ⟨b3, (r_lit rfl)⟩ (fun q4 => ?_) (fun q4 => ?_)
    · replace F := F.1 q4
      exact w_vret rfl rfl ⟨rfl, rfl, rfl, F⟩
    · replace F := F.2 q4
      refine w_iload_n rfl rfl ?_
      refine w_iload_n rfl rfl ?_
      refine w_ishr rfl ?_
      refine w_iconst rfl ?_
      refine w_iand rfl ?_
      obtain ⟨b5, F⟩ := F
      refine w_if_eq (tgt := 50) rfl (by decide) b5 (fun q6 => ?_) (fun q6 => ?_)
      · replace F := F.1 q6
        refine w_iinc rfl rfl rfl rfl rfl (w_ls (ls2 := [(0, vR 79), (1, vI x1), (2, vI (x2 + 1))]) rfl ?_)
        refine w_goto (tgt := 7) rfl (by decide) ?_
        exact F
      · replace F := F.2 q6
        refine w_aload_n rfl rfl ?_
        refine w_getR rfl f_Tree_18 rfl rfl rfl rfl rfl ?_
        refine w_aload_n rfl rfl ?_
        refine w_getI rfl f_Tree_15 rfl rfl rfl ?_
        refine w_iload_n rfl rfl ?_
        obtain ⟨b7, F⟩ := F
        refine w_iastore rfl rfl rfl b7 ?_
        refine w_aload_n rfl rfl ?_
        refine w_dup rfl rfl ?_
        refine w_getI rfl f_Tree_15 rfl rfl rfl ?_
        refine w_iconst rfl ?_
        refine w_iadd rfl ?_
        refine w_putI rfl f_Tree_15 fw_10_1 rfl rfl rfl ?_
        refine w_iinc rfl rfl rfl rfl rfl (w_ls (ls2 := [(0, vR 79), (1, vI x1), (2, vI (x2 + 1))]) rfl ?_)
        refine w_goto (tgt := 7) rfl (by decide) ?_
        exact F
theorem s_Tree_setHope_0 {d : Nat}  (h : St) (K : St → Prop) (F : (0 ≤ h 79 1 ∧ h 79 1 < 7) ∧ (wV (d + 1) m_Tree_setHope 17 [(0, vR 79), (1, vI ((h 79 1) - 1))] [] (up h 82 ((h 79 1).toNat) 0) K)) : wV (d + 1) m_Tree_setHope 0 [(0, vR 79)] [] h K := by
  refine w_aload_n rfl rfl ?_
  refine w_getR rfl f_Tree_25 rfl rfl rfl rfl rfl ?_
  refine w_aload_n rfl rfl ?_
  refine w_getI rfl f_Tree_15 rfl rfl rfl ?_
  refine w_iconst rfl ?_
  obtain ⟨b1, F⟩ := F
  refine w_iastore rfl rfl rfl b1 ?_
  refine w_aload_n rfl rfl ?_
  refine w_getI rfl f_Tree_15 rfl rfl rfl ?_
  refine w_iconst rfl ?_
  refine w_isub rfl ?_
  refine w_istore_n rfl rfl rfl rfl (w_ls (ls2 := [(0, vR 79), (1, vI ((h 79 1) - 1))]) rfl ?_)
  exact F
theorem s_Tree_setHope_17 {d : Nat}  (x1 : Int) (h : St) (K : St → Prop) (F : (inR x1) ∧ ((x1 < 0 → (K h)) ∧ (¬ (x1 < 0) → (wV (d + 1) m_Tree_setHope 25 [(0, vR 79), (1, vI x1), (2, vI 0), (3, vI 0)] [] h K)))) : wV (d + 1) m_Tree_setHope 17 [(0, vR 79), (1, vI x1)] [] h K := by
  refine w_iload_n rfl rfl ?_
  obtain ⟨b1, F⟩ := F
  refine w_if_lt (tgt := 77) rfl (by decide) b1 (fun q2 => ?_) (fun q2 => ?_)
  · replace F := F.1 q2
    exact w_vret rfl rfl ⟨rfl, rfl, rfl, F⟩
  · replace F := F.2 q2
    refine w_iconst rfl ?_
    refine w_istore_n rfl rfl rfl rfl (w_ls (ls2 := [(0, vR 79), (1, vI x1), (2, vI 0)]) rfl ?_)
    refine w_iconst rfl ?_
    refine w_istore_n rfl rfl rfl rfl (w_ls (ls2 := [(0, vR 79), (1, vI x1), (2, vI 0), (3, vI 0)]) rfl ?_)
    exact F
theorem s_Tree_setHope_25 {d : Nat}  (x1 x2 x3 : Int) (h : St) (K : St → Prop) (F : (inR x3) ∧ (inR (h 79 1)) ∧ (((h 79 1) ≤ x3 → (0 ≤ x1 + 1 ∧ x1 + 1 < 7) ∧ (0 ≤ x1 ∧ x1 < 7) ∧ (wV (d + 1) m_Tree_setHope 17 [(0, vR 79), (1, vI (x1 + (-1)))] [] (up h 82 x1.toNat ((h 82 ((x1 + 1).toNat)) + x2)) K)) ∧ (¬ ((h 79 1) ≤ x3) → (0 ≤ (x3 * 6) + x1 ∧ (x3 * 6) + x1 < 36) ∧ (inR x2) ∧ (inR (h 81 (((x3 * 6) + x1).toNat))) ∧ (wV (d + 1) m_Tree_setHope 25 [(0, vR 79), (1, vI x1), (2, vI (max x2 (h 81 (((x3 * 6) + x1).toNat)))), (3, vI (x3 + 1))] [] h K)))) : wV (d + 1) m_Tree_setHope 25 [(0, vR 79), (1, vI x1), (2, vI x2), (3, vI x3)] [] h K := by
  refine w_iload_n rfl rfl ?_
  refine w_aload_n rfl rfl ?_
  refine w_getI rfl f_Tree_15 rfl rfl rfl ?_
  obtain ⟨b1, F⟩ := F
  obtain ⟨b2, F⟩ := F
  refine w_icmp_ge (tgt := 55) rfl (by decide) ⟨b1, b2⟩ (fun q3 => ?_) (fun q3 => ?_)
  · replace F := F.1 q3
    refine w_aload_n rfl rfl ?_
    refine w_getR rfl f_Tree_25 rfl rfl rfl rfl rfl ?_
    refine w_iload_n rfl rfl ?_
    refine w_aload_n rfl rfl ?_
    refine w_getR rfl f_Tree_25 rfl rfl rfl rfl rfl ?_
    refine w_iload_n rfl rfl ?_
    refine w_iconst rfl ?_
    refine w_iadd rfl ?_
    obtain ⟨b4, F⟩ := F
    refine w_iaload rfl rfl rfl b4 ?_
    refine w_iload_n rfl rfl ?_
    refine w_iadd rfl ?_
    obtain ⟨b5, F⟩ := F
    refine w_iastore rfl rfl rfl b5 ?_
    refine w_iinc rfl rfl rfl rfl rfl (w_ls (ls2 := [(0, vR 79), (1, vI (x1 + (-1))), (2, vI x2), (3, vI x3)]) rfl ?_)
    refine w_goto (tgt := 17) rfl (by decide) ?_
    exact w_kp [0, 1] F
  · replace F := F.2 q3
    refine w_iload_n rfl rfl ?_
    refine w_aload_n rfl rfl ?_
    refine w_getR rfl f_Tree_22 rfl rfl rfl rfl rfl ?_
    refine w_iload_n rfl rfl ?_
    refine w_bipush (by decide) (by decide) rfl ?_
    refine w_imul rfl ?_
    refine w_iload_n rfl rfl ?_
    refine w_iadd rfl ?_
    obtain ⟨b6, F⟩ := F
    refine w_iaload rfl rfl rfl b6 ?_
    obtain ⟨b7, F⟩ := F
    obtain ⟨b8, F⟩ := F
    refine c_SI [vI x2, vI (h 81 (((x3 * 6) + x1).toNat))] [] rfl b_JM_max k_Tree_54 rfl rfl rfl (c_JM_max b7 b8 ?_)
    refine w_istore_n rfl rfl rfl rfl (w_ls (ls2 := [(0, vR 79), (1, vI x1), (2, vI (max x2 (h 81 (((x3 * 6) + x1).toNat)))), (3, vI x3)]) rfl ?_)
    refine w_iinc rfl rfl rfl rfl rfl (w_ls (ls2 := [(0, vR 79), (1, vI x1), (2, vI (max x2 (h 81 (((x3 * 6) + x1).toNat)))), (3, vI (x3 + 1))]) rfl ?_)
    refine w_goto (tgt := 25) rfl (by decide) ?_
    exact F
theorem s_Tree_nameAbove_0 {d : Nat}  (x1 : Int) (h : St) (K : Int → St → Prop) (F : (mwpI (d + 1) m_Tree_memberOf [vR 79, vI x1] h (fun z1 h1 => (((inR z1) ∧ (¬ (z1 = ((-4))) → ((0 ≤ z1 ∧ z1 < 6) ∧ (inR (h1 84 z1.toNat)) ∧ (0 ≤ (h1 84 z1.toNat) → ((0 ≤ h1 84 z1.toNat ∧ h1 84 z1.toNat < 6))))))) ∧ (K (cif (z1 = ((-4))) ((-4)) (cif (0 ≤ (h1 84 z1.toNat)) (h1 80 ((h1 84 z1.toNat).toNat)) ((-4)))) h1)))) : wI (d + 1) m_Tree_nameAbove 0 [(0, vR 79), (1, vI x1)] [] h K := by
  refine w_aload_n rfl rfl ?_
  refine w_iload_n rfl rfl ?_
  refine c_VI [vI x1] [] rfl b_Tree_memberOf k_Tree_71 rfl rfl rfl rfl rfl rfl (mwpI_mono (fun z1 h1 F => ?_) F)
  refine w_istore_n rfl rfl rfl rfl (w_ls (ls2 := [(0, vR 79), (1, vI x1), (2, vI z1)]) rfl ?_)
  refine w_iload_n rfl rfl ?_
  refine w_bipush (by decide) (by decide) rfl ?_
  obtain ⟨G, F⟩ := F
  have J : ∀ (t8 : Int), t8 = cif (z1 = ((-4))) ((-4)) (cif (0 ≤ (h1 84 z1.toNat)) (h1 80 ((h1 84 z1.toNat).toNat)) ((-4))) → wI (d + 1) m_Tree_nameAbove 37 [(0, vR 79), (1, vI x1), (2, vI z1)] [vI t8] h1 K := by
    intro t8 et8
    subst et8
    exact w_iret rfl rfl ⟨rfl, rfl, _, rfl, F⟩
  obtain ⟨b2, gb_⟩ := G
  refine w_icmp_eq (tgt := 21) rfl (by decide) ⟨b2, (r_lit rfl)⟩ (fun q3 => ?_) (fun q3 => ?_)
  · refine w_bipush (by decide) (by decide) rfl ?_
    refine w_goto (tgt := 37) rfl (by decide) ?_
    exact J _ (cif_t q3).symm
  · have G := gb_ q3
    obtain ⟨b4, b5, ga_⟩ := G
    refine w_aload_n rfl rfl ?_
    refine w_getR rfl f_Tree_31 rfl rfl rfl rfl rfl ?_
    refine w_iload_n rfl rfl ?_
    refine w_iaload rfl rfl rfl b4 ?_
    refine w_if_ge (tgt := 26) rfl (by decide) b5 (fun q6 => ?_) (fun q6 => ?_)
    · have G := ga_ q6
      have b7 := G
      refine w_aload_n rfl rfl ?_
      refine w_getR rfl f_Tree_18 rfl rfl rfl rfl rfl ?_
      refine w_aload_n rfl rfl ?_
      refine w_getR rfl f_Tree_31 rfl rfl rfl rfl rfl ?_
      refine w_iload_n rfl rfl ?_
      refine w_iaload rfl rfl rfl b4 ?_
      refine w_iaload rfl rfl rfl b7 ?_
      exact J _ ((cif_f q3).trans (cif_t q6)).symm
    · refine w_bipush (by decide) (by decide) rfl ?_
      refine w_goto (tgt := 37) rfl (by decide) ?_
      exact J _ ((cif_f q3).trans (cif_f q6)).symm
theorem s_Tree_sureness_0 {d : Nat}  (x1 : Int) (h : St) (K : Int → St → Prop) (F : (mwpI (d + 1) m_Tree_memberOf [vR 79, vI x1] h (fun z1 h1 => (((inR z1) ∧ (¬ (z1 = ((-4))) → ((0 ≤ z1 ∧ z1 < 6) ∧ (inR (h1 84 z1.toNat)))))) ∧ (K (cif (z1 = ((-4))) ((-4)) (cif (0 ≤ (h1 84 z1.toNat)) (and3 (shr3 (h1 79 7) z1) 1) ((-4)))) h1)))) : wI (d + 1) m_Tree_sureness 0 [(0, vR 79), (1, vI x1)] [] h K := by
  refine w_aload_n rfl rfl ?_
  refine w_iload_n rfl rfl ?_
  refine c_VI [vI x1] [] rfl b_Tree_memberOf k_Tree_71 rfl rfl rfl rfl rfl rfl (mwpI_mono (fun z1 h1 F => ?_) F)
  refine w_istore_n rfl rfl rfl rfl (w_ls (ls2 := [(0, vR 79), (1, vI x1), (2, vI z1)]) rfl ?_)
  refine w_iload_n rfl rfl ?_
  refine w_bipush (by decide) (by decide) rfl ?_
  obtain ⟨G, F⟩ := F
  have J : ∀ (t7 : Int), t7 = cif (z1 = ((-4))) ((-4)) (cif (0 ≤ (h1 84 z1.toNat)) (and3 (shr3 (h1 79 7) z1) 1) ((-4))) → wI (d + 1) m_Tree_sureness 34 [(0, vR 79), (1, vI x1), (2, vI z1)] [vI t7] h1 K := by
    intro t7 et7
    subst et7
    exact w_iret rfl rfl ⟨rfl, rfl, _, rfl, F⟩
  obtain ⟨b2, gb_⟩ := G
  refine w_icmp_eq (tgt := 21) rfl (by decide) ⟨b2, (r_lit rfl)⟩ (fun q3 => ?_) (fun q3 => ?_)
  · refine w_bipush (by decide) (by decide) rfl ?_
    refine w_goto (tgt := 34) rfl (by decide) ?_
    exact J _ (cif_t q3).symm
  · have G := gb_ q3
    obtain ⟨b4, b5⟩ := G
    refine w_aload_n rfl rfl ?_
    refine w_getR rfl f_Tree_31 rfl rfl rfl rfl rfl ?_
    refine w_iload_n rfl rfl ?_
    refine w_iaload rfl rfl rfl b4 ?_
    refine w_if_ge (tgt := 26) rfl (by decide) b5 (fun q6 => ?_) (fun q6 => ?_)
    · refine w_aload_n rfl rfl ?_
      refine w_getI rfl f_Tree_34 rfl rfl rfl ?_
      refine w_iload_n rfl rfl ?_
      refine w_ishr rfl ?_
      refine w_iconst rfl ?_
      refine w_iand rfl ?_
      exact J _ ((cif_f q3).trans (cif_t q6)).symm
    · refine w_bipush (by decide) (by decide) rfl ?_
      refine w_goto (tgt := 34) rfl (by decide) ?_
      exact J _ ((cif_f q3).trans (cif_f q6)).symm
theorem s_Tree_memberOf_0 {d : Nat}  (x1 : Int) (h : St) (K : Int → St → Prop) (F : (wI d m_Tree_memberOf 2 [(0, vR 79), (1, vI x1), (2, vI 0)] [] h K)) : wI d m_Tree_memberOf 0 [(0, vR 79), (1, vI x1)] [] h K := by
  refine w_iconst rfl ?_
  refine w_istore_n rfl rfl rfl rfl (w_ls (ls2 := [(0, vR 79), (1, vI x1), (2, vI 0)]) rfl ?_)
  exact F
theorem s_Tree_memberOf_2 {d : Nat}  (x1 x2 : Int) (h : St) (K : Int → St → Prop) (F : (inR x2) ∧ (inR (h 79 1)) ∧ (((h 79 1) ≤ x2 → (K ((-4)) h)) ∧ (¬ ((h 79 1) ≤ x2) → (0 ≤ x2 ∧ x2 < 6) ∧ (inR (h 80 x2.toNat)) ∧ (inR x1) ∧ (((h 80 x2.toNat) ≠ x1 → (wI d m_Tree_memberOf 2 [(0, vR 79), (1, vI x1), (2, vI (x2 + 1))] [] h K)) ∧ (¬ ((h 80 x2.toNat) ≠ x1) → (K x2 h)))))) : wI d m_Tree_memberOf 2 [(0, vR 79), (1, vI x1), (2, vI x2)] [] h K := by
  refine w_iload_n rfl rfl ?_
  refine w_aload_n rfl rfl ?_
  refine w_getI rfl f_Tree_15 rfl rfl rfl ?_
  obtain ⟨b1, F⟩ := F
  obtain ⟨b2, F⟩ := F
  refine w_icmp_ge (tgt := 28) rfl (by decide) ⟨b1, b2⟩ (fun q3 => ?_) (fun q3 => ?_)
  · replace F := F.1 q3
    refine w_bipush (by decide) (by decide) rfl ?_
    exact w_iret rfl rfl ⟨rfl, rfl, _, rfl, F⟩
  · replace F := F.2 q3
    refine w_aload_n rfl rfl ?_
    refine w_getR rfl f_Tree_18 rfl rfl rfl rfl rfl ?_
    refine w_iload_n rfl rfl ?_
    obtain ⟨b4, F⟩ := F
    refine w_iaload rfl rfl rfl b4 ?_
    refine w_iload_n rfl rfl ?_
    obtain ⟨b5, F⟩ := F
    obtain ⟨b6, F⟩ := F
    refine w_icmp_ne (tgt := 22) rfl (by decide) ⟨b5, b6⟩ (fun q7 => ?_) (fun q7 => ?_)
    · replace F := F.1 q7
      refine w_iinc rfl rfl rfl rfl rfl (w_ls (ls2 := [(0, vR 79), (1, vI x1), (2, vI (x2 + 1))]) rfl ?_)
      refine w_goto (tgt := 2) rfl (by decide) ?_
      exact F
    · replace F := F.2 q7
      refine w_iload_n rfl rfl ?_
      exact w_iret rfl rfl ⟨rfl, rfl, _, rfl, F⟩
theorem tA_up {N : Nat} {S : Nat → Nat → Int} {a : Nat} : ∀ n, (tA N S a).1 ≤ (tA N S (a + n)).1
  | 0 => Int.le_refl _
  | n + 1 => by
    have ih := tA_up (N := N) (S := S) (a := a) n
    rw [show a + (n + 1) = (a + n) + 1 by omega, tA]
    by_cases y : TrT N (dgT N N (a + n))
    · rw [stT_y y]
      show _ ≤ cif _ _ _
      by_cases z : (tA N S (a + n)).1 < smT N S (dgT N N (a + n)) N
      · rw [cif_t z]; omega
      · rw [cif_f z]; exact ih
    · rw [stT_n y]; exact ih
theorem star_d {N : Nat} (hN : 2 ≤ N) : dgT N N (N * (N + 1) ^ (N - 1)) 0 = N ∧ ∀ k, 0 < k → k < N → dgT N N (N * (N + 1) ^ (N - 1)) k = 0 := by
  constructor
  · unfold dgT
    rw [show N - 1 - 0 = N - 1 by omega, Nat.mul_div_cancel _ (Nat.pow_pos (by omega)), Nat.mod_eq_of_lt (by omega)]
  · intro k h1 h2
    unfold dgT
    have e : (N + 1) ^ (N - 1) = (N + 1) ^ (k - 1) * (N + 1) * (N + 1) ^ (N - 1 - k) := by
      rw [← Nat.pow_succ, ← Nat.pow_add]
      congr 1
      omega
    rw [e, ← Nat.mul_assoc, Nat.mul_div_cancel _ (Nat.pow_pos (by omega)), ← Nat.mul_assoc, Nat.mul_mod_left]
theorem star_t {N : Nat} (hN : 2 ≤ N) : TrT N (dgT N N (N * (N + 1) ^ (N - 1))) := by
  obtain ⟨d0, dk⟩ := star_d hN
  refine ⟨fun k hk => ?_, sm_one (i := 0) (by omega) (b2i_t d0) (fun j hj nj => b2i_f (fun z => by rw [dk j (by omega) hj] at z; omega)), fun k hk => ?_⟩
  · by_cases e : k = 0
    · subst e; rw [d0]; omega
    · rw [dk k (by omega) hk]; omega
  · have n0 : nxT N N (dgT N N (N * (N + 1) ^ (N - 1))) 0 = N := by rw [show nxT N N (dgT N N (N * (N + 1) ^ (N - 1))) 0 = dgT N N (N * (N + 1) ^ (N - 1)) 0 from nif_t (by omega)]; exact d0
    by_cases e : k = 0
    · subst e
      rw [itT, n0]; exact itT_N (Nat.le_refl _) _
    · have n1 : nxT N N (dgT N N (N * (N + 1) ^ (N - 1))) k = 0 := by rw [show nxT N N (dgT N N (N * (N + 1) ^ (N - 1))) k = dgT N N (N * (N + 1) ^ (N - 1)) k from nif_t hk]; exact dk k (by omega) hk
      obtain ⟨n, rfl⟩ : ∃ n, N = n + 1 := ⟨N - 1, by omega⟩
      rw [itT, n1, itT, n0]; exact itT_N (Nat.le_refl _) _
theorem tA_pos {N : Nat} {S : Nat → Nat → Int} (hN : 2 ≤ N ∧ N ≤ 6) (hS : ∀ i j, 0 ≤ S i j ∧ S i j ≤ 1000) : 0 ≤ (tA N S ((N + 1) ^ N)).1 := by
  have st := star_t hN.1
  have lt : N * (N + 1) ^ (N - 1) + 1 ≤ (N + 1) ^ N := by
    have e : (N + 1) ^ N = (N + 1) * (N + 1) ^ (N - 1) := by
      rw [Nat.mul_comm, ← Nat.pow_succ]
      congr 1
      omega
    rw [e, Nat.add_mul, Nat.one_mul]
    have : 0 < (N + 1) ^ (N - 1) := Nat.pow_pos (by omega)
    omega
  have a := tA_up (N := N) (S := S) (a := N * (N + 1) ^ (N - 1) + 1) ((N + 1) ^ N - (N * (N + 1) ^ (N - 1) + 1))
  rw [show N * (N + 1) ^ (N - 1) + 1 + ((N + 1) ^ N - (N * (N + 1) ^ (N - 1) + 1)) = (N + 1) ^ N by omega] at a
  have b : 0 ≤ (tA N S (N * (N + 1) ^ (N - 1) + 1)).1 := by
    have sr := smT_R (N := N) (w := dgT N N (N * (N + 1) ^ (N - 1))) (m := N) hS hN.2
    rw [tA, stT_y st]
    show 0 ≤ cif _ _ _
    by_cases z : (tA N S (N * (N + 1) ^ (N - 1))).1 < smT N S (dgT N N (N * (N + 1) ^ (N - 1))) N
    · rw [cif_t z]; omega
    · rw [cif_f z]; omega
  omega
def hS (n : Nat) (lg : Nat → Nat → Int) (d e : Int) (a : Nat) : Prop := exA n (fun i => onD lg i d e ∧ (lg 0 i = (a : Int) ∨ lg 1 i = (a : Int)))
noncomputable def hB (lg : Nat → Nat → Int) (d e : Int) : Nat → Nat
  | 0 => 0
  | c + 1 => nif (onD lg c d e) (hB lg d e c ||| (2 ^ (lg 0 c).toNat ||| 2 ^ (lg 1 c).toNat)) (hB lg d e c)
theorem hB_lt {n : Nat} {lg : Nat → Nat → Int} {d e : Int} (vl : VLog n lg) : ∀ c, c ≤ n → hB lg d e c < 2 ^ 12
  | 0, _ => by rw [hB]; decide
  | c + 1, hc => by
    have ih := hB_lt (d := d) (e := e) vl c (by omega)
    have v := vl c (by omega)
    rw [hB]
    by_cases y : onD lg c d e
    · rw [nif_t y]
      exact Nat.or_lt_two_pow ih (Nat.or_lt_two_pow (Nat.pow_lt_pow_right (by decide) (by omega)) (Nat.pow_lt_pow_right (by decide) (by omega)))
    · rw [nif_f y]; exact ih
theorem hB_tb {n : Nat} {lg : Nat → Nat → Int} {d e : Int} (vl : VLog n lg) {a : Nat} : ∀ c, c ≤ n → ((hB lg d e c).testBit a = true ↔ hS c lg d e a)
  | 0, _ => by
    rw [hB, Nat.zero_testBit]
    exact ⟨fun z => Bool.noConfusion z, fun ⟨i, z, _⟩ => absurd z (Nat.not_lt_zero _)⟩
  | c + 1, hc => by
    have ih := hB_tb (d := d) (e := e) (a := a) vl c (by omega)
    have v := vl c (by omega)
    rw [hB]
    by_cases y : onD lg c d e
    · rw [nif_t y, Nat.testBit_or, Bool.or_eq_true, ih, tb_or, Nat.testBit_two_pow, decide_eq_true_iff]
      constructor
      · rintro (⟨i, z1, z2⟩ | z)
        · exact ⟨i, by omega, z2⟩
        · exact ⟨c, by omega, y, by omega⟩
      · rintro ⟨i, z1, z2, z3⟩
        by_cases q : i = c
        · subst q; right; omega
        · exact Or.inl ⟨i, by omega, z2, z3⟩
    · rw [nif_f y, ih]
      constructor
      · rintro ⟨i, z1, z2⟩; exact ⟨i, by omega, z2⟩
      · rintro ⟨i, z1, z2⟩
        by_cases q : i = c
        · subst q; exact absurd z2.1 y
        · exact ⟨i, by omega, z2⟩
theorem C_ho_5 {D : Nat} {h : St} {K : Int → St → Prop} {n : Nat} {lg : Nat → Nat → Int} {d e : Int} (cl : CLog h n lg) (vl : VLog n lg) (rd : inR d) (re : inR e) (k : K ((hB lg d e n : Nat) : Int) h) : ∀ (r c : Nat), c + r = n → wI (D + 1) m_CallLog_heardOn 5 [(0, vR 1), (1, vI d), (2, vI e), (3, vI ((hB lg d e c : Nat) : Int)), (4, vI c)] [] h K := by
  have hn := cl.2.1
  have h8 := cl.1
  intro r
  induction r with
  | zero =>
    intro c hc
    have ec : c = n := by omega
    subst ec
    exact s_CallLog_heardOn_5 _ _ _ _ h K ⟨⟨by omega, by omega⟩, ⟨by omega, by omega⟩, fun _ => k, fun y => by omega⟩
  | succ r ih =>
    intro c hc
    have hc2 : c < n := by omega
    obtain ⟨a0, a1, _⟩ := CLog_at cl hc2
    have q1 := vl c hc2
    have nx := ih (c + 1) (by omega)
    rw [hB] at nx
    refine s_CallLog_heardOn_5 _ _ _ _ h K ⟨⟨by omega, by omega⟩, ⟨by omega, by omega⟩, fun y => by omega, fun _ => c_CallLog_isOn cl vl hc2 rd re ⟨b2i_R, fun z => ?_, fun z => ⟨⟨by omega, by omega⟩, ?_⟩⟩⟩
    · rw [nif_f (b2i_eq0.mp z)] at nx; exact nx
    · rw [nif_t (b2i_ne0.mp z)] at nx
      have b1 := hB_lt (d := d) (e := e) vl c (by omega)
      have p0 : 2 ^ (lg 0 c).toNat < 2 ^ 12 := Nat.pow_lt_pow_right (by decide) (by omega)
      have p1 : 2 ^ (lg 1 c).toNat < 2 ^ 12 := Nat.pow_lt_pow_right (by decide) (by omega)
      have p2 : 2 ^ (lg 0 c).toNat ||| 2 ^ (lg 1 c).toNat < 2 ^ 12 := Nat.or_lt_two_pow p0 p1
      have e0 : shl3 1 (lg 0 c) = ((2 ^ (lg 0 c).toNat : Nat) : Int) := by
        have := shl_1 (k := (lg 0 c).toNat) (by omega)
        rw [show (((lg 0 c).toNat : Nat) : Int) = lg 0 c by omega] at this
        exact this
      have e1 : shl3 1 (lg 1 c) = ((2 ^ (lg 1 c).toNat : Nat) : Int) := by
        have := shl_1 (k := (lg 1 c).toNat) (by omega)
        rw [show (((lg 1 c).toNat : Nat) : Int) = lg 1 c by omega] at this
        exact this
      rw [Int.toNat_natCast, a0, a1, e0, e1, or3_nat (by omega) (by omega), or3_nat (by omega) (by omega)]
      exact nx
theorem c_CallLog_heardOn {D : Nat} {h : St} {K : Int → St → Prop} {n : Nat} {lg : Nat → Nat → Int} {d e : Int} (cl : CLog h n lg) (vl : VLog n lg) (rd : inR d) (re : inR e) (k : K ((hB lg d e n : Nat) : Int) h) : mwpI (D + 2) m_CallLog_heardOn [vR 1, vI d, vI e] h K :=
  mI_intro b_CallLog_heardOn rfl (s_CallLog_heardOn_0 (d := D) _ _ h K (C_ho_5 cl vl rd re k n 0 (Nat.zero_add _)))
theorem cS_sm {S : Nat → Prop} : ∀ m, ((cS S m : Nat) : Int) = sm (fun a => b2i (S a)) m
  | 0 => rfl
  | m + 1 => by
    have ih := cS_sm (S := S) m
    rw [sm_succ]
    by_cases y : S m
    · rw [show cS S (m + 1) = cS S m + 1 from nif_t y, b2i_t y]; omega
    · rw [show cS S (m + 1) = cS S m from nif_f y, b2i_f y]; omega
theorem pb_cS {S : Nat → Prop} {a : Nat} (ha : a < 2 ^ 12) (h : ∀ k, a.testBit k = true ↔ S k) : pb 32 a = cS S 12 := by
  have e1 : pb (12 + 20) a = pb 12 a := pb_more 12 a ha
  have e2 := pb_sm 12 a
  rw [sm_congr (g := fun k => b2i (S k)) 12 (fun i _ => b2i_congr (h i)), ← cS_sm] at e2
  show pb (12 + 20) a = _
  omega
theorem C_ga_7 {D : Nat} {K : St → Prop} {a : Nat} {S : Nat → Prop} (ha : a < 2 ^ 12) (hs : ∀ k, a.testBit k = true ↔ S k) (h6 : cS S 12 ≤ 6) : ∀ (r c : Nat) (h : St), c + r = 12 → h 79 1 = (cS S c : Int) → (∀ b, b < c → S b → h 80 (cS S b) = (b : Int)) → (∀ h2, ag (fun c k => c ≠ 80 ∧ ¬ (c = 79 ∧ k = 1)) h h2 → h2 79 1 = (cS S 12 : Int) → (∀ b, b < 12 → S b → h2 80 (cS S b) = (b : Int)) → K h2) → wV D m_Tree_gather 7 [(0, vR 79), (1, vI a), (2, vI c)] [] h K := by
  intro r
  induction r with
  | zero =>
    intro c h hc e w k
    have ec : c = 12 := by omega
    subst ec
    exact s_Tree_gather_7 _ _ h K ⟨by decide, fun _ => k h ag_rfl e w, fun y => absurd (by decide) y⟩
  | succ r ih =>
    intro c h hc e w k
    have mo := cS_mono (S := S) (a := c) (r + 1)
    rw [hc] at mo
    refine s_Tree_gather_7 _ _ h K ⟨⟨by omega, by omega⟩, fun y => by omega, fun _ => ⟨⟨by omega, by omega⟩, fun y => ?_, fun y => ?_⟩⟩
    · have e6 : cS S c = cS S 12 := by omega
      refine k h ag_rfl (by rw [← e6]; exact e) (fun b hb sb => ?_)
      by_cases q : b < c
      · exact w b q sb
      · have m1 := cS_mono (S := S) (a := c) (b - c)
        rw [show c + (b - c) = b by omega] at m1
        have := cS_lt hb sb
        omega
    · rw [has_nat (by omega) (by omega)]
      refine ⟨b2i_R, fun z => ?_, fun z => ⟨⟨by omega, by omega⟩, ?_⟩⟩
      · have no : ¬ S c := fun q => b2i_eq0.mp z ((hs c).mpr q)
        refine ih (c + 1) h (by omega) (by rw [show cS S (c + 1) = cS S c from nif_f no]; exact e) (fun b hb sb => ?_) k
        by_cases q : b = c
        · subst q; exact absurd sb no
        · exact w b (by omega) sb
      · have yes : S c := (hs c).mp (b2i_ne0.mp z)
        rw [e, Int.toNat_natCast]
        refine ih (c + 1) _ (by omega) (by rw [up_same, show cS S (c + 1) = cS S c + 1 from nif_t yes]; rfl) (fun b hb sb => ?_) (fun h2 g2 => k h2 (ag_trans (ag_up (by omega) (ag_up (by omega) ag_rfl)) g2))
        rw [up_ne (by omega)]
        by_cases q : b = c
        · subst q; rw [up_same]
        · have := cS_lt (show b < c by omega) sb
          rw [up_ne (by omega)]; exact w b (by omega) sb
theorem C_sh_25 {D : Nat} {K : St → Prop} {N b : Nat} {S : Nat → Nat → Int} (hb : b < N) (hN : N ≤ 6) (hS : ∀ i j, 0 ≤ S i j ∧ S i j ≤ 1000) {h : St} (e1 : h 79 1 = (N : Int)) (e81 : ∀ i j, i < N → j < N → h 81 (i * 6 + j) = S i j) (k : wV (D + 1) m_Tree_setHope 17 [(0, vR 79), (1, vI ((b : Int) + (-1)))] [] (up h 82 b (h 82 (b + 1) + mxS N S b)) K) : ∀ (r c : Nat), c + r = N → wV (D + 1) m_Tree_setHope 25 [(0, vR 79), (1, vI b), (2, vI (mxA c (fun o => S o b) 0)), (3, vI c)] [] h K := by
  have mr : ∀ c, 0 ≤ mxA c (fun o => S o b) 0 ∧ mxA c (fun o => S o b) 0 ≤ 1000 := fun c => by
    have a := mxA_v (f := fun o => S o b) (v := 0) c
    rcases mxA_or (f := fun o => S o b) (v := 0) c with e | ⟨j, _, e⟩
    · omega
    · have e' : mxA c (fun o => S o b) 0 = S j b := e
      have := hS j b; omega
  intro r
  induction r with
  | zero =>
    intro c hc
    have ec : c = N := by omega
    subst ec
    refine s_Tree_setHope_25 _ _ _ h K ⟨⟨by omega, by omega⟩, ⟨by omega, by omega⟩, fun _ => ⟨⟨by omega, by omega⟩, ⟨by omega, by omega⟩, ?_⟩, fun y => by omega⟩
    rw [Int.toNat_natCast, show ((b : Int) + 1).toNat = b + 1 by omega]
    exact k
  | succ r ih =>
    intro c hc
    have m1 := mr c
    have s1 := hS c b
    refine s_Tree_setHope_25 _ _ _ h K ⟨⟨by omega, by omega⟩, ⟨by omega, by omega⟩, fun y => by omega, fun _ => ⟨⟨by omega, by omega⟩, ⟨by omega, by omega⟩, ?_⟩⟩
    rw [show ((c : Int) * 6 + (b : Int)).toNat = c * 6 + b by omega, e81 c b (by omega) hb]
    exact ⟨⟨by omega, by omega⟩, ih (c + 1) (by omega)⟩
theorem C_sh_17 {D : Nat} {K : St → Prop} {N : Nat} {S : Nat → Nat → Int} (hN : N ≤ 6) (hS : ∀ i j, 0 ≤ S i j ∧ S i j ≤ 1000) : ∀ (b : Nat) (x : Int) (h : St), x = (b : Int) - 1 → b ≤ N → h 79 1 = (N : Int) → (∀ i j, i < N → j < N → h 81 (i * 6 + j) = S i j) → (∀ k, b ≤ k → k ≤ N → h 82 k = sm (mxS N S) N - sm (mxS N S) k) → (∀ h2, ag (fun c _ => c ≠ 82) h h2 → (∀ k, k ≤ N → h2 82 k = sm (mxS N S) N - sm (mxS N S) k) → K h2) → wV (D + 1) m_Tree_setHope 17 [(0, vR 79), (1, vI x)] [] h K := by
  intro b
  induction b with
  | zero =>
    intro x h ex hb e1 e81 w k
    exact s_Tree_setHope_17 _ h K ⟨⟨by omega, by omega⟩, fun _ => k h ag_rfl (fun j hj => w j (by omega) hj), fun y => by omega⟩
  | succ b ih =>
    intro x h ex hb e1 e81 w k
    have e2 : x = (b : Int) := by omega
    subst e2
    refine s_Tree_setHope_17 _ h K ⟨⟨by omega, by omega⟩, fun y => by omega, fun _ => C_sh_25 (by omega) hN hS e1 e81 ?_ N 0 (Nat.zero_add _)⟩
    refine ih _ _ (by omega) (by omega) (by rw [up_ne (by omega)]; exact e1) (fun i j hi hj => by rw [up_ne (by omega)]; exact e81 i j hi hj) (fun j h1 h2 => ?_) (fun h2 g2 => k h2 (ag_trans (ag_up (by omega) ag_rfl) g2))
    by_cases q : j = b
    · subst q
      rw [up_same, w (j + 1) (Nat.le_refl _) (by omega), sm_succ]; omega
    · rw [up_ne (by omega)]; exact w j (by omega) h2
theorem C_so_18 {D : Nat} {K : St → Prop} {N i : Nat} {M : Nat → Nat} {S : Nat → Nat → Int} {x1 : Int} (hN : N ≤ 6) (hi : i < N) (hM : ∀ i, i < N → M i < 12) : ∀ (r j : Nat) (h : St), j + r = N → h 79 1 = (N : Int) → (∀ i, i < N → h 80 i = (M i : Int)) → (∀ i j, i < N → j < N → h 78 (M i * 12 + M j) = S i j) → (∀ i2 j2, i2 < i → j2 < N → h 81 (i2 * 6 + j2) = S i2 j2) → (∀ j2, j2 < j → h 81 (i * 6 + j2) = S i j2) → (∀ h2, ag (fun c _ => c ≠ 81) h h2 → (∀ i2 j2, i2 < i + 1 → j2 < N → h2 81 (i2 * 6 + j2) = S i2 j2) → wV (D + 2) m_Tree_solve 7 [(0, vR 79), (1, vI x1), (2, vR 78), (3, vI ((i : Int) + 1))] [] h2 K) → wV (D + 2) m_Tree_solve 18 [(0, vR 79), (1, vI x1), (2, vR 78), (3, vI i), (4, vI j)] [] h K := by
  intro r
  induction r with
  | zero =>
    intro j h hj e1 e80 e78 w1 w2 k
    refine s_Tree_solve_18 _ _ _ h K ⟨⟨by omega, by omega⟩, ⟨by omega, by omega⟩, fun _ => k h ag_rfl (fun i2 j2 x1 x2 => ?_), fun y => by omega⟩
    by_cases e : i2 = i
    · subst e; exact w2 j2 (by omega)
    · exact w1 i2 j2 (by omega) x2
  | succ r ih =>
    intro j h hj e1 e80 e78 w1 w2 k
    have m1 := hM i hi
    have m2 := hM j (by omega)
    refine s_Tree_solve_18 _ _ _ h K ⟨⟨by omega, by omega⟩, ⟨by omega, by omega⟩, fun y => by omega, fun _ => ⟨⟨by omega, by omega⟩, ⟨by omega, by omega⟩, ?_⟩⟩
    rw [Int.toNat_natCast, Int.toNat_natCast, e80 i hi, e80 j (by omega), show ((i : Int) * 6 + (j : Int)).toNat = i * 6 + j by omega, show (((M i : Nat) : Int) * 12 + ((M j : Nat) : Int)).toNat = M i * 12 + M j by omega, e78 i j hi (by omega)]
    refine ⟨⟨by omega, by omega⟩, ⟨by omega, by omega⟩, ih (j + 1) _ (by omega) (by rw [up_ne (by omega)]; exact e1) (fun i hi => by rw [up_ne (by omega)]; exact e80 i hi) (fun i j hi hj => by rw [up_ne (by omega)]; exact e78 i j hi hj) (fun i2 j2 x1 x2 => by rw [up_ne (by omega)]; exact w1 i2 j2 x1 x2) (fun j2 x2 => ?_) (fun h2 g2 => k h2 (ag_trans (ag_up (by omega) ag_rfl) g2))⟩
    by_cases e : j2 = j
    · subst e; rw [up_same]
    · rw [up_ne (by omega)]; exact w2 j2 (by omega)
theorem C_so_7 {D : Nat} {K : St → Prop} {N : Nat} {M : Nat → Nat} {S : Nat → Nat → Int} {x1 : Int} (hN : 2 ≤ N ∧ N ≤ 6) (hM : ∀ i, i < N → M i < 12) (hS : ∀ i j, 0 ≤ S i j ∧ S i j ≤ 1000) : ∀ (r i : Nat) (h : St), i + r = N → h 79 1 = (N : Int) → (∀ i, i < N → h 80 i = (M i : Int)) → (∀ i j, i < N → j < N → h 78 (M i * 12 + M j) = S i j) → (∀ i2 j2, i2 < i → j2 < N → h 81 (i2 * 6 + j2) = S i2 j2) → (∀ h2, ag (fun c k => (c < 81 ∨ 84 < c) ∧ ¬ (c = 79 ∧ (k = 0 ∨ k = 7))) h h2 → TR h2 N (tA N S ((N + 1) ^ N)) → K h2) → wV (D + N + 2) m_Tree_solve 7 [(0, vR 79), (1, vI x1), (2, vR 78), (3, vI i)] [] h K := by
  intro r
  induction r with
  | zero =>
    intro i h hi e1 e80 e78 w k
    refine s_Tree_solve_7 _ _ h K ⟨⟨by omega, by omega⟩, ⟨by omega, by omega⟩, fun _ => ?_, fun y => by omega⟩
    have w' : ∀ i j, i < N → j < N → h 81 (i * 6 + j) = S i j := fun i2 j2 x1 x2 => w i2 j2 (by omega) x2
    refine mV_intro b_Tree_setHope rfl (s_Tree_setHope_0 (d := D + N) h _ ⟨⟨by omega, by omega⟩, ?_⟩)
    rw [e1, Int.toNat_natCast]
    refine C_sh_17 hN.2 hS N _ _ (by omega) (Nat.le_refl _) (by rw [up_ne (by omega)]; exact e1) (fun i j hi hj => by rw [up_ne (by omega)]; exact w' i j hi hj) (fun j h1 h2 => ?_) (fun h2 g2 w2 => ?_)
    · have e : j = N := by omega
      subst e; rw [up_same]; omega
    · have g1 : ag (fun c _ => c ≠ 82) h h2 := ag_trans (ag_up (by omega) ag_rfl) g2
      refine c_JA_fill (len := 6) rfl (by decide) ?_
      have g3 : ag (fun c k => (c < 82 ∨ 83 < c) ∧ ¬ (c = 79 ∧ (k = 0 ∨ k = 7))) h (up (up (fillC h2 83 6 (-1)) 79 0 (-1)) 79 7 0) := ag_up (by omega) (ag_up (by omega) (ag_fill (by omega) (ag_sub (fun c k p => by omega) g1)))
      have tg : TG (up (up (fillC h2 83 6 (-1)) 79 0 (-1)) 79 7 0) N S := ⟨by rw [g3 79 1 (by omega)]; exact e1, hN, hS, fun i j hi hj => by rw [g3 81 _ (by omega)]; exact w' i j hi hj, fun j hj => by rw [up_ne (by omega), up_ne (by omega), fillC_out (by decide)]; exact w2 j hj⟩
      have ab : AB (up (up (fillC h2 83 6 (-1)) 79 0 (-1)) 79 7 0) N (dgT N 0 0) 0 := ⟨fun j hj => absurd hj (Nat.not_lt_zero _), fun j _ hj => by rw [up_ne (by omega), up_ne (by omega), fillC_in (by omega)]⟩
      have tr : TR (up (up (fillC h2 83 6 (-1)) 79 0 (-1)) 79 7 0) N (tA N S (0 * (N + 1) ^ N)) := by
        rw [Nat.zero_mul]
        refine ⟨by rw [up_ne (by omega), up_same]; rfl, ⟨by show (-1 : Int) ≤ -1; omega, by show (-1 : Int) ≤ 10000; omega⟩, fun q => absurd q (by show ¬ (0 : Int) ≤ -1; omega), ⟨0, by rw [up_same]; rfl, by decide, fun j => ?_⟩, fun j => Or.inl rfl, fun j => Nat.zero_le _, fun j z => absurd z (by show ¬ (0 : Int) = 1; omega)⟩
        rw [Nat.zero_testBit]
        exact ⟨fun z => Bool.noConfusion z, fun z => absurd z (by show ¬ (0 : Int) = 1; omega)⟩
      have cg := C_grow (N := N) (S := S) (D := D) N 0 0 _ (fun h6 => K h6) (Nat.zero_add _) tg ab Ac_0 (fun j hj => absurd hj (Nat.not_lt_zero _)) (fun a b ha => absurd ha (Nat.not_lt_zero _)) tr (fun h4 g4 tr4 => k h4 (ag_trans (ag_sub (fun c k p => by omega) g3) (ag_sub (fun c k p => by omega) g4)) (by rw [Nat.zero_add, Nat.one_mul] at tr4; exact tr4))
      rw [b2i_f (fun ⟨j, hj, _⟩ => absurd hj (Nat.not_lt_zero _))] at cg
      exact cg
  | succ r ih =>
    intro i h hi e1 e80 e78 w k
    refine s_Tree_solve_7 _ _ h K ⟨⟨by omega, by omega⟩, ⟨by omega, by omega⟩, fun y => by omega, fun _ => ?_⟩
    refine C_so_18 hN.2 (by omega) hM N 0 h (Nat.zero_add _) e1 e80 e78 w (fun j2 x => absurd x (Nat.not_lt_zero _)) (fun h2 g2 w2 => ?_)
    exact ih (i + 1) h2 (by omega) (by rw [g2 79 1 (by omega)]; exact e1) (fun i hi => by rw [g2 80 _ (by omega)]; exact e80 i hi) (fun i j hi hj => by rw [g2 78 _ (by omega)]; exact e78 i j hi hj) w2 (fun h3 g3 => k h3 (ag_trans (ag_sub (fun c k p => by omega) g2) g3))
theorem c_Tree_solve {D : Nat} {h : St} {K : St → Prop} {a : Nat} {S : Nat → Prop} {G : Nat → Nat → Int} (ha : a < 2 ^ 12) (hs : ∀ k, a.testBit k = true ↔ S k) (hN : 2 ≤ cS S 12 ∧ cS S 12 ≤ 6) (hG : ∀ a b : Nat, 0 ≤ G a b ∧ G a b ≤ 1000) (e78 : ∀ a b : Nat, a < 12 → b < 12 → h 78 (a * 12 + b) = G a b) (k : ∀ h2, ag (fun c k => (c < 80 ∨ 84 < c) ∧ ¬ (c = 79 ∧ (k = 0 ∨ k = 1 ∨ k = 7))) h h2 → h2 79 1 = (cS S 12 : Int) → (∀ i, i < cS S 12 → h2 80 i = (nmS S i : Int)) → TR h2 (cS S 12) (tA (cS S 12) (fun i j => G (nmS S i) (nmS S j)) ((cS S 12 + 1) ^ cS S 12)) → K h2) : mwpV 39 m_Tree_solve [vR 79, vI a, vR 78] h K := by
  have go : mwpV ((36 - cS S 12) + cS S 12 + 3) m_Tree_solve [vR 79, vI a, vR 78] h K := by
    refine mV_intro b_Tree_solve rfl (s_Tree_solve_0 (d := 36 - cS S 12 + cS S 12) _ h K ?_)
    refine mV_intro b_Tree_gather rfl (s_Tree_gather_0 (d := 36 - cS S 12 + cS S 12 + 1) _ h _ ?_)
    refine C_ga_7 ha hs hN.2 12 0 _ (by omega) (by rw [up_same]; rfl) (fun b hb => absurd hb (Nat.not_lt_zero _)) (fun h2 g2 e1 w => ?_)
    have g1 : ag (fun c k => c ≠ 80 ∧ ¬ (c = 79 ∧ k = 1)) h h2 := ag_trans (ag_up (by omega) ag_rfl) g2
    have e80 : ∀ i, i < cS S 12 → h2 80 i = (nmS S i : Int) := fun i hi => by
      obtain ⟨x1, x2, x3⟩ := nmS_c hi
      have := w _ x1 x2
      rw [← this]; exact congrArg (h2 80) x3.symm
    refine C_so_7 (M := nmS S) (S := fun i j => G (nmS S i) (nmS S j)) hN (fun i hi => (nmS_c hi).1) (fun i j => hG _ _) (cS S 12) 0 h2 (Nat.zero_add _) e1 e80 (fun i j hi hj => by rw [g1 78 _ (by omega)]; exact e78 _ _ (nmS_c hi).1 (nmS_c hj).1) (fun i2 j2 x => absurd x (Nat.not_lt_zero _)) (fun h3 g3 tr => k h3 (ag_trans (ag_sub (fun c k p => by omega) g1) (ag_sub (fun c k p => by omega) g3)) (by rw [g3 79 1 (by omega)]; exact e1) (fun i hi => by rw [g3 80 _ (by omega)]; exact e80 i hi) tr)
  rw [show (36 - cS S 12) + cS S 12 + 3 = 39 by omega] at go
  exact go
theorem C_mo_2 {D : Nat} {h : St} {K : Int → St → Prop} {N : Nat} {M : Nat → Nat} {b : Int} (e1 : h 79 1 = (N : Int)) (hN : N ≤ 6) (e80 : ∀ i, i < N → h 80 i = (M i : Int)) (hM : ∀ i, i < N → M i < 12) (rb : inR b) (k0 : (∀ i, i < N → (M i : Int) ≠ b) → K (-4) h) (k1 : ∀ i, i < N → (M i : Int) = b → K i h) : ∀ (r c : Nat), c + r = N → (∀ i, i < c → (M i : Int) ≠ b) → wI D m_Tree_memberOf 2 [(0, vR 79), (1, vI b), (2, vI c)] [] h K := by
  intro r
  induction r with
  | zero =>
    intro c hc w
    exact s_Tree_memberOf_2 _ _ h K ⟨⟨by omega, by omega⟩, ⟨by omega, by omega⟩, fun _ => k0 (fun i hi => w i (by omega)), fun y => by omega⟩
  | succ r ih =>
    intro c hc w
    have m := hM c (by omega)
    refine s_Tree_memberOf_2 _ _ h K ⟨⟨by omega, by omega⟩, ⟨by omega, by omega⟩, fun y => by omega, fun _ => ⟨⟨by omega, by omega⟩, ?_⟩⟩
    rw [Int.toNat_natCast, e80 c (by omega)]
    refine ⟨⟨by omega, by omega⟩, rb, fun y => ih (c + 1) (by omega) (fun i hi => ?_), fun y => k1 c (by omega) (by omega)⟩
    by_cases q : i = c
    · subst q; exact y
    · exact w i (by omega)
theorem c_Tree_memberOf {D : Nat} {h : St} {K : Int → St → Prop} {N : Nat} {M : Nat → Nat} {b : Int} (e1 : h 79 1 = (N : Int)) (hN : N ≤ 6) (e80 : ∀ i, i < N → h 80 i = (M i : Int)) (hM : ∀ i, i < N → M i < 12) (rb : inR b) (k0 : (∀ i, i < N → (M i : Int) ≠ b) → K (-4) h) (k1 : ∀ i, i < N → (M i : Int) = b → K i h) : mwpI (D + 1) m_Tree_memberOf [vR 79, vI b] h K :=
  mI_intro b_Tree_memberOf rfl (s_Tree_memberOf_0 (d := D) _ h K (C_mo_2 e1 hN e80 hM rb k0 k1 N 0 (Nat.zero_add _) (fun i hi => absurd hi (Nat.not_lt_zero _))))
theorem c_Tree_nameAbove {D : Nat} {h : St} {K : Int → St → Prop} {N : Nat} {M : Nat → Nat} {b : Int} {st : Stt} (e1 : h 79 1 = (N : Int)) (hN : N ≤ 6) (e80 : ∀ i, i < N → h 80 i = (M i : Int)) (hM : ∀ i, i < N → M i < 12) (rb : inR b) (tr : TR h N st) (ps : 0 ≤ st.1) (k0 : (∀ i, i < N → (M i : Int) ≠ b) → K (-4) h) (k1 : ∀ i, i < N → (M i : Int) = b → K (cif (st.2.1 i < N) (M (st.2.1 i)) (-4)) h) : mwpI (D + 2) m_Tree_nameAbove [vR 79, vI b] h K := by
  refine mI_intro b_Tree_nameAbove rfl (s_Tree_nameAbove_0 (d := D) _ h K (c_Tree_memberOf e1 hN e80 hM rb (fun no => ⟨⟨by decide, fun y => absurd rfl y⟩, by rw [cif_t rfl]; exact k0 no⟩) (fun i hi ei => ?_)))
  have kk := k1 i hi ei
  have ez := enc_R (N := N) (v := st.2.1 i)
  rw [Int.toNat_natCast, tr.2.2.1 ps i hi]
  refine ⟨⟨⟨by omega, by omega⟩, fun _ => ⟨⟨by omega, by omega⟩, ⟨by omega, by omega⟩, fun y => ?_⟩⟩, ?_⟩
  · unfold encT at *
    by_cases z : st.2.1 i < N
    · rw [cif_t z] at *; omega
    · rw [cif_f z] at y; omega
  · rw [cif_f (by omega)]
    unfold encT
    by_cases z : st.2.1 i < N
    · rw [cif_t z] at kk
      rw [cif_t z, cif_t (by omega), Int.toNat_natCast, e80 _ z]; exact kk
    · rw [cif_f z] at kk
      rw [cif_f z, cif_f (by decide)]; exact kk
theorem c_Tree_sureness {D : Nat} {h : St} {K : Int → St → Prop} {N : Nat} {M : Nat → Nat} {b : Int} {st : Stt} (e1 : h 79 1 = (N : Int)) (hN : N ≤ 6) (e80 : ∀ i, i < N → h 80 i = (M i : Int)) (hM : ∀ i, i < N → M i < 12) (rb : inR b) (tr : TR h N st) (ps : 0 ≤ st.1) (k0 : (∀ i, i < N → (M i : Int) ≠ b) → K (-4) h) (k1 : ∀ i, i < N → (M i : Int) = b → K (cif (st.2.1 i < N) (st.2.2 i) (-4)) h) : mwpI (D + 2) m_Tree_sureness [vR 79, vI b] h K := by
  refine mI_intro b_Tree_sureness rfl (s_Tree_sureness_0 (d := D) _ h K (c_Tree_memberOf e1 hN e80 hM rb (fun no => ⟨⟨by decide, fun y => absurd rfl y⟩, by rw [cif_t rfl]; exact k0 no⟩) (fun i hi ei => ?_)))
  have kk := k1 i hi ei
  have ez := enc_R (N := N) (v := st.2.1 i)
  obtain ⟨_, _, _, ⟨sr, b1, b2, b3⟩, a5, _⟩ := id tr
  rw [Int.toNat_natCast, tr.2.2.1 ps i hi, b1, has_nat (by omega) (by omega)]
  refine ⟨⟨⟨by omega, by omega⟩, fun _ => ⟨⟨by omega, by omega⟩, ⟨by omega, by omega⟩⟩⟩, ?_⟩
  rw [cif_f (by omega)]
  unfold encT
  by_cases z : st.2.1 i < N
  · rw [cif_t z] at kk
    rw [cif_t z, cif_t (by omega)]
    have e : b2i (sr.testBit i = true) = st.2.2 i := by
      rcases a5 i with q | q
      · rw [q]; exact b2i_f (fun y => by have := (b3 i).mp y; omega)
      · rw [q]; exact b2i_t ((b3 i).mpr q)
    rw [e]; exact kk
  · rw [cif_f z] at kk
    rw [cif_f z, cif_f (by decide)]; exact kk
