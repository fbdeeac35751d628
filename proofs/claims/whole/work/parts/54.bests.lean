theorem s_Pairing_sumWith_0 {d : Nat}  (x1 x2 x3 : Int) (h : St) (K : Int → St → Prop) (F : (inR x3) ∧ (inR (h 65 1)) ∧ ((x3 < (h 65 1) → (0 ≤ (x1 * 8) + x3 ∧ (x1 * 8) + x3 < 64) ∧ (inR (h 72 (((x1 * 8) + x3).toNat))) ∧ (((h 72 (((x1 * 8) + x3).toNat)) = 0 → (K ((-2)) h)) ∧ (¬ ((h 72 (((x1 * 8) + x3).toNat)) = 0) → (inR (and3 (shr3 x2 x3) 1)) ∧ (((and3 (shr3 x2 x3) 1) = 0 → (0 ≤ ((x1 + 1) * 256) + (or3 x2 (shl3 1 x3)) ∧ ((x1 + 1) * 256) + (or3 x2 (shl3 1 x3)) < 2304) ∧ (K ((h 72 (((x1 * 8) + x3).toNat)) + (h 73 ((((x1 + 1) * 256) + (or3 x2 (shl3 1 x3))).toNat))) h)) ∧ (¬ ((and3 (shr3 x2 x3) 1) = 0) → (K ((-2)) h)))))) ∧ (¬ (x3 < (h 65 1)) → (0 ≤ ((x1 + 1) * 256) + x2 ∧ ((x1 + 1) * 256) + x2 < 2304) ∧ (K (h 73 ((((x1 + 1) * 256) + x2).toNat)) h)))) : wI d m_Pairing_sumWith 0 [(0, vR 59), (1, vI x1), (2, vI x2), (3, vI x3)] [] h K := by
  refine w_iload_n rfl rfl ?_
  refine w_aload_n rfl rfl ?_
  refine w_getR rfl f_Pairing_18 rfl rfl rfl rfl rfl ?_
  refine w_getI rfl f_Pairing_47 rfl rfl rfl ?_
  obtain ⟨b1, F⟩ := F
  obtain ⟨b2, F⟩ := F
  refine w_icmp_lt (tgt := 26) rfl (by decide) ⟨b1, b2⟩ (fun q3 => ?_) (fun q3 => ?_)
  · replace F := F.1 q3
    refine w_aload_n rfl rfl ?_
    refine w_getR rfl f_Pairing_28 rfl rfl rfl rfl rfl ?_
    refine w_iload_n rfl rfl ?_
    refine w_bipush (by decide) (by decide) rfl ?_
    refine w_imul rfl ?_
    refine w_iload_n rfl rfl ?_
    refine w_iadd rfl ?_
    obtain ⟨b4, F⟩ := F
    refine w_iaload rfl rfl rfl b4 ?_
    refine w_istore rfl rfl rfl rfl (w_ls (ls2 := [(0, vR 59), (1, vI x1), (2, vI x2), (3, vI x3), (4, vI (h 72 (((x1 * 8) + x3).toNat)))]) rfl ?_)
    refine w_iload rfl rfl ?_
    obtain ⟨b5, F⟩ := F
    refine w_if_eq (tgt := 52) rfl (by decide) b5 (fun q6 => ?_) (fun q6 => ?_)
    · replace F := F.1 q6
      refine w_bipush (by decide) (by decide) rfl ?_
      exact w_iret rfl rfl ⟨rfl, rfl, _, rfl, F⟩
    · replace F := F.2 q6
      refine w_iload_n rfl rfl ?_
      refine w_iload_n rfl rfl ?_
      refine w_ishr rfl ?_
      refine w_iconst rfl ?_
      refine w_iand rfl ?_
      obtain ⟨b7, F⟩ := F
      refine w_if_eq (tgt := 55) rfl (by decide) b7 (fun q8 => ?_) (fun q8 => ?_)
      · replace F := F.1 q8
        refine w_iload rfl rfl ?_
        refine w_aload_n rfl rfl ?_
        refine w_getR rfl f_Pairing_31 rfl rfl rfl rfl rfl ?_
        refine w_iload_n rfl rfl ?_
        refine w_iconst rfl ?_
        refine w_iadd rfl ?_
        refine w_sipush (by decide) (by decide) rfl ?_
        refine w_imul rfl ?_
        refine w_iload_n rfl rfl ?_
        refine w_iconst rfl ?_
        refine w_iload_n rfl rfl ?_
        refine w_ishl rfl ?_
        refine w_ior rfl ?_
        refine w_iadd rfl ?_
        obtain ⟨b9, F⟩ := F
        refine w_iaload rfl rfl rfl b9 ?_
        refine w_iadd rfl ?_
        exact w_iret rfl rfl ⟨rfl, rfl, _, rfl, F⟩
      · replace F := F.2 q8
        refine w_bipush (by decide) (by decide) rfl ?_
        exact w_iret rfl rfl ⟨rfl, rfl, _, rfl, F⟩
  · replace F := F.2 q3
    refine w_aload_n rfl rfl ?_
    refine w_getR rfl f_Pairing_31 rfl rfl rfl rfl rfl ?_
    refine w_iload_n rfl rfl ?_
    refine w_iconst rfl ?_
    refine w_iadd rfl ?_
    refine w_sipush (by decide) (by decide) rfl ?_
    refine w_imul rfl ?_
    refine w_iload_n rfl rfl ?_
    refine w_iadd rfl ?_
    obtain ⟨b10, F⟩ := F
    refine w_iaload rfl rfl rfl b10 ?_
    exact w_iret rfl rfl ⟨rfl, rfl, _, rfl, F⟩
theorem s_Pairing_bestFrom_0 {d : Nat}  (x1 x2 : Int) (h : St) (K : Int → St → Prop) (F : (wI (d + 1) m_Pairing_bestFrom 5 [(0, vR 59), (1, vI x1), (2, vI x2), (3, vI 0), (4, vI 0)] [] h K)) : wI (d + 1) m_Pairing_bestFrom 0 [(0, vR 59), (1, vI x1), (2, vI x2)] [] h K := by
  refine w_iconst rfl ?_
  refine w_istore_n rfl rfl rfl rfl (w_ls (ls2 := [(0, vR 59), (1, vI x1), (2, vI x2), (3, vI 0)]) rfl ?_)
  refine w_iconst rfl ?_
  refine w_istore rfl rfl rfl rfl (w_ls (ls2 := [(0, vR 59), (1, vI x1), (2, vI x2), (3, vI 0), (4, vI 0)]) rfl ?_)
  exact F
theorem s_Pairing_bestFrom_5 {d : Nat}  (x1 x2 x3 x4 : Int) (h : St) (K : Int → St → Prop) (F : (inR x4) ∧ (inR (h 65 1)) ∧ (((h 65 1) < x4 → (K x3 h)) ∧ (¬ ((h 65 1) < x4) → (mwpI (d + 1) m_Pairing_sumWith [vR 59, vI x1, vI x2, vI x4] h (fun z4 h4 => (inR x3) ∧ (inR z4) ∧ (wI (d + 1) m_Pairing_bestFrom 5 [(0, vR 59), (1, vI x1), (2, vI x2), (3, vI (max x3 z4)), (4, vI (x4 + 1))] [] h4 K)))))) : wI (d + 1) m_Pairing_bestFrom 5 [(0, vR 59), (1, vI x1), (2, vI x2), (3, vI x3), (4, vI x4)] [] h K := by
  refine w_iload rfl rfl ?_
  refine w_aload_n rfl rfl ?_
  refine w_getR rfl f_Pairing_18 rfl rfl rfl rfl rfl ?_
  refine w_getI rfl f_Pairing_47 rfl rfl rfl ?_
  obtain ⟨b1, F⟩ := F
  obtain ⟨b2, F⟩ := F
  refine w_icmp_gt (tgt := 36) rfl (by decide) ⟨b1, b2⟩ (fun q3 => ?_) (fun q3 => ?_)
  · replace F := F.1 q3
    refine w_iload_n rfl rfl ?_
    exact w_iret rfl rfl ⟨rfl, rfl, _, rfl, F⟩
  · replace F := F.2 q3
    refine w_iload_n rfl rfl ?_
    refine w_aload_n rfl rfl ?_
    refine w_iload_n rfl rfl ?_
    refine w_iload_n rfl rfl ?_
    refine w_iload rfl rfl ?_
    refine c_VI [vI x1, vI x2, vI x4] [vI x3] rfl b_Pairing_sumWith k_Pairing_80 rfl rfl rfl rfl rfl rfl (mwpI_mono (fun z4 h4 F => ?_) F)
    obtain ⟨b5, F⟩ := F
    obtain ⟨b6, F⟩ := F
    refine c_SI [vI x3, vI z4] [] rfl b_JM_max k_Pairing_84 rfl rfl rfl (c_JM_max b5 b6 ?_)
    refine w_istore_n rfl rfl rfl rfl (w_ls (ls2 := [(0, vR 59), (1, vI x1), (2, vI x2), (3, vI (max x3 z4)), (4, vI x4)]) rfl ?_)
    refine w_iinc rfl rfl rfl rfl rfl (w_ls (ls2 := [(0, vR 59), (1, vI x1), (2, vI x2), (3, vI (max x3 z4)), (4, vI (x4 + 1))]) rfl ?_)
    refine w_goto (tgt := 5) rfl (by decide) ?_
    exact F
theorem s_Pairing_findBests_0 {d : Nat}  (h : St) (K : St → Prop) (F : (wV (d + 2) m_Pairing_findBests 12 [(0, vR 59), (1, vI (shl3 1 (h 65 1))), (2, vI 0)] [] h K)) : wV (d + 2) m_Pairing_findBests 0 [(0, vR 59)] [] h K := by
  refine w_iconst rfl ?_
  refine w_aload_n rfl rfl ?_
  refine w_getR rfl f_Pairing_18 rfl rfl rfl rfl rfl ?_
  refine w_getI rfl f_Pairing_47 rfl rfl rfl ?_
  refine w_ishl rfl ?_
  refine w_istore_n rfl rfl rfl rfl (w_ls (ls2 := [(0, vR 59), (1, vI (shl3 1 (h 65 1)))]) rfl ?_)
  refine w_iconst rfl ?_
  refine w_istore_n rfl rfl rfl rfl (w_ls (ls2 := [(0, vR 59), (1, vI (shl3 1 (h 65 1))), (2, vI 0)]) rfl ?_)
  exact F
theorem s_Pairing_findBests_12 {d : Nat}  (x1 x2 : Int) (h : St) (K : St → Prop) (F : (inR x2) ∧ (inR x1) ∧ ((x1 ≤ x2 → (wV (d + 2) m_Pairing_findBests 52 [(0, vR 59), (1, vI x1), (2, vI ((h 60 1) - 1))] [] h K)) ∧ (¬ (x1 ≤ x2) → (0 ≤ ((h 60 1) * 256) + x2 ∧ ((h 60 1) * 256) + x2 < 2304) ∧ (wV (d + 2) m_Pairing_findBests 12 [(0, vR 59), (1, vI x1), (2, vI (x2 + 1))] [] (up h 73 ((((h 60 1) * 256) + x2).toNat) 0) K)))) : wV (d + 2) m_Pairing_findBests 12 [(0, vR 59), (1, vI x1), (2, vI x2)] [] h K := by
  refine w_iload_n rfl rfl ?_
  refine w_iload_n rfl rfl ?_
  obtain ⟨b1, F⟩ := F
  obtain ⟨b2, F⟩ := F
  refine w_icmp_ge (tgt := 42) rfl (by decide) ⟨b1, b2⟩ (fun q3 => ?_) (fun q3 => ?_)
  · replace F := F.1 q3
    refine w_aload_n rfl rfl ?_
    refine w_getR rfl f_Pairing_14 rfl rfl rfl rfl rfl ?_
    refine w_getI rfl f_Pairing_47 rfl rfl rfl ?_
    refine w_iconst rfl ?_
    refine w_isub rfl ?_
    refine w_istore_n rfl rfl rfl rfl (w_ls (ls2 := [(0, vR 59), (1, vI x1), (2, vI ((h 60 1) - 1))]) rfl ?_)
    exact F
  · replace F := F.2 q3
    refine w_aload_n rfl rfl ?_
    refine w_getR rfl f_Pairing_31 rfl rfl rfl rfl rfl ?_
    refine w_aload_n rfl rfl ?_
    refine w_getR rfl f_Pairing_14 rfl rfl rfl rfl rfl ?_
    refine w_getI rfl f_Pairing_47 rfl rfl rfl ?_
    refine w_sipush (by decide) (by decide) rfl ?_
    refine w_imul rfl ?_
    refine w_iload_n rfl rfl ?_
    refine w_iadd rfl ?_
    refine w_iconst rfl ?_
    obtain ⟨b4, F⟩ := F
    refine w_iastore rfl rfl rfl b4 ?_
    refine w_iinc rfl rfl rfl rfl rfl (w_ls (ls2 := [(0, vR 59), (1, vI x1), (2, vI (x2 + 1))]) rfl ?_)
    refine w_goto (tgt := 12) rfl (by decide) ?_
    exact F
theorem s_Pairing_findBests_52 {d : Nat}  (x1 x2 : Int) (h : St) (K : St → Prop) (F : (inR x2) ∧ ((x2 < 0 → (K h)) ∧ (¬ (x2 < 0) → (wV (d + 2) m_Pairing_findBests 58 [(0, vR 59), (1, vI x1), (2, vI x2), (3, vI 0)] [] h K)))) : wV (d + 2) m_Pairing_findBests 52 [(0, vR 59), (1, vI x1), (2, vI x2)] [] h K := by
  refine w_iload_n rfl rfl ?_
  obtain ⟨b1, F⟩ := F
  refine w_if_lt (tgt := 101) rfl (by decide) b1 (fun q2 => ?_) (fun q2 => ?_)
  · replace F := F.1 q2
    exact w_vret rfl rfl ⟨rfl, rfl, rfl, F⟩
  · replace F := F.2 q2
    refine w_iconst rfl ?_
    refine w_istore_n rfl rfl rfl rfl (w_ls (ls2 := [(0, vR 59), (1, vI x1), (2, vI x2), (3, vI 0)]) rfl ?_)
    exact F
theorem s_Pairing_findBests_58 {d : Nat}  (x1 x2 x3 : Int) (h : St) (K : St → Prop) (F : (inR x3) ∧ (inR x1) ∧ ((x1 ≤ x3 → (wV (d + 2) m_Pairing_findBests 52 [(0, vR 59), (1, vI x1), (2, vI (x2 + (-1)))] [] h K)) ∧ (¬ (x1 ≤ x3) → (mwpI (d + 2) m_JI_bitCount [vI x3] h (fun z4 h4 => (inR z4) ∧ (inR x2) ∧ ((x2 < z4 → (wV (d + 2) m_Pairing_findBests 58 [(0, vR 59), (1, vI x1), (2, vI x2), (3, vI (x3 + 1))] [] h4 K)) ∧ (¬ (x2 < z4) → (mwpI (d + 2) m_Pairing_bestFrom [vR 59, vI x2, vI x3] h4 (fun z8 h8 => (0 ≤ (x2 * 256) + x3 ∧ (x2 * 256) + x3 < 2304) ∧ (wV (d + 2) m_Pairing_findBests 58 [(0, vR 59), (1, vI x1), (2, vI x2), (3, vI (x3 + 1))] [] (up h8 73 (((x2 * 256) + x3).toNat) z8) K)))))))))) : wV (d + 2) m_Pairing_findBests 58 [(0, vR 59), (1, vI x1), (2, vI x2), (3, vI x3)] [] h K := by
  refine w_iload_n rfl rfl ?_
  refine w_iload_n rfl rfl ?_
  obtain ⟨b1, F⟩ := F
  obtain ⟨b2, F⟩ := F
  refine w_icmp_ge (tgt := 95) rfl (by decide) ⟨b1, b2⟩ (fun q3 => ?_) (fun q3 => ?_)
  · replace F := F.1 q3
    refine w_iinc rfl rfl rfl rfl rfl (w_ls (ls2 := [(0, vR 59), (1, vI x1), (2, vI (x2 + (-1))), (3, vI x3)]) rfl ?_)
    refine w_goto (tgt := 52) rfl (by decide) ?_
    exact w_kp [0, 1, 2] F
  · replace F := F.2 q3
    refine w_iload_n rfl rfl ?_
    refine c_SI [vI x3] [] rfl b_JI_bitCount k_Pairing_70 rfl rfl rfl (mwpI_mono (fun z4 h4 F => ?_) F)
    refine w_iload_n rfl rfl ?_
    obtain ⟨b5, F⟩ := F
    obtain ⟨b6, F⟩ := F
    refine w_icmp_gt (tgt := 89) rfl (by decide) ⟨b5, b6⟩ (fun q7 => ?_) (fun q7 => ?_)
    · replace F := F.1 q7
      refine w_iinc rfl rfl rfl rfl rfl (w_ls (ls2 := [(0, vR 59), (1, vI x1), (2, vI x2), (3, vI (x3 + 1))]) rfl ?_)
      refine w_goto (tgt := 58) rfl (by decide) ?_
      exact F
    · replace F := F.2 q7
      refine w_aload_n rfl rfl ?_
      refine w_getR rfl f_Pairing_31 rfl rfl rfl rfl rfl ?_
      refine w_iload_n rfl rfl ?_
      refine w_sipush (by decide) (by decide) rfl ?_
      refine w_imul rfl ?_
      refine w_iload_n rfl rfl ?_
      refine w_iadd rfl ?_
      refine w_aload_n rfl rfl ?_
      refine w_iload_n rfl rfl ?_
      refine w_iload_n rfl rfl ?_
      refine c_VI [vI x2, vI x3] [vI ((x2 * 256) + x3), vR 73] rfl b_Pairing_bestFrom k_Pairing_76 rfl rfl rfl rfl rfl rfl (mwpI_mono (fun z8 h8 F => ?_) F)
      obtain ⟨b9, F⟩ := F
      refine w_iastore rfl rfl rfl b9 ?_
      refine w_iinc rfl rfl rfl rfl rfl (w_ls (ls2 := [(0, vR 59), (1, vI x1), (2, vI x2), (3, vI (x3 + 1))]) rfl ?_)
      refine w_goto (tgt := 58) rfl (by decide) ?_
      exact F
theorem s_Pairing_usedWith_0 {d : Nat}  (x1 x2 : Int) (h : St) (K : Int → St → Prop) (F : (((inR x2) ∧ (inR (h 65 1)))) ∧ (K (cif (x2 < (h 65 1)) (or3 x1 (shl3 1 x2)) x1) h)) : wI d m_Pairing_usedWith 0 [(0, vR 59), (1, vI x1), (2, vI x2)] [] h K := by
  refine w_iload_n rfl rfl ?_
  refine w_aload_n rfl rfl ?_
  refine w_getR rfl f_Pairing_18 rfl rfl rfl rfl rfl ?_
  refine w_getI rfl f_Pairing_47 rfl rfl rfl ?_
  obtain ⟨G, F⟩ := F
  have J : ∀ (t4 : Int), t4 = cif (x2 < (h 65 1)) (or3 x1 (shl3 1 x2)) x1 → wI d m_Pairing_usedWith 20 [(0, vR 59), (1, vI x1), (2, vI x2)] [vI t4] h K := by
    intro t4 et4
    subst et4
    exact w_iret rfl rfl ⟨rfl, rfl, _, rfl, F⟩
  obtain ⟨b1, b2⟩ := G
  refine w_icmp_lt (tgt := 15) rfl (by decide) ⟨b1, b2⟩ (fun q3 => ?_) (fun q3 => ?_)
  · refine w_iload_n rfl rfl ?_
    refine w_iconst rfl ?_
    refine w_iload_n rfl rfl ?_
    refine w_ishl rfl ?_
    refine w_ior rfl ?_
    exact J _ (cif_t q3).symm
  · refine w_iload_n rfl rfl ?_
    refine w_goto (tgt := 20) rfl (by decide) ?_
    exact J _ (cif_f q3).symm
theorem s_Pairing_keepsBest_0 {d : Nat}  (x1 x2 x3 : Int) (h : St) (K : Int → St → Prop) (F : (mwpI (d + 1) m_Pairing_sumWith [vR 59, vI x1, vI x2, vI x3] h (fun z1 h1 => (0 ≤ (x1 * 256) + x2 ∧ (x1 * 256) + x2 < 2304) ∧ (((inR z1) ∧ (inR (h1 73 (((x1 * 256) + x2).toNat))))) ∧ (K (b2i (¬ (z1 ≠ (h1 73 (((x1 * 256) + x2).toNat))))) h1)))) : wI (d + 1) m_Pairing_keepsBest 0 [(0, vR 59), (1, vI x1), (2, vI x2), (3, vI x3)] [] h K := by
  refine w_aload_n rfl rfl ?_
  refine w_iload_n rfl rfl ?_
  refine w_iload_n rfl rfl ?_
  refine w_iload_n rfl rfl ?_
  refine c_VI [vI x1, vI x2, vI x3] [] rfl b_Pairing_sumWith k_Pairing_80 rfl rfl rfl rfl rfl rfl (mwpI_mono (fun z1 h1 F => ?_) F)
  refine w_aload_n rfl rfl ?_
  refine w_getR rfl f_Pairing_31 rfl rfl rfl rfl rfl ?_
  refine w_iload_n rfl rfl ?_
  refine w_sipush (by decide) (by decide) rfl ?_
  refine w_imul rfl ?_
  refine w_iload_n rfl rfl ?_
  refine w_iadd rfl ?_
  obtain ⟨b2, F⟩ := F
  refine w_iaload rfl rfl rfl b2 ?_
  obtain ⟨G, F⟩ := F
  have J : ∀ (t6 : Int), t6 = b2i (¬ (z1 ≠ (h1 73 (((x1 * 256) + x2).toNat)))) → wI (d + 1) m_Pairing_keepsBest 27 [(0, vR 59), (1, vI x1), (2, vI x2), (3, vI x3)] [vI t6] h1 K := by
    intro t6 et6
    subst et6
    exact w_zret rfl rfl b2i_01 ⟨rfl, rfl, _, rfl, F⟩
  obtain ⟨b3, b4⟩ := G
  refine w_icmp_ne (tgt := 26) rfl (by decide) ⟨b3, b4⟩ (fun q5 => ?_) (fun q5 => ?_)
  · refine w_iconst rfl ?_
    exact J _ (b2i_f (fun z => z q5)).symm
  · refine w_iconst rfl ?_
    refine w_goto (tgt := 27) rfl (by decide) ?_
    exact J _ (b2i_t q5).symm
theorem s_Pairing_firstChoice_0 {d : Nat}  (x1 x2 : Int) (h : St) (K : Int → St → Prop) (F : (wI (d + 2) m_Pairing_firstChoice 2 [(0, vR 59), (1, vI x1), (2, vI x2), (3, vI 0)] [] h K)) : wI (d + 2) m_Pairing_firstChoice 0 [(0, vR 59), (1, vI x1), (2, vI x2)] [] h K := by
  refine w_iconst rfl ?_
  refine w_istore_n rfl rfl rfl rfl (w_ls (ls2 := [(0, vR 59), (1, vI x1), (2, vI x2), (3, vI 0)]) rfl ?_)
  exact F
theorem s_Pairing_firstChoice_2 {d : Nat}  (x1 x2 x3 : Int) (h : St) (K : Int → St → Prop) (F : (inR x3) ∧ (inR (h 65 1)) ∧ (((h 65 1) ≤ x3 → (K (h 65 1) h)) ∧ (¬ ((h 65 1) ≤ x3) → (mwpI (d + 2) m_Pairing_keepsBest [vR 59, vI x1, vI x2, vI x3] h (fun z4 h4 => (inR z4) ∧ ((z4 = 0 → (wI (d + 2) m_Pairing_firstChoice 2 [(0, vR 59), (1, vI x1), (2, vI x2), (3, vI (x3 + 1))] [] h4 K)) ∧ (¬ (z4 = 0) → (K x3 h4)))))))) : wI (d + 2) m_Pairing_firstChoice 2 [(0, vR 59), (1, vI x1), (2, vI x2), (3, vI x3)] [] h K := by
  refine w_iload_n rfl rfl ?_
  refine w_aload_n rfl rfl ?_
  refine w_getR rfl f_Pairing_18 rfl rfl rfl rfl rfl ?_
  refine w_getI rfl f_Pairing_47 rfl rfl rfl ?_
  obtain ⟨b1, F⟩ := F
  obtain ⟨b2, F⟩ := F
  refine w_icmp_ge (tgt := 31) rfl (by decide) ⟨b1, b2⟩ (fun q3 => ?_) (fun q3 => ?_)
  · replace F := F.1 q3
    refine w_aload_n rfl rfl ?_
    refine w_getR rfl f_Pairing_18 rfl rfl rfl rfl rfl ?_
    refine w_getI rfl f_Pairing_47 rfl rfl rfl ?_
    exact w_iret rfl rfl ⟨rfl, rfl, _, rfl, F⟩
  · replace F := F.2 q3
    refine w_aload_n rfl rfl ?_
    refine w_iload_n rfl rfl ?_
    refine w_iload_n rfl rfl ?_
    refine w_iload_n rfl rfl ?_
    refine c_VI [vI x1, vI x2, vI x3] [] rfl b_Pairing_keepsBest k_Pairing_101 rfl rfl rfl rfl rfl rfl (mwpI_mono (fun z4 h4 F => ?_) F)
    obtain ⟨b5, F⟩ := F
    refine w_if_eq (tgt := 25) rfl (by decide) b5 (fun q6 => ?_) (fun q6 => ?_)
    · replace F := F.1 q6
      refine w_iinc rfl rfl rfl rfl rfl (w_ls (ls2 := [(0, vR 59), (1, vI x1), (2, vI x2), (3, vI (x3 + 1))]) rfl ?_)
      refine w_goto (tgt := 2) rfl (by decide) ?_
      exact F
    · replace F := F.2 q6
      refine w_iload_n rfl rfl ?_
      exact w_iret rfl rfl ⟨rfl, rfl, _, rfl, F⟩
theorem pb_or {s j : Nat} (hj : j < 32) : pb 32 (s ||| 2 ^ j) ≤ pb 32 s + 1 := by
  have e : sm (fun k => b2i ((s ||| 2 ^ j).testBit k = true)) 32 = sm (fun k => b2i (s.testBit k = true)) 32 + (b2i ((s ||| 2 ^ j).testBit j = true) - b2i (s.testBit j = true)) := sm_set 32 hj (fun k _ ne => b2i_congr (by rw [tb_or]; exact ⟨fun z => z.elim id (fun z => absurd z.symm ne), Or.inl⟩))
  have e1 := pb_sm 32 s
  have e2 := pb_sm 32 (s ||| 2 ^ j)
  have g1 := b2i_B (p := (s ||| 2 ^ j).testBit j = true)
  have g2 := b2i_B (p := s.testBit j = true)
  omega
theorem p2le {q : Nat} (h : q ≤ 8) : 2 ^ q ≤ 256 := Nat.le_trans (Nat.pow_le_pow_right (by decide) h) (by decide)
def Pq (h : St) (p q : Nat) (L : Nat → Nat → Int) : Prop := h 60 1 = (p : Int) ∧ h 65 1 = (q : Int) ∧ p ≤ 8 ∧ q ≤ 8 ∧ LR L ∧ ∀ i j, i < p → j < q → h 72 (i * 8 + j) = L i j
def Bs (h : St) (p q : Nat) (L : Nat → Nat → Int) (i0 : Nat) : Prop := ∀ i s, i0 ≤ i → i ≤ p → s < 2 ^ q → pb 32 s ≤ i → h 73 (i * 256 + s) = W0 p q L i s
theorem Pq_c {h h2 : St} {p q : Nat} {L : Nat → Nat → Int} (g : ag (fun c k => (c = 60 ∧ k = 1) ∨ (c = 65 ∧ k = 1) ∨ c = 72) h h2) (a : Pq h p q L) : Pq h2 p q L := by
  obtain ⟨a1, a2, a3, a4, a5, a6⟩ := a
  refine ⟨by rw [g 60 1 (by omega)]; exact a1, by rw [g 65 1 (by omega)]; exact a2, a3, a4, a5, fun i j hi hj => by rw [g 72 _ (by omega)]; exact a6 i j hi hj⟩
theorem Bs_c {h h2 : St} {p q i0 : Nat} {L : Nat → Nat → Int} (g : ag (fun c _ => c = 73) h h2) (a : Bs h p q L i0) : Bs h2 p q L i0 := fun i s x1 x2 x3 x4 => by rw [g 73 _ rfl]; exact a i s x1 x2 x3 x4
noncomputable def sW (p q : Nat) (L : Nat → Nat → Int) (i s j : Nat) : Int := cif (j < q) (cif (L i j ≠ 0 ∧ s.testBit j = false) (L i j + W0 p q L (i + 1) (s ||| 2 ^ j)) (-2)) (W0 p q L (i + 1) s)
theorem W0_R {p q : Nat} {L : Nat → Nat → Int} (hL : LR L) (hp : p ≤ 8) {i s : Nat} : 0 ≤ W0 p q L i s ∧ W0 p q L i s ≤ 8000 := vB_R hL hp
theorem sW_le {p q : Nat} {L : Nat → Nat → Int} {i s j : Nat} (hi : i < p) : sW p q L i s j ≤ W0 p q L i s := by
  unfold sW
  by_cases z : j < q
  · rw [cif_t z]
    by_cases y : L i j ≠ 0 ∧ s.testBit j = false
    · rw [cif_t y]; exact vB_with hi z (aX_n.mpr y.1) y.2
    · rw [cif_f y]; have : 0 ≤ W0 p q L i s := vB_0; omega
  · rw [cif_f z]; exact vB_none hi
theorem sW_R {p q : Nat} {L : Nat → Nat → Int} {i s j : Nat} (hL : LR L) (hp : p ≤ 8) (hi : i < p) : -2 ≤ sW p q L i s j ∧ sW p q L i s j ≤ 8000 := by
  have a := sW_le (q := q) (L := L) (s := s) (j := j) hi
  have b := W0_R (q := q) hL hp (i := i) (s := s)
  refine ⟨?_, by omega⟩
  unfold sW
  by_cases z : j < q
  · rw [cif_t z]
    by_cases y : L i j ≠ 0 ∧ s.testBit j = false
    · rw [cif_t y]; have := hL i j; have := W0_R (q := q) hL hp (i := i + 1) (s := s ||| 2 ^ j); omega
    · rw [cif_f y]; omega
  · rw [cif_f z]; have := W0_R (q := q) hL hp (i := i + 1) (s := s); omega
theorem sW_k {p q : Nat} {L : Nat → Nat → Int} {i s j : Nat} (hj : j ≤ q) : sW p q L i s j = W0 p q L i s ↔ kB p q L i s j := by
  have w : 0 ≤ W0 p q L i s := vB_0
  unfold sW kB
  by_cases z : j < q
  · rw [cif_t z]
    by_cases y : L i j ≠ 0 ∧ s.testBit j = false
    · rw [cif_t y]
      exact ⟨fun e => Or.inr ⟨z, y.1, y.2, e.symm⟩, fun e => e.elim (fun e => absurd e.1 (by omega)) (fun e => e.2.2.2.symm)⟩
    · rw [cif_f y]
      exact ⟨fun e => by omega, fun e => e.elim (fun e => absurd e.1 (by omega)) (fun e => absurd ⟨e.2.1, e.2.2.1⟩ y)⟩
  · rw [cif_f z]
    exact ⟨fun e => Or.inl ⟨by omega, e.symm⟩, fun e => e.elim (fun e => e.2.symm) (fun e => absurd e.1 z)⟩
theorem c_Pairing_sumWith {D : Nat} {h : St} {K : Int → St → Prop} {p q : Nat} {L : Nat → Nat → Int} {i s j : Nat} (a : Pq h p q L) (b : Bs h p q L (i + 1)) (hi : i < p) (hs : s < 2 ^ q) (hp : pb 32 s ≤ i) (hj : j ≤ q) (k : K (sW p q L i s j) h) : mwpI (D + 1) m_Pairing_sumWith [vR 59, vI i, vI s, vI j] h K := by
  obtain ⟨a1, a2, a3, a4, a5, a6⟩ := a
  have h2 := p2le a4
  refine mI_intro b_Pairing_sumWith rfl (s_Pairing_sumWith_0 (i : Int) s j h K ⟨⟨by omega, by omega⟩, ⟨by omega, by omega⟩, fun z => ?_, fun z => ?_⟩)
  · have z1 : j < q := by omega
    have p2 := p2_8 j (by omega)
    have e1 : ((i : Int) * 8 + (j : Int)).toNat = i * 8 + j := by omega
    have e2 : or3 s (shl3 1 j) = ((s ||| 2 ^ j : Nat) : Int) := by rw [shl_1 (by omega), or3_nat (by omega) (by omega)]
    have l1 : s ||| 2 ^ j < 2 ^ q := Nat.or_lt_two_pow hs (Nat.pow_lt_pow_right (by decide) z1)
    have e3 : ((((i : Int) + 1) * 256) + ((s ||| 2 ^ j : Nat) : Int)).toNat = (i + 1) * 256 + (s ||| 2 ^ j) := by omega
    have la := a6 i j hi z1
    have lr := a5 i j
    rw [e1, e2, e3, la, has_nat (by omega) (by omega)]
    refine ⟨⟨by omega, by omega⟩, ⟨by omega, by omega⟩, fun y => ?_, fun y => ⟨b2i_R, fun w => ⟨⟨by omega, by omega⟩, ?_⟩, fun w => ?_⟩⟩
    · have e : sW p q L i s j = -2 := by unfold sW; rw [cif_t z1, cif_f (fun q => q.1 y)]
      rw [e] at k; exact k
    · have t : s.testBit j = false := by have := b2i_eq0.mp w; exact Bool.eq_false_iff.mpr this
      have pp := pb_or (s := s) (j := j) (by omega)
      rw [b (i + 1) (s ||| 2 ^ j) (Nat.le_refl _) (by omega) l1 (by omega)]
      have e : sW p q L i s j = L i j + W0 p q L (i + 1) (s ||| 2 ^ j) := by unfold sW; rw [cif_t z1, cif_t ⟨y, t⟩]
      rw [e] at k; exact k
    · have t : s.testBit j = true := b2i_ne0.mp w
      have e : sW p q L i s j = -2 := by unfold sW; rw [cif_t z1, cif_f (fun q => by rw [t] at q; exact Bool.noConfusion q.2)]
      rw [e] at k; exact k
  · have e3 : ((((i : Int) + 1) * 256) + (s : Int)).toNat = (i + 1) * 256 + s := by omega
    rw [e3, b (i + 1) s (Nat.le_refl _) (by omega) hs (by omega)]
    have e : sW p q L i s j = W0 p q L (i + 1) s := by unfold sW; exact cif_f (by omega)
    rw [e] at k
    exact ⟨⟨by omega, by omega⟩, k⟩
theorem C_bestFrom {D : Nat} {h : St} {K : Int → St → Prop} {p q : Nat} {L : Nat → Nat → Int} {i s : Nat} (a : Pq h p q L) (b : Bs h p q L (i + 1)) (hi : i < p) (hs : s < 2 ^ q) (hp : pb 32 s ≤ i) (k : K (W0 p q L i s) h) : ∀ (r j : Nat) (z : Int), j + r = q + 1 → 0 ≤ z → z ≤ W0 p q L i s → (∀ j2, j2 < j → sW p q L i s j2 ≤ z) → wI (D + 1) m_Pairing_bestFrom 5 [(0, vR 59), (1, vI i), (2, vI s), (3, vI z), (4, vI j)] [] h K := by
  have w := W0_R (q := q) a.2.2.2.2.1 a.2.2.1 (i := i) (s := s)
  have q8 := a.2.2.2.1
  have a2 := a.2.1
  intro r
  induction r with
  | zero =>
    intro j z hj z0 z1 zz
    refine s_Pairing_bestFrom_5 _ _ _ _ h K ⟨⟨by omega, by omega⟩, ⟨by omega, by omega⟩, fun _ => ?_, fun y => by omega⟩
    have e : z = W0 p q L i s := by
      refine vB_uni hi ?_ (fun j2 h2 h3 h4 => ?_) z1
      · have := zz q (by omega)
        unfold sW at this
        rw [cif_f (Nat.lt_irrefl q)] at this
        exact this
      · have := zz j2 (by omega)
        unfold sW at this
        rw [cif_t h2, cif_t ⟨h3.1, h4⟩] at this
        exact this
    rw [e]; exact k
  | succ r ih =>
    intro j z hj z0 z1 zz
    refine s_Pairing_bestFrom_5 _ _ _ _ h K ⟨⟨by omega, by omega⟩, ⟨by omega, by omega⟩, fun y => by omega, fun _ => ?_⟩
    have sr := sW_R (q := q) (s := s) (j := j) a.2.2.2.2.1 a.2.2.1 hi
    have sl := sW_le (q := q) (L := L) (s := s) (j := j) hi
    refine c_Pairing_sumWith a b hi hs hp (by omega) ⟨⟨by omega, by omega⟩, ⟨by omega, by omega⟩, ih (j + 1) _ (by omega) (by omega) (by omega) (fun j2 h2 => ?_)⟩
    by_cases e : j2 = j
    · subst e; omega
    · have := zz j2 (by omega); omega
theorem c_Pairing_bestFrom {D : Nat} {h : St} {K : Int → St → Prop} {p q : Nat} {L : Nat → Nat → Int} {i s : Nat} (a : Pq h p q L) (b : Bs h p q L (i + 1)) (hi : i < p) (hs : s < 2 ^ q) (hp : pb 32 s ≤ i) (k : K (W0 p q L i s) h) : mwpI (D + 2) m_Pairing_bestFrom [vR 59, vI i, vI s] h K :=
  mI_intro b_Pairing_bestFrom rfl (s_Pairing_bestFrom_0 (d := D) _ _ h K (C_bestFrom a b hi hs hp k (q + 1) 0 0 (by omega) (Int.le_refl _) vB_0 (fun j2 h2 => absurd h2 (Nat.not_lt_zero _))))
theorem C_fB_58 {D : Nat} {K : St → Prop} {p q : Nat} {L : Nat → Nat → Int} {i : Nat} (hi : i < p) : ∀ (r c : Nat) (h : St), c + r = 2 ^ q → Pq h p q L → Bs h p q L (i + 1) → (∀ s, s < c → pb 32 s ≤ i → h 73 (i * 256 + s) = W0 p q L i s) → (∀ h2, ag (fun c _ => c ≠ 73) h h2 → Bs h2 p q L i → wV (D + 2) m_Pairing_findBests 52 [(0, vR 59), (1, vI ((2 ^ q : Nat) : Int)), (2, vI ((i : Int) + (-1)))] [] h2 K) → wV (D + 2) m_Pairing_findBests 58 [(0, vR 59), (1, vI ((2 ^ q : Nat) : Int)), (2, vI i), (3, vI c)] [] h K := by
  intro r
  induction r with
  | zero =>
    intro c h hc a b w k
    have h2 := p2le a.2.2.2.1
    have p8 := a.2.2.1
    refine s_Pairing_findBests_58 _ _ _ h K ⟨⟨by omega, by omega⟩, ⟨by omega, by omega⟩, fun _ => k h ag_rfl (fun i2 s x1 x2 x3 x4 => ?_), fun y => by omega⟩
    by_cases e : i2 = i
    · subst e; exact w s (by omega) x4
    · exact b i2 s (by omega) x2 x3 x4
  | succ r ih =>
    intro c h hc a b w k
    have h2 := p2le a.2.2.2.1
    have p8 := a.2.2.1
    have pl := pb_le 32 c
    refine s_Pairing_findBests_58 _ _ _ h K ⟨⟨by omega, by omega⟩, ⟨by omega, by omega⟩, fun y => by omega, fun _ => ?_⟩
    refine c_JI_bitCount (by omega) ⟨⟨by omega, by omega⟩, ⟨by omega, by omega⟩, fun y => ?_, fun y => ?_⟩
    · refine ih (c + 1) h (by omega) a b (fun s hs hp => ?_) k
      by_cases e : s = c
      · subst e; omega
      · exact w s (by omega) hp
    · refine c_Pairing_bestFrom a b hi (by omega) (by omega) ⟨⟨by omega, by omega⟩, ?_⟩
      have e1 : ((i : Int) * 256 + (c : Int)).toNat = i * 256 + c := by omega
      rw [e1]
      refine ih (c + 1) _ (by omega) (Pq_c (ag_up (by omega) ag_rfl) a) (fun i2 s x1 x2 x3 x4 => ?_) (fun s hs hp => ?_) (fun h2 g2 => k h2 (ag_trans (ag_up (by omega) ag_rfl) g2))
      · rw [up_ne (by omega)]; exact b i2 s x1 x2 x3 x4
      · by_cases e : s = c
        · subst e; rw [up_same]
        · rw [up_ne (by omega)]; exact w s (by omega) hp
theorem C_fB_52 {D : Nat} {K : St → Prop} {p q : Nat} {L : Nat → Nat → Int} : ∀ (i : Nat) (x : Int) (h : St), x = (i : Int) - 1 → i ≤ p → Pq h p q L → Bs h p q L i → (∀ h2, ag (fun c _ => c ≠ 73) h h2 → Bs h2 p q L 0 → K h2) → wV (D + 2) m_Pairing_findBests 52 [(0, vR 59), (1, vI ((2 ^ q : Nat) : Int)), (2, vI x)] [] h K := by
  intro i
  induction i with
  | zero =>
    intro x h e hi a b k
    exact s_Pairing_findBests_52 _ _ h K ⟨⟨by omega, by omega⟩, fun _ => k h ag_rfl b, fun y => by omega⟩
  | succ i ih =>
    intro x h e hi a b k
    have p8 := a.2.2.1
    have e2 : x = (i : Int) := by omega
    subst e2
    refine s_Pairing_findBests_52 _ _ h K ⟨⟨by omega, by omega⟩, fun y => by omega, fun _ => ?_⟩
    refine C_fB_58 (by omega) (2 ^ q) 0 h (by omega) a b (fun s hs => absurd hs (Nat.not_lt_zero _)) (fun h2 g2 b2 => ih _ h2 (by omega) (by omega) (Pq_c (ag_sub (fun c k p => by omega) g2) a) b2 (fun h3 g3 => k h3 (ag_trans g2 g3)))
theorem C_fB_12 {D : Nat} {K : St → Prop} {p q : Nat} {L : Nat → Nat → Int} : ∀ (r c : Nat) (h : St), c + r = 2 ^ q → Pq h p q L → (∀ s, s < c → h 73 (p * 256 + s) = 0) → (∀ h2, ag (fun c _ => c ≠ 73) h h2 → Bs h2 p q L 0 → K h2) → wV (D + 2) m_Pairing_findBests 12 [(0, vR 59), (1, vI ((2 ^ q : Nat) : Int)), (2, vI c)] [] h K := by
  intro r
  induction r with
  | zero =>
    intro c h hc a w k
    have h2 := p2le a.2.2.2.1
    have p8 := a.2.2.1
    have a1 := a.1
    refine s_Pairing_findBests_12 _ _ h K ⟨⟨by omega, by omega⟩, ⟨by omega, by omega⟩, fun _ => C_fB_52 p _ h (by omega) (Nat.le_refl _) a (fun i s x1 x2 x3 x4 => ?_) k, fun y => by omega⟩
    have e : i = p := by omega
    subst e
    rw [w s (by omega)]; exact vB_top.symm
  | succ r ih =>
    intro c h hc a w k
    have h2 := p2le a.2.2.2.1
    have p8 := a.2.2.1
    have a1 := a.1
    refine s_Pairing_findBests_12 _ _ h K ⟨⟨by omega, by omega⟩, ⟨by omega, by omega⟩, fun y => by omega, fun _ => ⟨⟨by omega, by omega⟩, ?_⟩⟩
    have e1 : ((h 60 1) * 256 + (c : Int)).toNat = p * 256 + c := by omega
    rw [e1]
    refine ih (c + 1) _ (by omega) (Pq_c (ag_up (by omega) ag_rfl) a) (fun s hs => ?_) (fun h2 g2 => k h2 (ag_trans (ag_up (by omega) ag_rfl) g2))
    by_cases e : s = c
    · subst e; rw [up_same]
    · rw [up_ne (by omega)]; exact w s (by omega)
theorem c_Pairing_findBests {D : Nat} {h : St} {K : St → Prop} {p q : Nat} {L : Nat → Nat → Int} (a : Pq h p q L) (k : ∀ h2, ag (fun c _ => c ≠ 73) h h2 → Bs h2 p q L 0 → K h2) : mwpV (D + 3) m_Pairing_findBests [vR 59] h K := by
  have q8 := a.2.2.2.1
  refine mV_intro b_Pairing_findBests rfl (s_Pairing_findBests_0 (d := D) h K ?_)
  rw [a.2.1, shl_1 (by omega)]
  exact C_fB_12 (2 ^ q) 0 h (by omega) a (fun s hs => absurd hs (Nat.not_lt_zero _)) k
theorem c_Pairing_keepsBest {D : Nat} {h : St} {K : Int → St → Prop} {p q : Nat} {L : Nat → Nat → Int} {i s j : Nat} (a : Pq h p q L) (b : Bs h p q L 0) (hi : i < p) (hs : s < 2 ^ q) (hp : pb 32 s ≤ i) (hj : j ≤ q) (k : K (b2i (kB p q L i s j)) h) : mwpI (D + 2) m_Pairing_keepsBest [vR 59, vI i, vI s, vI j] h K := by
  have h2 := p2le a.2.2.2.1
  have p8 := a.2.2.1
  have sr := sW_R (q := q) (s := s) (j := j) a.2.2.2.2.1 a.2.2.1 hi
  have w := W0_R (q := q) a.2.2.2.2.1 a.2.2.1 (i := i) (s := s)
  refine mI_intro b_Pairing_keepsBest rfl (s_Pairing_keepsBest_0 (d := D) _ _ _ h K (c_Pairing_sumWith a (fun i2 s2 x1 => b i2 s2 (by omega)) hi hs hp hj ?_))
  have e1 : ((i : Int) * 256 + (s : Int)).toNat = i * 256 + s := by omega
  rw [e1, b i s (by omega) (by omega) hs hp, b2i_congr (Decidable.not_not.trans (sW_k hj))]
  exact ⟨⟨by omega, by omega⟩, ⟨⟨by omega, by omega⟩, ⟨by omega, by omega⟩⟩, k⟩
theorem c_Pairing_usedWith {D : Nat} {h : St} {K : Int → St → Prop} {p q : Nat} {L : Nat → Nat → Int} {s j : Nat} (a : Pq h p q L) (hs : s < 2 ^ q) (hj : j ≤ q) (k : K ((uW q s j : Nat) : Int) h) : mwpI (D + 1) m_Pairing_usedWith [vR 59, vI s, vI j] h K := by
  have h2 := p2le a.2.2.2.1
  have q8 := a.2.2.2.1
  have a2 := a.2.1
  refine mI_intro b_Pairing_usedWith rfl (s_Pairing_usedWith_0 (d := D) _ _ h K ⟨⟨⟨by omega, by omega⟩, ⟨by omega, by omega⟩⟩, ?_⟩)
  by_cases z : j < q
  · have p2 := p2_8 j (by omega)
    rw [cif_t (by omega), shl_1 (by omega), or3_nat (by omega) (by omega)]
    rw [show uW q s j = s ||| 2 ^ j from nif_t z] at k
    exact k
  · rw [cif_f (by omega)]
    rw [show uW q s j = s from nif_f z] at k
    exact k
theorem C_firstChoice {D : Nat} {h : St} {K : Int → St → Prop} {p q : Nat} {L : Nat → Nat → Int} {i s : Nat} (a : Pq h p q L) (b : Bs h p q L 0) (hi : i < p) (hs : s < 2 ^ q) (hp : pb 32 s ≤ i) (k : K ((lst (kB p q L i s) q : Nat) : Int) h) : ∀ (r j : Nat), j + r = q → (∀ j2, j2 < j → ¬ kB p q L i s j2) → wI (D + 2) m_Pairing_firstChoice 2 [(0, vR 59), (1, vI i), (2, vI s), (3, vI j)] [] h K := by
  have q8 := a.2.2.2.1
  have a2 := a.2.1
  intro r
  induction r with
  | zero =>
    intro j hj no
    refine s_Pairing_firstChoice_2 _ _ _ h K ⟨⟨by omega, by omega⟩, ⟨by omega, by omega⟩, fun _ => ?_, fun y => by omega⟩
    rw [a2]
    have e : q = lst (kB p q L i s) q := lst_u (Or.inr ⟨rfl, fun j2 h2 => no j2 (by omega)⟩)
    rw [← e] at k; exact k
  | succ r ih =>
    intro j hj no
    refine s_Pairing_firstChoice_2 _ _ _ h K ⟨⟨by omega, by omega⟩, ⟨by omega, by omega⟩, fun y => by omega, fun _ => ?_⟩
    refine c_Pairing_keepsBest a b hi hs hp (by omega) ⟨b2i_R, fun z => ih (j + 1) (by omega) (fun j2 h2 => ?_), fun z => ?_⟩
    · by_cases e : j2 = j
      · subst e; exact b2i_eq0.mp z
      · exact no j2 (by omega)
    · have e : j = lst (kB p q L i s) q := lst_u (Or.inl ⟨by omega, b2i_ne0.mp z, no⟩)
      rw [← e] at k; exact k
theorem c_Pairing_firstChoice {D : Nat} {h : St} {K : Int → St → Prop} {p q : Nat} {L : Nat → Nat → Int} {i s : Nat} (a : Pq h p q L) (b : Bs h p q L 0) (hi : i < p) (hs : s < 2 ^ q) (hp : pb 32 s ≤ i) (k : K ((lst (kB p q L i s) q : Nat) : Int) h) : mwpI (D + 3) m_Pairing_firstChoice [vR 59, vI i, vI s] h K :=
  mI_intro b_Pairing_firstChoice rfl (s_Pairing_firstChoice_0 (d := D) _ _ h K (C_firstChoice a b hi hs hp k q 0 (by omega) (fun j2 h2 => absurd h2 (Nat.not_lt_zero _))))
