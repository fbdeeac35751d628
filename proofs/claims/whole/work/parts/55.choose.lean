theorem s_Pairing_choose_0 {d : Nat}  (h : St) (K : St → Prop) (F : (mwpV (d + 3) m_JA_fill [vR 70, vI ((-4))] h (fun h1 => (mwpV (d + 3) m_JA_fill [vR 71, vI ((-4))] h1 (fun h2 => (wV (d + 3) m_Pairing_choose 22 [(0, vR 59), (1, vI 0), (2, vI 0)] [] h2 K)))))) : wV (d + 3) m_Pairing_choose 0 [(0, vR 59)] [] h K := by
  refine w_aload_n rfl rfl ?_
  refine w_getR rfl f_Pairing_21 rfl rfl rfl rfl rfl ?_
  refine w_bipush (by decide) (by decide) rfl ?_
  refine c_SV [vR 70, vI ((-4))] [] rfl b_JA_fill k_Pairing_89 rfl rfl rfl (mwpV_mono (fun h1 F => ?_) F)
  refine w_aload_n rfl rfl ?_
  refine w_getR rfl f_Pairing_25 rfl rfl rfl rfl rfl ?_
  refine w_bipush (by decide) (by decide) rfl ?_
  refine c_SV [vR 71, vI ((-4))] [] rfl b_JA_fill k_Pairing_89 rfl rfl rfl (mwpV_mono (fun h2 F => ?_) F)
  refine w_iconst rfl ?_
  refine w_istore_n rfl rfl rfl rfl (w_ls (ls2 := [(0, vR 59), (1, vI 0)]) rfl ?_)
  refine w_iconst rfl ?_
  refine w_istore_n rfl rfl rfl rfl (w_ls (ls2 := [(0, vR 59), (1, vI 0), (2, vI 0)]) rfl ?_)
  exact F
theorem s_Pairing_choose_22 {d : Nat}  (x1 x2 : Int) (h : St) (K : St → Prop) (F : (inR x2) ∧ (inR (h 60 1)) ∧ (((h 60 1) ≤ x2 → (K h)) ∧ (¬ ((h 60 1) ≤ x2) → (mwpI (d + 3) m_Pairing_firstChoice [vR 59, vI x2, vI x1] h (fun z4 h4 => (mwpI (d + 3) m_Pairing_usedWith [vR 59, vI x1, vI z4] h4 (fun z5 h5 => (inR z4) ∧ (inR (h5 65 1)) ∧ (((h5 65 1) ≤ z4 → (wV (d + 3) m_Pairing_choose 22 [(0, vR 59), (1, vI z5), (2, vI (x2 + 1))] [] h5 K)) ∧ (¬ ((h5 65 1) ≤ z4) → (0 ≤ x2 ∧ x2 < 12) ∧ (0 ≤ z4 ∧ z4 < 12) ∧ (0 ≤ h5 61 x2.toNat ∧ h5 61 x2.toNat < 12) ∧ (0 ≤ h5 66 z4.toNat ∧ h5 66 z4.toNat < 12) ∧ (wV (d + 3) m_Pairing_choose 22 [(0, vR 59), (1, vI z5), (2, vI (x2 + 1))] [] (up (up h5 70 ((h5 61 x2.toNat).toNat) (h5 66 z4.toNat)) 71 ((h5 66 z4.toNat).toNat) (h5 61 x2.toNat)) K)))))))))) : wV (d + 3) m_Pairing_choose 22 [(0, vR 59), (1, vI x1), (2, vI x2)] [] h K := by
  refine w_iload_n rfl rfl ?_
  refine w_aload_n rfl rfl ?_
  refine w_getR rfl f_Pairing_14 rfl rfl rfl rfl rfl ?_
  refine w_getI rfl f_Pairing_47 rfl rfl rfl ?_
  obtain ⟨b1, F⟩ := F
  obtain ⟨b2, F⟩ := F
  refine w_icmp_ge (tgt := 110) rfl (by decide) ⟨b1, b2⟩ (fun q3 => ?_) (fun q3 => ?_)
  · replace F := F.1 q3
    exact w_vret rfl rfl ⟨rfl, rfl, rfl, F⟩
  · replace F := F.2 q3
    refine w_aload_n rfl rfl ?_
    refine w_iload_n rfl rfl ?_
    refine w_iload_n rfl rfl ?_
    refine c_VI [vI x2, vI x1] [] rfl b_Pairing_firstChoice k_Pairing_95 rfl rfl rfl rfl rfl rfl (mwpI_mono (fun z4 h4 F => ?_) F)
    refine w_istore_n rfl rfl rfl rfl (w_ls (ls2 := [(0, vR 59), (1, vI x1), (2, vI x2), (3, vI z4)]) rfl ?_)
    refine w_aload_n rfl rfl ?_
    refine w_iload_n rfl rfl ?_
    refine w_iload_n rfl rfl ?_
    refine c_VI [vI x1, vI z4] [] rfl b_Pairing_usedWith k_Pairing_98 rfl rfl rfl rfl rfl rfl (mwpI_mono (fun z5 h5 F => ?_) F)
    refine w_istore_n rfl rfl rfl rfl (w_ls (ls2 := [(0, vR 59), (1, vI z5), (2, vI x2), (3, vI z4)]) rfl ?_)
    refine w_iload_n rfl rfl ?_
    refine w_aload_n rfl rfl ?_
    refine w_getR rfl f_Pairing_18 rfl rfl rfl rfl rfl ?_
    refine w_getI rfl f_Pairing_47 rfl rfl rfl ?_
    obtain ⟨b6, F⟩ := F
    obtain ⟨b7, F⟩ := F
    refine w_icmp_ge (tgt := 104) rfl (by decide) ⟨b6, b7⟩ (fun q8 => ?_) (fun q8 => ?_)
    · replace F := F.1 q8
      refine w_iinc rfl rfl rfl rfl rfl (w_ls (ls2 := [(0, vR 59), (1, vI z5), (2, vI (x2 + 1)), (3, vI z4)]) rfl ?_)
      refine w_goto (tgt := 22) rfl (by decide) ?_
      exact w_kp [0, 1, 2] F
    · replace F := F.2 q8
      refine w_aload_n rfl rfl ?_
      refine w_getR rfl f_Pairing_21 rfl rfl rfl rfl rfl ?_
      refine w_aload_n rfl rfl ?_
      refine w_getR rfl f_Pairing_14 rfl rfl rfl rfl rfl ?_
      refine w_getR rfl f_Pairing_50 rfl rfl rfl rfl rfl ?_
      refine w_iload_n rfl rfl ?_
      obtain ⟨b9, F⟩ := F
      refine w_iaload rfl rfl rfl b9 ?_
      refine w_aload_n rfl rfl ?_
      refine w_getR rfl f_Pairing_18 rfl rfl rfl rfl rfl ?_
      refine w_getR rfl f_Pairing_50 rfl rfl rfl rfl rfl ?_
      refine w_iload_n rfl rfl ?_
      obtain ⟨b10, F⟩ := F
      refine w_iaload rfl rfl rfl b10 ?_
      obtain ⟨b11, F⟩ := F
      refine w_iastore rfl rfl rfl b11 ?_
      refine w_aload_n rfl rfl ?_
      refine w_getR rfl f_Pairing_25 rfl rfl rfl rfl rfl ?_
      refine w_aload_n rfl rfl ?_
      refine w_getR rfl f_Pairing_18 rfl rfl rfl rfl rfl ?_
      refine w_getR rfl f_Pairing_50 rfl rfl rfl rfl rfl ?_
      refine w_iload_n rfl rfl ?_
      refine w_iaload rfl rfl rfl b10 ?_
      refine w_aload_n rfl rfl ?_
      refine w_getR rfl f_Pairing_14 rfl rfl rfl rfl rfl ?_
      refine w_getR rfl f_Pairing_50 rfl rfl rfl rfl rfl ?_
      refine w_iload_n rfl rfl ?_
      refine w_iaload rfl rfl rfl b9 ?_
      obtain ⟨b12, F⟩ := F
      refine w_iastore rfl rfl rfl b12 ?_
      refine w_iinc rfl rfl rfl rfl rfl (w_ls (ls2 := [(0, vR 59), (1, vI z5), (2, vI (x2 + 1)), (3, vI z4)]) rfl ?_)
      refine w_goto (tgt := 22) rfl (by decide) ?_
      exact w_kp [0, 1, 2] F
theorem s_Pairing_findSure_0 {d : Nat}  (h : St) (K : St → Prop) (F : (mwpV (d + 3) m_Pairing_clearReached [vR 59] (up h 59 7 0) (fun h1 => (wV (d + 3) m_Pairing_findSure 18 [(0, vR 59), (1, vI 0)] [] (up h1 74 0 1) K)))) : wV (d + 3) m_Pairing_findSure 0 [(0, vR 59)] [] h K := by
  refine w_aload_n rfl rfl ?_
  refine w_iconst rfl ?_
  refine w_putI rfl f_Pairing_38 fw_5_7 rfl rfl rfl ?_
  refine w_aload_n rfl rfl ?_
  refine c_VV [] [] rfl b_Pairing_clearReached k_Pairing_105 rfl rfl rfl rfl rfl rfl (mwpV_mono (fun h1 F => ?_) F)
  refine w_aload_n rfl rfl ?_
  refine w_getR rfl f_Pairing_34 rfl rfl rfl rfl rfl ?_
  refine w_iconst rfl ?_
  refine w_iconst rfl ?_
  refine w_zastore rfl rfl rfl ⟨by decide, by decide⟩ (by decide) ?_
  refine w_iconst rfl ?_
  refine w_istore_n rfl rfl rfl rfl (w_ls (ls2 := [(0, vR 59), (1, vI 0)]) rfl ?_)
  exact F
theorem s_Pairing_findSure_18 {d : Nat}  (x1 : Int) (h : St) (K : St → Prop) (F : (inR x1) ∧ (inR (h 60 1)) ∧ (((h 60 1) ≤ x1 → (K h)) ∧ (¬ ((h 60 1) ≤ x1) → (mwpI (d + 3) m_Pairing_choicesOf [vR 59, vI x1] h (fun z4 h4 => (((inR (and3 (shr3 z4 (h4 65 1)) 1)))) ∧ ((¬ ((and3 (shr3 z4 (h4 65 1)) 1) = 0) → (wV (d + 3) m_Pairing_findSure 18 [(0, vR 59), (1, vI (x1 + 1))] [] h4 K)) ∧ (¬ (¬ ((and3 (shr3 z4 (h4 65 1)) 1) = 0)) → (mwpI (d + 3) m_JI_bitCount [vI z4] h4 (fun z9 h9 => (inR z9) ∧ ((z9 ≠ 1 → (wV (d + 3) m_Pairing_findSure 18 [(0, vR 59), (1, vI (x1 + 1))] [] h9 K)) ∧ (¬ (z9 ≠ 1) → (0 ≤ x1 ∧ x1 < 12) ∧ (wV (d + 3) m_Pairing_findSure 18 [(0, vR 59), (1, vI (x1 + 1))] [] (up h9 59 7 (or3 (h9 59 7) (shl3 1 (h9 61 x1.toNat)))) K)))))))))))) : wV (d + 3) m_Pairing_findSure 18 [(0, vR 59), (1, vI x1)] [] h K := by
  refine w_iload_n rfl rfl ?_
  refine w_aload_n rfl rfl ?_
  refine w_getR rfl f_Pairing_14 rfl rfl rfl rfl rfl ?_
  refine w_getI rfl f_Pairing_47 rfl rfl rfl ?_
  obtain ⟨b1, F⟩ := F
  obtain ⟨b2, F⟩ := F
  refine w_icmp_ge (tgt := 93) rfl (by decide) ⟨b1, b2⟩ (fun q3 => ?_) (fun q3 => ?_)
  · replace F := F.1 q3
    exact w_vret rfl rfl ⟨rfl, rfl, rfl, F⟩
  · replace F := F.2 q3
    refine w_aload_n rfl rfl ?_
    refine w_iload_n rfl rfl ?_
    refine c_VI [vI x1] [] rfl b_Pairing_choicesOf k_Pairing_108 rfl rfl rfl rfl rfl rfl (mwpI_mono (fun z4 h4 F => ?_) F)
    refine w_istore_n rfl rfl rfl rfl (w_ls (ls2 := [(0, vR 59), (1, vI x1), (2, vI z4)]) rfl ?_)
    refine w_iload_n rfl rfl ?_
    refine w_aload_n rfl rfl ?_
    refine w_getR rfl f_Pairing_18 rfl rfl rfl rfl rfl ?_
    refine w_getI rfl f_Pairing_47 rfl rfl rfl ?_
    refine w_ishr rfl ?_
    refine w_iconst rfl ?_
    refine w_iand rfl ?_
    obtain ⟨G, F⟩ := F
    have J : ∀ (t7 : Int), t7 = b2i (¬ ((and3 (shr3 z4 (h4 65 1)) 1) = 0)) → wV (d + 3) m_Pairing_findSure 54 [(0, vR 59), (1, vI x1), (2, vI z4)] [vI t7] h4 K := by
      intro t7 et7
      subst et7
      refine w_istore_n rfl rfl rfl rfl (w_ls (ls2 := [(0, vR 59), (1, vI x1), (2, vI z4), (3, vI (b2i (¬ ((and3 (shr3 z4 (h4 65 1)) 1) = 0))))]) rfl ?_)
      refine w_iload_n rfl rfl ?_
      refine w_ifne_b (tgt := 87) rfl (by decide) (fun q8 => ?_) (fun q8 => ?_)
      · replace F := F.1 q8
        refine w_iinc rfl rfl rfl rfl rfl (w_ls (ls2 := [(0, vR 59), (1, vI (x1 + 1)), (2, vI z4), (3, vI (b2i (¬ ((and3 (shr3 z4 (h4 65 1)) 1) = 0))))]) rfl ?_)
        refine w_goto (tgt := 18) rfl (by decide) ?_
        exact w_kp [0, 1] F
      · replace F := F.2 q8
        refine w_iload_n rfl rfl ?_
        refine c_SI [vI z4] [] rfl b_JI_bitCount k_Pairing_70 rfl rfl rfl (mwpI_mono (fun z9 h9 F => ?_) F)
        refine w_iconst rfl ?_
        obtain ⟨b10, F⟩ := F
        refine w_icmp_ne (tgt := 87) rfl (by decide) ⟨b10, (r_lit rfl)⟩ (fun q11 => ?_) (fun q11 => ?_)
        · replace F := F.1 q11
          refine w_iinc rfl rfl rfl rfl rfl (w_ls (ls2 := [(0, vR 59), (1, vI (x1 + 1)), (2, vI z4), (3, vI (b2i (¬ ((and3 (shr3 z4 (h4 65 1)) 1) = 0))))]) rfl ?_)
          refine w_goto (tgt := 18) rfl (by decide) ?_
          exact w_kp [0, 1] F
        · replace F := F.2 q11
          refine w_aload_n rfl rfl ?_
          refine w_dup rfl rfl ?_
          refine w_getI rfl f_Pairing_38 rfl rfl rfl ?_
          refine w_iconst rfl ?_
          refine w_aload_n rfl rfl ?_
          refine w_getR rfl f_Pairing_14 rfl rfl rfl rfl rfl ?_
          refine w_getR rfl f_Pairing_50 rfl rfl rfl rfl rfl ?_
          refine w_iload_n rfl rfl ?_
          obtain ⟨b12, F⟩ := F
          refine w_iaload rfl rfl rfl b12 ?_
          refine w_ishl rfl ?_
          refine w_ior rfl ?_
          refine w_putI rfl f_Pairing_38 fw_5_7 rfl rfl rfl ?_
          refine w_iinc rfl rfl rfl rfl rfl (w_ls (ls2 := [(0, vR 59), (1, vI (x1 + 1)), (2, vI z4), (3, vI (b2i (¬ ((and3 (shr3 z4 (h4 65 1)) 1) = 0))))]) rfl ?_)
          refine w_goto (tgt := 18) rfl (by decide) ?_
          exact w_kp [0, 1] F
    have b5 := G
    refine w_if_eq (tgt := 53) rfl (by decide) b5 (fun q6 => ?_) (fun q6 => ?_)
    · refine w_iconst rfl ?_
      exact J _ (b2i_f (fun z => z q6)).symm
    · refine w_iconst rfl ?_
      refine w_goto (tgt := 54) rfl (by decide) ?_
      exact J _ (b2i_t q6).symm
theorem s_Pairing_clearReached_0 {d : Nat}  (h : St) (K : St → Prop) (F : (wV d m_Pairing_clearReached 2 [(0, vR 59), (1, vI 0)] [] h K)) : wV d m_Pairing_clearReached 0 [(0, vR 59)] [] h K := by
  refine w_iconst rfl ?_
  refine w_istore_n rfl rfl rfl rfl (w_ls (ls2 := [(0, vR 59), (1, vI 0)]) rfl ?_)
  exact F
theorem s_Pairing_clearReached_2 {d : Nat}  (x1 : Int) (h : St) (K : St → Prop) (F : (inR x1) ∧ (inR (h 60 1)) ∧ (((h 60 1) < x1 → (K h)) ∧ (¬ ((h 60 1) < x1) → (wV d m_Pairing_clearReached 15 [(0, vR 59), (1, vI x1), (2, vI 0)] [] h K)))) : wV d m_Pairing_clearReached 2 [(0, vR 59), (1, vI x1)] [] h K := by
  refine w_iload_n rfl rfl ?_
  refine w_aload_n rfl rfl ?_
  refine w_getR rfl f_Pairing_14 rfl rfl rfl rfl rfl ?_
  refine w_getI rfl f_Pairing_47 rfl rfl rfl ?_
  obtain ⟨b1, F⟩ := F
  obtain ⟨b2, F⟩ := F
  refine w_icmp_gt (tgt := 53) rfl (by decide) ⟨b1, b2⟩ (fun q3 => ?_) (fun q3 => ?_)
  · replace F := F.1 q3
    exact w_vret rfl rfl ⟨rfl, rfl, rfl, F⟩
  · replace F := F.2 q3
    refine w_iconst rfl ?_
    refine w_istore_n rfl rfl rfl rfl (w_ls (ls2 := [(0, vR 59), (1, vI x1), (2, vI 0)]) rfl ?_)
    exact F
theorem s_Pairing_clearReached_15 {d : Nat}  (x1 x2 : Int) (h : St) (K : St → Prop) (F : (inR x2) ∧ (inR (shl3 1 (h 65 1))) ∧ (((shl3 1 (h 65 1)) ≤ x2 → (wV d m_Pairing_clearReached 2 [(0, vR 59), (1, vI (x1 + 1))] [] h K)) ∧ (¬ ((shl3 1 (h 65 1)) ≤ x2) → (0 ≤ (x1 * 256) + x2 ∧ (x1 * 256) + x2 < 2304) ∧ (wV d m_Pairing_clearReached 15 [(0, vR 59), (1, vI x1), (2, vI (x2 + 1))] [] (up h 74 (((x1 * 256) + x2).toNat) 0) K)))) : wV d m_Pairing_clearReached 15 [(0, vR 59), (1, vI x1), (2, vI x2)] [] h K := by
  refine w_iload_n rfl rfl ?_
  refine w_iconst rfl ?_
  refine w_aload_n rfl rfl ?_
  refine w_getR rfl f_Pairing_18 rfl rfl rfl rfl rfl ?_
  refine w_getI rfl f_Pairing_47 rfl rfl rfl ?_
  refine w_ishl rfl ?_
  obtain ⟨b1, F⟩ := F
  obtain ⟨b2, F⟩ := F
  refine w_icmp_ge (tgt := 47) rfl (by decide) ⟨b1, b2⟩ (fun q3 => ?_) (fun q3 => ?_)
  · replace F := F.1 q3
    refine w_iinc rfl rfl rfl rfl rfl (w_ls (ls2 := [(0, vR 59), (1, vI (x1 + 1)), (2, vI x2)]) rfl ?_)
    refine w_goto (tgt := 2) rfl (by decide) ?_
    exact w_kp [0, 1] F
  · replace F := F.2 q3
    refine w_aload_n rfl rfl ?_
    refine w_getR rfl f_Pairing_34 rfl rfl rfl rfl rfl ?_
    refine w_iload_n rfl rfl ?_
    refine w_sipush (by decide) (by decide) rfl ?_
    refine w_imul rfl ?_
    refine w_iload_n rfl rfl ?_
    refine w_iadd rfl ?_
    refine w_iconst rfl ?_
    obtain ⟨b4, F⟩ := F
    refine w_zastore rfl rfl rfl b4 (by decide) ?_
    refine w_iinc rfl rfl rfl rfl rfl (w_ls (ls2 := [(0, vR 59), (1, vI x1), (2, vI (x2 + 1))]) rfl ?_)
    refine w_goto (tgt := 15) rfl (by decide) ?_
    exact F
theorem s_Pairing_choicesOf_0 {d : Nat}  (x1 : Int) (h : St) (K : Int → St → Prop) (F : (wI (d + 2) m_Pairing_choicesOf 4 [(0, vR 59), (1, vI x1), (2, vI 0), (3, vI 0)] [] h K)) : wI (d + 2) m_Pairing_choicesOf 0 [(0, vR 59), (1, vI x1)] [] h K := by
  refine w_iconst rfl ?_
  refine w_istore_n rfl rfl rfl rfl (w_ls (ls2 := [(0, vR 59), (1, vI x1), (2, vI 0)]) rfl ?_)
  refine w_iconst rfl ?_
  refine w_istore_n rfl rfl rfl rfl (w_ls (ls2 := [(0, vR 59), (1, vI x1), (2, vI 0), (3, vI 0)]) rfl ?_)
  exact F
theorem s_Pairing_choicesOf_4 {d : Nat}  (x1 x2 x3 : Int) (h : St) (K : Int → St → Prop) (F : (inR x3) ∧ (inR (shl3 1 (h 65 1))) ∧ (((shl3 1 (h 65 1)) ≤ x3 → (K x2 h)) ∧ (¬ ((shl3 1 (h 65 1)) ≤ x3) → (0 ≤ (x1 * 256) + x3 ∧ (x1 * 256) + x3 < 2304) ∧ (inR (h 74 (((x1 * 256) + x3).toNat))) ∧ (((h 74 (((x1 * 256) + x3).toNat)) ≠ 0 → (wI (d + 2) m_Pairing_choicesOf 38 [(0, vR 59), (1, vI x1), (2, vI x2), (3, vI x3), (4, vI 0)] [] h K)) ∧ (¬ ((h 74 (((x1 * 256) + x3).toNat)) ≠ 0) → (wI (d + 2) m_Pairing_choicesOf 4 [(0, vR 59), (1, vI x1), (2, vI x2), (3, vI (x3 + 1))] [] h K)))))) : wI (d + 2) m_Pairing_choicesOf 4 [(0, vR 59), (1, vI x1), (2, vI x2), (3, vI x3)] [] h K := by
  refine w_iload_n rfl rfl ?_
  refine w_iconst rfl ?_
  refine w_aload_n rfl rfl ?_
  refine w_getR rfl f_Pairing_18 rfl rfl rfl rfl rfl ?_
  refine w_getI rfl f_Pairing_47 rfl rfl rfl ?_
  refine w_ishl rfl ?_
  obtain ⟨b1, F⟩ := F
  obtain ⟨b2, F⟩ := F
  refine w_icmp_ge (tgt := 101) rfl (by decide) ⟨b1, b2⟩ (fun q3 => ?_) (fun q3 => ?_)
  · replace F := F.1 q3
    refine w_iload_n rfl rfl ?_
    exact w_iret rfl rfl ⟨rfl, rfl, _, rfl, F⟩
  · replace F := F.2 q3
    refine w_aload_n rfl rfl ?_
    refine w_getR rfl f_Pairing_34 rfl rfl rfl rfl rfl ?_
    refine w_iload_n rfl rfl ?_
    refine w_sipush (by decide) (by decide) rfl ?_
    refine w_imul rfl ?_
    refine w_iload_n rfl rfl ?_
    refine w_iadd rfl ?_
    obtain ⟨b4, F⟩ := F
    refine w_zaload rfl rfl rfl b4 ?_
    obtain ⟨b5, F⟩ := F
    refine w_if_ne (tgt := 35) rfl (by decide) b5 (fun q6 => ?_) (fun q6 => ?_)
    · replace F := F.1 q6
      refine w_iconst rfl ?_
      refine w_istore rfl rfl rfl rfl (w_ls (ls2 := [(0, vR 59), (1, vI x1), (2, vI x2), (3, vI x3), (4, vI 0)]) rfl ?_)
      exact F
    · replace F := F.2 q6
      refine w_goto (tgt := 95) rfl (by decide) ?_
      refine w_iinc rfl rfl rfl rfl rfl (w_ls (ls2 := [(0, vR 59), (1, vI x1), (2, vI x2), (3, vI (x3 + 1))]) rfl ?_)
      refine w_goto (tgt := 4) rfl (by decide) ?_
      exact F
theorem s_Pairing_choicesOf_38 {d : Nat}  (x1 x2 x3 x4 : Int) (h : St) (K : Int → St → Prop) (F : (inR x4) ∧ (inR (h 65 1)) ∧ (((h 65 1) < x4 → (wI (d + 2) m_Pairing_choicesOf 4 [(0, vR 59), (1, vI x1), (2, vI x2), (3, vI (x3 + 1))] [] h K)) ∧ (¬ ((h 65 1) < x4) → (mwpI (d + 2) m_Pairing_keepsBest [vR 59, vI x1, vI x3, vI x4] h (fun z4 h4 => (inR z4) ∧ ((z4 = 0 → (wI (d + 2) m_Pairing_choicesOf 38 [(0, vR 59), (1, vI x1), (2, vI x2), (3, vI x3), (4, vI (x4 + 1))] [] h4 K)) ∧ (¬ (z4 = 0) → (mwpI (d + 2) m_Pairing_usedWith [vR 59, vI x3, vI x4] h4 (fun z7 h7 => (0 ≤ ((x1 + 1) * 256) + z7 ∧ ((x1 + 1) * 256) + z7 < 2304) ∧ (wI (d + 2) m_Pairing_choicesOf 38 [(0, vR 59), (1, vI x1), (2, vI (or3 x2 (shl3 1 x4))), (3, vI x3), (4, vI (x4 + 1))] [] (up h7 74 ((((x1 + 1) * 256) + z7).toNat) 1) K)))))))))) : wI (d + 2) m_Pairing_choicesOf 38 [(0, vR 59), (1, vI x1), (2, vI x2), (3, vI x3), (4, vI x4)] [] h K := by
  refine w_iload rfl rfl ?_
  refine w_aload_n rfl rfl ?_
  refine w_getR rfl f_Pairing_18 rfl rfl rfl rfl rfl ?_
  refine w_getI rfl f_Pairing_47 rfl rfl rfl ?_
  obtain ⟨b1, F⟩ := F
  obtain ⟨b2, F⟩ := F
  refine w_icmp_gt (tgt := 95) rfl (by decide) ⟨b1, b2⟩ (fun q3 => ?_) (fun q3 => ?_)
  · replace F := F.1 q3
    refine w_iinc rfl rfl rfl rfl rfl (w_ls (ls2 := [(0, vR 59), (1, vI x1), (2, vI x2), (3, vI (x3 + 1)), (4, vI x4)]) rfl ?_)
    refine w_goto (tgt := 4) rfl (by decide) ?_
    exact w_kp [0, 1, 2, 3] F
  · replace F := F.2 q3
    refine w_aload_n rfl rfl ?_
    refine w_iload_n rfl rfl ?_
    refine w_iload_n rfl rfl ?_
    refine w_iload rfl rfl ?_
    refine c_VI [vI x1, vI x3, vI x4] [] rfl b_Pairing_keepsBest k_Pairing_101 rfl rfl rfl rfl rfl rfl (mwpI_mono (fun z4 h4 F => ?_) F)
    obtain ⟨b5, F⟩ := F
    refine w_if_eq (tgt := 89) rfl (by decide) b5 (fun q6 => ?_) (fun q6 => ?_)
    · replace F := F.1 q6
      refine w_iinc rfl rfl rfl rfl rfl (w_ls (ls2 := [(0, vR 59), (1, vI x1), (2, vI x2), (3, vI x3), (4, vI (x4 + 1))]) rfl ?_)
      refine w_goto (tgt := 38) rfl (by decide) ?_
      exact F
    · replace F := F.2 q6
      refine w_iload_n rfl rfl ?_
      refine w_iconst rfl ?_
      refine w_iload rfl rfl ?_
      refine w_ishl rfl ?_
      refine w_ior rfl ?_
      refine w_istore_n rfl rfl rfl rfl (w_ls (ls2 := [(0, vR 59), (1, vI x1), (2, vI (or3 x2 (shl3 1 x4))), (3, vI x3), (4, vI x4)]) rfl ?_)
      refine w_aload_n rfl rfl ?_
      refine w_getR rfl f_Pairing_34 rfl rfl rfl rfl rfl ?_
      refine w_iload_n rfl rfl ?_
      refine w_iconst rfl ?_
      refine w_iadd rfl ?_
      refine w_sipush (by decide) (by decide) rfl ?_
      refine w_imul rfl ?_
      refine w_aload_n rfl rfl ?_
      refine w_iload_n rfl rfl ?_
      refine w_iload rfl rfl ?_
      refine c_VI [vI x3, vI x4] [vI ((x1 + 1) * 256), vR 74] rfl b_Pairing_usedWith k_Pairing_98 rfl rfl rfl rfl rfl rfl (mwpI_mono (fun z7 h7 F => ?_) F)
      refine w_iadd rfl ?_
      refine w_iconst rfl ?_
      obtain ⟨b8, F⟩ := F
      refine w_zastore rfl rfl rfl b8 (by decide) ?_
      refine w_iinc rfl rfl rfl rfl rfl (w_ls (ls2 := [(0, vR 59), (1, vI x1), (2, vI (or3 x2 (shl3 1 x4))), (3, vI x3), (4, vI (x4 + 1))]) rfl ?_)
      refine w_goto (tgt := 38) rfl (by decide) ?_
      exact F
theorem uW_pb {q u j : Nat} (hq : q ≤ 8) : pb 32 (uW q u j) ≤ pb 32 u + 1 := by
  by_cases y : j < q
  · rw [show uW q u j = u ||| 2 ^ j from nif_t y]; exact pb_or (by omega)
  · rw [show uW q u j = u from nif_f y]; omega
theorem pb_z : pb 32 0 = 0 := rfl
theorem Rc_pb {p q : Nat} {L : Nat → Nat → Int} (hq : q ≤ 8) : ∀ i u, Rc p q L i u → pb 32 u ≤ i
  | 0, u, r => by have z : u = 0 := r; rw [z]; exact Nat.le_of_eq pb_z
  | i + 1, u2, r => by
    obtain ⟨u, j, r1, _, r3⟩ := r
    have := Rc_pb hq i u r1
    have := uW_pb (u := u) (j := j) hq
    rw [← r3]; omega
def NL (h : St) (p q : Nat) (N1 N2 : Nat → Nat) : Prop := (∀ i, i < p → h 61 i = (N1 i : Int) ∧ N1 i < 12) ∧ (∀ j, j < q → h 66 j = (N2 j : Int) ∧ N2 j < 12) ∧ (∀ i j, i < j → j < p → N1 i ≠ N1 j) ∧ (∀ i j, i < j → j < q → N2 i ≠ N2 j)
theorem NL_c {h h2 : St} {p q : Nat} {N1 N2 : Nat → Nat} (g : ag (fun c _ => c = 61 ∨ c = 66) h h2) (a : NL h p q N1 N2) : NL h2 p q N1 N2 :=
  ⟨fun i hi => by rw [g 61 _ (by omega)]; exact a.1 i hi, fun i hi => by rw [g 66 _ (by omega)]; exact a.2.1 i hi, a.2.2⟩
def bcm (h : St) (p q : Nat) (L : Nat → Nat → Int) (N1 N2 : Nat → Nat) (c : Nat) : Prop := (∀ i, i < c → h 70 (N1 i) = cif (bC p q L i < q) (N2 (bC p q L i)) (-4)) ∧ (∀ b, b < 12 → (∀ i, i < c → N1 i ≠ b) → h 70 b = -4)
def cmf (h : St) (p q : Nat) (L : Nat → Nat → Int) (N1 N2 : Nat → Nat) (c : Nat) : Prop := (∀ i, i < c → bC p q L i < q → h 71 (N2 (bC p q L i)) = N1 i) ∧ (∀ b, b < 12 → (∀ i, i < c → bC p q L i < q → N2 (bC p q L i) ≠ b) → h 71 b = -4)
theorem C_choose {D : Nat} {K : St → Prop} {p q : Nat} {L : Nat → Nat → Int} {N1 N2 : Nat → Nat} : ∀ (r c : Nat) (h : St), c + r = p → Pq h p q L → Bs h p q L 0 → NL h p q N1 N2 → bcm h p q L N1 N2 c → cmf h p q L N1 N2 c → (∀ h2, ag (fun c _ => c ≠ 70 ∧ c ≠ 71) h h2 → bcm h2 p q L N1 N2 p → cmf h2 p q L N1 N2 p → K h2) → wV (D + 3) m_Pairing_choose 22 [(0, vR 59), (1, vI ((uS p q L c : Nat) : Int)), (2, vI c)] [] h K := by
  intro r
  induction r with
  | zero =>
    intro c h hc a b nl b1 b2 k
    have a1 := a.1
    have p8 := a.2.2.1
    have e : c = p := by omega
    subst e
    exact s_Pairing_choose_22 _ _ h K ⟨⟨by omega, by omega⟩, ⟨by omega, by omega⟩, fun _ => k h ag_rfl b1 b2, fun y => by omega⟩
  | succ r ih =>
    intro c h hc a b nl b1 b2 k
    have a1 := a.1
    have a2 := a.2.1
    have p8 := a.2.2.1
    have q8 := a.2.2.2.1
    have rc := uS_r (p := p) (q := q) (L := L) c (by omega)
    have ul := Rc_lt _ _ rc
    have bl := bC_le (p := p) (q := q) (L := L) (i := c)
    have bl2 : lst (kB p q L c (uS p q L c)) q ≤ q := bl
    refine s_Pairing_choose_22 _ _ h K ⟨⟨by omega, by omega⟩, ⟨by omega, by omega⟩, fun y => by omega, fun _ => ?_⟩
    refine c_Pairing_firstChoice a b (by omega) ul (Rc_pb q8 _ _ rc) ?_
    refine c_Pairing_usedWith (s := uS p q L c) (j := bC p q L c) a ul bl ⟨⟨by omega, by omega⟩, ⟨by omega, by omega⟩, fun z => ?_, fun z => ?_⟩
    · have nb : ¬ bC p q L c < q := by have : h 65 1 ≤ ((bC p q L c : Nat) : Int) := z; omega
      refine ih (c + 1) h (by omega) a b nl ⟨fun i hi => ?_, fun x hx hn => b1.2 x hx (fun i hi => hn i (by omega))⟩ ⟨fun i hi h1 => ?_, fun x hx hn => b2.2 x hx (fun i hi => hn i (by omega))⟩ k
      · by_cases e : i = c
        · subst e
          rw [cif_f nb]
          exact b1.2 _ (nl.1 i (by omega)).2 (fun i2 h2 => nl.2.2.1 i2 i h2 (by omega))
        · exact b1.1 i (by omega)
      · by_cases e : i = c
        · subst e; exact absurd h1 nb
        · exact b2.1 i (by omega) h1
    · have nb : bC p q L c < q := by have : ¬ h 65 1 ≤ ((bC p q L c : Nat) : Int) := z; omega
      obtain ⟨n1, n2⟩ := nl.1 c (by omega)
      obtain ⟨n3, n4⟩ := nl.2.1 _ nb
      have e1 : h 61 ((c : Nat) : Int).toNat = (N1 c : Int) := n1
      have e2 : h 66 (((lst (kB p q L c (uS p q L c)) q : Nat) : Int)).toNat = (N2 (bC p q L c) : Int) := n3
      rw [e1, e2, Int.toNat_natCast, Int.toNat_natCast]
      refine ⟨⟨by omega, by omega⟩, ⟨Int.natCast_nonneg _, by have : ((bC p q L c : Nat) : Int) < 12 := by omega
                                                              exact this⟩, ⟨by omega, by omega⟩, ⟨by omega, by omega⟩, ?_⟩
      refine ih (c + 1) _ (by omega) (Pq_c (ag_up (by omega) (ag_up (by omega) ag_rfl)) a) (Bs_c (ag_up (by omega) (ag_up (by omega) ag_rfl)) b) (NL_c (ag_up (by omega) (ag_up (by omega) ag_rfl)) nl) ⟨fun i hi => ?_, fun x hx hn => ?_⟩ ⟨fun i hi h1 => ?_, fun x hx hn => ?_⟩ (fun h2 g2 => k h2 (ag_trans (ag_up (by omega) (ag_up (by omega) ag_rfl)) g2))
      · rw [up_ne (by omega)]
        by_cases e : i = c
        · subst e; rw [up_same, cif_t nb]
        · have := nl.2.2.1 i c (by omega) (by omega)
          rw [up_ne (by omega)]; exact b1.1 i (by omega)
      · have := hn c (by omega)
        rw [up_ne (by omega), up_ne (by omega)]; exact b1.2 x hx (fun i hi => hn i (by omega))
      · by_cases e : i = c
        · subst e; rw [up_same]
        · have x1 := bC_inj (q := q) (L := L) (show c < p by omega) (show i < c by omega) h1
          have x2 : N2 (bC p q L i) ≠ N2 (bC p q L c) := by
            by_cases y : bC p q L i < bC p q L c
            · exact nl.2.2.2 _ _ y nb
            · exact fun w => nl.2.2.2 (bC p q L c) (bC p q L i) (by omega) h1 w.symm
          rw [up_ne (by omega), up_ne (by omega)]; exact b2.1 i (by omega) h1
      · have := hn c (by omega) nb
        rw [up_ne (by omega), up_ne (by omega)]; exact b2.2 x hx (fun i hi => hn i (by omega))
theorem c_Pairing_choose {D : Nat} {h : St} {K : St → Prop} {p q : Nat} {L : Nat → Nat → Int} {N1 N2 : Nat → Nat} (a : Pq h p q L) (b : Bs h p q L 0) (nl : NL h p q N1 N2) (k : ∀ h2, ag (fun c _ => c ≠ 70 ∧ c ≠ 71) h h2 → bcm h2 p q L N1 N2 p → cmf h2 p q L N1 N2 p → K h2) : mwpV (D + 4) m_Pairing_choose [vR 59] h K := by
  refine mV_intro b_Pairing_choose rfl (s_Pairing_choose_0 (d := D) h K (c_JA_fill (len := 12) rfl (by decide) (c_JA_fill (len := 12) rfl (by decide) ?_)))
  refine C_choose p 0 _ (by omega) (Pq_c (ag_fill (by omega) (ag_fill (by omega) ag_rfl)) a) (Bs_c (ag_fill (by omega) (ag_fill (by omega) ag_rfl)) b) (NL_c (ag_fill (by omega) (ag_fill (by omega) ag_rfl)) nl) ⟨fun i hi => absurd hi (Nat.not_lt_zero _), fun x hx _ => ?_⟩ ⟨fun i hi => absurd hi (Nat.not_lt_zero _), fun x hx _ => ?_⟩ (fun h2 g2 => k h2 (ag_trans (ag_fill (by omega) (ag_fill (by omega) ag_rfl)) g2))
  · rw [fillC_out (by decide), fillC_in hx]
  · rw [fillC_in hx]
theorem C_cR_15 {D : Nat} {K : St → Prop} {p q i : Nat} {L : Nat → Nat → Int} (hi : i ≤ p) : ∀ (r c : Nat) (h : St), c + r = 2 ^ q → Pq h p q L → (∀ s, s < c → h 74 (i * 256 + s) = 0) → (∀ h2, ag (fun c k => ¬ (c = 74 ∧ i * 256 ≤ k)) h h2 → (∀ s, s < 2 ^ q → h2 74 (i * 256 + s) = 0) → wV D m_Pairing_clearReached 2 [(0, vR 59), (1, vI ((i : Int) + 1))] [] h2 K) → wV D m_Pairing_clearReached 15 [(0, vR 59), (1, vI i), (2, vI c)] [] h K := by
  intro r
  induction r with
  | zero =>
    intro c h hc a w k
    have h2 := p2le a.2.2.2.1
    have q8 := a.2.2.2.1
    refine s_Pairing_clearReached_15 _ _ h K ?_
    rw [a.2.1, shl_1 (by omega)]
    exact ⟨⟨by omega, by omega⟩, ⟨by omega, by omega⟩, fun _ => k h ag_rfl (fun s hs => w s (by omega)), fun y => by omega⟩
  | succ r ih =>
    intro c h hc a w k
    have h2 := p2le a.2.2.2.1
    have q8 := a.2.2.2.1
    have p8 := a.2.2.1
    refine s_Pairing_clearReached_15 _ _ h K ?_
    rw [a.2.1, shl_1 (by omega)]
    have e1 : ((i : Int) * 256 + (c : Int)).toNat = i * 256 + c := by omega
    rw [e1]
    refine ⟨⟨by omega, by omega⟩, ⟨by omega, by omega⟩, fun y => by omega, fun _ => ⟨⟨by omega, by omega⟩, ?_⟩⟩
    refine ih (c + 1) _ (by omega) (Pq_c (ag_up (by omega) ag_rfl) a) (fun s hs => ?_) (fun h2 g2 => k h2 (ag_trans (ag_up (by omega) ag_rfl) g2))
    by_cases e : s = c
    · subst e; rw [up_same]
    · rw [up_ne (by omega)]; exact w s (by omega)
theorem C_cR_2 {D : Nat} {K : St → Prop} {p q : Nat} {L : Nat → Nat → Int} : ∀ (r c : Nat) (h : St), c + r = p + 1 → Pq h p q L → (∀ i s, i < c → s < 2 ^ q → h 74 (i * 256 + s) = 0) → (∀ h2, ag (fun c _ => c ≠ 74) h h2 → (∀ i s, i ≤ p → s < 2 ^ q → h2 74 (i * 256 + s) = 0) → K h2) → wV D m_Pairing_clearReached 2 [(0, vR 59), (1, vI c)] [] h K := by
  intro r
  induction r with
  | zero =>
    intro c h hc a w k
    have a1 := a.1
    have p8 := a.2.2.1
    exact s_Pairing_clearReached_2 _ h K ⟨⟨by omega, by omega⟩, ⟨by omega, by omega⟩, fun _ => k h ag_rfl (fun i s hi hs => w i s (by omega) hs), fun y => by omega⟩
  | succ r ih =>
    intro c h hc a w k
    have a1 := a.1
    have p8 := a.2.2.1
    have h8 := p2le a.2.2.2.1
    refine s_Pairing_clearReached_2 _ h K ⟨⟨by omega, by omega⟩, ⟨by omega, by omega⟩, fun y => by omega, fun _ => ?_⟩
    refine C_cR_15 (by omega) (2 ^ q) 0 h (by omega) a (fun s hs => absurd hs (Nat.not_lt_zero _)) (fun h2 g2 w2 => ?_)
    refine ih (c + 1) h2 (by omega) (Pq_c (ag_sub (fun c k p => by omega) g2) a) (fun i s hi hs => ?_) (fun h3 g3 => k h3 (ag_trans (ag_sub (fun c k p => by omega) g2) g3))
    by_cases e : i = c
    · subst e; exact w2 s hs
    · rw [g2 74 _ (by omega)]; exact w i s (by omega) hs
theorem c_Pairing_clearReached {D : Nat} {h : St} {K : St → Prop} {p q : Nat} {L : Nat → Nat → Int} (a : Pq h p q L) (k : ∀ h2, ag (fun c _ => c ≠ 74) h h2 → (∀ i s, i ≤ p → s < 2 ^ q → h2 74 (i * 256 + s) = 0) → K h2) : mwpV (D + 1) m_Pairing_clearReached [vR 59] h K :=
  mV_intro b_Pairing_clearReached rfl (s_Pairing_clearReached_0 (d := D) h K (C_cR_2 (p + 1) 0 h (by omega) a (fun i s hi => absurd hi (Nat.not_lt_zero _)) k))
def CR (h : St) (q i ch : Nat) (QA QB : Nat → Prop) : Prop := ch < 2 ^ (q + 1) ∧ (∀ j, ch.testBit j = true ↔ QA j) ∧ ∀ s, s < 2 ^ q → h 74 ((i + 1) * 256 + s) = b2i (QB s)
theorem CR_g {h : St} {q i ch : Nat} {QA QB RA RB : Nat → Prop} (a : CR h q i ch QA QB) (h1 : ∀ j, QA j ↔ RA j) (h2 : ∀ s, QB s ↔ RB s) : CR h q i ch RA RB :=
  ⟨a.1, fun j => (a.2.1 j).trans (h1 j), fun s hs => (a.2.2 s hs).trans (b2i_congr (h2 s))⟩
def chA (p q : Nat) (L : Nat → Nat → Int) (i c x : Nat) : Prop := ∃ u, u < c ∧ Rc p q L i u ∧ kB p q L i u x
def chB (p q : Nat) (L : Nat → Nat → Int) (i c s : Nat) : Prop := ∃ u x, u < c ∧ Rc p q L i u ∧ kB p q L i u x ∧ uW q u x = s
theorem chA_n {p q : Nat} {L : Nat → Nat → Int} {i c x : Nat} (no : ¬ Rc p q L i c) : chA p q L i c x ↔ chA p q L i (c + 1) x := by
  constructor
  · rintro ⟨u, a, b⟩; exact ⟨u, by omega, b⟩
  · rintro ⟨u, a, b⟩
    by_cases e : u = c
    · subst e; exact absurd b.1 no
    · exact ⟨u, by omega, b⟩
theorem chB_n {p q : Nat} {L : Nat → Nat → Int} {i c x : Nat} (no : ¬ Rc p q L i c) : chB p q L i c x ↔ chB p q L i (c + 1) x := by
  constructor
  · rintro ⟨u, y, a, b⟩; exact ⟨u, y, by omega, b⟩
  · rintro ⟨u, y, a, b⟩
    by_cases e : u = c
    · subst e; exact absurd b.1 no
    · exact ⟨u, y, by omega, b⟩
theorem chA_y {p q : Nat} {L : Nat → Nat → Int} {i c x : Nat} (rc : Rc p q L i c) : (chA p q L i c x ∨ (x < q + 1 ∧ kB p q L i c x)) ↔ chA p q L i (c + 1) x := by
  constructor
  · rintro (⟨u, a, b⟩ | ⟨a, b⟩)
    · exact ⟨u, by omega, b⟩
    · exact ⟨c, by omega, rc, b⟩
  · rintro ⟨u, a, b⟩
    by_cases e : u = c
    · subst e; have := kB_q b.2; exact Or.inr ⟨by omega, b.2⟩
    · exact Or.inl ⟨u, by omega, b⟩
theorem chB_y {p q : Nat} {L : Nat → Nat → Int} {i c s : Nat} (rc : Rc p q L i c) : (chB p q L i c s ∨ ∃ x, x < q + 1 ∧ kB p q L i c x ∧ uW q c x = s) ↔ chB p q L i (c + 1) s := by
  constructor
  · rintro (⟨u, y, a, b⟩ | ⟨y, a, b⟩)
    · exact ⟨u, y, by omega, b⟩
    · exact ⟨c, y, by omega, rc, b⟩
  · rintro ⟨u, y, a, b⟩
    by_cases e : u = c
    · subst e; have := kB_q b.2.1; exact Or.inr ⟨y, by omega, b.2⟩
    · exact Or.inl ⟨u, y, by omega, b⟩
theorem C_cO_38 {D : Nat} {K : Int → St → Prop} {p q i c : Nat} {L : Nat → Nat → Int} (hi : i < p) (hc : c < 2 ^ q) (rc : Rc p q L i c) : ∀ (r j ch : Nat) (h : St), j + r = q + 1 → Pq h p q L → Bs h p q L 0 → CR h q i ch (fun x => chA p q L i c x ∨ (x < j ∧ kB p q L i c x)) (fun s => chB p q L i c s ∨ ∃ x, x < j ∧ kB p q L i c x ∧ uW q c x = s) → (∀ ch2 h2, ag (fun c k => ¬ (c = 74 ∧ (i + 1) * 256 ≤ k ∧ k < (i + 2) * 256)) h h2 → CR h2 q i ch2 (chA p q L i (c + 1)) (chB p q L i (c + 1)) → wI (D + 2) m_Pairing_choicesOf 4 [(0, vR 59), (1, vI i), (2, vI (ch2 : Nat)), (3, vI ((c : Int) + 1))] [] h2 K) → wI (D + 2) m_Pairing_choicesOf 38 [(0, vR 59), (1, vI i), (2, vI ch), (3, vI c), (4, vI j)] [] h K := by
  intro r
  induction r with
  | zero =>
    intro j ch h hj a b cr k
    have a2 := a.2.1
    have q8 := a.2.2.2.1
    have e : j = q + 1 := by omega
    subst e
    exact s_Pairing_choicesOf_38 _ _ _ _ h K ⟨⟨by omega, by omega⟩, ⟨by omega, by omega⟩, fun _ => k ch h ag_rfl (CR_g cr (fun x => chA_y rc) (fun s => chB_y rc)), fun y => by omega⟩
  | succ r ih =>
    intro j ch h hj a b cr k
    have a2 := a.2.1
    have q8 := a.2.2.2.1
    have p8 := a.2.2.1
    have h8 := p2le q8
    refine s_Pairing_choicesOf_38 _ _ _ _ h K ⟨⟨by omega, by omega⟩, ⟨by omega, by omega⟩, fun y => by omega, fun _ => ?_⟩
    refine c_Pairing_keepsBest a b hi hc (Rc_pb q8 _ _ rc) (by omega) ⟨b2i_R, fun z => ?_, fun z => ?_⟩
    · have no := b2i_eq0.mp z
      refine ih (j + 1) ch h (by omega) a b (CR_g cr (fun x => or_congr Iff.rfl ⟨fun y => ⟨by omega, y.2⟩, fun y => ⟨?_, y.2⟩⟩) (fun s => or_congr Iff.rfl ⟨fun ⟨x, y⟩ => ⟨x, by omega, y.2⟩, fun ⟨x, y⟩ => ⟨x, ?_, y.2⟩⟩)) k
      · by_cases e : x = j
        · subst e; exact absurd y.2 no
        · omega
      · by_cases e : x = j
        · subst e; exact absurd y.2.1 no
        · omega
    · have yes := b2i_ne0.mp z
      have ul := uW_lt (j := j) hc
      refine c_Pairing_usedWith a hc (by omega) ⟨⟨by omega, by omega⟩, ?_⟩
      have c9 : ch < 512 := Nat.lt_of_lt_of_le cr.1 (Nat.le_trans (Nat.pow_le_pow_right (by decide) (show q + 1 ≤ 9 by omega)) (by decide))
      have p2 : 2 ^ j < 512 := Nat.lt_of_lt_of_le (Nat.pow_lt_pow_right (by decide) (show j < 9 by omega)) (by decide)
      have e1 : (((i : Int) + 1) * 256 + ((uW q c j : Nat) : Int)).toNat = (i + 1) * 256 + uW q c j := by omega
      rw [e1, shl_1 (by omega), or3_nat (by omega) (by omega)]
      refine ih (j + 1) (ch ||| 2 ^ j) _ (by omega) (Pq_c (ag_up (by omega) ag_rfl) a) (Bs_c (ag_up (by omega) ag_rfl) b) ⟨Nat.or_lt_two_pow cr.1 (Nat.pow_lt_pow_right (by decide) (by omega)), fun x => ?_, fun s hs => ?_⟩ (fun ch2 h2 g2 => k ch2 h2 (ag_trans (ag_up (by omega) ag_rfl) g2))
      · rw [tb_or, cr.2.1 x]
        constructor
        · rintro ((y | y) | y)
          · exact Or.inl y
          · exact Or.inr ⟨by omega, y.2⟩
          · subst y; exact Or.inr ⟨by omega, yes⟩
        · rintro (y | y)
          · exact Or.inl (Or.inl y)
          · by_cases e : x = j
            · exact Or.inr e.symm
            · exact Or.inl (Or.inr ⟨by omega, y.2⟩)
      · by_cases e : s = uW q c j
        · rw [e, up_same]
          exact (b2i_t (Or.inr ⟨j, by omega, yes, rfl⟩)).symm
        · rw [up_ne (by omega), cr.2.2 s hs]
          refine b2i_congr (or_congr Iff.rfl ⟨fun ⟨x, y⟩ => ⟨x, by omega, y.2⟩, fun ⟨x, y⟩ => ⟨x, ?_, y.2⟩⟩)
          by_cases e2 : x = j
          · subst e2; exact absurd y.2.2.symm e
          · omega
theorem C_cO_4 {D : Nat} {K : Int → St → Prop} {p q i : Nat} {L : Nat → Nat → Int} (hi : i < p) : ∀ (r c ch : Nat) (h : St), c + r = 2 ^ q → Pq h p q L → Bs h p q L 0 → (∀ s, s < 2 ^ q → h 74 (i * 256 + s) = b2i (Rc p q L i s)) → CR h q i ch (chA p q L i c) (chB p q L i c) → (∀ (ch2 : Nat) h2, ag (fun c k => ¬ (c = 74 ∧ (i + 1) * 256 ≤ k ∧ k < (i + 2) * 256)) h h2 → CR h2 q i ch2 (chA p q L i (2 ^ q)) (chB p q L i (2 ^ q)) → K ch2 h2) → wI (D + 2) m_Pairing_choicesOf 4 [(0, vR 59), (1, vI i), (2, vI ch), (3, vI c)] [] h K := by
  intro r
  induction r with
  | zero =>
    intro c ch h hc a b rr cr k
    have h2 := p2le a.2.2.2.1
    have q8 := a.2.2.2.1
    have e : c = 2 ^ q := by omega
    refine s_Pairing_choicesOf_4 _ _ _ h K ?_
    rw [a.2.1, shl_1 (by omega)]
    refine ⟨⟨by omega, by omega⟩, ⟨by omega, by omega⟩, fun _ => k ch h ag_rfl (by rw [← e]; exact cr), fun y => by omega⟩
  | succ r ih =>
    intro c ch h hc a b rr cr k
    have h2 := p2le a.2.2.2.1
    have q8 := a.2.2.2.1
    have p8 := a.2.2.1
    refine s_Pairing_choicesOf_4 _ _ _ h K ?_
    have e1 : ((i : Int) * 256 + (c : Int)).toNat = i * 256 + c := by omega
    rw [a.2.1, shl_1 (by omega), e1, rr c (by omega)]
    refine ⟨⟨by omega, by omega⟩, ⟨by omega, by omega⟩, fun y => by omega, fun _ => ⟨⟨by omega, by omega⟩, b2i_R, fun z => ?_, fun z => ?_⟩⟩
    · have rc := b2i_ne0.mp z
      refine C_cO_38 hi (by omega) rc (q + 1) 0 ch h (by omega) a b (CR_g cr (fun x => ⟨Or.inl, fun y => y.elim id (fun y => absurd y.1 (Nat.not_lt_zero _))⟩) (fun s => ⟨Or.inl, fun y => y.elim id (fun ⟨x, y⟩ => absurd y.1 (Nat.not_lt_zero _))⟩)) (fun ch2 h2 g2 cr2 => ?_)
      refine ih (c + 1) ch2 h2 (by omega) (Pq_c (ag_sub (fun c k p => by omega) g2) a) (Bs_c (ag_sub (fun c k p => by omega) g2) b) (fun s hs => ?_) cr2 (fun ch3 h3 g3 => k ch3 h3 (ag_trans g2 g3))
      rw [g2 74 _ (by omega)]; exact rr s hs
    · have no : ¬ Rc p q L i c := fun y => z (b2i_ne0.mpr y)
      exact ih (c + 1) ch h (by omega) a b rr (CR_g cr (fun x => chA_n no) (fun s => chB_n no)) k
theorem c_Pairing_choicesOf {D : Nat} {h : St} {K : Int → St → Prop} {p q i : Nat} {L : Nat → Nat → Int} (hi : i < p) (a : Pq h p q L) (b : Bs h p q L 0) (rr : ∀ s, s < 2 ^ q → h 74 (i * 256 + s) = b2i (Rc p q L i s)) (r0 : ∀ s, s < 2 ^ q → h 74 ((i + 1) * 256 + s) = 0) (k : ∀ (ch : Nat) h2, ag (fun c k => ¬ (c = 74 ∧ (i + 1) * 256 ≤ k ∧ k < (i + 2) * 256)) h h2 → ch < 2 ^ (q + 1) → (∀ j, ch.testBit j = true ↔ ∃ u, Rc p q L i u ∧ kB p q L i u j) → (∀ s, s < 2 ^ q → h2 74 ((i + 1) * 256 + s) = b2i (Rc p q L (i + 1) s)) → K ch h2) : mwpI (D + 3) m_Pairing_choicesOf [vR 59, vI i] h K := by
  refine mI_intro b_Pairing_choicesOf rfl (s_Pairing_choicesOf_0 (d := D) _ h K ?_)
  refine C_cO_4 hi (2 ^ q) 0 0 h (by omega) a b rr ⟨Nat.two_pow_pos _, fun j => ?_, fun s hs => ?_⟩ (fun ch h2 g2 cr => k ch h2 g2 cr.1 (fun j => (cr.2.1 j).trans ⟨fun ⟨u, y⟩ => ⟨u, y.2⟩, fun ⟨u, y⟩ => ⟨u, Rc_lt _ _ y.1, y⟩⟩) (fun s hs => (cr.2.2 s hs).trans (b2i_congr ⟨fun ⟨u, x, y⟩ => ⟨u, x, y.2⟩, fun ⟨u, x, y⟩ => ⟨u, x, Rc_lt _ _ y.1, y⟩⟩)))
  · rw [Nat.zero_testBit]
    exact ⟨fun z => Bool.noConfusion z, fun ⟨u, z, _⟩ => absurd z (Nat.not_lt_zero _)⟩
  · rw [r0 s hs]
    exact (b2i_f (fun ⟨u, x, z, _⟩ => absurd z (Nat.not_lt_zero _))).symm
def sureP (p q : Nat) (L : Nat → Nat → Int) (i : Nat) : Prop := bC p q L i < q ∧ ∀ u j, Rc p q L i u → kB p q L i u j → j = bC p q L i
theorem sm_ge {f : Nat → Int} (h0 : ∀ i, 0 ≤ f i) {i : Nat} : ∀ n, i < n → f i ≤ sm f n
  | 0, q => absurd q (Nat.not_lt_zero _)
  | n + 1, q => by
    rw [sm_succ]
    have z := h0 n
    by_cases e : i = n
    · subst e
      have : 0 ≤ sm f i := by
        clear q z
        induction i with
        | zero => exact Int.le_refl _
        | succ i ih => rw [sm_succ]; have := h0 i; omega
      omega
    · have := sm_ge h0 (i := i) n (by omega); omega
theorem pb_one {a x y : Nat} (h1 : pb 32 a = 1) (hx : a.testBit x = true) (hy : a.testBit y = true) (x3 : x < 32) (y3 : y < 32) : x = y := by
  by_cases e : x = y
  · exact e
  · exfalso
    have e1 := pb_sm 32 a
    have e2 : sm (fun k => b2i (a.testBit k = true ∧ k ≠ x)) 32 = sm (fun k => b2i (a.testBit k = true)) 32 + (b2i (a.testBit x = true ∧ x ≠ x) - b2i (a.testBit x = true)) := sm_set 32 x3 (fun k _ ne => b2i_congr ⟨fun z => z.1, fun z => ⟨z, ne⟩⟩)
    rw [b2i_f (fun z => z.2 rfl), b2i_t hx] at e2
    have e3 : b2i (a.testBit y = true ∧ y ≠ x) ≤ sm (fun k => b2i (a.testBit k = true ∧ k ≠ x)) 32 := sm_ge (f := fun k => b2i (a.testBit k = true ∧ k ≠ x)) (fun i => b2i_B.1) 32 y3
    rw [b2i_t ⟨hy, fun z => e z.symm⟩] at e3
    omega
theorem sure_b {p q : Nat} {L : Nat → Nat → Int} {i ch : Nat} (hi : i < p) (hq : q ≤ 8) (hc : ∀ j, ch.testBit j = true ↔ ∃ u, Rc p q L i u ∧ kB p q L i u j) : (¬ ch.testBit q = true ∧ pb 32 ch = 1) ↔ sureP p q L i := by
  have t := (hc (bC p q L i)).mpr ⟨_, uS_r i (by omega), bC_k hi⟩
  have bl := bC_le (p := p) (q := q) (L := L) (i := i)
  constructor
  · rintro ⟨n1, n2⟩
    refine ⟨?_, fun u j r k => ?_⟩
    · by_cases e : bC p q L i = q
      · rw [e] at t; exact absurd t n1
      · omega
    · have := kB_q k
      exact pb_one n2 ((hc j).mpr ⟨u, r, k⟩) t (by omega) (by omega)
  · rintro ⟨n1, n2⟩
    refine ⟨fun z => ?_, ?_⟩
    · obtain ⟨u, r, k⟩ := (hc q).mp z
      have := n2 u q r k; omega
    · have e1 := pb_sm 32 ch
      have e2 : sm (fun k => b2i (ch.testBit k = true)) 32 = 1 := sm_one (i := bC p q L i) (by omega) (b2i_t t) (fun j _ ne => b2i_f (fun z => by
        obtain ⟨u, r, k⟩ := (hc j).mp z
        exact ne (n2 u j r k)))
      omega
def surA (h : St) (p q : Nat) (L : Nat → Nat → Int) (N1 : Nat → Nat) (c : Nat) : Prop := ∃ sr : Nat, h 59 7 = (sr : Int) ∧ sr < 2 ^ 12 ∧ ∀ b, sr.testBit b = true ↔ ∃ i, i < c ∧ N1 i = b ∧ sureP p q L i
theorem C_fS {D : Nat} {K : St → Prop} {p q : Nat} {L : Nat → Nat → Int} {N1 N2 : Nat → Nat} : ∀ (r c : Nat) (h : St), c + r = p → Pq h p q L → Bs h p q L 0 → NL h p q N1 N2 → (∀ s, s < 2 ^ q → h 74 (c * 256 + s) = b2i (Rc p q L c s)) → (∀ i s, c < i → i ≤ p → s < 2 ^ q → h 74 (i * 256 + s) = 0) → surA h p q L N1 c → (∀ h2, ag (fun c k => c ≠ 74 ∧ ¬ (c = 59 ∧ k = 7)) h h2 → surA h2 p q L N1 p → K h2) → wV (D + 3) m_Pairing_findSure 18 [(0, vR 59), (1, vI c)] [] h K := by
  intro r
  induction r with
  | zero =>
    intro c h hc a b nl r1 r2 su k
    have a1 := a.1
    have p8 := a.2.2.1
    have e : c = p := by omega
    subst e
    exact s_Pairing_findSure_18 _ h K ⟨⟨by omega, by omega⟩, ⟨by omega, by omega⟩, fun _ => k h ag_rfl su, fun y => by omega⟩
  | succ r ih =>
    intro c h hc a b nl r1 r2 su k
    have a1 := a.1
    have p8 := a.2.2.1
    have q8 := a.2.2.2.1
    have h8 := p2le q8
    refine s_Pairing_findSure_18 _ h K ⟨⟨by omega, by omega⟩, ⟨by omega, by omega⟩, fun y => by omega, fun _ => ?_⟩
    refine c_Pairing_choicesOf (by omega) a b r1 (fun s hs => r2 (c + 1) s (by omega) (by omega) hs) (fun ch h2 g2 c1 c2 c3 => ?_)
    have c9 : ch < 512 := Nat.lt_of_lt_of_le c1 (Nat.le_trans (Nat.pow_le_pow_right (by decide) (show q + 1 ≤ 9 by omega)) (by decide))
    have aa := Pq_c (ag_sub (fun c k p => by omega) g2) a
    have bb := Bs_c (ag_sub (fun c k p => by omega) g2) b
    have nn := NL_c (ag_sub (fun c k p => by omega) g2) nl
    have rr2 : ∀ i s, c + 1 < i → i ≤ p → s < 2 ^ q → h2 74 (i * 256 + s) = 0 := fun i s x1 x2 x3 => by rw [g2 74 _ (by omega)]; exact r2 i s (by omega) x2 x3
    have sb := sure_b (q := q) (L := L) (show c < p by omega) q8 c2
    have su2 : surA h2 p q L N1 c := by
      obtain ⟨sr, s1, s2⟩ := su
      exact ⟨sr, by rw [g2 59 7 (by omega)]; exact s1, s2⟩
    have no : ¬ sureP p q L c → wV (D + 3) m_Pairing_findSure 18 [(0, vR 59), (1, vI ((c : Int) + 1))] [] h2 K := fun z => by
      refine ih (c + 1) h2 (by omega) aa bb nn c3 rr2 ?_ (fun h3 g3 => k h3 (ag_trans (ag_sub (fun c k p => by omega) g2) g3))
      obtain ⟨sr, s1, s2, s3⟩ := su2
      refine ⟨sr, s1, s2, fun x => (s3 x).trans ⟨fun ⟨i, y⟩ => ⟨i, by omega, y.2⟩, fun ⟨i, y⟩ => ⟨i, ?_, y.2⟩⟩⟩
      by_cases e : i = c
      · subst e; exact absurd y.2.2 z
      · omega
    rw [aa.2.1, has_nat (by omega) (by omega)]
    have pl := pb_le 32 ch
    refine ⟨b2i_R, fun z => no (fun y => (sb.mpr y).1 (b2i_ne0.mp z)), fun z => c_JI_bitCount (by omega) ⟨⟨by omega, by omega⟩, fun y => no (fun w => y (by have := (sb.mpr w).2; omega)), fun y => ⟨⟨by omega, by omega⟩, ?_⟩⟩⟩
    have yes : sureP p q L c := sb.mp ⟨fun w => z (b2i_ne0.mpr w), by omega⟩
    obtain ⟨sr, s1, s2, s3⟩ := su2
    obtain ⟨n1, n2⟩ := nn.1 c (by omega)
    have p2 : 2 ^ N1 c < 2 ^ 12 := Nat.pow_lt_pow_right (by decide) n2
    have e1 : h2 61 ((c : Nat) : Int).toNat = (N1 c : Int) := n1
    rw [e1, s1, shl_1 (by omega), or3_nat (by omega) (by omega)]
    refine ih (c + 1) _ (by omega) (Pq_c (ag_up (by omega) ag_rfl) aa) (Bs_c (ag_up (by omega) ag_rfl) bb) (NL_c (ag_up (by omega) ag_rfl) nn) (fun s hs => by rw [up_ne (by omega)]; exact c3 s hs) (fun i s x1 x2 x3 => by rw [up_ne (by omega)]; exact rr2 i s x1 x2 x3) ⟨sr ||| 2 ^ N1 c, up_same _ _ _ _, Nat.or_lt_two_pow s2 p2, fun x => ?_⟩ (fun h3 g3 => k h3 (ag_trans (ag_sub (fun c k p => by omega) g2) (ag_trans (ag_up (by omega) ag_rfl) g3)))
    rw [tb_or, s3 x]
    constructor
    · rintro (⟨i, y⟩ | y)
      · exact ⟨i, by omega, y.2⟩
      · exact ⟨c, by omega, y, yes⟩
    · rintro ⟨i, y1, y2, y3⟩
      by_cases e : i = c
      · subst e; exact Or.inr y2
      · exact Or.inl ⟨i, by omega, y2, y3⟩
theorem c_Pairing_findSure {D : Nat} {h : St} {K : St → Prop} {p q : Nat} {L : Nat → Nat → Int} {N1 N2 : Nat → Nat} (a : Pq h p q L) (b : Bs h p q L 0) (nl : NL h p q N1 N2) (k : ∀ h2, ag (fun c k => c ≠ 74 ∧ ¬ (c = 59 ∧ k = 7)) h h2 → surA h2 p q L N1 p → K h2) : mwpV (D + 4) m_Pairing_findSure [vR 59] h K := by
  refine mV_intro b_Pairing_findSure rfl (s_Pairing_findSure_0 (d := D) h K (c_Pairing_clearReached (Pq_c (ag_up (by omega) ag_rfl) a) (fun h2 g2 w => ?_)))
  have h8 := p2le a.2.2.2.1
  have g9 : ag (fun c k => c ≠ 74 ∧ ¬ (c = 59 ∧ k = 7)) h (up h2 74 0 1) := ag_up (by omega) (ag_trans (ag_up (by omega) ag_rfl) (ag_sub (fun c k p => by omega) g2))
  refine C_fS p 0 _ (by omega) (Pq_c (ag_sub (fun c k p => by omega) g9) a) (Bs_c (ag_sub (fun c k p => by omega) g9) b) (NL_c (ag_sub (fun c k p => by omega) g9) nl) (fun s hs => ?_) (fun i s x1 x2 x3 => by rw [up_ne (by omega)]; exact w i s x2 x3) ⟨0, by rw [up_ne (by omega), g2 59 7 (by omega), up_same]; rfl, by decide, fun x => ?_⟩ (fun h3 g3 => k h3 (ag_trans g9 g3))
  · by_cases e : s = 0
    · subst e
      rw [show 0 * 256 + 0 = 0 from rfl, up_same]
      exact (b2i_t (show Rc p q L 0 0 from rfl)).symm
    · rw [up_ne (by omega), w 0 s (by omega) hs]
      exact (b2i_f (fun z => e z)).symm
  · rw [Nat.zero_testBit]
    exact ⟨fun z => Bool.noConfusion z, fun ⟨u, z, _⟩ => absurd z (Nat.not_lt_zero _)⟩
