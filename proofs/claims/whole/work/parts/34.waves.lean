theorem s_M_has_0 {d : Nat}  (x0 x1 : Int) (h : St) (K : Int → St → Prop) (F : (((inR (and3 (shr3 x0 x1) 1)))) ∧ (K (b2i (¬ ((and3 (shr3 x0 x1) 1) ≠ 1))) h)) : wI d m_M_has 0 [(0, vI x0), (1, vI x1)] [] h K := by
  refine w_iload_n rfl rfl ?_
  refine w_iload_n rfl rfl ?_
  refine w_ishr rfl ?_
  refine w_iconst rfl ?_
  refine w_iand rfl ?_
  refine w_iconst rfl ?_
  obtain ⟨G, F⟩ := F
  have J : ∀ (t3 : Int), t3 = b2i (¬ ((and3 (shr3 x0 x1) 1) ≠ 1)) → wI d m_M_has 14 [(0, vI x0), (1, vI x1)] [vI t3] h K := by
    intro t3 et3
    subst et3
    exact w_zret rfl rfl b2i_01 ⟨rfl, rfl, _, rfl, F⟩
  have b1 := G
  refine w_icmp_ne (tgt := 13) rfl (by decide) ⟨b1, (r_lit rfl)⟩ (fun q2 => ?_) (fun q2 => ?_)
  · refine w_iconst rfl ?_
    exact J _ (b2i_f (fun z => z q2)).symm
  · refine w_iconst rfl ?_
    refine w_goto (tgt := 14) rfl (by decide) ?_
    exact J _ (b2i_t q2).symm
theorem s_M_many_0 {d : Nat}  (x0 : Int) (h : St) (K : Int → St → Prop) (F : (wI (d + 1) m_M_many 4 [(0, vI x0), (1, vI 0), (2, vI 0)] [] h K)) : wI (d + 1) m_M_many 0 [(0, vI x0)] [] h K := by
  refine w_iconst rfl ?_
  refine w_istore_n rfl rfl rfl rfl (w_ls (ls2 := [(0, vI x0), (1, vI 0)]) rfl ?_)
  refine w_iconst rfl ?_
  refine w_istore_n rfl rfl rfl rfl (w_ls (ls2 := [(0, vI x0), (1, vI 0), (2, vI 0)]) rfl ?_)
  exact F
theorem s_M_many_4 {d : Nat}  (x0 x1 x2 : Int) (h : St) (K : Int → St → Prop) (F : (inR x2) ∧ ((12 ≤ x2 → (K x1 h)) ∧ (¬ (12 ≤ x2) → (mwpI (d + 1) m_M_has [vI x0, vI x2] h (fun z3 h3 => (((inR z3))) ∧ (wI (d + 1) m_M_many 4 [(0, vI x0), (1, vI (x1 + (b2i (¬ (z3 = 0))))), (2, vI (x2 + 1))] [] h3 K)))))) : wI (d + 1) m_M_many 4 [(0, vI x0), (1, vI x1), (2, vI x2)] [] h K := by
  refine w_iload_n rfl rfl ?_
  refine w_bipush (by decide) (by decide) rfl ?_
  obtain ⟨b1, F⟩ := F
  refine w_icmp_ge (tgt := 32) rfl (by decide) ⟨b1, (r_lit rfl)⟩ (fun q2 => ?_) (fun q2 => ?_)
  · replace F := F.1 q2
    refine w_iload_n rfl rfl ?_
    exact w_iret rfl rfl ⟨rfl, rfl, _, rfl, F⟩
  · replace F := F.2 q2
    refine w_iload_n rfl rfl ?_
    refine w_iload_n rfl rfl ?_
    refine w_iload_n rfl rfl ?_
    refine c_SI [vI x0, vI x2] [vI x1] rfl b_M_has k_M_124 rfl rfl rfl (mwpI_mono (fun z3 h3 F => ?_) F)
    obtain ⟨G, F⟩ := F
    have J : ∀ (t6 : Int), t6 = b2i (¬ (z3 = 0)) → wI (d + 1) m_M_many 24 [(0, vI x0), (1, vI x1), (2, vI x2)] [vI t6, vI x1] h3 K := by
      intro t6 et6
      subst et6
      refine w_iadd rfl ?_
      refine w_istore_n rfl rfl rfl rfl (w_ls (ls2 := [(0, vI x0), (1, vI (x1 + (b2i (¬ (z3 = 0))))), (2, vI x2)]) rfl ?_)
      refine w_iinc rfl rfl rfl rfl rfl (w_ls (ls2 := [(0, vI x0), (1, vI (x1 + (b2i (¬ (z3 = 0))))), (2, vI (x2 + 1))]) rfl ?_)
      refine w_goto (tgt := 4) rfl (by decide) ?_
      exact F
    have b4 := G
    refine w_if_eq (tgt := 23) rfl (by decide) b4 (fun q5 => ?_) (fun q5 => ?_)
    · refine w_iconst rfl ?_
      exact J _ (b2i_f (fun z => z q5)).symm
    · refine w_iconst rfl ?_
      refine w_goto (tgt := 24) rfl (by decide) ?_
      exact J _ (b2i_t q5).symm
theorem s_Links_gather_0 {d : Nat}  (x2 x3 : Int) (h : St) (K : St → Prop) (F : (mwpV (d + 1) m_JA_fill [vR 104, vI 0] (up h 103 0 0) (fun h1 => (wV (d + 1) m_Links_gather 16 [(0, vR 103), (1, vR 1), (2, vI x2), (3, vI x3), (4, vI 0)] [] h1 K)))) : wV (d + 1) m_Links_gather 0 [(0, vR 103), (1, vR 1), (2, vI x2), (3, vI x3)] [] h K := by
  refine w_aload_n rfl rfl ?_
  refine w_iconst rfl ?_
  refine w_putI rfl f_Links_9 fw_3_0 rfl rfl rfl ?_
  refine w_aload_n rfl rfl ?_
  refine w_getR rfl f_Links_15 rfl rfl rfl rfl rfl ?_
  refine w_iconst rfl ?_
  refine c_SV [vR 104, vI 0] [] rfl b_JA_fill k_Links_19 rfl rfl rfl (mwpV_mono (fun h1 F => ?_) F)
  refine w_iconst rfl ?_
  refine w_istore rfl rfl rfl rfl (w_ls (ls2 := [(0, vR 103), (1, vR 1), (2, vI x2), (3, vI x3), (4, vI 0)]) rfl ?_)
  exact F
theorem s_Links_gather_16 {d : Nat}  (x2 x3 x4 : Int) (h : St) (K : St → Prop) (F : (inR x4) ∧ (inR (h 1 6)) ∧ (((h 1 6) ≤ x4 → (K h)) ∧ (¬ ((h 1 6) ≤ x4) → (mwpI (d + 1) m_CallLog_isOn [vR 1, vI x4, vI x2, vI x3] h (fun z4 h4 => (inR z4) ∧ ((z4 = 0 → (wV (d + 1) m_Links_gather 16 [(0, vR 103), (1, vR 1), (2, vI x2), (3, vI x3), (4, vI (x4 + 1))] [] h4 K)) ∧ (¬ (z4 = 0) → (0 ≤ x4 ∧ x4 < 60) ∧ (0 ≤ ((h4 2 x4.toNat) * 12) + (h4 3 x4.toNat) ∧ ((h4 2 x4.toNat) * 12) + (h4 3 x4.toNat) < 144) ∧ (((inR (h4 104 ((((h4 2 x4.toNat) * 12) + (h4 3 x4.toNat)).toNat))))) ∧ (wV (d + 1) m_Links_gather 16 [(0, vR 103), (1, vR 1), (2, vI x2), (3, vI x3), (4, vI (x4 + 1))] [] (up (up h4 103 0 ((h4 103 0) + (b2i (¬ ((h4 104 ((((h4 2 x4.toNat) * 12) + (h4 3 x4.toNat)).toNat)) ≠ 0))))) 104 ((((h4 2 x4.toNat) * 12) + (h4 3 x4.toNat)).toNat) (or3 (h4 104 ((((h4 2 x4.toNat) * 12) + (h4 3 x4.toNat)).toNat)) (shl3 1 (h4 6 x4.toNat)))) K)))))))) : wV (d + 1) m_Links_gather 16 [(0, vR 103), (1, vR 1), (2, vI x2), (3, vI x3), (4, vI x4)] [] h K := by
  refine w_iload rfl rfl ?_
  refine w_aload_n rfl rfl ?_
  refine w_getI rfl f_Links_25 rfl rfl rfl ?_
  obtain ⟨b1, F⟩ := F
  obtain ⟨b2, F⟩ := F
  refine w_icmp_ge (tgt := 105) rfl (by decide) ⟨b1, b2⟩ (fun q3 => ?_) (fun q3 => ?_)
  · replace F := F.1 q3
    exact w_vret rfl rfl ⟨rfl, rfl, rfl, F⟩
  · replace F := F.2 q3
    refine w_aload_n rfl rfl ?_
    refine w_iload rfl rfl ?_
    refine w_iload_n rfl rfl ?_
    refine w_iload_n rfl rfl ?_
    refine c_VI [vI x4, vI x2, vI x3] [] rfl b_CallLog_isOn k_Links_28 rfl rfl rfl rfl rfl rfl (mwpI_mono (fun z4 h4 F => ?_) F)
    obtain ⟨b5, F⟩ := F
    refine w_if_eq (tgt := 99) rfl (by decide) b5 (fun q6 => ?_) (fun q6 => ?_)
    · replace F := F.1 q6
      refine w_iinc rfl rfl rfl rfl rfl (w_ls (ls2 := [(0, vR 103), (1, vR 1), (2, vI x2), (3, vI x3), (4, vI (x4 + 1))]) rfl ?_)
      refine w_goto (tgt := 16) rfl (by decide) ?_
      exact F
    · replace F := F.2 q6
      refine w_aload_n rfl rfl ?_
      refine w_getR rfl f_Links_32 rfl rfl rfl rfl rfl ?_
      refine w_iload rfl rfl ?_
      obtain ⟨b7, F⟩ := F
      refine w_iaload rfl rfl rfl b7 ?_
      refine w_bipush (by decide) (by decide) rfl ?_
      refine w_imul rfl ?_
      refine w_aload_n rfl rfl ?_
      refine w_getR rfl f_Links_35 rfl rfl rfl rfl rfl ?_
      refine w_iload rfl rfl ?_
      refine w_iaload rfl rfl rfl b7 ?_
      refine w_iadd rfl ?_
      refine w_istore rfl rfl rfl rfl (w_ls (ls2 := [(0, vR 103), (1, vR 1), (2, vI x2), (3, vI x3), (4, vI x4), (5, vI (((h4 2 x4.toNat) * 12) + (h4 3 x4.toNat)))]) rfl ?_)
      refine w_aload_n rfl rfl ?_
      refine w_dup rfl rfl ?_
      refine w_getI rfl f_Links_9 rfl rfl rfl ?_
      refine w_aload_n rfl rfl ?_
      refine w_getR rfl f_Links_15 rfl rfl rfl rfl rfl ?_
      refine w_iload rfl rfl ?_
      obtain ⟨b8, F⟩ := F
      refine w_iaload rfl rfl rfl b8 ?_
      obtain ⟨G, F⟩ := F
      have J : ∀ (t11 : Int), t11 = b2i (¬ ((h4 104 ((((h4 2 x4.toNat) * 12) + (h4 3 x4.toNat)).toNat)) ≠ 0)) → wV (d + 1) m_Links_gather 76 [(0, vR 103), (1, vR 1), (2, vI x2), (3, vI x3), (4, vI x4), (5, vI (((h4 2 x4.toNat) * 12) + (h4 3 x4.toNat)))] [vI t11, vI (h4 103 0), vR 103] h4 K := by
        intro t11 et11
        subst et11
        refine w_iadd rfl ?_
        refine w_putI rfl f_Links_9 fw_3_0 rfl rfl rfl ?_
        refine w_aload_n rfl rfl ?_
        refine w_getR rfl f_Links_15 rfl rfl rfl rfl rfl ?_
        refine w_iload rfl rfl ?_
        refine w_dup2 rfl rfl rfl ?_
        refine w_iaload rfl rfl rfl b8 ?_
        refine w_iconst rfl ?_
        refine w_aload_n rfl rfl ?_
        refine w_getR rfl f_Links_38 rfl rfl rfl rfl rfl ?_
        refine w_iload rfl rfl ?_
        refine w_iaload rfl rfl rfl b7 ?_
        refine w_ishl rfl ?_
        refine w_ior rfl ?_
        refine w_iastore rfl rfl rfl b8 ?_
        refine w_iinc rfl rfl rfl rfl rfl (w_ls (ls2 := [(0, vR 103), (1, vR 1), (2, vI x2), (3, vI x3), (4, vI (x4 + 1)), (5, vI (((h4 2 x4.toNat) * 12) + (h4 3 x4.toNat)))]) rfl ?_)
        refine w_goto (tgt := 16) rfl (by decide) ?_
        exact w_kp [0, 1, 2, 3, 4] F
      have b9 := G
      refine w_if_ne (tgt := 75) rfl (by decide) b9 (fun q10 => ?_) (fun q10 => ?_)
      · refine w_iconst rfl ?_
        exact J _ (b2i_f (fun z => z q10)).symm
      · refine w_iconst rfl ?_
        refine w_goto (tgt := 76) rfl (by decide) ?_
        exact J _ (b2i_t q10).symm
theorem s_Links_reachedBy_0 {d : Nat}  (x1 : Int) (h : St) (K : Int → St → Prop) (F : (wI d m_Links_reachedBy 4 [(0, vR 103), (1, vI x1), (2, vI 0), (3, vI 0)] [] h K)) : wI d m_Links_reachedBy 0 [(0, vR 103), (1, vI x1)] [] h K := by
  refine w_iconst rfl ?_
  refine w_istore_n rfl rfl rfl rfl (w_ls (ls2 := [(0, vR 103), (1, vI x1), (2, vI 0)]) rfl ?_)
  refine w_iconst rfl ?_
  refine w_istore_n rfl rfl rfl rfl (w_ls (ls2 := [(0, vR 103), (1, vI x1), (2, vI 0), (3, vI 0)]) rfl ?_)
  exact F
theorem s_Links_reachedBy_4 {d : Nat}  (x1 x2 x3 : Int) (h : St) (K : Int → St → Prop) (F : (inR x3) ∧ ((144 ≤ x3 → (K x2 h)) ∧ (¬ (144 ≤ x3) → (0 ≤ x3 ∧ x3 < 144) ∧ (((inR (and3 (h 104 x3.toNat) x1)))) ∧ (wI d m_Links_reachedBy 4 [(0, vR 103), (1, vI x1), (2, vI (x2 + (b2i (¬ ((and3 (h 104 x3.toNat) x1) = 0))))), (3, vI (x3 + 1))] [] h K)))) : wI d m_Links_reachedBy 4 [(0, vR 103), (1, vI x1), (2, vI x2), (3, vI x3)] [] h K := by
  refine w_iload_n rfl rfl ?_
  refine w_aload_n rfl rfl ?_
  refine w_getR rfl f_Links_15 rfl rfl rfl rfl rfl ?_
  refine w_alen (t0 := 0) rfl rfl (fun _ => rfl) rfl ?_
  obtain ⟨b1, F⟩ := F
  refine w_icmp_ge (tgt := 38) rfl (by decide) ⟨b1, (r_lit rfl)⟩ (fun q2 => ?_) (fun q2 => ?_)
  · replace F := F.1 q2
    refine w_iload_n rfl rfl ?_
    exact w_iret rfl rfl ⟨rfl, rfl, _, rfl, F⟩
  · replace F := F.2 q2
    refine w_iload_n rfl rfl ?_
    refine w_aload_n rfl rfl ?_
    refine w_getR rfl f_Links_15 rfl rfl rfl rfl rfl ?_
    refine w_iload_n rfl rfl ?_
    obtain ⟨b3, F⟩ := F
    refine w_iaload rfl rfl rfl b3 ?_
    refine w_iload_n rfl rfl ?_
    refine w_iand rfl ?_
    obtain ⟨G, F⟩ := F
    have J : ∀ (t6 : Int), t6 = b2i (¬ ((and3 (h 104 x3.toNat) x1) = 0)) → wI d m_Links_reachedBy 30 [(0, vR 103), (1, vI x1), (2, vI x2), (3, vI x3)] [vI t6, vI x2] h K := by
      intro t6 et6
      subst et6
      refine w_iadd rfl ?_
      refine w_istore_n rfl rfl rfl rfl (w_ls (ls2 := [(0, vR 103), (1, vI x1), (2, vI (x2 + (b2i (¬ ((and3 (h 104 x3.toNat) x1) = 0))))), (3, vI x3)]) rfl ?_)
      refine w_iinc rfl rfl rfl rfl rfl (w_ls (ls2 := [(0, vR 103), (1, vI x1), (2, vI (x2 + (b2i (¬ ((and3 (h 104 x3.toNat) x1) = 0))))), (3, vI (x3 + 1))]) rfl ?_)
      refine w_goto (tgt := 4) rfl (by decide) ?_
      exact F
    have b4 := G
    refine w_if_eq (tgt := 29) rfl (by decide) b4 (fun q5 => ?_) (fun q5 => ?_)
    · refine w_iconst rfl ?_
      exact J _ (b2i_f (fun z => z q5)).symm
    · refine w_iconst rfl ?_
      refine w_goto (tgt := 30) rfl (by decide) ?_
      exact J _ (b2i_t q5).symm
theorem s_Links_bestWaves_0 {d : Nat}  (x1 : Int) (h : St) (K : Int → St → Prop) (F : (wI (d + 1) m_Links_bestWaves 7 [(0, vR 103), (1, vI x1), (2, vI 0), (3, vI ((-1))), (4, vI 0)] [] h K)) : wI (d + 1) m_Links_bestWaves 0 [(0, vR 103), (1, vI x1)] [] h K := by
  refine w_iconst rfl ?_
  refine w_istore_n rfl rfl rfl rfl (w_ls (ls2 := [(0, vR 103), (1, vI x1), (2, vI 0)]) rfl ?_)
  refine w_iconst rfl ?_
  refine w_istore_n rfl rfl rfl rfl (w_ls (ls2 := [(0, vR 103), (1, vI x1), (2, vI 0), (3, vI ((-1)))]) rfl ?_)
  refine w_iconst rfl ?_
  refine w_istore rfl rfl rfl rfl (w_ls (ls2 := [(0, vR 103), (1, vI x1), (2, vI 0), (3, vI ((-1))), (4, vI 0)]) rfl ?_)
  exact F
theorem s_Links_bestWaves_7 {d : Nat}  (x1 x2 x3 x4 : Int) (h : St) (K : Int → St → Prop) (F : (inR x4) ∧ ((256 ≤ x4 → (K x2 h)) ∧ (¬ (256 ≤ x4) → (mwpI (d + 1) m_JI_bitCount [vI x4] h (fun z3 h3 => (inR z3) ∧ (inR x1) ∧ ((z3 ≠ x1 → (wI (d + 1) m_Links_bestWaves 7 [(0, vR 103), (1, vI x1), (2, vI x2), (3, vI x3), (4, vI (x4 + 1))] [] h3 K)) ∧ (¬ (z3 ≠ x1) → (mwpI (d + 1) m_Links_reachedBy [vR 103, vI x4] h3 (fun z7 h7 => (inR z7) ∧ (inR x3) ∧ ((z7 ≤ x3 → (wI (d + 1) m_Links_bestWaves 7 [(0, vR 103), (1, vI x1), (2, vI x2), (3, vI x3), (4, vI (x4 + 1))] [] h7 K)) ∧ (¬ (z7 ≤ x3) → (wI (d + 1) m_Links_bestWaves 7 [(0, vR 103), (1, vI x1), (2, vI x4), (3, vI z7), (4, vI (x4 + 1))] [] h7 K)))))))))))) : wI (d + 1) m_Links_bestWaves 7 [(0, vR 103), (1, vI x1), (2, vI x2), (3, vI x3), (4, vI x4)] [] h K := by
  refine w_iload rfl rfl ?_
  refine w_sipush (by decide) (by decide) rfl ?_
  obtain ⟨b1, F⟩ := F
  refine w_icmp_ge (tgt := 50) rfl (by decide) ⟨b1, (r_lit rfl)⟩ (fun q2 => ?_) (fun q2 => ?_)
  · replace F := F.1 q2
    refine w_iload_n rfl rfl ?_
    exact w_iret rfl rfl ⟨rfl, rfl, _, rfl, F⟩
  · replace F := F.2 q2
    refine w_iload rfl rfl ?_
    refine c_SI [vI x4] [] rfl b_JI_bitCount k_Links_41 rfl rfl rfl (mwpI_mono (fun z3 h3 F => ?_) F)
    refine w_iload_n rfl rfl ?_
    obtain ⟨b4, F⟩ := F
    obtain ⟨b5, F⟩ := F
    refine w_icmp_ne (tgt := 44) rfl (by decide) ⟨b4, b5⟩ (fun q6 => ?_) (fun q6 => ?_)
    · replace F := F.1 q6
      refine w_iinc rfl rfl rfl rfl rfl (w_ls (ls2 := [(0, vR 103), (1, vI x1), (2, vI x2), (3, vI x3), (4, vI (x4 + 1))]) rfl ?_)
      refine w_goto (tgt := 7) rfl (by decide) ?_
      exact F
    · replace F := F.2 q6
      refine w_aload_n rfl rfl ?_
      refine w_iload rfl rfl ?_
      refine c_VI [vI x4] [] rfl b_Links_reachedBy k_Links_47 rfl rfl rfl rfl rfl rfl (mwpI_mono (fun z7 h7 F => ?_) F)
      refine w_istore rfl rfl rfl rfl (w_ls (ls2 := [(0, vR 103), (1, vI x1), (2, vI x2), (3, vI x3), (4, vI x4), (5, vI z7)]) rfl ?_)
      refine w_iload rfl rfl ?_
      refine w_iload_n rfl rfl ?_
      obtain ⟨b8, F⟩ := F
      obtain ⟨b9, F⟩ := F
      refine w_icmp_le (tgt := 44) rfl (by decide) ⟨b8, b9⟩ (fun q10 => ?_) (fun q10 => ?_)
      · replace F := F.1 q10
        refine w_iinc rfl rfl rfl rfl rfl (w_ls (ls2 := [(0, vR 103), (1, vI x1), (2, vI x2), (3, vI x3), (4, vI (x4 + 1)), (5, vI z7)]) rfl ?_)
        refine w_goto (tgt := 7) rfl (by decide) ?_
        exact w_kp [0, 1, 2, 3, 4] F
      · replace F := F.2 q10
        refine w_iload rfl rfl ?_
        refine w_istore_n rfl rfl rfl rfl (w_ls (ls2 := [(0, vR 103), (1, vI x1), (2, vI x2), (3, vI z7), (4, vI x4), (5, vI z7)]) rfl ?_)
        refine w_iload rfl rfl ?_
        refine w_istore_n rfl rfl rfl rfl (w_ls (ls2 := [(0, vR 103), (1, vI x1), (2, vI x4), (3, vI z7), (4, vI x4), (5, vI z7)]) rfl ?_)
        refine w_iinc rfl rfl rfl rfl rfl (w_ls (ls2 := [(0, vR 103), (1, vI x1), (2, vI x4), (3, vI z7), (4, vI (x4 + 1)), (5, vI z7)]) rfl ?_)
        refine w_goto (tgt := 7) rfl (by decide) ?_
        exact w_kp [0, 1, 2, 3, 4] F
theorem s_C_waves_0 {d : Nat}  (x1 x2 x3 x4 : Int) (h : St) (K : Int → St → Prop) (F : (inR x1) ∧ ((¬ (1 ≤ x1 ∧ x1 ≤ 8) → (K ((-1)) h)) ∧ (1 ≤ x1 ∧ x1 ≤ 8 → (inR x2) ∧ (inR x3) ∧ ((¬ (0 ≤ x2 ∧ x2 ≤ x3 ∧ x3 ≤ 19) → (K ((-1)) h)) ∧ (0 ≤ x2 ∧ x2 ≤ x3 ∧ x3 ≤ 19 → (inR x4) ∧ ((0 ≤ x4 ∧ x4 ≤ 2 → (mwpV (d + 3) m_Links_gather [vR 103, vR 1, vI x2, vI x3] h (fun h8 => ((x4 ≠ 2 → (mwpI (d + 3) m_Links_bestWaves [vR 103, vI x1] h8 (fun z10 h10 => ((x4 ≠ 0 → (mwpI (d + 3) m_Links_reachedBy [vR 103, vI z10] h10 (fun z12 h12 => (K z12 h12)))) ∧ (¬ (x4 ≠ 0) → (K z10 h10)))))) ∧ (¬ (x4 ≠ 2) → (K (h8 103 0) h8)))))) ∧ (¬ (0 ≤ x4 ∧ x4 ≤ 2) → (K ((-1)) h)))))))) : wI (d + 3) m_C_waves 0 [(0, vR 0), (1, vI x1), (2, vI x2), (3, vI x3), (4, vI x4)] [] h K := by
  refine w_iload_n rfl rfl ?_
  refine w_iconst rfl ?_
  refine w_bipush (by decide) (by decide) rfl ?_
  obtain ⟨b1, F⟩ := F
  refine c_SI [vI x1, vI 1, vI 8] [] rfl b_C_isAmong k_C_103 rfl rfl rfl (c_C_isAmong b1 (r_lit rfl) (r_lit rfl) ?_)
  refine w_ifeq_b (tgt := 28) rfl (by decide) (fun q2 => ?_) (fun q2 => ?_)
  · replace F := F.1 q2
    refine w_iconst rfl ?_
    exact w_iret rfl rfl ⟨rfl, rfl, _, rfl, F⟩
  · replace F := F.2 q2
    refine w_iload_n rfl rfl ?_
    refine w_iload_n rfl rfl ?_
    obtain ⟨b3, F⟩ := F
    obtain ⟨b4, F⟩ := F
    refine c_SI [vI x2, vI x3] [] rfl b_C_isSpan k_C_224 rfl rfl rfl (c_C_isSpan b3 b4 ?_)
    refine w_ifeq_b (tgt := 28) rfl (by decide) (fun q5 => ?_) (fun q5 => ?_)
    · replace F := F.1 q5
      refine w_iconst rfl ?_
      exact w_iret rfl rfl ⟨rfl, rfl, _, rfl, F⟩
    · replace F := F.2 q5
      refine w_iload rfl rfl ?_
      refine w_iconst rfl ?_
      refine w_iconst rfl ?_
      obtain ⟨b6, F⟩ := F
      refine c_SI [vI x4, vI 0, vI 2] [] rfl b_C_isAmong k_C_103 rfl rfl rfl (c_C_isAmong b6 (r_lit rfl) (r_lit rfl) ?_)
      refine w_ifne_b (tgt := 30) rfl (by decide) (fun q7 => ?_) (fun q7 => ?_)
      · replace F := F.1 q7
        refine w_aload_n rfl rfl ?_
        refine w_getR rfl f_C_75 rfl rfl rfl rfl rfl ?_
        refine w_aload_n rfl rfl ?_
        refine w_getR rfl f_C_10 rfl rfl rfl rfl rfl ?_
        refine w_iload_n rfl rfl ?_
        refine w_iload_n rfl rfl ?_
        refine c_VV [vR 1, vI x2, vI x3] [] rfl b_Links_gather k_C_326 rfl rfl rfl rfl rfl rfl (mwpV_mono (fun h8 F => ?_) F)
        refine w_iload rfl rfl ?_
        refine w_iconst rfl ?_
        refine w_icmp_ne (tgt := 57) rfl (by decide) ⟨b6, (r_lit rfl)⟩ (fun q9 => ?_) (fun q9 => ?_)
        · replace F := F.1 q9
          refine w_aload_n rfl rfl ?_
          refine w_getR rfl f_C_75 rfl rfl rfl rfl rfl ?_
          refine w_iload_n rfl rfl ?_
          refine c_VI [vI x1] [] rfl b_Links_bestWaves k_C_330 rfl rfl rfl rfl rfl rfl (mwpI_mono (fun z10 h10 F => ?_) F)
          refine w_istore rfl rfl rfl rfl (w_ls (ls2 := [(0, vR 0), (1, vI x1), (2, vI x2), (3, vI x3), (4, vI x4), (5, vI z10)]) rfl ?_)
          refine w_iload rfl rfl ?_
          refine w_if_ne (tgt := 77) rfl (by decide) b6 (fun q11 => ?_) (fun q11 => ?_)
          · replace F := F.1 q11
            refine w_aload_n rfl rfl ?_
            refine w_getR rfl f_C_75 rfl rfl rfl rfl rfl ?_
            refine w_iload rfl rfl ?_
            refine c_VI [vI z10] [] rfl b_Links_reachedBy k_C_333 rfl rfl rfl rfl rfl rfl (mwpI_mono (fun z12 h12 F => ?_) F)
            exact w_iret rfl rfl ⟨rfl, rfl, _, rfl, F⟩
          · replace F := F.2 q11
            refine w_iload rfl rfl ?_
            refine w_goto (tgt := 86) rfl (by decide) ?_
            exact w_iret rfl rfl ⟨rfl, rfl, _, rfl, F⟩
        · replace F := F.2 q9
          refine w_aload_n rfl rfl ?_
          refine w_getR rfl f_C_75 rfl rfl rfl rfl rfl ?_
          refine w_getI rfl f_C_329 rfl rfl rfl ?_
          exact w_iret rfl rfl ⟨rfl, rfl, _, rfl, F⟩
      · replace F := F.2 q7
        refine w_iconst rfl ?_
        exact w_iret rfl rfl ⟨rfl, rfl, _, rfl, F⟩
theorem s_M_waves_0 {d : Nat}  (x1 x2 x3 x4 : Int) (h : St) (K : Int → St → Prop) (F : (inR x1) ∧ ((¬ (1 ≤ x1 ∧ x1 ≤ 8) → (K ((-1)) h)) ∧ (1 ≤ x1 ∧ x1 ≤ 8 → (inR x2) ∧ (inR x3) ∧ ((¬ (0 ≤ x2 ∧ x2 ≤ x3 ∧ x3 ≤ 19) → (K ((-1)) h)) ∧ (0 ≤ x2 ∧ x2 ≤ x3 ∧ x3 ≤ 19 → (inR x4) ∧ ((0 ≤ x4 ∧ x4 ≤ 2 → (wI (d + 3) m_M_waves 38 [(0, vR 109), (1, vI x1), (2, vI x2), (3, vI x3), (4, vI x4), (5, vI 0)] [] h K)) ∧ (¬ (0 ≤ x4 ∧ x4 ≤ 2) → (K ((-1)) h)))))))) : wI (d + 3) m_M_waves 0 [(0, vR 109), (1, vI x1), (2, vI x2), (3, vI x3), (4, vI x4)] [] h K := by
  refine w_iload_n rfl rfl ?_
  obtain ⟨b1, F⟩ := F
  refine w_i2l b1 rfl ?_
  refine w_lconst rfl ?_
  refine w_ldc2 (z := 8) kc_M_152 (by decide) rfl ?_
  refine c_SI [vJ x1, vJ 1, vJ 8] [] rfl b_M_in k_M_130 rfl rfl rfl (c_M_in (inL_of b1) (by decide) (by decide) ?_)
  refine w_ifeq_b (tgt := 33) rfl (by decide) (fun q2 => ?_) (fun q2 => ?_)
  · replace F := F.1 q2
    refine w_iconst rfl ?_
    exact w_iret rfl rfl ⟨rfl, rfl, _, rfl, F⟩
  · replace F := F.2 q2
    refine w_iload_n rfl rfl ?_
    refine w_iload_n rfl rfl ?_
    obtain ⟨b3, F⟩ := F
    obtain ⟨b4, F⟩ := F
    refine c_SI [vI x2, vI x3] [] rfl b_M_isSpan k_M_254 rfl rfl rfl (c_M_isSpan b3 b4 ?_)
    refine w_ifeq_b (tgt := 33) rfl (by decide) (fun q5 => ?_) (fun q5 => ?_)
    · replace F := F.1 q5
      refine w_iconst rfl ?_
      exact w_iret rfl rfl ⟨rfl, rfl, _, rfl, F⟩
    · replace F := F.2 q5
      refine w_iload rfl rfl ?_
      obtain ⟨b6, F⟩ := F
      refine w_i2l b6 rfl ?_
      refine w_lconst rfl ?_
      refine w_ldc2 (z := 2) kc_M_264 (by decide) rfl ?_
      refine c_SI [vJ x4, vJ 0, vJ 2] [] rfl b_M_in k_M_130 rfl rfl rfl (c_M_in (inL_of b6) (by decide) (by decide) ?_)
      refine w_ifne_b (tgt := 35) rfl (by decide) (fun q7 => ?_) (fun q7 => ?_)
      · replace F := F.1 q7
        refine w_iconst rfl ?_
        refine w_istore rfl rfl rfl rfl (w_ls (ls2 := [(0, vR 109), (1, vI x1), (2, vI x2), (3, vI x3), (4, vI x4), (5, vI 0)]) rfl ?_)
        exact F
      · replace F := F.2 q7
        refine w_iconst rfl ?_
        exact w_iret rfl rfl ⟨rfl, rfl, _, rfl, F⟩
theorem s_M_waves_38 {d : Nat}  (x1 x2 x3 x4 x5 : Int) (h : St) (K : Int → St → Prop) (F : (inR x5) ∧ ((144 ≤ x5 → (wI (d + 3) m_M_waves 63 [(0, vR 109), (1, vI x1), (2, vI x2), (3, vI x3), (4, vI x4), (5, vI 0)] [] h K)) ∧ (¬ (144 ≤ x5) → (0 ≤ x5 ∧ x5 < 144) ∧ (wI (d + 3) m_M_waves 38 [(0, vR 109), (1, vI x1), (2, vI x2), (3, vI x3), (4, vI x4), (5, vI (x5 + 1))] [] (up h 144 x5.toNat 0) K)))) : wI (d + 3) m_M_waves 38 [(0, vR 109), (1, vI x1), (2, vI x2), (3, vI x3), (4, vI x4), (5, vI x5)] [] h K := by
  refine w_iload rfl rfl ?_
  refine w_sipush (by decide) (by decide) rfl ?_
  obtain ⟨b1, F⟩ := F
  refine w_icmp_ge (tgt := 60) rfl (by decide) ⟨b1, (r_lit rfl)⟩ (fun q2 => ?_) (fun q2 => ?_)
  · replace F := F.1 q2
    refine w_iconst rfl ?_
    refine w_istore rfl rfl rfl rfl (w_ls (ls2 := [(0, vR 109), (1, vI x1), (2, vI x2), (3, vI x3), (4, vI x4), (5, vI 0)]) rfl ?_)
    exact F
  · replace F := F.2 q2
    refine w_aload_n rfl rfl ?_
    refine w_getR rfl f_M_121 rfl rfl rfl rfl rfl ?_
    refine w_iload rfl rfl ?_
    refine w_iconst rfl ?_
    obtain ⟨b3, F⟩ := F
    refine w_iastore rfl rfl rfl b3 ?_
    refine w_iinc rfl rfl rfl rfl rfl (w_ls (ls2 := [(0, vR 109), (1, vI x1), (2, vI x2), (3, vI x3), (4, vI x4), (5, vI (x5 + 1))]) rfl ?_)
    refine w_goto (tgt := 38) rfl (by decide) ?_
    exact F
theorem s_M_waves_63 {d : Nat}  (x1 x2 x3 x4 x5 : Int) (h : St) (K : Int → St → Prop) (F : (inR x5) ∧ (inR (h 110 0)) ∧ (((h 110 0) ≤ x5 → (wI (d + 3) m_M_waves 132 [(0, vR 109), (1, vI x1), (2, vI x2), (3, vI x3), (4, vI x4), (5, vI 0), (6, vI 0)] [] h K)) ∧ (¬ ((h 110 0) ≤ x5) → (mwpI (d + 3) m_M_isOn [vR 109, vI x5, vI x2, vI x3] h (fun z4 h4 => (inR z4) ∧ ((z4 = 0 → (wI (d + 3) m_M_waves 63 [(0, vR 109), (1, vI x1), (2, vI x2), (3, vI x3), (4, vI x4), (5, vI (x5 + 1))] [] h4 K)) ∧ (¬ (z4 = 0) → (0 ≤ x5 ∧ x5 < 180) ∧ (0 ≤ (12 * (h4 111 x5.toNat)) + (h4 112 x5.toNat) ∧ (12 * (h4 111 x5.toNat)) + (h4 112 x5.toNat) < 144) ∧ (wI (d + 3) m_M_waves 63 [(0, vR 109), (1, vI x1), (2, vI x2), (3, vI x3), (4, vI x4), (5, vI (x5 + 1))] [] (up h4 144 (((12 * (h4 111 x5.toNat)) + (h4 112 x5.toNat)).toNat) (or3 (h4 144 (((12 * (h4 111 x5.toNat)) + (h4 112 x5.toNat)).toNat)) (shl3 1 (h4 115 x5.toNat)))) K)))))))) : wI (d + 3) m_M_waves 63 [(0, vR 109), (1, vI x1), (2, vI x2), (3, vI x3), (4, vI x4), (5, vI x5)] [] h K := by
  refine w_iload rfl rfl ?_
  refine w_aload_n rfl rfl ?_
  refine w_getR rfl f_M_7 rfl rfl rfl rfl rfl ?_
  refine w_iconst rfl ?_
  refine w_iaload rfl rfl rfl ⟨by decide, by decide⟩ ?_
  obtain ⟨b1, F⟩ := F
  obtain ⟨b2, F⟩ := F
  refine w_icmp_ge (tgt := 126) rfl (by decide) ⟨b1, b2⟩ (fun q3 => ?_) (fun q3 => ?_)
  · replace F := F.1 q3
    refine w_iconst rfl ?_
    refine w_istore rfl rfl rfl rfl (w_ls (ls2 := [(0, vR 109), (1, vI x1), (2, vI x2), (3, vI x3), (4, vI x4), (5, vI 0)]) rfl ?_)
    refine w_iconst rfl ?_
    refine w_istore rfl rfl rfl rfl (w_ls (ls2 := [(0, vR 109), (1, vI x1), (2, vI x2), (3, vI x3), (4, vI x4), (5, vI 0), (6, vI 0)]) rfl ?_)
    exact F
  · replace F := F.2 q3
    refine w_aload_n rfl rfl ?_
    refine w_iload rfl rfl ?_
    refine w_iload_n rfl rfl ?_
    refine w_iload_n rfl rfl ?_
    refine c_VI [vI x5, vI x2, vI x3] [] rfl b_M_isOn k_M_251 rfl rfl rfl rfl rfl rfl (mwpI_mono (fun z4 h4 F => ?_) F)
    obtain ⟨b5, F⟩ := F
    refine w_if_eq (tgt := 120) rfl (by decide) b5 (fun q6 => ?_) (fun q6 => ?_)
    · replace F := F.1 q6
      refine w_iinc rfl rfl rfl rfl rfl (w_ls (ls2 := [(0, vR 109), (1, vI x1), (2, vI x2), (3, vI x3), (4, vI x4), (5, vI (x5 + 1))]) rfl ?_)
      refine w_goto (tgt := 63) rfl (by decide) ?_
      exact F
    · replace F := F.2 q6
      refine w_aload_n rfl rfl ?_
      refine w_getR rfl f_M_121 rfl rfl rfl rfl rfl ?_
      refine w_bipush (by decide) (by decide) rfl ?_
      refine w_aload_n rfl rfl ?_
      refine w_getR rfl f_M_13 rfl rfl rfl rfl rfl ?_
      refine w_iload rfl rfl ?_
      obtain ⟨b7, F⟩ := F
      refine w_iaload rfl rfl rfl b7 ?_
      refine w_imul rfl ?_
      refine w_aload_n rfl rfl ?_
      refine w_getR rfl f_M_16 rfl rfl rfl rfl rfl ?_
      refine w_iload rfl rfl ?_
      refine w_iaload rfl rfl rfl b7 ?_
      refine w_iadd rfl ?_
      refine w_dup2 rfl rfl rfl ?_
      obtain ⟨b8, F⟩ := F
      refine w_iaload rfl rfl rfl b8 ?_
      refine w_iconst rfl ?_
      refine w_aload_n rfl rfl ?_
      refine w_getR rfl f_M_25 rfl rfl rfl rfl rfl ?_
      refine w_iload rfl rfl ?_
      refine w_iaload rfl rfl rfl b7 ?_
      refine w_ishl rfl ?_
      refine w_ior rfl ?_
      refine w_iastore rfl rfl rfl b8 ?_
      refine w_iinc rfl rfl rfl rfl rfl (w_ls (ls2 := [(0, vR 109), (1, vI x1), (2, vI x2), (3, vI x3), (4, vI x4), (5, vI (x5 + 1))]) rfl ?_)
      refine w_goto (tgt := 63) rfl (by decide) ?_
      exact F
theorem s_M_waves_132 {d : Nat}  (x1 x2 x3 x4 x5 x6 : Int) (h : St) (K : Int → St → Prop) (F : (inR x6) ∧ ((144 ≤ x6 → (wI (d + 3) m_M_waves 176 [(0, vR 109), (1, vI x1), (2, vI x2), (3, vI x3), (4, vI x4), (5, vI x5), (6, vI ((-4))), (7, vI ((-1))), (8, vI 0)] [] h K)) ∧ (¬ (144 ≤ x6) → (0 ≤ x6 ∧ x6 < 144) ∧ (((inR (h 144 x6.toNat)))) ∧ (wI (d + 3) m_M_waves 132 [(0, vR 109), (1, vI x1), (2, vI x2), (3, vI x3), (4, vI x4), (5, vI (x5 + (b2i ((h 144 x6.toNat) ≠ 0)))), (6, vI (x6 + 1))] [] h K)))) : wI (d + 3) m_M_waves 132 [(0, vR 109), (1, vI x1), (2, vI x2), (3, vI x3), (4, vI x4), (5, vI x5), (6, vI x6)] [] h K := by
  refine w_iload rfl rfl ?_
  refine w_sipush (by decide) (by decide) rfl ?_
  obtain ⟨b1, F⟩ := F
  refine w_icmp_ge (tgt := 166) rfl (by decide) ⟨b1, (r_lit rfl)⟩ (fun q2 => ?_) (fun q2 => ?_)
  · replace F := F.1 q2
    refine w_bipush (by decide) (by decide) rfl ?_
    refine w_istore rfl rfl rfl rfl (w_ls (ls2 := [(0, vR 109), (1, vI x1), (2, vI x2), (3, vI x3), (4, vI x4), (5, vI x5), (6, vI ((-4)))]) rfl ?_)
    refine w_iconst rfl ?_
    refine w_istore rfl rfl rfl rfl (w_ls (ls2 := [(0, vR 109), (1, vI x1), (2, vI x2), (3, vI x3), (4, vI x4), (5, vI x5), (6, vI ((-4))), (7, vI ((-1)))]) rfl ?_)
    refine w_iconst rfl ?_
    refine w_istore rfl rfl rfl rfl (w_ls (ls2 := [(0, vR 109), (1, vI x1), (2, vI x2), (3, vI x3), (4, vI x4), (5, vI x5), (6, vI ((-4))), (7, vI ((-1))), (8, vI 0)]) rfl ?_)
    exact F
  · replace F := F.2 q2
    refine w_iload rfl rfl ?_
    refine w_aload_n rfl rfl ?_
    refine w_getR rfl f_M_121 rfl rfl rfl rfl rfl ?_
    refine w_iload rfl rfl ?_
    obtain ⟨b3, F⟩ := F
    refine w_iaload rfl rfl rfl b3 ?_
    obtain ⟨G, F⟩ := F
    have J : ∀ (t6 : Int), t6 = b2i ((h 144 x6.toNat) ≠ 0) → wI (d + 3) m_M_waves 157 [(0, vR 109), (1, vI x1), (2, vI x2), (3, vI x3), (4, vI x4), (5, vI x5), (6, vI x6)] [vI t6, vI x5] h K := by
      intro t6 et6
      subst et6
      refine w_iadd rfl ?_
      refine w_istore rfl rfl rfl rfl (w_ls (ls2 := [(0, vR 109), (1, vI x1), (2, vI x2), (3, vI x3), (4, vI x4), (5, vI (x5 + (b2i ((h 144 x6.toNat) ≠ 0)))), (6, vI x6)]) rfl ?_)
      refine w_iinc rfl rfl rfl rfl rfl (w_ls (ls2 := [(0, vR 109), (1, vI x1), (2, vI x2), (3, vI x3), (4, vI x4), (5, vI (x5 + (b2i ((h 144 x6.toNat) ≠ 0)))), (6, vI (x6 + 1))]) rfl ?_)
      refine w_goto (tgt := 132) rfl (by decide) ?_
      exact F
    have b4 := G
    refine w_if_ne (tgt := 156) rfl (by decide) b4 (fun q5 => ?_) (fun q5 => ?_)
    · refine w_iconst rfl ?_
      exact J _ (b2i_t q5).symm
    · refine w_iconst rfl ?_
      refine w_goto (tgt := 157) rfl (by decide) ?_
      exact J _ (b2i_f q5).symm
theorem s_M_waves_176 {d : Nat}  (x1 x2 x3 x4 x5 x6 x7 x8 : Int) (h : St) (K : Int → St → Prop) (F : (inR x8) ∧ ((256 ≤ x8 → (((inR x4))) ∧ (K (cif (x4 ≠ 0) (cif (x4 ≠ 1) x5 x7) x6) h)) ∧ (¬ (256 ≤ x8) → (wI (d + 3) m_M_waves 190 [(0, vR 109), (1, vI x1), (2, vI x2), (3, vI x3), (4, vI x4), (5, vI x5), (6, vI x6), (7, vI x7), (8, vI x8), (9, vI 0), (10, vI 0)] [] h K)))) : wI (d + 3) m_M_waves 176 [(0, vR 109), (1, vI x1), (2, vI x2), (3, vI x3), (4, vI x4), (5, vI x5), (6, vI x6), (7, vI x7), (8, vI x8)] [] h K := by
  refine w_iload rfl rfl ?_
  refine w_sipush (by decide) (by decide) rfl ?_
  obtain ⟨b1, F⟩ := F
  refine w_icmp_ge (tgt := 257) rfl (by decide) ⟨b1, (r_lit rfl)⟩ (fun q2 => ?_) (fun q2 => ?_)
  · replace F := F.1 q2
    refine w_iload rfl rfl ?_
    obtain ⟨G, F⟩ := F
    have J : ∀ (t6 : Int), t6 = cif (x4 ≠ 0) (cif (x4 ≠ 1) x5 x7) x6 → wI (d + 3) m_M_waves 280 [(0, vR 109), (1, vI x1), (2, vI x2), (3, vI x3), (4, vI x4), (5, vI x5), (6, vI x6), (7, vI x7), (8, vI x8)] [vI t6] h K := by
      intro t6 et6
      subst et6
      exact w_iret rfl rfl ⟨rfl, rfl, _, rfl, F⟩
    have b3 := G
    refine w_if_ne (tgt := 267) rfl (by decide) b3 (fun q4 => ?_) (fun q4 => ?_)
    · refine w_iload rfl rfl ?_
      refine w_iconst rfl ?_
      refine w_icmp_ne (tgt := 278) rfl (by decide) ⟨b3, (r_lit rfl)⟩ (fun q5 => ?_) (fun q5 => ?_)
      · refine w_iload rfl rfl ?_
        exact J _ ((cif_t q4).trans (cif_t q5)).symm
      · refine w_iload rfl rfl ?_
        refine w_goto (tgt := 280) rfl (by decide) ?_
        exact J _ ((cif_t q4).trans (cif_f q5)).symm
    · refine w_iload rfl rfl ?_
      refine w_goto (tgt := 280) rfl (by decide) ?_
      exact J _ (cif_f q4).symm
  · replace F := F.2 q2
    refine w_iconst rfl ?_
    refine w_istore rfl rfl rfl rfl (w_ls (ls2 := [(0, vR 109), (1, vI x1), (2, vI x2), (3, vI x3), (4, vI x4), (5, vI x5), (6, vI x6), (7, vI x7), (8, vI x8), (9, vI 0)]) rfl ?_)
    refine w_iconst rfl ?_
    refine w_istore rfl rfl rfl rfl (w_ls (ls2 := [(0, vR 109), (1, vI x1), (2, vI x2), (3, vI x3), (4, vI x4), (5, vI x5), (6, vI x6), (7, vI x7), (8, vI x8), (9, vI 0), (10, vI 0)]) rfl ?_)
    exact F
theorem s_M_waves_190 {d : Nat}  (x1 x2 x3 x4 x5 x6 x7 x8 x9 x10 : Int) (h : St) (K : Int → St → Prop) (F : (inR x10) ∧ ((144 ≤ x10 → (mwpI (d + 3) m_M_many [vI x8] h (fun z3 h3 => (inR z3) ∧ (inR x1) ∧ ((z3 ≠ x1 → (wI (d + 3) m_M_waves 176 [(0, vR 109), (1, vI x1), (2, vI x2), (3, vI x3), (4, vI x4), (5, vI x5), (6, vI x6), (7, vI x7), (8, vI (x8 + 1))] [] h3 K)) ∧ (¬ (z3 ≠ x1) → (inR x9) ∧ (inR x7) ∧ ((x9 ≤ x7 → (wI (d + 3) m_M_waves 176 [(0, vR 109), (1, vI x1), (2, vI x2), (3, vI x3), (4, vI x4), (5, vI x5), (6, vI x6), (7, vI x7), (8, vI (x8 + 1))] [] h3 K)) ∧ (¬ (x9 ≤ x7) → (wI (d + 3) m_M_waves 176 [(0, vR 109), (1, vI x1), (2, vI x2), (3, vI x3), (4, vI x4), (5, vI x5), (6, vI x8), (7, vI x9), (8, vI (x8 + 1))] [] h3 K)))))))) ∧ (¬ (144 ≤ x10) → (0 ≤ x10 ∧ x10 < 144) ∧ (((inR (and3 (h 144 x10.toNat) x8)))) ∧ (wI (d + 3) m_M_waves 190 [(0, vR 109), (1, vI x1), (2, vI x2), (3, vI x3), (4, vI x4), (5, vI x5), (6, vI x6), (7, vI x7), (8, vI x8), (9, vI (x9 + (b2i ((and3 (h 144 x10.toNat) x8) ≠ 0)))), (10, vI (x10 + 1))] [] h K)))) : wI (d + 3) m_M_waves 190 [(0, vR 109), (1, vI x1), (2, vI x2), (3, vI x3), (4, vI x4), (5, vI x5), (6, vI x6), (7, vI x7), (8, vI x8), (9, vI x9), (10, vI x10)] [] h K := by
  refine w_iload rfl rfl ?_
  refine w_sipush (by decide) (by decide) rfl ?_
  obtain ⟨b1, F⟩ := F
  refine w_icmp_ge (tgt := 227) rfl (by decide) ⟨b1, (r_lit rfl)⟩ (fun q2 => ?_) (fun q2 => ?_)
  · replace F := F.1 q2
    refine w_iload rfl rfl ?_
    refine c_SI [vI x8] [] rfl b_M_many k_M_280 rfl rfl rfl (mwpI_mono (fun z3 h3 F => ?_) F)
    refine w_iload_n rfl rfl ?_
    obtain ⟨b4, F⟩ := F
    obtain ⟨b5, F⟩ := F
    refine w_icmp_ne (tgt := 251) rfl (by decide) ⟨b4, b5⟩ (fun q6 => ?_) (fun q6 => ?_)
    · replace F := F.1 q6
      refine w_iinc rfl rfl rfl rfl rfl (w_ls (ls2 := [(0, vR 109), (1, vI x1), (2, vI x2), (3, vI x3), (4, vI x4), (5, vI x5), (6, vI x6), (7, vI x7), (8, vI (x8 + 1)), (9, vI x9), (10, vI x10)]) rfl ?_)
      refine w_goto (tgt := 176) rfl (by decide) ?_
      exact w_kp [0, 1, 2, 3, 4, 5, 6, 7, 8] F
    · replace F := F.2 q6
      refine w_iload rfl rfl ?_
      refine w_iload rfl rfl ?_
      obtain ⟨b7, F⟩ := F
      obtain ⟨b8, F⟩ := F
      refine w_icmp_le (tgt := 251) rfl (by decide) ⟨b7, b8⟩ (fun q9 => ?_) (fun q9 => ?_)
      · replace F := F.1 q9
        refine w_iinc rfl rfl rfl rfl rfl (w_ls (ls2 := [(0, vR 109), (1, vI x1), (2, vI x2), (3, vI x3), (4, vI x4), (5, vI x5), (6, vI x6), (7, vI x7), (8, vI (x8 + 1)), (9, vI x9), (10, vI x10)]) rfl ?_)
        refine w_goto (tgt := 176) rfl (by decide) ?_
        exact w_kp [0, 1, 2, 3, 4, 5, 6, 7, 8] F
      · replace F := F.2 q9
        refine w_iload rfl rfl ?_
        refine w_istore rfl rfl rfl rfl (w_ls (ls2 := [(0, vR 109), (1, vI x1), (2, vI x2), (3, vI x3), (4, vI x4), (5, vI x5), (6, vI x6), (7, vI x9), (8, vI x8), (9, vI x9), (10, vI x10)]) rfl ?_)
        refine w_iload rfl rfl ?_
        refine w_istore rfl rfl rfl rfl (w_ls (ls2 := [(0, vR 109), (1, vI x1), (2, vI x2), (3, vI x3), (4, vI x4), (5, vI x5), (6, vI x8), (7, vI x9), (8, vI x8), (9, vI x9), (10, vI x10)]) rfl ?_)
        refine w_iinc rfl rfl rfl rfl rfl (w_ls (ls2 := [(0, vR 109), (1, vI x1), (2, vI x2), (3, vI x3), (4, vI x4), (5, vI x5), (6, vI x8), (7, vI x9), (8, vI (x8 + 1)), (9, vI x9), (10, vI x10)]) rfl ?_)
        refine w_goto (tgt := 176) rfl (by decide) ?_
        exact w_kp [0, 1, 2, 3, 4, 5, 6, 7, 8] F
  · replace F := F.2 q2
    refine w_iload rfl rfl ?_
    refine w_aload_n rfl rfl ?_
    refine w_getR rfl f_M_121 rfl rfl rfl rfl rfl ?_
    refine w_iload rfl rfl ?_
    obtain ⟨b10, F⟩ := F
    refine w_iaload rfl rfl rfl b10 ?_
    refine w_iload rfl rfl ?_
    refine w_iand rfl ?_
    obtain ⟨G, F⟩ := F
    have J : ∀ (t13 : Int), t13 = b2i ((and3 (h 144 x10.toNat) x8) ≠ 0) → wI (d + 3) m_M_waves 218 [(0, vR 109), (1, vI x1), (2, vI x2), (3, vI x3), (4, vI x4), (5, vI x5), (6, vI x6), (7, vI x7), (8, vI x8), (9, vI x9), (10, vI x10)] [vI t13, vI x9] h K := by
      intro t13 et13
      subst et13
      refine w_iadd rfl ?_
      refine w_istore rfl rfl rfl rfl (w_ls (ls2 := [(0, vR 109), (1, vI x1), (2, vI x2), (3, vI x3), (4, vI x4), (5, vI x5), (6, vI x6), (7, vI x7), (8, vI x8), (9, vI (x9 + (b2i ((and3 (h 144 x10.toNat) x8) ≠ 0)))), (10, vI x10)]) rfl ?_)
      refine w_iinc rfl rfl rfl rfl rfl (w_ls (ls2 := [(0, vR 109), (1, vI x1), (2, vI x2), (3, vI x3), (4, vI x4), (5, vI x5), (6, vI x6), (7, vI x7), (8, vI x8), (9, vI (x9 + (b2i ((and3 (h 144 x10.toNat) x8) ≠ 0)))), (10, vI (x10 + 1))]) rfl ?_)
      refine w_goto (tgt := 190) rfl (by decide) ?_
      exact F
    have b11 := G
    refine w_if_ne (tgt := 217) rfl (by decide) b11 (fun q12 => ?_) (fun q12 => ?_)
    · refine w_iconst rfl ?_
      exact J _ (b2i_t q12).symm
    · refine w_iconst rfl ?_
      refine w_goto (tgt := 218) rfl (by decide) ?_
      exact J _ (b2i_f q12).symm
noncomputable def nif (p : Prop) (a b : Nat) : Nat := @ite Nat p (Classical.propDecidable p) a b
theorem nif_t {p : Prop} {a b : Nat} (hp : p) : nif p a b = a := by unfold nif; exact if_pos hp
theorem nif_f {p : Prop} {a b : Nat} (hp : ¬ p) : nif p a b = b := by unfold nif; exact if_neg hp
theorem c_M_has {D : Nat} {h : St} {K : Int → St → Prop} {a k : Nat} (ha : a < 2147483648) (hk : k < 32) (kk : K (b2i (a.testBit k = true)) h) : mwpI (D + 1) m_M_has [vI a, vI k] h K := by
  refine mI_intro b_M_has rfl (s_M_has_0 (d := D) _ _ h K ?_)
  rw [has_nat ha hk]
  refine ⟨b2i_R, ?_⟩
  rw [b2i_congr (q := a.testBit k = true) (by
    rw [Classical.not_not]
    exact ⟨fun q => b2i_ne0.mp (by omega), fun q => b2i_t q⟩)]
  exact kk
theorem bb {p : Prop} : b2i (¬ b2i p = 0) = b2i p := b2i_congr b2i_ne0
theorem c_M_many {D : Nat} {h : St} {K : Int → St → Prop} {a : Nat} (ha : a < 4096) (kk : K ((pb 32 a : Nat) : Int) h) : mwpI (D + 2) m_M_many [vI a] h K := by
  have lp : ∀ (m b : Nat), b + m = 12 → wI (D + 1) m_M_many 4 [(0, vI (a : Int)), (1, vI (sm (fun k => b2i (a.testBit k = true)) b)), (2, vI (b : Int))] [] h K := by
    intro m
    induction m with
    | zero =>
      intro b hb
      have e : b = 12 := by omega
      subst e
      rw [← pb_sm, ← pb_more (m := 20) 12 a (by omega)]
      exact s_M_many_4 _ _ _ h K ⟨⟨by omega, by omega⟩, fun _ => kk, fun z => absurd (by omega) z⟩
    | succ m ih =>
      intro b hb
      refine s_M_many_4 _ _ _ h K ⟨⟨by omega, by omega⟩, fun z => by omega, fun _ => c_M_has (by omega) (by omega) ⟨b2i_R, ?_⟩⟩
      rw [bb]
      exact ih (b + 1) (by omega)
  exact mI_intro b_M_many rfl (s_M_many_0 (d := D) _ h K (lp 12 0 (by omega)))
theorem sm_set {f g : Nat → Int} {i : Nat} : ∀ n : Nat, i < n → (∀ j, j < n → j ≠ i → g j = f j) → sm g n = sm f n + (g i - f i)
  | 0, hi, _ => absurd hi (Nat.not_lt_zero _)
  | n + 1, hi, hh => by
    rw [sm_succ, sm_succ]
    by_cases e : i = n
    · subst e
      rw [sm_congr i (fun j hj => hh j (by omega) (by omega))]
      omega
    · rw [sm_set n (by omega) (fun j hj hn => hh j (by omega) hn), hh n (by omega) (by omega)]
      omega
noncomputable def lkA (lg : Nat → Nat → Int) (d e : Int) : Nat → Nat → Nat
  | 0, _ => 0
  | c + 1, j => nif ((lg 0 c).toNat * 12 + (lg 1 c).toNat = j ∧ onD lg c d e) (lkA lg d e c j ||| 2 ^ (lg 4 c).toNat) (lkA lg d e c j)
theorem p2_8 : ∀ w : Nat, w < 8 → 2 ^ w < 256 := by decide
theorem lkA_lt {n : Nat} {lg : Nat → Nat → Int} (vl : VLog n lg) {d e : Int} {j : Nat} : ∀ c : Nat, c ≤ n → lkA lg d e c j < 256
  | 0, _ => by simp [lkA]
  | c + 1, hc => by
    have ih := lkA_lt vl (d := d) (e := e) (j := j) c (by omega)
    have q := (vl c (by omega)).2.2.2.2.2.1
    unfold lkA
    by_cases z : (lg 0 c).toNat * 12 + (lg 1 c).toNat = j ∧ onD lg c d e
    · rw [nif_t z]
      have := p2_8 (lg 4 c).toNat (by omega)
      exact Nat.or_lt_two_pow (n := 8) ih this
    · rw [nif_f z]; exact ih
theorem or_ne0 {a w : Nat} : a ||| 2 ^ w ≠ 0 := fun q => by
  have h1 : (a ||| 2 ^ w).testBit w = true := by simp [Nat.testBit_or, Nat.testBit_two_pow_self]
  rw [q] at h1
  simp at h1
noncomputable def nzA (f : Nat → Nat) : Int := sm (fun j => b2i (f j ≠ 0)) 144
theorem nzA_R {f : Nat → Nat} : 0 ≤ nzA f ∧ nzA f ≤ 144 := by
  have := sm_bnd (f := fun j => b2i (f j ≠ 0)) (u := 1) (by omega) 144 (fun i _ => b2i_B)
  unfold nzA
  omega
noncomputable def rchA (f : Nat → Nat) (w : Nat) : Int := sm (fun j => b2i (f j &&& w ≠ 0)) 144
theorem rchA_R {f : Nat → Nat} {w : Nat} : 0 ≤ rchA f w ∧ rchA f w ≤ 144 := by
  have := sm_bnd (f := fun j => b2i (f j &&& w ≠ 0)) (u := 1) (by omega) 144 (fun i _ => b2i_B)
  unfold rchA
  omega
theorem nz_step {lg : Nat → Nat → Int} {d e : Int} {c i : Nat} (ei : (lg 0 c).toNat * 12 + (lg 1 c).toNat = i) (hi : i < 144) (ho : onD lg c d e) : nzA (lkA lg d e (c + 1)) = nzA (lkA lg d e c) + b2i (¬ (((lkA lg d e c i : Nat) : Int) ≠ 0)) := by
  have e1 := sm_set (f := fun j => b2i (lkA lg d e c j ≠ 0)) (g := fun j => b2i (lkA lg d e (c + 1) j ≠ 0)) (i := i) 144 hi (fun j hj hn => by
    show b2i (nif _ _ _ ≠ 0) = _
    rw [nif_f (fun z => hn (by rw [← z.1]; exact ei))])
  unfold nzA
  rw [e1]
  have e2 : b2i (lkA lg d e (c + 1) i ≠ 0) = 1 := b2i_t (by
    show nif _ _ _ ≠ 0
    rw [nif_t ⟨ei, ho⟩]
    exact or_ne0)
  show _ + (b2i (lkA lg d e (c + 1) i ≠ 0) - b2i (lkA lg d e c i ≠ 0)) = _
  rw [e2]
  by_cases q : lkA lg d e c i = 0
  · rw [b2i_f (fun z => z q), b2i_t (fun z => z (by omega))]; rfl
  · rw [b2i_t q, b2i_f (fun z => z (by omega))]; rfl
theorem C_gather {D : Nat} {K : St → Prop} {n : Nat} {lg : Nat → Nat → Int} (vl : VLog n lg) {d e : Int} (r2 : inR d) (r3 : inR e) : ∀ (m c : Nat) (h : St), c + m = n → CLog h n lg → h 103 0 = nzA (lkA lg d e c) → (∀ j, j < 144 → h 104 j = ((lkA lg d e c j : Nat) : Int)) → (∀ h2, ag (fun c _ => c ≠ 103 ∧ c ≠ 104) h h2 → h2 103 0 = nzA (lkA lg d e n) → (∀ j, j < 144 → h2 104 j = ((lkA lg d e n j : Nat) : Int)) → K h2) → wV (D + 1) m_Links_gather 16 [(0, vR 103), (1, vR 1), (2, vI d), (3, vI e), (4, vI (c : Int))] [] h K := by
  intro m
  induction m with
  | zero =>
    intro c h hc cl hz hs k
    have hn := cl.2.1
    have h8 := cl.1
    have e : c = n := by omega
    subst e
    exact s_Links_gather_16 _ _ _ h K ⟨⟨by omega, by omega⟩, ⟨by omega, by omega⟩, fun _ => k h ag_rfl hz hs, fun z => absurd (by omega) z⟩
  | succ m ih =>
    intro c h hc cl hz hs k
    have hn := cl.2.1
    have h8 := cl.1
    have hc2 : c < n := by omega
    obtain ⟨a0, a1, a2, a3, a4, a5⟩ := CLog_at cl hc2
    have q1 := vl c hc2
    refine s_Links_gather_16 _ _ _ h K ⟨⟨by omega, by omega⟩, ⟨by omega, by omega⟩, fun z => by omega, fun _ => c_CallLog_isOn cl vl hc2 r2 r3 ⟨b2i_R, fun z => ?_, fun z => ?_⟩⟩
    · have el : lkA lg d e (c + 1) = lkA lg d e c := funext (fun j => nif_f (fun q => (b2i_eq0.mp z) q.2))
      exact ih (c + 1) h (by omega) cl (by rw [el]; exact hz) (by rw [el]; exact hs) k
    · have ho : onD lg c d e := b2i_ne0.mp z
      rw [Int.toNat_natCast, a0, a1, a4]
      have ez : (lg 0 c * 12 + lg 1 c).toNat = (lg 0 c).toNat * 12 + (lg 1 c).toNat := by omega
      rw [ez]
      generalize ei : (lg 0 c).toNat * 12 + (lg 1 c).toNat = i
      have hi : i < 144 := by omega
      have b1 := lkA_lt vl (d := d) (e := e) (j := i) c (by omega)
      rw [hs i hi, show lg 4 c = (((lg 4 c).toNat : Nat) : Int) by omega, shl_1 (by omega), or3_nat (by omega) (by have := p2_8 (lg 4 c).toNat (by omega); omega)]
      refine ⟨by omega, by omega, ⟨by omega, by omega⟩, ?_⟩
      refine ih (c + 1) _ (by omega) (CLog_c (ag_up (by omega) (ag_up (by omega) ag_rfl)) cl) ?_ (fun j hj => ?_) (fun h2 g1 g2 g3 => k h2 (ag_trans (ag_up (by omega) (ag_up (by omega) ag_rfl)) g1) g2 g3)
      · rw [up_ne (by omega), up_same, hz, nz_step ei hi ho]
      · by_cases q : j = i
        · subst q
          rw [up_same]
          show _ = ((nif _ _ _ : Nat) : Int)
          rw [nif_t ⟨ei, ho⟩]
        · rw [up_ne (by omega), up_ne (by omega), hs j hj]
          show _ = ((nif _ _ _ : Nat) : Int)
          rw [nif_f (fun z2 => q (by rw [← z2.1]; exact ei))]
theorem c_Links_gather {D : Nat} {h : St} {K : St → Prop} {n : Nat} {lg : Nat → Nat → Int} (cl : CLog h n lg) (vl : VLog n lg) {d e : Int} (r2 : inR d) (r3 : inR e) (k : ∀ h2, ag (fun c _ => c ≠ 103 ∧ c ≠ 104) h h2 → h2 103 0 = nzA (lkA lg d e n) → (∀ j, j < 144 → h2 104 j = ((lkA lg d e n j : Nat) : Int)) → K h2) : mwpV (D + 2) m_Links_gather [vR 103, vR 1, vI d, vI e] h K := by
  refine mV_intro b_Links_gather rfl (s_Links_gather_0 (d := D) d e h K (c_JA_fill (len := 144) rfl (by decide) ?_))
  refine C_gather vl r2 r3 n 0 _ (by omega) (CLog_c (ag_fill (by omega) (ag_up (by omega) ag_rfl)) cl) ?_ (fun j hj => by rw [fillC_in hj]; rfl) (fun h2 g1 g2 g3 => k h2 (ag_trans (ag_fill (by omega) (ag_up (by omega) ag_rfl)) g1) g2 g3)
  rw [fillC_out (by decide), up_same]
  unfold nzA
  rw [sm_congr (g := fun _ => 0) 144 (fun j _ => b2i_f (fun q => q rfl)), sm_zero]
theorem c_Links_reachedBy {D : Nat} {h : St} {K : Int → St → Prop} {f : Nat → Nat} {w : Nat} (hf : ∀ j, j < 144 → h 104 j = ((f j : Nat) : Int)) (fb : ∀ j, f j < 256) (hw : w < 256) (k : K (rchA f w) h) : mwpI (D + 1) m_Links_reachedBy [vR 103, vI w] h K := by
  have lp : ∀ (m b : Nat), b + m = 144 → wI D m_Links_reachedBy 4 [(0, vR 103), (1, vI (w : Int)), (2, vI (sm (fun j => b2i (f j &&& w ≠ 0)) b)), (3, vI (b : Int))] [] h K := by
    intro m
    induction m with
    | zero =>
      intro b hb
      have e : b = 144 := by omega
      subst e
      exact s_Links_reachedBy_4 _ _ _ h K ⟨⟨by omega, by omega⟩, fun _ => k, fun z => absurd (by omega) z⟩
    | succ m ih =>
      intro b hb
      have b1 := fb b
      have b2 : f b &&& w ≤ f b := Nat.and_le_left
      refine s_Links_reachedBy_4 _ _ _ h K ?_
      rw [Int.toNat_natCast, hf b (by omega), and3_nat (by omega) (by omega)]
      refine ⟨⟨by omega, by omega⟩, fun z => by omega, fun _ => ⟨by omega, ⟨by omega, by omega⟩, ?_⟩⟩
      rw [b2i_congr (q := f b &&& w ≠ 0) (by omega)]
      exact ih (b + 1) (by omega)
  exact mI_intro b_Links_reachedBy rfl (s_Links_reachedBy_0 (d := D) _ h K (lp 144 0 (by omega)))
noncomputable def msA (k : Int) (f : Nat → Nat) : Nat → Int
  | 0 => -1
  | s + 1 => cif (((pb 32 s : Nat) : Int) = k ∧ msA k f s < rchA f s) (rchA f s) (msA k f s)
noncomputable def bsA (k : Int) (f : Nat → Nat) (v : Int) : Nat → Int
  | 0 => v
  | s + 1 => cif (((pb 32 s : Nat) : Int) = k ∧ msA k f s < rchA f s) (s : Int) (bsA k f v s)
theorem ms_R {k : Int} {f : Nat → Nat} : ∀ s, -1 ≤ msA k f s ∧ msA k f s ≤ 144
  | 0 => by simp [msA]
  | s + 1 => by
    have ih := ms_R (k := k) (f := f) s
    have := rchA_R (f := f) (w := s)
    unfold msA
    by_cases q : ((pb 32 s : Nat) : Int) = k ∧ msA k f s < rchA f s
    · rw [cif_t q]; omega
    · rw [cif_f q]; omega
theorem bs_eq {k : Int} {f : Nat → Nat} {v v2 : Int} : ∀ s : Nat, msA k f s ≠ -1 → bsA k f v s = bsA k f v2 s ∧ (0 ≤ bsA k f v s ∧ bsA k f v s < s) ∧ msA k f s = rchA f (bsA k f v s).toNat
  | 0 => fun q => absurd rfl q
  | s + 1 => by
    have ih := bs_eq (k := k) (f := f) (v := v) (v2 := v2) s
    unfold msA bsA
    by_cases q : ((pb 32 s : Nat) : Int) = k ∧ msA k f s < rchA f s
    · rw [cif_t q, cif_t q, cif_t q]
      exact fun _ => ⟨rfl, by omega, by rw [Int.toNat_natCast]⟩
    · rw [cif_f q, cif_f q, cif_f q]
      intro z
      obtain ⟨i1, i2, i3⟩ := ih z
      exact ⟨i1, by omega, i3⟩
theorem ms_mono {k : Int} {f : Nat → Nat} {s : Nat} : ∀ m, msA k f s ≤ msA k f (s + m)
  | 0 => Int.le_refl _
  | m + 1 => by
    have ih := ms_mono (k := k) (f := f) (s := s) m
    rw [show s + (m + 1) = (s + m) + 1 by omega, show msA k f (s + m + 1) = cif (((pb 32 (s + m) : Nat) : Int) = k ∧ msA k f (s + m) < rchA f (s + m)) (rchA f (s + m)) (msA k f (s + m)) from rfl]
    by_cases q : ((pb 32 (s + m) : Nat) : Int) = k ∧ msA k f (s + m) < rchA f (s + m)
    · rw [cif_t q]; omega
    · rw [cif_f q]; exact ih
theorem ms_end {k : Int} {f : Nat → Nat} (hk : 1 ≤ k ∧ k ≤ 8) : msA k f 256 ≠ -1 := by
  have key : ∀ j : Nat, j < 9 → 1 ≤ j → pb 32 (2 ^ j - 1) = j ∧ 2 ^ j - 1 < 256 := by decide
  have q := key k.toNat (by omega) (by omega)
  generalize hs : 2 ^ k.toNat - 1 = s at q
  have h1 := ms_mono (k := k) (f := f) (s := s + 1) (256 - (s + 1))
  rw [show s + 1 + (256 - (s + 1)) = 256 by omega] at h1
  have h2 : 0 ≤ msA k f (s + 1) := by
    have r := rchA_R (f := f) (w := s)
    show 0 ≤ cif _ _ _
    by_cases z : ((pb 32 s : Nat) : Int) = k ∧ msA k f s < rchA f s
    · rw [cif_t z]; exact r.1
    · rw [cif_f z]
      have : ((pb 32 s : Nat) : Int) = k := by omega
      have : ¬ msA k f s < rchA f s := fun y => z ⟨this, y⟩
      omega
  omega
theorem c_Links_bestWaves {D : Nat} {h : St} {K : Int → St → Prop} {f : Nat → Nat} {w : Int} (hf : ∀ j, j < 144 → h 104 j = ((f j : Nat) : Int)) (fb : ∀ j, f j < 256) (hw : 1 ≤ w ∧ w ≤ 8) (k : K (bsA w f 0 256) h) : mwpI (D + 2) m_Links_bestWaves [vR 103, vI w] h K := by
  have lp : ∀ (m b : Nat), b + m = 256 → wI (D + 1) m_Links_bestWaves 7 [(0, vR 103), (1, vI w), (2, vI (bsA w f 0 b)), (3, vI (msA w f b)), (4, vI (b : Int))] [] h K := by
    intro m
    induction m with
    | zero =>
      intro b hb
      have e : b = 256 := by omega
      subst e
      exact s_Links_bestWaves_7 _ _ _ _ h K ⟨⟨by omega, by omega⟩, fun _ => k, fun z => absurd (by omega) z⟩
    | succ m ih =>
      intro b hb
      have ih2 := ih (b + 1) (by omega)
      have r1 := rchA_R (f := f) (w := b)
      have r2 := ms_R (k := w) (f := f) b
      have r3 := pb_le 32 b
      have no : ¬ (((pb 32 b : Nat) : Int) = w ∧ msA w f b < rchA f b) → wI (D + 1) m_Links_bestWaves 7 [(0, vR 103), (1, vI w), (2, vI (bsA w f 0 b)), (3, vI (msA w f b)), (4, vI ((b : Int) + 1))] [] h K := fun q => by
        rw [show bsA w f 0 (b + 1) = bsA w f 0 b from cif_f q, show msA w f (b + 1) = msA w f b from cif_f q] at ih2
        exact ih2
      refine s_Links_bestWaves_7 _ _ _ _ h K ⟨⟨by omega, by omega⟩, fun z => by omega, fun _ => c_JI_bitCount (by omega) ⟨⟨by omega, by omega⟩, ⟨by omega, by omega⟩, fun z => no (fun q => z q.1), fun z => c_Links_reachedBy hf fb (by omega) ⟨⟨by omega, by omega⟩, ⟨by omega, by omega⟩, fun z2 => no (by omega), fun z2 => ?_⟩⟩⟩
      have q : ((pb 32 b : Nat) : Int) = w ∧ msA w f b < rchA f b := by omega
      rw [show bsA w f 0 (b + 1) = b from cif_t q, show msA w f (b + 1) = rchA f b from cif_t q] at ih2
      exact ih2
  exact mI_intro b_Links_bestWaves rfl (s_Links_bestWaves_0 (d := D) _ h K (lp 256 0 (by omega)))
section W34
variable {D : Nat} {K : Int → St → Prop} {x1 x2 x3 x4 : Int}
theorem M_wv_190 {h : St} {f : Nat → Nat} {w : Nat} {x5 x6 x7 : Int} (hf : ∀ j, j < 144 → h 144 j = ((f j : Nat) : Int)) (fb : ∀ j, f j < 256) (hw : w < 256) (r1 : inR x1) (r7 : inR x7) (k : wI (D + 3) m_M_waves 176 [(0, vR 109), (1, vI x1), (2, vI x2), (3, vI x3), (4, vI x4), (5, vI x5), (6, vI (cif (((pb 32 w : Nat) : Int) = x1 ∧ x7 < rchA f w) (w : Int) x6)), (7, vI (cif (((pb 32 w : Nat) : Int) = x1 ∧ x7 < rchA f w) (rchA f w) x7)), (8, vI ((w : Int) + 1))] [] h K) : ∀ (m b : Nat), b + m = 144 → wI (D + 3) m_M_waves 190 [(0, vR 109), (1, vI x1), (2, vI x2), (3, vI x3), (4, vI x4), (5, vI x5), (6, vI x6), (7, vI x7), (8, vI (w : Int)), (9, vI (sm (fun j => b2i (f j &&& w ≠ 0)) b)), (10, vI (b : Int))] [] h K := by
  intro m
  induction m with
  | zero =>
    intro b hb
    have e : b = 144 := by omega
    subst e
    have ra := rchA_R (f := f) (w := w)
    have r3 := pb_le 32 w
    rw [show sm (fun j => b2i (f j &&& w ≠ 0)) 144 = rchA f w from rfl]
    have no : ¬ (((pb 32 w : Nat) : Int) = x1 ∧ x7 < rchA f w) → wI (D + 3) m_M_waves 176 [(0, vR 109), (1, vI x1), (2, vI x2), (3, vI x3), (4, vI x4), (5, vI x5), (6, vI x6), (7, vI x7), (8, vI ((w : Int) + 1))] [] h K := fun q => by
      rw [cif_f q, cif_f q] at k
      exact k
    refine s_M_waves_190 _ _ _ _ _ _ _ _ _ _ h K ⟨⟨by omega, by omega⟩, fun _ => c_M_many (by omega) ⟨⟨by omega, by omega⟩, r1, fun z => no (fun q => z q.1), fun z => ⟨⟨by omega, by omega⟩, r7, fun z2 => no (by omega), fun z2 => ?_⟩⟩, fun z => absurd (by omega) z⟩
    have q : ((pb 32 w : Nat) : Int) = x1 ∧ x7 < rchA f w := by omega
    rw [cif_t q, cif_t q] at k
    exact k
  | succ m ih =>
    intro b hb
    have b1 := fb b
    have b2 : f b &&& w ≤ f b := Nat.and_le_left
    refine s_M_waves_190 _ _ _ _ _ _ _ _ _ _ h K ?_
    rw [Int.toNat_natCast, hf b (by omega), and3_nat (by omega) (by omega)]
    refine ⟨⟨by omega, by omega⟩, fun z => by omega, fun _ => ⟨by omega, ⟨by omega, by omega⟩, ?_⟩⟩
    rw [b2i_congr (q := f b &&& w ≠ 0) (by omega)]
    exact ih (b + 1) (by omega)
theorem M_wv_176 {h : St} {f : Nat → Nat} {x5 : Int} (hf : ∀ j, j < 144 → h 144 j = ((f j : Nat) : Int)) (fb : ∀ j, f j < 256) (r1 : inR x1) (r4 : inR x4) (k : K (cif (x4 ≠ 0) (cif (x4 ≠ 1) x5 (msA x1 f 256)) (bsA x1 f (-4) 256)) h) : ∀ (m b : Nat), b + m = 256 → wI (D + 3) m_M_waves 176 [(0, vR 109), (1, vI x1), (2, vI x2), (3, vI x3), (4, vI x4), (5, vI x5), (6, vI (bsA x1 f (-4) b)), (7, vI (msA x1 f b)), (8, vI (b : Int))] [] h K := by
  intro m
  induction m with
  | zero =>
    intro b hb
    have e : b = 256 := by omega
    subst e
    exact s_M_waves_176 _ _ _ _ _ _ _ _ h K ⟨⟨by omega, by omega⟩, fun _ => ⟨r4, k⟩, fun z => absurd (by omega) z⟩
  | succ m ih =>
    intro b hb
    have r2 := ms_R (k := x1) (f := f) b
    exact s_M_waves_176 _ _ _ _ _ _ _ _ h K ⟨⟨by omega, by omega⟩, fun z => by omega, fun _ => M_wv_190 hf fb (by omega) r1 ⟨by omega, by omega⟩ (ih (b + 1) (by omega)) 144 0 (by omega)⟩
theorem M_wv_132 {h : St} {f : Nat → Nat} (hf : ∀ j, j < 144 → h 144 j = ((f j : Nat) : Int)) (fb : ∀ j, f j < 256) (r1 : inR x1) (r4 : inR x4) (k : K (cif (x4 ≠ 0) (cif (x4 ≠ 1) (nzA f) (msA x1 f 256)) (bsA x1 f (-4) 256)) h) : ∀ (m b : Nat), b + m = 144 → wI (D + 3) m_M_waves 132 [(0, vR 109), (1, vI x1), (2, vI x2), (3, vI x3), (4, vI x4), (5, vI (sm (fun j => b2i (f j ≠ 0)) b)), (6, vI (b : Int))] [] h K := by
  intro m
  induction m with
  | zero =>
    intro b hb
    have e : b = 144 := by omega
    subst e
    exact s_M_waves_132 _ _ _ _ _ _ h K ⟨⟨by omega, by omega⟩, fun _ => M_wv_176 hf fb r1 r4 k 256 0 (by omega), fun z => absurd (by omega) z⟩
  | succ m ih =>
    intro b hb
    have b1 := fb b
    refine s_M_waves_132 _ _ _ _ _ _ h K ?_
    rw [Int.toNat_natCast, hf b (by omega)]
    refine ⟨⟨by omega, by omega⟩, fun z => by omega, fun _ => ⟨by omega, ⟨by omega, by omega⟩, ?_⟩⟩
    rw [b2i_congr (q := f b ≠ 0) (by omega)]
    exact ih (b + 1) (by omega)
theorem M_wv_63 {n : Nat} {lg : Nat → Nat → Int} (vl : VLog n lg) (r1 : inR x1) (r4 : inR x4) (r2 : inR x2) (r3 : inR x3) : ∀ (m c : Nat) (h : St), c + m = n → MLog h n lg → (∀ j, j < 144 → h 144 j = ((lkA lg x2 x3 c j : Nat) : Int)) → (∀ h2, ag (fun c _ => c ≠ 144) h h2 → K (cif (x4 ≠ 0) (cif (x4 ≠ 1) (nzA (lkA lg x2 x3 n)) (msA x1 (lkA lg x2 x3 n) 256)) (bsA x1 (lkA lg x2 x3 n) (-4) 256)) h2) → wI (D + 3) m_M_waves 63 [(0, vR 109), (1, vI x1), (2, vI x2), (3, vI x3), (4, vI x4), (5, vI (c : Int))] [] h K := by
  intro m
  induction m with
  | zero =>
    intro c h hc ml hs k
    have hn := ml.2.1
    have h8 := ml.1
    have e : c = n := by omega
    subst e
    exact s_M_waves_63 _ _ _ _ _ h K ⟨⟨by omega, by omega⟩, ⟨by omega, by omega⟩, fun _ => M_wv_132 hs (fun j => lkA_lt vl _ (Nat.le_refl _)) r1 r4 (k h ag_rfl) 144 0 (by omega), fun z => absurd (by omega) z⟩
  | succ m ih =>
    intro c h hc ml hs k
    have hn := ml.2.1
    have h8 := ml.1
    have hc2 : c < n := by omega
    obtain ⟨a0, a1, a2, a3, a4, a5⟩ := ml.2.2 c hc2
    have q1 := vl c hc2
    refine s_M_waves_63 _ _ _ _ _ h K ⟨⟨by omega, by omega⟩, ⟨by omega, by omega⟩, fun z => by omega, fun _ => c_M_isOn ml vl hc2 r2 r3 ⟨b2i_R, fun z => ?_, fun z => ?_⟩⟩
    · have el : lkA lg x2 x3 (c + 1) = lkA lg x2 x3 c := funext (fun j => nif_f (fun q => (b2i_eq0.mp z) q.2))
      exact ih (c + 1) h (by omega) ml (by rw [el]; exact hs) k
    · have ho : onD lg c x2 x3 := b2i_ne0.mp z
      rw [Int.toNat_natCast, a0, a1, a4]
      have ez : (12 * lg 0 c + lg 1 c).toNat = (lg 0 c).toNat * 12 + (lg 1 c).toNat := by omega
      rw [ez]
      generalize ei : (lg 0 c).toNat * 12 + (lg 1 c).toNat = i
      have hi : i < 144 := by omega
      have b1 := lkA_lt vl (d := x2) (e := x3) (j := i) c (by omega)
      rw [hs i hi, show lg 4 c = (((lg 4 c).toNat : Nat) : Int) by omega, shl_1 (by omega), or3_nat (by omega) (by have := p2_8 (lg 4 c).toNat (by omega); omega)]
      refine ⟨by omega, by omega, ?_⟩
      refine ih (c + 1) _ (by omega) (MLog_c (ag_up (by omega) ag_rfl) ml) (fun j hj => ?_) (fun h2 g1 => k h2 (ag_trans (ag_up (by omega) ag_rfl) g1))
      by_cases q : j = i
      · subst q
        rw [up_same]
        show _ = ((nif _ _ _ : Nat) : Int)
        rw [nif_t ⟨ei, ho⟩]
      · rw [up_ne (by omega), hs j hj]
        show _ = ((nif _ _ _ : Nat) : Int)
        rw [nif_f (fun z2 => q (by rw [← z2.1]; exact ei))]
theorem M_wv_38 {n : Nat} {lg : Nat → Nat → Int} (vl : VLog n lg) (r1 : inR x1) (r4 : inR x4) (r2 : inR x2) (r3 : inR x3) : ∀ (m c : Nat) (h : St), c + m = 144 → MLog h n lg → (∀ j, j < c → h 144 j = 0) → (∀ h2, ag (fun c _ => c ≠ 144) h h2 → K (cif (x4 ≠ 0) (cif (x4 ≠ 1) (nzA (lkA lg x2 x3 n)) (msA x1 (lkA lg x2 x3 n) 256)) (bsA x1 (lkA lg x2 x3 n) (-4) 256)) h2) → wI (D + 3) m_M_waves 38 [(0, vR 109), (1, vI x1), (2, vI x2), (3, vI x3), (4, vI x4), (5, vI (c : Int))] [] h K := by
  intro m
  induction m with
  | zero =>
    intro c h hc ml hs k
    have e : c = 144 := by omega
    subst e
    exact s_M_waves_38 _ _ _ _ _ h K ⟨⟨by omega, by omega⟩, fun _ => M_wv_63 vl r1 r4 r2 r3 n 0 h (by omega) ml hs k, fun z => absurd (by omega) z⟩
  | succ m ih =>
    intro c h hc ml hs k
    refine s_M_waves_38 _ _ _ _ _ h K ⟨⟨by omega, by omega⟩, fun z => by omega, fun _ => ⟨by omega, ?_⟩⟩
    rw [Int.toNat_natCast]
    refine ih (c + 1) _ (by omega) (MLog_c (ag_up (by omega) ag_rfl) ml) (fun j hj => ?_) (fun h2 g1 => k h2 (ag_trans (ag_up (by omega) ag_rfl) g1))
    by_cases q : j = c
    · subst q
      rw [up_same]
    · rw [up_ne (by omega), hs j (by omega)]
end W34
theorem P_waves {KK : Int → Int → St → Prop} {h : St} (hr : Rel h) {a1 a2 a3 a4 : Int} (r1 : inR a1) (r2 : inR a2) (r3 : inR a3) (r4 : inR a4) (k : ∀ z h2, inR z → Rel h2 → KK z z h2) : mwpI 40 m_C_waves [vR 0, vI a1, vI a2, vI a3, vI a4] h (fun z h1 => mwpI 40 m_M_waves [vR 109, vI a1, vI a2, vI a3, vI a4] h1 (fun z2 h2 => KK z z2 h2)) := by
  obtain ⟨⟨n, lg, cl, ml, vl⟩, c9⟩ := id hr
  have hn := cl.2.1
  have kb := k (-1) h (by decide) hr
  have bad : ¬ ((1 ≤ a1 ∧ a1 ≤ 8) ∧ (0 ≤ a2 ∧ a2 ≤ a3 ∧ a3 ≤ 19) ∧ (0 ≤ a4 ∧ a4 ≤ 2)) → mwpI 40 m_M_waves [vR 109, vI a1, vI a2, vI a3, vI a4] h (fun z2 h2 => KK (-1) z2 h2) := fun q =>
    mI_intro b_M_waves rfl (s_M_waves_0 (d := 36) a1 a2 a3 a4 _ _ ⟨r1, fun _ => kb, fun q1 => ⟨r2, r3, fun _ => kb, fun q2 => ⟨r4, fun q3 => absurd ⟨q1, q2, q3⟩ q, fun _ => kb⟩⟩⟩)
  refine mI_intro b_C_waves rfl (s_C_waves_0 (d := 36) a1 a2 a3 a4 h _ ⟨r1, fun q => bad (fun z => q z.1), fun q1 => ⟨r2, r3, fun q => bad (fun z => q z.2.1), fun q2 => ⟨r4, fun q3 => ?_, fun q => bad (fun z => q z.2.2)⟩⟩⟩)
  refine c_Links_gather cl vl r2 r3 (fun h1 g1 g2 g3 => ?_)
  have hr1 : Rel h1 := Rel_c (ag_sub (fun c k p => by omega) g1) hr
  have ml1 : MLog h1 n lg := MLog_c (ag_sub (fun c k p => by omega) g1) ml
  have fb : ∀ j, lkA lg a2 a3 n j < 256 := fun j => lkA_lt vl n (Nat.le_refl _)
  have mm : ∀ K : Int → St → Prop, (∀ h2, ag (fun c _ => c ≠ 144) h1 h2 → K (cif (a4 ≠ 0) (cif (a4 ≠ 1) (nzA (lkA lg a2 a3 n)) (msA a1 (lkA lg a2 a3 n) 256)) (bsA a1 (lkA lg a2 a3 n) (-4) 256)) h2) → mwpI 40 m_M_waves [vR 109, vI a1, vI a2, vI a3, vI a4] h1 K := fun K kk =>
    mI_intro b_M_waves rfl (s_M_waves_0 (d := 36) a1 a2 a3 a4 _ _ ⟨r1, fun q => absurd q1 q, fun _ => ⟨r2, r3, fun q => absurd q2 q, fun _ => ⟨r4, fun _ => M_wv_38 vl r1 r4 r2 r3 144 0 h1 (by omega) ml1 (fun j hj => absurd hj (Nat.not_lt_zero j)) kk, fun q => absurd q3 q⟩⟩⟩)
  obtain ⟨e1, e2, e3⟩ := bs_eq (v := 0) (v2 := -4) 256 (ms_end (f := lkA lg a2 a3 n) q1)
  have rm := ms_R (k := a1) (f := lkA lg a2 a3 n) 256
  have rn := nzA_R (f := lkA lg a2 a3 n)
  refine ⟨fun q4 => c_Links_bestWaves g3 fb q1 ⟨fun q5 => ?_, fun q5 => ?_⟩, fun q4 => ?_⟩
  · have eb : bsA a1 (lkA lg a2 a3 n) 0 256 = (((bsA a1 (lkA lg a2 a3 n) 0 256).toNat : Nat) : Int) := by omega
    rw [eb]
    refine c_Links_reachedBy g3 fb (by omega) ?_
    rw [← e3]
    refine mm _ (fun h2 g4 => ?_)
    rw [cif_t q5, cif_f (by omega)]
    exact k _ _ ⟨by omega, by omega⟩ (Rel_c (ag_sub (fun c k p => by omega) g4) hr1)
  · refine mm _ (fun h2 g4 => ?_)
    rw [cif_f q5, ← e1]
    exact k _ _ ⟨by omega, by omega⟩ (Rel_c (ag_sub (fun c k p => by omega) g4) hr1)
  · rw [g2]
    refine mm _ (fun h2 g4 => ?_)
    rw [cif_t (by omega), cif_t (by omega)]
    exact k _ _ ⟨by omega, by omega⟩ (Rel_c (ag_sub (fun c k p => by omega) g4) hr1)
