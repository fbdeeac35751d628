theorem s_Senders_sends_0 {d : Nat}  (x1 : Int) (h : St) (K : Int → St → Prop) (F : (0 ≤ x1 ∧ x1 < 12) ∧ (((inR (h 63 x1.toNat)))) ∧ (K (b2i (¬ ((h 63 x1.toNat) = 0))) h)) : wI d m_Senders_sends 0 [(0, vR 60), (1, vI x1)] [] h K := by
  refine w_aload_n rfl rfl ?_
  refine w_getR rfl f_Senders_23 rfl rfl rfl rfl rfl ?_
  refine w_iload_n rfl rfl ?_
  obtain ⟨b1, F⟩ := F
  refine w_iaload rfl rfl rfl b1 ?_
  obtain ⟨G, F⟩ := F
  have J : ∀ (t4 : Int), t4 = b2i (¬ ((h 63 x1.toNat) = 0)) → wI d m_Senders_sends 14 [(0, vR 60), (1, vI x1)] [vI t4] h K := by
    intro t4 et4
    subst et4
    exact w_zret rfl rfl b2i_01 ⟨rfl, rfl, _, rfl, F⟩
  have b2 := G
  refine w_if_eq (tgt := 13) rfl (by decide) b2 (fun q3 => ?_) (fun q3 => ?_)
  · refine w_iconst rfl ?_
    exact J _ (b2i_f (fun z => z q3)).symm
  · refine w_iconst rfl ?_
    refine w_goto (tgt := 14) rfl (by decide) ?_
    exact J _ (b2i_t q3).symm
theorem s_Senders_sends_65_0 {d : Nat}  (x1 : Int) (h : St) (K : Int → St → Prop) (F : (0 ≤ x1 ∧ x1 < 12) ∧ (((inR (h 68 x1.toNat)))) ∧ (K (b2i (¬ ((h 68 x1.toNat) = 0))) h)) : wI d m_Senders_sends 0 [(0, vR 65), (1, vI x1)] [] h K := by
  refine w_aload_n rfl rfl ?_
  refine w_getR rfl f_Senders_23 rfl rfl rfl rfl rfl ?_
  refine w_iload_n rfl rfl ?_
  obtain ⟨b1, F⟩ := F
  refine w_iaload rfl rfl rfl b1 ?_
  obtain ⟨G, F⟩ := F
  have J : ∀ (t4 : Int), t4 = b2i (¬ ((h 68 x1.toNat) = 0)) → wI d m_Senders_sends 14 [(0, vR 65), (1, vI x1)] [vI t4] h K := by
    intro t4 et4
    subst et4
    exact w_zret rfl rfl b2i_01 ⟨rfl, rfl, _, rfl, F⟩
  have b2 := G
  refine w_if_eq (tgt := 13) rfl (by decide) b2 (fun q3 => ?_) (fun q3 => ?_)
  · refine w_iconst rfl ?_
    exact J _ (b2i_f (fun z => z q3)).symm
  · refine w_iconst rfl ?_
    refine w_goto (tgt := 14) rfl (by decide) ?_
    exact J _ (b2i_t q3).symm
theorem s_Senders_hear_0 {d : Nat}  (x3 : Int) (h : St) (K : St → Prop) (F : (mwpV (d + 1) m_JA_fillJ [vR 62, vJ 0] h (fun h1 => (mwpV (d + 1) m_JA_fill [vR 63, vI 0] h1 (fun h2 => (mwpV (d + 1) m_JA_fill [vR 64, vI 0] h2 (fun h3 => (wV (d + 1) m_Senders_hear 27 [(0, vR 60), (1, vR 1), (2, vR 57), (3, vI x3), (4, vI 0)] [] h3 K)))))))) : wV (d + 1) m_Senders_hear 0 [(0, vR 60), (1, vR 1), (2, vR 57), (3, vI x3)] [] h K := by
  refine w_aload_n rfl rfl ?_
  refine w_getR rfl f_Senders_19 rfl rfl rfl rfl rfl ?_
  refine w_lconst rfl ?_
  refine c_SV [vR 62, vJ 0] [] rfl b_JA_fillJ k_Senders_29 rfl rfl rfl (mwpV_mono (fun h1 F => ?_) F)
  refine w_aload_n rfl rfl ?_
  refine w_getR rfl f_Senders_23 rfl rfl rfl rfl rfl ?_
  refine w_iconst rfl ?_
  refine c_SV [vR 63, vI 0] [] rfl b_JA_fill k_Senders_35 rfl rfl rfl (mwpV_mono (fun h2 F => ?_) F)
  refine w_aload_n rfl rfl ?_
  refine w_getR rfl f_Senders_26 rfl rfl rfl rfl rfl ?_
  refine w_iconst rfl ?_
  refine c_SV [vR 64, vI 0] [] rfl b_JA_fill k_Senders_35 rfl rfl rfl (mwpV_mono (fun h3 F => ?_) F)
  refine w_iconst rfl ?_
  refine w_istore rfl rfl rfl rfl (w_ls (ls2 := [(0, vR 60), (1, vR 1), (2, vR 57), (3, vI x3), (4, vI 0)]) rfl ?_)
  exact F
theorem s_Senders_hear_27 {d : Nat}  (x3 x4 : Int) (h : St) (K : St → Prop) (F : (inR x4) ∧ (inR (h 1 6)) ∧ (((h 1 6) ≤ x4 → (wV (d + 1) m_Senders_hear 130 [(0, vR 60), (1, vR 1), (2, vR 57), (3, vI x3), (4, vI 0)] [] (up h 60 1 0) K)) ∧ (¬ ((h 1 6) ≤ x4) → (mwpI (d + 1) m_CallLog_isOn [vR 1, vI x4, vI x3, vI x3] h (fun z4 h4 => (inR z4) ∧ ((z4 = 0 → (wV (d + 1) m_Senders_hear 27 [(0, vR 60), (1, vR 1), (2, vR 57), (3, vI x3), (4, vI (x4 + 1))] [] h4 K)) ∧ (¬ (z4 = 0) → (0 ≤ x4 ∧ x4 < 60) ∧ (0 ≤ h4 2 x4.toNat ∧ h4 2 x4.toNat < 12) ∧ (mwpI (d + 1) m_Hands_handOf [vR 57, vR 1, vI x4] h4 (fun z9 h9 => (inR (h9 4 x4.toNat)) ∧ (wV (d + 1) m_Senders_hear 27 [(0, vR 60), (1, vR 1), (2, vR 57), (3, vI x3), (4, vI (x4 + 1))] [] (up (up (up h9 62 ((h4 2 x4.toNat).toNat) (or6 (h4 62 ((h4 2 x4.toNat).toNat)) (shl6 1 z9))) 63 ((h4 2 x4.toNat).toNat) (or3 (h9 63 ((h4 2 x4.toNat).toNat)) (shl3 1 (h9 6 x4.toNat)))) 64 ((h4 2 x4.toNat).toNat) (or3 (h9 64 ((h4 2 x4.toNat).toNat)) (shl3 1 ((h9 4 x4.toNat).tmod 24)))) K)))))))))) : wV (d + 1) m_Senders_hear 27 [(0, vR 60), (1, vR 1), (2, vR 57), (3, vI x3), (4, vI x4)] [] h K := by
  refine w_iload rfl rfl ?_
  refine w_aload_n rfl rfl ?_
  refine w_getI rfl f_Senders_38 rfl rfl rfl ?_
  obtain ⟨b1, F⟩ := F
  obtain ⟨b2, F⟩ := F
  refine w_icmp_ge (tgt := 122) rfl (by decide) ⟨b1, b2⟩ (fun q3 => ?_) (fun q3 => ?_)
  · replace F := F.1 q3
    refine w_aload_n rfl rfl ?_
    refine w_iconst rfl ?_
    refine w_putI rfl f_Senders_15 fw_7_1 rfl rfl rfl ?_
    refine w_iconst rfl ?_
    refine w_istore rfl rfl rfl rfl (w_ls (ls2 := [(0, vR 60), (1, vR 1), (2, vR 57), (3, vI x3), (4, vI 0)]) rfl ?_)
    exact F
  · replace F := F.2 q3
    refine w_aload_n rfl rfl ?_
    refine w_iload rfl rfl ?_
    refine w_iload_n rfl rfl ?_
    refine w_iload_n rfl rfl ?_
    refine c_VI [vI x4, vI x3, vI x3] [] rfl b_CallLog_isOn k_Senders_41 rfl rfl rfl rfl rfl rfl (mwpI_mono (fun z4 h4 F => ?_) F)
    obtain ⟨b5, F⟩ := F
    refine w_if_eq (tgt := 116) rfl (by decide) b5 (fun q6 => ?_) (fun q6 => ?_)
    · replace F := F.1 q6
      refine w_iinc rfl rfl rfl rfl rfl (w_ls (ls2 := [(0, vR 60), (1, vR 1), (2, vR 57), (3, vI x3), (4, vI (x4 + 1))]) rfl ?_)
      refine w_goto (tgt := 27) rfl (by decide) ?_
      exact F
    · replace F := F.2 q6
      refine w_aload_n rfl rfl ?_
      refine w_getR rfl f_Senders_45 rfl rfl rfl rfl rfl ?_
      refine w_iload rfl rfl ?_
      obtain ⟨b7, F⟩ := F
      refine w_iaload rfl rfl rfl b7 ?_
      refine w_istore rfl rfl rfl rfl (w_ls (ls2 := [(0, vR 60), (1, vR 1), (2, vR 57), (3, vI x3), (4, vI x4), (5, vI (h4 2 x4.toNat))]) rfl ?_)
      refine w_aload_n rfl rfl ?_
      refine w_getR rfl f_Senders_19 rfl rfl rfl rfl rfl ?_
      refine w_iload rfl rfl ?_
      refine w_dup2 rfl rfl rfl ?_
      obtain ⟨b8, F⟩ := F
      refine w_laload rfl rfl rfl b8 ?_
      refine w_lconst rfl ?_
      refine w_aload_n rfl rfl ?_
      refine w_aload_n rfl rfl ?_
      refine w_iload rfl rfl ?_
      refine c_VI [vR 1, vI x4] [vJ 1, vJ (h4 62 ((h4 2 x4.toNat).toNat)), vI (h4 2 x4.toNat), vR 62] rfl b_Hands_handOf k_Senders_48 rfl rfl rfl rfl rfl rfl (mwpI_mono (fun z9 h9 F => ?_) F)
      refine w_lshl rfl ?_
      refine w_lor rfl ?_
      refine w_lastore rfl rfl rfl b8 ?_
      refine w_aload_n rfl rfl ?_
      refine w_getR rfl f_Senders_23 rfl rfl rfl rfl rfl ?_
      refine w_iload rfl rfl ?_
      refine w_dup2 rfl rfl rfl ?_
      refine w_iaload rfl rfl rfl b8 ?_
      refine w_iconst rfl ?_
      refine w_aload_n rfl rfl ?_
      refine w_getR rfl f_Senders_54 rfl rfl rfl rfl rfl ?_
      refine w_iload rfl rfl ?_
      refine w_iaload rfl rfl rfl b7 ?_
      refine w_ishl rfl ?_
      refine w_ior rfl ?_
      refine w_iastore rfl rfl rfl b8 ?_
      refine w_aload_n rfl rfl ?_
      refine w_getR rfl f_Senders_26 rfl rfl rfl rfl rfl ?_
      refine w_iload rfl rfl ?_
      refine w_dup2 rfl rfl rfl ?_
      refine w_iaload rfl rfl rfl b8 ?_
      refine w_iconst rfl ?_
      refine w_aload_n rfl rfl ?_
      refine w_getR rfl f_Senders_57 rfl rfl rfl rfl rfl ?_
      refine w_iload rfl rfl ?_
      refine w_iaload rfl rfl rfl b7 ?_
      refine w_bipush (by decide) (by decide) rfl ?_
      obtain ⟨b10, F⟩ := F
      refine w_irem ⟨b10, (r_lit rfl), (by decide)⟩ rfl ?_
      refine w_ishl rfl ?_
      refine w_ior rfl ?_
      refine w_iastore rfl rfl rfl b8 ?_
      refine w_iinc rfl rfl rfl rfl rfl (w_ls (ls2 := [(0, vR 60), (1, vR 1), (2, vR 57), (3, vI x3), (4, vI (x4 + 1)), (5, vI (h4 2 x4.toNat))]) rfl ?_)
      refine w_goto (tgt := 27) rfl (by decide) ?_
      exact w_kp [0, 1, 2, 3, 4] F
theorem s_Senders_hear_130 {d : Nat}  (x3 x4 : Int) (h : St) (K : St → Prop) (F : (inR x4) ∧ ((12 ≤ x4 → (K h)) ∧ (¬ (12 ≤ x4) → (mwpI (d + 1) m_Senders_sends [vR 60, vI x4] h (fun z3 h3 => (inR z3) ∧ ((z3 = 0 → (wV (d + 1) m_Senders_hear 130 [(0, vR 60), (1, vR 1), (2, vR 57), (3, vI x3), (4, vI (x4 + 1))] [] h3 K)) ∧ (¬ (z3 = 0) → (0 ≤ h3 60 1 ∧ h3 60 1 < 12) ∧ (wV (d + 1) m_Senders_hear 130 [(0, vR 60), (1, vR 1), (2, vR 57), (3, vI x3), (4, vI (x4 + 1))] [] (up (up h3 61 ((h3 60 1).toNat) x4) 60 1 ((h3 60 1) + 1)) K)))))))) : wV (d + 1) m_Senders_hear 130 [(0, vR 60), (1, vR 1), (2, vR 57), (3, vI x3), (4, vI x4)] [] h K := by
  refine w_iload rfl rfl ?_
  refine w_bipush (by decide) (by decide) rfl ?_
  obtain ⟨b1, F⟩ := F
  refine w_icmp_ge (tgt := 173) rfl (by decide) ⟨b1, (r_lit rfl)⟩ (fun q2 => ?_) (fun q2 => ?_)
  · replace F := F.1 q2
    exact w_vret rfl rfl ⟨rfl, rfl, rfl, F⟩
  · replace F := F.2 q2
    refine w_aload_n rfl rfl ?_
    refine w_iload rfl rfl ?_
    refine c_VI [vI x4] [] rfl b_Senders_sends k_Senders_60 rfl rfl rfl rfl rfl rfl (mwpI_mono (fun z3 h3 F => ?_) F)
    obtain ⟨b4, F⟩ := F
    refine w_if_eq (tgt := 167) rfl (by decide) b4 (fun q5 => ?_) (fun q5 => ?_)
    · replace F := F.1 q5
      refine w_iinc rfl rfl rfl rfl rfl (w_ls (ls2 := [(0, vR 60), (1, vR 1), (2, vR 57), (3, vI x3), (4, vI (x4 + 1))]) rfl ?_)
      refine w_goto (tgt := 130) rfl (by decide) ?_
      exact F
    · replace F := F.2 q5
      refine w_aload_n rfl rfl ?_
      refine w_getR rfl f_Senders_9 rfl rfl rfl rfl rfl ?_
      refine w_aload_n rfl rfl ?_
      refine w_getI rfl f_Senders_15 rfl rfl rfl ?_
      refine w_iload rfl rfl ?_
      obtain ⟨b6, F⟩ := F
      refine w_iastore rfl rfl rfl b6 ?_
      refine w_aload_n rfl rfl ?_
      refine w_dup rfl rfl ?_
      refine w_getI rfl f_Senders_15 rfl rfl rfl ?_
      refine w_iconst rfl ?_
      refine w_iadd rfl ?_
      refine w_putI rfl f_Senders_15 fw_7_1 rfl rfl rfl ?_
      refine w_iinc rfl rfl rfl rfl rfl (w_ls (ls2 := [(0, vR 60), (1, vR 1), (2, vR 57), (3, vI x3), (4, vI (x4 + 1))]) rfl ?_)
      refine w_goto (tgt := 130) rfl (by decide) ?_
      exact F
theorem s_Senders_hear_65_0 {d : Nat}  (x3 : Int) (h : St) (K : St → Prop) (F : (mwpV (d + 1) m_JA_fillJ [vR 67, vJ 0] h (fun h1 => (mwpV (d + 1) m_JA_fill [vR 68, vI 0] h1 (fun h2 => (mwpV (d + 1) m_JA_fill [vR 69, vI 0] h2 (fun h3 => (wV (d + 1) m_Senders_hear 27 [(0, vR 65), (1, vR 1), (2, vR 57), (3, vI x3), (4, vI 0)] [] h3 K)))))))) : wV (d + 1) m_Senders_hear 0 [(0, vR 65), (1, vR 1), (2, vR 57), (3, vI x3)] [] h K := by
  refine w_aload_n rfl rfl ?_
  refine w_getR rfl f_Senders_19 rfl rfl rfl rfl rfl ?_
  refine w_lconst rfl ?_
  refine c_SV [vR 67, vJ 0] [] rfl b_JA_fillJ k_Senders_29 rfl rfl rfl (mwpV_mono (fun h1 F => ?_) F)
  refine w_aload_n rfl rfl ?_
  refine w_getR rfl f_Senders_23 rfl rfl rfl rfl rfl ?_
  refine w_iconst rfl ?_
  refine c_SV [vR 68, vI 0] [] rfl b_JA_fill k_Senders_35 rfl rfl rfl (mwpV_mono (fun h2 F => ?_) F)
  refine w_aload_n rfl rfl ?_
  refine w_getR rfl f_Senders_26 rfl rfl rfl rfl rfl ?_
  refine w_iconst rfl ?_
  refine c_SV [vR 69, vI 0] [] rfl b_JA_fill k_Senders_35 rfl rfl rfl (mwpV_mono (fun h3 F => ?_) F)
  refine w_iconst rfl ?_
  refine w_istore rfl rfl rfl rfl (w_ls (ls2 := [(0, vR 65), (1, vR 1), (2, vR 57), (3, vI x3), (4, vI 0)]) rfl ?_)
  exact F
theorem s_Senders_hear_65_27 {d : Nat}  (x3 x4 : Int) (h : St) (K : St → Prop) (F : (inR x4) ∧ (inR (h 1 6)) ∧ (((h 1 6) ≤ x4 → (wV (d + 1) m_Senders_hear 130 [(0, vR 65), (1, vR 1), (2, vR 57), (3, vI x3), (4, vI 0)] [] (up h 65 1 0) K)) ∧ (¬ ((h 1 6) ≤ x4) → (mwpI (d + 1) m_CallLog_isOn [vR 1, vI x4, vI x3, vI x3] h (fun z4 h4 => (inR z4) ∧ ((z4 = 0 → (wV (d + 1) m_Senders_hear 27 [(0, vR 65), (1, vR 1), (2, vR 57), (3, vI x3), (4, vI (x4 + 1))] [] h4 K)) ∧ (¬ (z4 = 0) → (0 ≤ x4 ∧ x4 < 60) ∧ (0 ≤ h4 2 x4.toNat ∧ h4 2 x4.toNat < 12) ∧ (mwpI (d + 1) m_Hands_handOf [vR 57, vR 1, vI x4] h4 (fun z9 h9 => (inR (h9 4 x4.toNat)) ∧ (wV (d + 1) m_Senders_hear 27 [(0, vR 65), (1, vR 1), (2, vR 57), (3, vI x3), (4, vI (x4 + 1))] [] (up (up (up h9 67 ((h4 2 x4.toNat).toNat) (or6 (h4 67 ((h4 2 x4.toNat).toNat)) (shl6 1 z9))) 68 ((h4 2 x4.toNat).toNat) (or3 (h9 68 ((h4 2 x4.toNat).toNat)) (shl3 1 (h9 6 x4.toNat)))) 69 ((h4 2 x4.toNat).toNat) (or3 (h9 69 ((h4 2 x4.toNat).toNat)) (shl3 1 ((h9 4 x4.toNat).tmod 24)))) K)))))))))) : wV (d + 1) m_Senders_hear 27 [(0, vR 65), (1, vR 1), (2, vR 57), (3, vI x3), (4, vI x4)] [] h K := by
  refine w_iload rfl rfl ?_
  refine w_aload_n rfl rfl ?_
  refine w_getI rfl f_Senders_38 rfl rfl rfl ?_
  obtain ⟨b1, F⟩ := F
  obtain ⟨b2, F⟩ := F
  refine w_icmp_ge (tgt := 122) rfl (by decide) ⟨b1, b2⟩ (fun q3 => ?_) (fun q3 => ?_)
  · replace F := F.1 q3
    refine w_aload_n rfl rfl ?_
    refine w_iconst rfl ?_
    refine w_putI rfl f_Senders_15 fw_7_1 rfl rfl rfl ?_
    refine w_iconst rfl ?_
    refine w_istore rfl rfl rfl rfl (w_ls (ls2 := [(0, vR 65), (1, vR 1), (2, vR 57), (3, vI x3), (4, vI 0)]) rfl ?_)
    exact F
  · replace F := F.2 q3
    refine w_aload_n rfl rfl ?_
    refine w_iload rfl rfl ?_
    refine w_iload_n rfl rfl ?_
    refine w_iload_n rfl rfl ?_
    refine c_VI [vI x4, vI x3, vI x3] [] rfl b_CallLog_isOn k_Senders_41 rfl rfl rfl rfl rfl rfl (mwpI_mono (fun z4 h4 F => ?_) F)
    obtain ⟨b5, F⟩ := F
    refine w_if_eq (tgt := 116) rfl (by decide) b5 (fun q6 => ?_) (fun q6 => ?_)
    · replace F := F.1 q6
      refine w_iinc rfl rfl rfl rfl rfl (w_ls (ls2 := [(0, vR 65), (1, vR 1), (2, vR 57), (3, vI x3), (4, vI (x4 + 1))]) rfl ?_)
      refine w_goto (tgt := 27) rfl (by decide) ?_
      exact F
    · replace F := F.2 q6
      refine w_aload_n rfl rfl ?_
      refine w_getR rfl f_Senders_45 rfl rfl rfl rfl rfl ?_
      refine w_iload rfl rfl ?_
      obtain ⟨b7, F⟩ := F
      refine w_iaload rfl rfl rfl b7 ?_
      refine w_istore rfl rfl rfl rfl (w_ls (ls2 := [(0, vR 65), (1, vR 1), (2, vR 57), (3, vI x3), (4, vI x4), (5, vI (h4 2 x4.toNat))]) rfl ?_)
      refine w_aload_n rfl rfl ?_
      refine w_getR rfl f_Senders_19 rfl rfl rfl rfl rfl ?_
      refine w_iload rfl rfl ?_
      refine w_dup2 rfl rfl rfl ?_
      obtain ⟨b8, F⟩ := F
      refine w_laload rfl rfl rfl b8 ?_
      refine w_lconst rfl ?_
      refine w_aload_n rfl rfl ?_
      refine w_aload_n rfl rfl ?_
      refine w_iload rfl rfl ?_
      refine c_VI [vR 1, vI x4] [vJ 1, vJ (h4 67 ((h4 2 x4.toNat).toNat)), vI (h4 2 x4.toNat), vR 67] rfl b_Hands_handOf k_Senders_48 rfl rfl rfl rfl rfl rfl (mwpI_mono (fun z9 h9 F => ?_) F)
      refine w_lshl rfl ?_
      refine w_lor rfl ?_
      refine w_lastore rfl rfl rfl b8 ?_
      refine w_aload_n rfl rfl ?_
      refine w_getR rfl f_Senders_23 rfl rfl rfl rfl rfl ?_
      refine w_iload rfl rfl ?_
      refine w_dup2 rfl rfl rfl ?_
      refine w_iaload rfl rfl rfl b8 ?_
      refine w_iconst rfl ?_
      refine w_aload_n rfl rfl ?_
      refine w_getR rfl f_Senders_54 rfl rfl rfl rfl rfl ?_
      refine w_iload rfl rfl ?_
      refine w_iaload rfl rfl rfl b7 ?_
      refine w_ishl rfl ?_
      refine w_ior rfl ?_
      refine w_iastore rfl rfl rfl b8 ?_
      refine w_aload_n rfl rfl ?_
      refine w_getR rfl f_Senders_26 rfl rfl rfl rfl rfl ?_
      refine w_iload rfl rfl ?_
      refine w_dup2 rfl rfl rfl ?_
      refine w_iaload rfl rfl rfl b8 ?_
      refine w_iconst rfl ?_
      refine w_aload_n rfl rfl ?_
      refine w_getR rfl f_Senders_57 rfl rfl rfl rfl rfl ?_
      refine w_iload rfl rfl ?_
      refine w_iaload rfl rfl rfl b7 ?_
      refine w_bipush (by decide) (by decide) rfl ?_
      obtain ⟨b10, F⟩ := F
      refine w_irem ⟨b10, (r_lit rfl), (by decide)⟩ rfl ?_
      refine w_ishl rfl ?_
      refine w_ior rfl ?_
      refine w_iastore rfl rfl rfl b8 ?_
      refine w_iinc rfl rfl rfl rfl rfl (w_ls (ls2 := [(0, vR 65), (1, vR 1), (2, vR 57), (3, vI x3), (4, vI (x4 + 1)), (5, vI (h4 2 x4.toNat))]) rfl ?_)
      refine w_goto (tgt := 27) rfl (by decide) ?_
      exact w_kp [0, 1, 2, 3, 4] F
theorem s_Senders_hear_65_130 {d : Nat}  (x3 x4 : Int) (h : St) (K : St → Prop) (F : (inR x4) ∧ ((12 ≤ x4 → (K h)) ∧ (¬ (12 ≤ x4) → (mwpI (d + 1) m_Senders_sends [vR 65, vI x4] h (fun z3 h3 => (inR z3) ∧ ((z3 = 0 → (wV (d + 1) m_Senders_hear 130 [(0, vR 65), (1, vR 1), (2, vR 57), (3, vI x3), (4, vI (x4 + 1))] [] h3 K)) ∧ (¬ (z3 = 0) → (0 ≤ h3 65 1 ∧ h3 65 1 < 12) ∧ (wV (d + 1) m_Senders_hear 130 [(0, vR 65), (1, vR 1), (2, vR 57), (3, vI x3), (4, vI (x4 + 1))] [] (up (up h3 66 ((h3 65 1).toNat) x4) 65 1 ((h3 65 1) + 1)) K)))))))) : wV (d + 1) m_Senders_hear 130 [(0, vR 65), (1, vR 1), (2, vR 57), (3, vI x3), (4, vI x4)] [] h K := by
  refine w_iload rfl rfl ?_
  refine w_bipush (by decide) (by decide) rfl ?_
  obtain ⟨b1, F⟩ := F
  refine w_icmp_ge (tgt := 173) rfl (by decide) ⟨b1, (r_lit rfl)⟩ (fun q2 => ?_) (fun q2 => ?_)
  · replace F := F.1 q2
    exact w_vret rfl rfl ⟨rfl, rfl, rfl, F⟩
  · replace F := F.2 q2
    refine w_aload_n rfl rfl ?_
    refine w_iload rfl rfl ?_
    refine c_VI [vI x4] [] rfl b_Senders_sends k_Senders_60 rfl rfl rfl rfl rfl rfl (mwpI_mono (fun z3 h3 F => ?_) F)
    obtain ⟨b4, F⟩ := F
    refine w_if_eq (tgt := 167) rfl (by decide) b4 (fun q5 => ?_) (fun q5 => ?_)
    · replace F := F.1 q5
      refine w_iinc rfl rfl rfl rfl rfl (w_ls (ls2 := [(0, vR 65), (1, vR 1), (2, vR 57), (3, vI x3), (4, vI (x4 + 1))]) rfl ?_)
      refine w_goto (tgt := 130) rfl (by decide) ?_
      exact F
    · replace F := F.2 q5
      refine w_aload_n rfl rfl ?_
      refine w_getR rfl f_Senders_9 rfl rfl rfl rfl rfl ?_
      refine w_aload_n rfl rfl ?_
      refine w_getI rfl f_Senders_15 rfl rfl rfl ?_
      refine w_iload rfl rfl ?_
      obtain ⟨b6, F⟩ := F
      refine w_iastore rfl rfl rfl b6 ?_
      refine w_aload_n rfl rfl ?_
      refine w_dup rfl rfl ?_
      refine w_getI rfl f_Senders_15 rfl rfl rfl ?_
      refine w_iconst rfl ?_
      refine w_iadd rfl ?_
      refine w_putI rfl f_Senders_15 fw_7_1 rfl rfl rfl ?_
      refine w_iinc rfl rfl rfl rfl rfl (w_ls (ls2 := [(0, vR 65), (1, vR 1), (2, vR 57), (3, vI x3), (4, vI (x4 + 1))]) rfl ?_)
      refine w_goto (tgt := 130) rfl (by decide) ?_
      exact F
noncomputable def orB (S : Nat → Prop) (v : Nat → Nat) : Nat → Nat
  | 0 => 0
  | c + 1 => nif (S c) (orB S v c ||| 2 ^ v c) (orB S v c)
theorem orB_lt {S : Nat → Prop} {v : Nat → Nat} {m : Nat} : ∀ c : Nat, (∀ i, i < c → v i < m) → orB S v c < 2 ^ m
  | 0, _ => by
    simp [orB]
    exact Nat.two_pow_pos m
  | c + 1, hv => by
    have ih := orB_lt (S := S) c (fun i hi => hv i (by omega))
    unfold orB
    by_cases z : S c
    · rw [nif_t z]
      exact Nat.or_lt_two_pow ih (Nat.pow_lt_pow_right (by omega) (hv c (by omega)))
    · rw [nif_f z]; exact ih
theorem orB_tb {S : Nat → Prop} {v : Nat → Nat} {j : Nat} : ∀ c : Nat, ((orB S v c).testBit j = true ↔ exA c (fun i => S i ∧ v i = j))
  | 0 => ⟨fun q => by simp [orB] at q, fun q => absurd q exA_0⟩
  | c + 1 => by
    have ih := orB_tb (S := S) (v := v) (j := j) c
    rw [exA_s, ← ih, show orB S v (c + 1) = nif (S c) (orB S v c ||| 2 ^ v c) (orB S v c) from rfl]
    by_cases z : S c
    · rw [nif_t z, Nat.testBit_or, Bool.or_eq_true, Nat.testBit_two_pow, decide_eq_true_iff]
      exact ⟨fun q => q.imp id (fun q => ⟨z, q⟩), fun q => q.imp id (fun q => q.2)⟩
    · rw [nif_f z]
      exact ⟨Or.inl, fun q => q.elim id (fun q => absurd q.1 z)⟩
theorem orB_0 {S : Nat → Prop} {v : Nat → Nat} : ∀ c : Nat, (orB S v c ≠ 0 ↔ exA c S)
  | 0 => ⟨fun q => absurd rfl q, fun q => absurd q exA_0⟩
  | c + 1 => by
    have ih := orB_0 (S := S) (v := v) c
    rw [exA_s, ← ih, show orB S v (c + 1) = nif (S c) (orB S v c ||| 2 ^ v c) (orB S v c) from rfl]
    by_cases z : S c
    · rw [nif_t z]
      exact ⟨fun _ => Or.inr z, fun _ => or_ne0⟩
    · rw [nif_f z]
      exact ⟨Or.inl, fun q => q.elim id (fun q => absurd q z)⟩
noncomputable def cS (S : Nat → Prop) : Nat → Nat
  | 0 => 0
  | a + 1 => nif (S a) (cS S a + 1) (cS S a)
theorem cS_le {S : Nat → Prop} : ∀ a : Nat, cS S a ≤ a
  | 0 => Nat.le_refl _
  | a + 1 => by
    have ih := cS_le (S := S) a
    unfold cS
    by_cases z : S a
    · rw [nif_t z]; omega
    · rw [nif_f z]; omega
theorem cS_mono {S : Nat → Prop} {a : Nat} : ∀ m : Nat, cS S a ≤ cS S (a + m)
  | 0 => Nat.le_refl _
  | m + 1 => by
    have ih := cS_mono (S := S) (a := a) m
    rw [show a + (m + 1) = (a + m) + 1 by omega, show cS S (a + m + 1) = nif (S (a + m)) (cS S (a + m) + 1) (cS S (a + m)) from rfl]
    by_cases z : S (a + m)
    · rw [nif_t z]; omega
    · rw [nif_f z]; exact ih
theorem cS_lt {S : Nat → Prop} {a b : Nat} (hab : a < b) (sa : S a) : cS S a < cS S b := by
  have h1 := cS_mono (S := S) (a := a + 1) (b - (a + 1))
  rw [show a + 1 + (b - (a + 1)) = b by omega, show cS S (a + 1) = cS S a + 1 from nif_t sa] at h1
  omega
def onS (lg : Nat → Nat → Int) (d : Int) (a i : Nat) : Prop := ofA lg a d i
def wvA (lg : Nat → Nat → Int) (i : Nat) : Nat := (lg 4 i).toNat
def hrA (lg : Nat → Nat → Int) (i : Nat) : Nat := ((lg 2 i).tmod 24).toNat
theorem hrA_R {n : Nat} {lg : Nat → Nat → Int} (vl : VLog n lg) {i : Nat} (hi : i < n) : (lg 2 i).tmod 24 = (hrA lg i : Int) ∧ hrA lg i < 24 := by
  have q := (vl i hi).2.2.2.1
  unfold hrA
  rw [Int.tmod_eq_emod_of_nonneg q.1]
  omega
theorem onD_of {lg : Nat → Nat → Int} {d : Int} {i : Nat} : onD lg i d d ↔ (lg 2 i).tdiv 24 = d := by unfold onD; omega
theorem p2_24 : ∀ w : Nat, w < 24 → 2 ^ w < 16777216 := by decide
theorem p2_60 : ∀ w : Nat, w < 60 → 2 ^ w < 1152921504606846976 := by decide
theorem c_Senders_sends_60 {D : Nat} {h : St} {K : Int → St → Prop} {a : Nat} {b : Nat} (ha : a < 12) (e : h 63 a = (b : Int)) (hb : b < 256) (k : K (b2i (b ≠ 0)) h) : mwpI (D + 1) m_Senders_sends [vR 60, vI a] h K := by
  refine mI_intro b_Senders_sends rfl (s_Senders_sends_0 (d := D) _ h K ?_)
  rw [Int.toNat_natCast, e]
  refine ⟨by omega, ⟨by omega, by omega⟩, ?_⟩
  rw [b2i_congr (q := b ≠ 0) (by omega)]
  exact k
def Snd60 (h : St) (lg : Nat → Nat → Int) (fh : Nat → Nat) (n : Nat) (d : Int) (c : Nat) : Prop := ∀ a, a < 12 → h 62 a = ((orB (onS lg d a) fh c : Nat) : Int) ∧ h 63 a = ((orB (onS lg d a) (wvA lg) c : Nat) : Int) ∧ h 64 a = ((orB (onS lg d a) (hrA lg) c : Nat) : Int)
theorem C_hear_60_130 {D : Nat} {K : St → Prop} {x3 : Int} {S : Nat → Prop} {bt : Nat → Nat} {h0 : St} (k : ∀ h2, ag (fun c k => c ≠ 61 ∧ ¬ (c = 60 ∧ k = 1)) h0 h2 → h2 60 1 = ((cS S 12 : Nat) : Int) → (∀ b, b < 12 → S b → h2 61 (cS S b) = b) → K h2) (hb : ∀ a, a < 12 → bt a < 256 ∧ (bt a ≠ 0 ↔ S a)) : ∀ (r a : Nat) (h : St), a + r = 12 → ag (fun c k => c ≠ 61 ∧ ¬ (c = 60 ∧ k = 1)) h0 h → (∀ b, b < 12 → h0 63 b = ((bt b : Nat) : Int)) → h 60 1 = ((cS S a : Nat) : Int) → (∀ b, b < a → S b → h 61 (cS S b) = b) → wV (D + 1) m_Senders_hear 130 [(0, vR 60), (1, vR 1), (2, vR 57), (3, vI x3), (4, vI (a : Int))] [] h K := by
  intro r
  induction r with
  | zero =>
    intro a h ha g f1 f2 f3
    have e : a = 12 := by omega
    subst e
    exact s_Senders_hear_130 _ _ h K ⟨⟨by omega, by omega⟩, fun _ => k h g f2 f3, fun z => absurd (by omega) z⟩
  | succ r ih =>
    intro a h ha g f1 f2 f3
    have le := cS_le (S := S) a
    obtain ⟨hb1, hb2⟩ := hb a (by omega)
    refine s_Senders_hear_130 _ _ h K ⟨⟨by omega, by omega⟩, fun z => by omega, fun _ => c_Senders_sends_60 (b := bt a) (by omega) (by rw [g _ _ (by omega)]; exact f1 a (by omega)) hb1 ⟨b2i_R, fun z => ?_, fun z => ⟨by omega, ?_⟩⟩⟩
    · have ns : ¬ S a := fun q => b2i_eq0.mp z (hb2.mpr q)
      refine ih (a + 1) h (by omega) g f1 (by rw [f2, show cS S (a + 1) = cS S a from nif_f ns]) (fun b hb9 sb => ?_)
      by_cases q : b = a
      · subst q; exact absurd sb ns
      · exact f3 b (by omega) sb
    · have sa : S a := hb2.mp (b2i_ne0.mp z)
      rw [f2, Int.toNat_natCast]
      refine ih (a + 1) _ (by omega) (ag_up (by omega) (ag_up (by omega) g)) f1 (by rw [up_same, show cS S (a + 1) = cS S a + 1 from nif_t sa]; rfl) (fun b hb9 sb => ?_)
      rw [up_ne (by omega)]
      by_cases q : b = a
      · subst q; rw [up_same]
      · have := cS_lt (S := S) (a := b) (b := a) (by omega) sb
        rw [up_ne (by omega)]
        exact f3 b (by omega) sb
theorem c_Senders_sends_65 {D : Nat} {h : St} {K : Int → St → Prop} {a : Nat} {b : Nat} (ha : a < 12) (e : h 68 a = (b : Int)) (hb : b < 256) (k : K (b2i (b ≠ 0)) h) : mwpI (D + 1) m_Senders_sends [vR 65, vI a] h K := by
  refine mI_intro b_Senders_sends rfl (s_Senders_sends_65_0 (d := D) _ h K ?_)
  rw [Int.toNat_natCast, e]
  refine ⟨by omega, ⟨by omega, by omega⟩, ?_⟩
  rw [b2i_congr (q := b ≠ 0) (by omega)]
  exact k
def Snd65 (h : St) (lg : Nat → Nat → Int) (fh : Nat → Nat) (n : Nat) (d : Int) (c : Nat) : Prop := ∀ a, a < 12 → h 67 a = ((orB (onS lg d a) fh c : Nat) : Int) ∧ h 68 a = ((orB (onS lg d a) (wvA lg) c : Nat) : Int) ∧ h 69 a = ((orB (onS lg d a) (hrA lg) c : Nat) : Int)
theorem C_hear_65_130 {D : Nat} {K : St → Prop} {x3 : Int} {S : Nat → Prop} {bt : Nat → Nat} {h0 : St} (k : ∀ h2, ag (fun c k => c ≠ 66 ∧ ¬ (c = 65 ∧ k = 1)) h0 h2 → h2 65 1 = ((cS S 12 : Nat) : Int) → (∀ b, b < 12 → S b → h2 66 (cS S b) = b) → K h2) (hb : ∀ a, a < 12 → bt a < 256 ∧ (bt a ≠ 0 ↔ S a)) : ∀ (r a : Nat) (h : St), a + r = 12 → ag (fun c k => c ≠ 66 ∧ ¬ (c = 65 ∧ k = 1)) h0 h → (∀ b, b < 12 → h0 68 b = ((bt b : Nat) : Int)) → h 65 1 = ((cS S a : Nat) : Int) → (∀ b, b < a → S b → h 66 (cS S b) = b) → wV (D + 1) m_Senders_hear 130 [(0, vR 65), (1, vR 1), (2, vR 57), (3, vI x3), (4, vI (a : Int))] [] h K := by
  intro r
  induction r with
  | zero =>
    intro a h ha g f1 f2 f3
    have e : a = 12 := by omega
    subst e
    exact s_Senders_hear_65_130 _ _ h K ⟨⟨by omega, by omega⟩, fun _ => k h g f2 f3, fun z => absurd (by omega) z⟩
  | succ r ih =>
    intro a h ha g f1 f2 f3
    have le := cS_le (S := S) a
    obtain ⟨hb1, hb2⟩ := hb a (by omega)
    refine s_Senders_hear_65_130 _ _ h K ⟨⟨by omega, by omega⟩, fun z => by omega, fun _ => c_Senders_sends_65 (b := bt a) (by omega) (by rw [g _ _ (by omega)]; exact f1 a (by omega)) hb1 ⟨b2i_R, fun z => ?_, fun z => ⟨by omega, ?_⟩⟩⟩
    · have ns : ¬ S a := fun q => b2i_eq0.mp z (hb2.mpr q)
      refine ih (a + 1) h (by omega) g f1 (by rw [f2, show cS S (a + 1) = cS S a from nif_f ns]) (fun b hb9 sb => ?_)
      by_cases q : b = a
      · subst q; exact absurd sb ns
      · exact f3 b (by omega) sb
    · have sa : S a := hb2.mp (b2i_ne0.mp z)
      rw [f2, Int.toNat_natCast]
      refine ih (a + 1) _ (by omega) (ag_up (by omega) (ag_up (by omega) g)) f1 (by rw [up_same, show cS S (a + 1) = cS S a + 1 from nif_t sa]; rfl) (fun b hb9 sb => ?_)
      rw [up_ne (by omega)]
      by_cases q : b = a
      · subst q; rw [up_same]
      · have := cS_lt (S := S) (a := b) (b := a) (by omega) sb
        rw [up_ne (by omega)]
        exact f3 b (by omega) sb
