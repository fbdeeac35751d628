theorem s_Book_adopt_0 {d : Nat}  (h : St) (K : Int → St → Prop) (F : (mwpV (d + 2) m_JA_fill [vR 16, vI ((-4))] (up h 8 12 (h 8 7)) (fun h1 => (wI (d + 2) m_Book_adopt 21 [(0, vR 8), (1, vI 0)] [] h1 K)))) : wI (d + 2) m_Book_adopt 0 [(0, vR 8)] [] h K := by
  refine w_aload_n rfl rfl ?_
  refine w_aload_n rfl rfl ?_
  refine w_getI rfl f_Book_35 rfl rfl rfl ?_
  refine w_putI rfl f_Book_52 fw_0_12 rfl rfl rfl ?_
  refine w_aload_n rfl rfl ?_
  refine w_getR rfl f_Book_46 rfl rfl rfl rfl rfl ?_
  refine w_iconst rfl ?_
  refine w_aaload rfl rfl rfl ⟨by decide, by decide⟩ rfl ?_
  refine w_bipush (by decide) (by decide) rfl ?_
  refine c_SV [vR 16, vI ((-4))] [] rfl b_JA_fill k_Book_55 rfl rfl rfl (mwpV_mono (fun h1 F => ?_) F)
  refine w_iconst rfl ?_
  refine w_istore_n rfl rfl rfl rfl (w_ls (ls2 := [(0, vR 8), (1, vI 0)]) rfl ?_)
  exact F
theorem s_Book_adopt_21 {d : Nat}  (x1 : Int) (h : St) (K : Int → St → Prop) (F : (inR x1) ∧ (inR (h 8 7)) ∧ (((h 8 7) ≤ x1 → (wI (d + 2) m_Book_adopt 67 [(0, vR 8), (1, vI 1)] [] h K)) ∧ (¬ ((h 8 7) ≤ x1) → (0 ≤ x1 ∧ x1 < 40) ∧ (inR (h 11 x1.toNat)) ∧ (((h 11 x1.toNat) ≠ 112 → (wI (d + 2) m_Book_adopt 21 [(0, vR 8), (1, vI (x1 + 1))] [] h K)) ∧ (¬ ((h 11 x1.toNat) ≠ 112) → (0 ≤ h 12 x1.toNat ∧ h 12 x1.toNat < 12) ∧ (wI (d + 2) m_Book_adopt 21 [(0, vR 8), (1, vI (x1 + 1))] [] (up h 16 ((h 12 x1.toNat).toNat) (h 13 x1.toNat)) K)))))) : wI (d + 2) m_Book_adopt 21 [(0, vR 8), (1, vI x1)] [] h K := by
  refine w_iload_n rfl rfl ?_
  refine w_aload_n rfl rfl ?_
  refine w_getI rfl f_Book_35 rfl rfl rfl ?_
  obtain ⟨b1, F⟩ := F
  obtain ⟨b2, F⟩ := F
  refine w_icmp_ge (tgt := 65) rfl (by decide) ⟨b1, b2⟩ (fun q3 => ?_) (fun q3 => ?_)
  · replace F := F.1 q3
    refine w_iconst rfl ?_
    refine w_istore_n rfl rfl rfl rfl (w_ls (ls2 := [(0, vR 8), (1, vI 1)]) rfl ?_)
    exact F
  · replace F := F.2 q3
    refine w_aload_n rfl rfl ?_
    refine w_getR rfl f_Book_23 rfl rfl rfl rfl rfl ?_
    refine w_iload_n rfl rfl ?_
    obtain ⟨b4, F⟩ := F
    refine w_iaload rfl rfl rfl b4 ?_
    refine w_bipush (by decide) (by decide) rfl ?_
    obtain ⟨b5, F⟩ := F
    refine w_icmp_ne (tgt := 59) rfl (by decide) ⟨b5, (r_lit rfl)⟩ (fun q6 => ?_) (fun q6 => ?_)
    · replace F := F.1 q6
      refine w_iinc rfl rfl rfl rfl rfl (w_ls (ls2 := [(0, vR 8), (1, vI (x1 + 1))]) rfl ?_)
      refine w_goto (tgt := 21) rfl (by decide) ?_
      exact F
    · replace F := F.2 q6
      refine w_aload_n rfl rfl ?_
      refine w_getR rfl f_Book_46 rfl rfl rfl rfl rfl ?_
      refine w_iconst rfl ?_
      refine w_aaload rfl rfl rfl ⟨by decide, by decide⟩ rfl ?_
      refine w_aload_n rfl rfl ?_
      refine w_getR rfl f_Book_26 rfl rfl rfl rfl rfl ?_
      refine w_iload_n rfl rfl ?_
      refine w_iaload rfl rfl rfl b4 ?_
      refine w_aload_n rfl rfl ?_
      refine w_getR rfl f_Book_29 rfl rfl rfl rfl rfl ?_
      refine w_iload_n rfl rfl ?_
      refine w_iaload rfl rfl rfl b4 ?_
      obtain ⟨b7, F⟩ := F
      refine w_iastore rfl rfl rfl b7 ?_
      refine w_iinc rfl rfl rfl rfl rfl (w_ls (ls2 := [(0, vR 8), (1, vI (x1 + 1))]) rfl ?_)
      refine w_goto (tgt := 21) rfl (by decide) ?_
      exact F
theorem s_Book_adopt_67 {d : Nat}  (x1 : Int) (h : St) (K : Int → St → Prop) (F : (inR x1) ∧ ((20 ≤ x1 → (wI (d + 2) m_Book_adopt 91 [(0, vR 8), (1, vI 0)] [] h K)) ∧ (¬ (20 ≤ x1) → (mwpV (d + 2) m_Book_goOn [vR 8, vI x1] h (fun h3 => (mwpV (d + 2) m_Book_changePlaces [vR 8, vI x1] h3 (fun h4 => (wI (d + 2) m_Book_adopt 67 [(0, vR 8), (1, vI (x1 + 1))] [] h4 K)))))))) : wI (d + 2) m_Book_adopt 67 [(0, vR 8), (1, vI x1)] [] h K := by
  refine w_iload_n rfl rfl ?_
  refine w_bipush (by decide) (by decide) rfl ?_
  obtain ⟨b1, F⟩ := F
  refine w_icmp_ge (tgt := 89) rfl (by decide) ⟨b1, (r_lit rfl)⟩ (fun q2 => ?_) (fun q2 => ?_)
  · replace F := F.1 q2
    refine w_iconst rfl ?_
    refine w_istore_n rfl rfl rfl rfl (w_ls (ls2 := [(0, vR 8), (1, vI 0)]) rfl ?_)
    exact F
  · replace F := F.2 q2
    refine w_aload_n rfl rfl ?_
    refine w_iload_n rfl rfl ?_
    refine c_VV [vI x1] [] rfl b_Book_goOn k_Book_93 rfl rfl rfl rfl rfl rfl (mwpV_mono (fun h3 F => ?_) F)
    refine w_aload_n rfl rfl ?_
    refine w_iload_n rfl rfl ?_
    refine c_VV [vI x1] [] rfl b_Book_changePlaces k_Book_96 rfl rfl rfl rfl rfl rfl (mwpV_mono (fun h4 F => ?_) F)
    refine w_iinc rfl rfl rfl rfl rfl (w_ls (ls2 := [(0, vR 8), (1, vI (x1 + 1))]) rfl ?_)
    refine w_goto (tgt := 67) rfl (by decide) ?_
    exact F
theorem s_Book_adopt_91 {d : Nat}  (x1 : Int) (h : St) (K : Int → St → Prop) (F : (inR x1) ∧ ((20 ≤ x1 → (K (h 8 12) h)) ∧ (¬ (20 ≤ x1) → (mwpV (d + 2) m_Book_tellPosts [vR 8, vI x1] h (fun h3 => (wI (d + 2) m_Book_adopt 91 [(0, vR 8), (1, vI (x1 + 1))] [] h3 K)))))) : wI (d + 2) m_Book_adopt 91 [(0, vR 8), (1, vI x1)] [] h K := by
  refine w_iload_n rfl rfl ?_
  refine w_bipush (by decide) (by decide) rfl ?_
  obtain ⟨b1, F⟩ := F
  refine w_icmp_ge (tgt := 108) rfl (by decide) ⟨b1, (r_lit rfl)⟩ (fun q2 => ?_) (fun q2 => ?_)
  · replace F := F.1 q2
    refine w_aload_n rfl rfl ?_
    refine w_getI rfl f_Book_52 rfl rfl rfl ?_
    exact w_iret rfl rfl ⟨rfl, rfl, _, rfl, F⟩
  · replace F := F.2 q2
    refine w_aload_n rfl rfl ?_
    refine w_iload_n rfl rfl ?_
    refine c_VV [vI x1] [] rfl b_Book_tellPosts k_Book_99 rfl rfl rfl rfl rfl rfl (mwpV_mono (fun h3 F => ?_) F)
    refine w_iinc rfl rfl rfl rfl rfl (w_ls (ls2 := [(0, vR 8), (1, vI (x1 + 1))]) rfl ?_)
    refine w_goto (tgt := 91) rfl (by decide) ?_
    exact F
theorem s_Book_goOn_0 {d : Nat}  (x1 : Int) (h : St) (K : St → Prop) (F : (mwpI (d + 1) m_Book_stepAt [vR 8, vI x1] h (fun z1 h1 => (wV (d + 1) m_Book_goOn 8 [(0, vR 8), (1, vI x1), (2, vI z1), (3, vI 0)] [] h1 K)))) : wV (d + 1) m_Book_goOn 0 [(0, vR 8), (1, vI x1)] [] h K := by
  refine w_aload_n rfl rfl ?_
  refine w_iload_n rfl rfl ?_
  refine c_VI [vI x1] [] rfl b_Book_stepAt k_Book_102 rfl rfl rfl rfl rfl rfl (mwpI_mono (fun z1 h1 F => ?_) F)
  refine w_istore_n rfl rfl rfl rfl (w_ls (ls2 := [(0, vR 8), (1, vI x1), (2, vI z1)]) rfl ?_)
  refine w_iconst rfl ?_
  refine w_istore_n rfl rfl rfl rfl (w_ls (ls2 := [(0, vR 8), (1, vI x1), (2, vI z1), (3, vI 0)]) rfl ?_)
  exact F
theorem s_Book_goOn_8 {d : Nat}  (x1 x2 x3 : Int) (h : St) (K : St → Prop) (F : (inR x3) ∧ ((12 ≤ x3 → (K h)) ∧ (¬ (12 ≤ x3) → (0 ≤ x1 - 1 ∧ x1 - 1 < 20) ∧ (0 ≤ x3 ∧ x3 < 12) ∧ (0 ≤ x1 ∧ x1 < 20) ∧ (((inR (h (16 + (x1 - 1).toNat) x3.toNat)) ∧ ((h (16 + (x1 - 1).toNat) x3.toNat) ≠ ((-4)) → ((inR ((h (16 + (x1 - 1).toNat) x3.toNat) + x2)))))) ∧ (wV (d + 1) m_Book_goOn 8 [(0, vR 8), (1, vI x1), (2, vI x2), (3, vI (x3 + 1))] [] (up h (16 + x1.toNat) x3.toNat (cif ((h (16 + (x1 - 1).toNat) x3.toNat) ≠ ((-4))) (((h (16 + (x1 - 1).toNat) x3.toNat) + x2).tmod 12) ((-4)))) K)))) : wV (d + 1) m_Book_goOn 8 [(0, vR 8), (1, vI x1), (2, vI x2), (3, vI x3)] [] h K := by
  refine w_iload_n rfl rfl ?_
  refine w_bipush (by decide) (by decide) rfl ?_
  obtain ⟨b1, F⟩ := F
  refine w_icmp_ge (tgt := 59) rfl (by decide) ⟨b1, (r_lit rfl)⟩ (fun q2 => ?_) (fun q2 => ?_)
  · replace F := F.1 q2
    exact w_vret rfl rfl ⟨rfl, rfl, rfl, F⟩
  · replace F := F.2 q2
    refine w_aload_n rfl rfl ?_
    refine w_getR rfl f_Book_46 rfl rfl rfl rfl rfl ?_
    refine w_iload_n rfl rfl ?_
    refine w_iconst rfl ?_
    refine w_isub rfl ?_
    obtain ⟨b3, F⟩ := F
    refine w_aaload rfl rfl rfl b3 rfl ?_
    refine w_iload_n rfl rfl ?_
    obtain ⟨b4, F⟩ := F
    refine w_iaload rfl (rw_16 b3).1 (rw_16 b3).2 b4 ?_
    refine w_istore rfl rfl rfl rfl (w_ls (ls2 := [(0, vR 8), (1, vI x1), (2, vI x2), (3, vI x3), (4, vI (h (16 + (x1 - 1).toNat) x3.toNat))]) rfl ?_)
    refine w_aload_n rfl rfl ?_
    refine w_getR rfl f_Book_46 rfl rfl rfl rfl rfl ?_
    refine w_iload_n rfl rfl ?_
    obtain ⟨b5, F⟩ := F
    refine w_aaload rfl rfl rfl b5 rfl ?_
    refine w_iload_n rfl rfl ?_
    refine w_iload rfl rfl ?_
    refine w_bipush (by decide) (by decide) rfl ?_
    obtain ⟨G, F⟩ := F
    have J : ∀ (t9 : Int), t9 = cif ((h (16 + (x1 - 1).toNat) x3.toNat) ≠ ((-4))) (((h (16 + (x1 - 1).toNat) x3.toNat) + x2).tmod 12) ((-4)) → wV (d + 1) m_Book_goOn 52 [(0, vR 8), (1, vI x1), (2, vI x2), (3, vI x3), (4, vI (h (16 + (x1 - 1).toNat) x3.toNat))] [vI t9, vI x3, vR (16 + x1.toNat)] h K := by
      intro t9 et9
      subst et9
      refine w_iastore rfl (rw_16 b5).1 (rw_16 b5).2 b4 ?_
      refine w_iinc rfl rfl rfl rfl rfl (w_ls (ls2 := [(0, vR 8), (1, vI x1), (2, vI x2), (3, vI (x3 + 1)), (4, vI (h (16 + (x1 - 1).toNat) x3.toNat))]) rfl ?_)
      refine w_goto (tgt := 8) rfl (by decide) ?_
      exact w_kp [0, 1, 2, 3] F
    obtain ⟨b6, ga_⟩ := G
    refine w_icmp_ne (tgt := 45) rfl (by decide) ⟨b6, (r_lit rfl)⟩ (fun q7 => ?_) (fun q7 => ?_)
    · have G := ga_ q7
      have b8 := G
      refine w_iload rfl rfl ?_
      refine w_iload_n rfl rfl ?_
      refine w_iadd rfl ?_
      refine w_bipush (by decide) (by decide) rfl ?_
      refine w_irem ⟨b8, (r_lit rfl), (by decide)⟩ rfl ?_
      exact J _ (cif_t q7).symm
    · refine w_bipush (by decide) (by decide) rfl ?_
      refine w_goto (tgt := 52) rfl (by decide) ?_
      exact J _ (cif_f q7).symm
theorem s_Book_stepAt_0 {d : Nat}  (x1 : Int) (h : St) (K : Int → St → Prop) (F : (wI d m_Book_stepAt 7 [(0, vR 8), (1, vI x1), (2, vI ((h 8 7) - 1))] [] h K)) : wI d m_Book_stepAt 0 [(0, vR 8), (1, vI x1)] [] h K := by
  refine w_aload_n rfl rfl ?_
  refine w_getI rfl f_Book_35 rfl rfl rfl ?_
  refine w_iconst rfl ?_
  refine w_isub rfl ?_
  refine w_istore_n rfl rfl rfl rfl (w_ls (ls2 := [(0, vR 8), (1, vI x1), (2, vI ((h 8 7) - 1))]) rfl ?_)
  exact F
theorem s_Book_stepAt_7 {d : Nat}  (x1 x2 : Int) (h : St) (K : Int → St → Prop) (F : (inR x2) ∧ ((x2 < 0 → (K 0 h)) ∧ (¬ (x2 < 0) → (0 ≤ x2 ∧ x2 < 40) ∧ (inR (h 11 x2.toNat)) ∧ (((h 11 x2.toNat) ≠ 107 → (wI d m_Book_stepAt 7 [(0, vR 8), (1, vI x1), (2, vI (x2 + (-1)))] [] h K)) ∧ (¬ ((h 11 x2.toNat) ≠ 107) → (inR (h 13 x2.toNat)) ∧ (inR x1) ∧ ((x1 < (h 13 x2.toNat) → (wI d m_Book_stepAt 7 [(0, vR 8), (1, vI x1), (2, vI (x2 + (-1)))] [] h K)) ∧ (¬ (x1 < (h 13 x2.toNat)) → (K (h 12 x2.toNat) h)))))))) : wI d m_Book_stepAt 7 [(0, vR 8), (1, vI x1), (2, vI x2)] [] h K := by
  refine w_iload_n rfl rfl ?_
  obtain ⟨b1, F⟩ := F
  refine w_if_lt (tgt := 45) rfl (by decide) b1 (fun q2 => ?_) (fun q2 => ?_)
  · replace F := F.1 q2
    refine w_iconst rfl ?_
    exact w_iret rfl rfl ⟨rfl, rfl, _, rfl, F⟩
  · replace F := F.2 q2
    refine w_aload_n rfl rfl ?_
    refine w_getR rfl f_Book_23 rfl rfl rfl rfl rfl ?_
    refine w_iload_n rfl rfl ?_
    obtain ⟨b3, F⟩ := F
    refine w_iaload rfl rfl rfl b3 ?_
    refine w_bipush (by decide) (by decide) rfl ?_
    obtain ⟨b4, F⟩ := F
    refine w_icmp_ne (tgt := 39) rfl (by decide) ⟨b4, (r_lit rfl)⟩ (fun q5 => ?_) (fun q5 => ?_)
    · replace F := F.1 q5
      refine w_iinc rfl rfl rfl rfl rfl (w_ls (ls2 := [(0, vR 8), (1, vI x1), (2, vI (x2 + (-1)))]) rfl ?_)
      refine w_goto (tgt := 7) rfl (by decide) ?_
      exact F
    · replace F := F.2 q5
      refine w_aload_n rfl rfl ?_
      refine w_getR rfl f_Book_29 rfl rfl rfl rfl rfl ?_
      refine w_iload_n rfl rfl ?_
      refine w_iaload rfl rfl rfl b3 ?_
      refine w_iload_n rfl rfl ?_
      obtain ⟨b6, F⟩ := F
      obtain ⟨b7, F⟩ := F
      refine w_icmp_gt (tgt := 39) rfl (by decide) ⟨b6, b7⟩ (fun q8 => ?_) (fun q8 => ?_)
      · replace F := F.1 q8
        refine w_iinc rfl rfl rfl rfl rfl (w_ls (ls2 := [(0, vR 8), (1, vI x1), (2, vI (x2 + (-1)))]) rfl ?_)
        refine w_goto (tgt := 7) rfl (by decide) ?_
        exact F
      · replace F := F.2 q8
        refine w_aload_n rfl rfl ?_
        refine w_getR rfl f_Book_26 rfl rfl rfl rfl rfl ?_
        refine w_iload_n rfl rfl ?_
        refine w_iaload rfl rfl rfl b3 ?_
        exact w_iret rfl rfl ⟨rfl, rfl, _, rfl, F⟩
theorem s_Book_changePlaces_0 {d : Nat}  (x1 : Int) (h : St) (K : St → Prop) (F : (wV (d + 1) m_Book_changePlaces 2 [(0, vR 8), (1, vI x1), (2, vI 0)] [] h K)) : wV (d + 1) m_Book_changePlaces 0 [(0, vR 8), (1, vI x1)] [] h K := by
  refine w_iconst rfl ?_
  refine w_istore_n rfl rfl rfl rfl (w_ls (ls2 := [(0, vR 8), (1, vI x1), (2, vI 0)]) rfl ?_)
  exact F
theorem s_Book_changePlaces_2 {d : Nat}  (x1 x2 : Int) (h : St) (K : St → Prop) (F : (inR x2) ∧ (inR (h 8 7)) ∧ (((h 8 7) ≤ x2 → (K h)) ∧ (¬ ((h 8 7) ≤ x2) → (0 ≤ x2 ∧ x2 < 40) ∧ (inR (h 11 x2.toNat)) ∧ (((h 11 x2.toNat) ≠ 120 → (wV (d + 1) m_Book_changePlaces 2 [(0, vR 8), (1, vI x1), (2, vI (x2 + 1))] [] h K)) ∧ (¬ ((h 11 x2.toNat) ≠ 120) → (inR (h 14 x2.toNat)) ∧ (inR x1) ∧ (((h 14 x2.toNat) ≠ x1 → (wV (d + 1) m_Book_changePlaces 2 [(0, vR 8), (1, vI x1), (2, vI (x2 + 1))] [] h K)) ∧ (¬ ((h 14 x2.toNat) ≠ x1) → (0 ≤ x1 ∧ x1 < 20) ∧ (mwpV (d + 1) m_Book_swap [vR (16 + x1.toNat), vI (h 12 x2.toNat), vI (h 13 x2.toNat)] h (fun h11 => (wV (d + 1) m_Book_changePlaces 2 [(0, vR 8), (1, vI x1), (2, vI (x2 + 1))] [] h11 K)))))))))) : wV (d + 1) m_Book_changePlaces 2 [(0, vR 8), (1, vI x1), (2, vI x2)] [] h K := by
  refine w_iload_n rfl rfl ?_
  refine w_aload_n rfl rfl ?_
  refine w_getI rfl f_Book_35 rfl rfl rfl ?_
  obtain ⟨b1, F⟩ := F
  obtain ⟨b2, F⟩ := F
  refine w_icmp_ge (tgt := 58) rfl (by decide) ⟨b1, b2⟩ (fun q3 => ?_) (fun q3 => ?_)
  · replace F := F.1 q3
    exact w_vret rfl rfl ⟨rfl, rfl, rfl, F⟩
  · replace F := F.2 q3
    refine w_aload_n rfl rfl ?_
    refine w_getR rfl f_Book_23 rfl rfl rfl rfl rfl ?_
    refine w_iload_n rfl rfl ?_
    obtain ⟨b4, F⟩ := F
    refine w_iaload rfl rfl rfl b4 ?_
    refine w_bipush (by decide) (by decide) rfl ?_
    obtain ⟨b5, F⟩ := F
    refine w_icmp_ne (tgt := 52) rfl (by decide) ⟨b5, (r_lit rfl)⟩ (fun q6 => ?_) (fun q6 => ?_)
    · replace F := F.1 q6
      refine w_iinc rfl rfl rfl rfl rfl (w_ls (ls2 := [(0, vR 8), (1, vI x1), (2, vI (x2 + 1))]) rfl ?_)
      refine w_goto (tgt := 2) rfl (by decide) ?_
      exact F
    · replace F := F.2 q6
      refine w_aload_n rfl rfl ?_
      refine w_getR rfl f_Book_32 rfl rfl rfl rfl rfl ?_
      refine w_iload_n rfl rfl ?_
      refine w_iaload rfl rfl rfl b4 ?_
      refine w_iload_n rfl rfl ?_
      obtain ⟨b7, F⟩ := F
      obtain ⟨b8, F⟩ := F
      refine w_icmp_ne (tgt := 52) rfl (by decide) ⟨b7, b8⟩ (fun q9 => ?_) (fun q9 => ?_)
      · replace F := F.1 q9
        refine w_iinc rfl rfl rfl rfl rfl (w_ls (ls2 := [(0, vR 8), (1, vI x1), (2, vI (x2 + 1))]) rfl ?_)
        refine w_goto (tgt := 2) rfl (by decide) ?_
        exact F
      · replace F := F.2 q9
        refine w_aload_n rfl rfl ?_
        refine w_getR rfl f_Book_46 rfl rfl rfl rfl rfl ?_
        refine w_iload_n rfl rfl ?_
        obtain ⟨b10, F⟩ := F
        refine w_aaload rfl rfl rfl b10 rfl ?_
        refine w_aload_n rfl rfl ?_
        refine w_getR rfl f_Book_26 rfl rfl rfl rfl rfl ?_
        refine w_iload_n rfl rfl ?_
        refine w_iaload rfl rfl rfl b4 ?_
        refine w_aload_n rfl rfl ?_
        refine w_getR rfl f_Book_29 rfl rfl rfl rfl rfl ?_
        refine w_iload_n rfl rfl ?_
        refine w_iaload rfl rfl rfl b4 ?_
        refine c_SV [vR (16 + x1.toNat), vI (h 12 x2.toNat), vI (h 13 x2.toNat)] [] rfl b_Book_swap k_Book_105 rfl rfl rfl (mwpV_mono (fun h11 F => ?_) F)
        refine w_iinc rfl rfl rfl rfl rfl (w_ls (ls2 := [(0, vR 8), (1, vI x1), (2, vI (x2 + 1))]) rfl ?_)
        refine w_goto (tgt := 2) rfl (by decide) ?_
        exact F
theorem s_Book_swap_0 {d : Nat} {c nc : Nat} (sc : shp c = .inl (.int, nc, 0)) (lc : Nat.blt c nC = true) (x1 x2 : Int) (h : St) (K : St → Prop) (F : (wV d m_Book_swap 2 [(0, vR c), (1, vI x1), (2, vI x2), (3, vI 0)] [] h K)) : wV d m_Book_swap 0 [(0, vR c), (1, vI x1), (2, vI x2)] [] h K := by
  refine w_iconst rfl ?_
  refine w_istore_n rfl rfl rfl rfl (w_ls (ls2 := [(0, vR c), (1, vI x1), (2, vI x2), (3, vI 0)]) rfl ?_)
  exact F
theorem s_Book_swap_2 {d : Nat} {c nc : Nat} (sc : shp c = .inl (.int, nc, 0)) (lc : Nat.blt c nC = true) (x1 x2 x3 : Int) (h : St) (K : St → Prop) (F : (inR x3) ∧ ((12 ≤ x3 → (K h)) ∧ (¬ (12 ≤ x3) → (0 ≤ x3 ∧ x3 < nc) ∧ (inR (h c x3.toNat)) ∧ (inR x1) ∧ (((h c x3.toNat) ≠ x1 → (inR x2) ∧ (((h c x3.toNat) ≠ x2 → (wV d m_Book_swap 2 [(0, vR c), (1, vI x1), (2, vI x2), (3, vI (x3 + 1))] [] h K)) ∧ (¬ ((h c x3.toNat) ≠ x2) → (wV d m_Book_swap 2 [(0, vR c), (1, vI x1), (2, vI x2), (3, vI (x3 + 1))] [] (up h c x3.toNat x1) K)))) ∧ (¬ ((h c x3.toNat) ≠ x1) → (wV d m_Book_swap 2 [(0, vR c), (1, vI x1), (2, vI x2), (3, vI (x3 + 1))] [] (up h c x3.toNat x2) K)))))) : wV d m_Book_swap 2 [(0, vR c), (1, vI x1), (2, vI x2), (3, vI x3)] [] h K := by
  refine w_iload_n rfl rfl ?_
  refine w_bipush (by decide) (by decide) rfl ?_
  obtain ⟨b1, F⟩ := F
  refine w_icmp_ge (tgt := 39) rfl (by decide) ⟨b1, (r_lit rfl)⟩ (fun q2 => ?_) (fun q2 => ?_)
  · replace F := F.1 q2
    exact w_vret rfl rfl ⟨rfl, rfl, rfl, F⟩
  · replace F := F.2 q2
    refine w_aload_n rfl rfl ?_
    refine w_iload_n rfl rfl ?_
    obtain ⟨b3, F⟩ := F
    refine w_iaload rfl sc lc b3 ?_
    refine w_iload_n rfl rfl ?_
    obtain ⟨b4, F⟩ := F
    obtain ⟨b5, F⟩ := F
    refine w_icmp_ne (tgt := 22) rfl (by decide) ⟨b4, b5⟩ (fun q6 => ?_) (fun q6 => ?_)
    · replace F := F.1 q6
      refine w_aload_n rfl rfl ?_
      refine w_iload_n rfl rfl ?_
      refine w_iaload rfl sc lc b3 ?_
      refine w_iload_n rfl rfl ?_
      obtain ⟨b7, F⟩ := F
      refine w_icmp_ne (tgt := 33) rfl (by decide) ⟨b4, b7⟩ (fun q8 => ?_) (fun q8 => ?_)
      · replace F := F.1 q8
        refine w_iinc rfl rfl rfl rfl rfl (w_ls (ls2 := [(0, vR c), (1, vI x1), (2, vI x2), (3, vI (x3 + 1))]) rfl ?_)
        refine w_goto (tgt := 2) rfl (by decide) ?_
        exact F
      · replace F := F.2 q8
        refine w_aload_n rfl rfl ?_
        refine w_iload_n rfl rfl ?_
        refine w_iload_n rfl rfl ?_
        refine w_iastore rfl sc lc b3 ?_
        refine w_iinc rfl rfl rfl rfl rfl (w_ls (ls2 := [(0, vR c), (1, vI x1), (2, vI x2), (3, vI (x3 + 1))]) rfl ?_)
        refine w_goto (tgt := 2) rfl (by decide) ?_
        exact F
    · replace F := F.2 q6
      refine w_aload_n rfl rfl ?_
      refine w_iload_n rfl rfl ?_
      refine w_iload_n rfl rfl ?_
      refine w_iastore rfl sc lc b3 ?_
      refine w_goto (tgt := 33) rfl (by decide) ?_
      refine w_iinc rfl rfl rfl rfl rfl (w_ls (ls2 := [(0, vR c), (1, vI x1), (2, vI x2), (3, vI (x3 + 1))]) rfl ?_)
      refine w_goto (tgt := 2) rfl (by decide) ?_
      exact F
theorem s_Book_tellPosts_0 {d : Nat}  (x1 : Int) (h : St) (K : St → Prop) (F : (0 ≤ x1 ∧ x1 < 20) ∧ (mwpV (d + 1) m_JA_fill [vR (37 + x1.toNat), vI ((-4))] h (fun h2 => (wV (d + 1) m_Book_tellPosts 13 [(0, vR 8), (1, vI x1), (2, vI 0)] [] h2 K)))) : wV (d + 1) m_Book_tellPosts 0 [(0, vR 8), (1, vI x1)] [] h K := by
  refine w_aload_n rfl rfl ?_
  refine w_getR rfl f_Book_49 rfl rfl rfl rfl rfl ?_
  refine w_iload_n rfl rfl ?_
  obtain ⟨b1, F⟩ := F
  refine w_aaload rfl rfl rfl b1 rfl ?_
  refine w_bipush (by decide) (by decide) rfl ?_
  refine c_SV [vR (37 + x1.toNat), vI ((-4))] [] rfl b_JA_fill k_Book_55 rfl rfl rfl (mwpV_mono (fun h2 F => ?_) F)
  refine w_iconst rfl ?_
  refine w_istore_n rfl rfl rfl rfl (w_ls (ls2 := [(0, vR 8), (1, vI x1), (2, vI 0)]) rfl ?_)
  exact F
theorem s_Book_tellPosts_13 {d : Nat}  (x1 x2 : Int) (h : St) (K : St → Prop) (F : (inR x2) ∧ ((12 ≤ x2 → (K h)) ∧ (¬ (12 ≤ x2) → (0 ≤ x1 ∧ x1 < 20) ∧ (0 ≤ x2 ∧ x2 < 12) ∧ (inR (h (16 + x1.toNat) x2.toNat)) ∧ (((h (16 + x1.toNat) x2.toNat) = ((-4)) → (wV (d + 1) m_Book_tellPosts 13 [(0, vR 8), (1, vI x1), (2, vI (x2 + 1))] [] h K)) ∧ (¬ ((h (16 + x1.toNat) x2.toNat) = ((-4))) → (0 ≤ h (16 + x1.toNat) x2.toNat ∧ h (16 + x1.toNat) x2.toNat < 12) ∧ (wV (d + 1) m_Book_tellPosts 13 [(0, vR 8), (1, vI x1), (2, vI (x2 + 1))] [] (up h (37 + x1.toNat) ((h (16 + x1.toNat) x2.toNat).toNat) x2) K)))))) : wV (d + 1) m_Book_tellPosts 13 [(0, vR 8), (1, vI x1), (2, vI x2)] [] h K := by
  refine w_iload_n rfl rfl ?_
  refine w_bipush (by decide) (by decide) rfl ?_
  obtain ⟨b1, F⟩ := F
  refine w_icmp_ge (tgt := 49) rfl (by decide) ⟨b1, (r_lit rfl)⟩ (fun q2 => ?_) (fun q2 => ?_)
  · replace F := F.1 q2
    exact w_vret rfl rfl ⟨rfl, rfl, rfl, F⟩
  · replace F := F.2 q2
    refine w_aload_n rfl rfl ?_
    refine w_getR rfl f_Book_46 rfl rfl rfl rfl rfl ?_
    refine w_iload_n rfl rfl ?_
    obtain ⟨b3, F⟩ := F
    refine w_aaload rfl rfl rfl b3 rfl ?_
    refine w_iload_n rfl rfl ?_
    obtain ⟨b4, F⟩ := F
    refine w_iaload rfl (rw_16 b3).1 (rw_16 b3).2 b4 ?_
    refine w_istore_n rfl rfl rfl rfl (w_ls (ls2 := [(0, vR 8), (1, vI x1), (2, vI x2), (3, vI (h (16 + x1.toNat) x2.toNat))]) rfl ?_)
    refine w_iload_n rfl rfl ?_
    refine w_bipush (by decide) (by decide) rfl ?_
    obtain ⟨b5, F⟩ := F
    refine w_icmp_eq (tgt := 43) rfl (by decide) ⟨b5, (r_lit rfl)⟩ (fun q6 => ?_) (fun q6 => ?_)
    · replace F := F.1 q6
      refine w_iinc rfl rfl rfl rfl rfl (w_ls (ls2 := [(0, vR 8), (1, vI x1), (2, vI (x2 + 1)), (3, vI (h (16 + x1.toNat) x2.toNat))]) rfl ?_)
      refine w_goto (tgt := 13) rfl (by decide) ?_
      exact w_kp [0, 1, 2] F
    · replace F := F.2 q6
      refine w_aload_n rfl rfl ?_
      refine w_getR rfl f_Book_49 rfl rfl rfl rfl rfl ?_
      refine w_iload_n rfl rfl ?_
      refine w_aaload rfl rfl rfl b3 rfl ?_
      refine w_iload_n rfl rfl ?_
      refine w_iload_n rfl rfl ?_
      obtain ⟨b7, F⟩ := F
      refine w_iastore rfl (rw_37 b3).1 (rw_37 b3).2 b7 ?_
      refine w_iinc rfl rfl rfl rfl rfl (w_ls (ls2 := [(0, vR 8), (1, vI x1), (2, vI (x2 + 1)), (3, vI (h (16 + x1.toNat) x2.toNat))]) rfl ?_)
      refine w_goto (tgt := 13) rfl (by decide) ?_
      exact w_kp [0, 1, 2] F
def CIm (h : St) (R : Nat) (it : Nat → Nat → Int) : Prop := h 8 7 = (R : Int) ∧ ∀ k, k < R → h 11 k = it 0 k ∧ h 12 k = it 1 k ∧ h 13 k = it 2 k ∧ (it 0 k = 120 → h 14 k = it 3 k)
def VIm (R : Nat) (it : Nat → Nat → Int) : Prop := R ≤ 40 ∧ ∀ k, k < R → (it 0 k = 112 ∨ it 0 k = 107 ∨ it 0 k = 120) ∧ (0 ≤ it 1 k ∧ it 1 k ≤ 11) ∧ (0 ≤ it 2 k ∧ it 2 k ≤ 19) ∧ (it 0 k = 112 → it 2 k ≤ 11) ∧ (it 0 k = 120 → it 2 k ≤ 11 ∧ 1 ≤ it 3 k ∧ it 3 k ≤ 19)
theorem CIm_c {h h2 : St} {R : Nat} {it : Nat → Nat → Int} (g : ag (fun c k => (c = 8 ∧ k = 7) ∨ (11 ≤ c ∧ c ≤ 14)) h h2) (a : CIm h R it) : CIm h2 R it :=
  ⟨by rw [g 8 7 (by omega)]; exact a.1, fun k hk => by rw [g 11 k (by omega), g 12 k (by omega), g 13 k (by omega), g 14 k (by omega)]; exact a.2 k hk⟩
noncomputable def stF (it : Nat → Nat → Int) (d : Int) : Nat → Int
  | 0 => 0
  | c + 1 => cif (it 0 c = 107 ∧ it 2 c ≤ d) (it 1 c) (stF it d c)
noncomputable def sw1 (a b v : Int) : Int := cif (v ≠ a) (cif (v ≠ b) v a) b
noncomputable def swF (it : Nat → Nat → Int) (d : Int) : Nat → Int → Int
  | 0, v => v
  | c + 1, v => cif (it 0 c = 120 ∧ it 3 c = d) (sw1 (it 1 c) (it 2 c) (swF it d c v)) (swF it d c v)
noncomputable def f0F (it : Nat → Nat → Int) : Nat → Int → Int
  | 0, _ => -4
  | c + 1, p => cif (it 0 c = 112 ∧ it 1 c = p) (it 2 c) (f0F it c p)
noncomputable def bkA (R : Nat) (it : Nat → Nat → Int) : Nat → Nat → Int
  | 0, p => f0F it R p
  | d + 1, p => cif (bkA R it d p < 0) (bkA R it d p) (swF it ((d + 1 : Nat) : Int) R ((bkA R it d p + stF it ((d + 1 : Nat) : Int) R).tmod 12))
def nRg (v : Int) : Prop := v = -4 ∨ (0 ≤ v ∧ v ≤ 11)
theorem st_R {R : Nat} {it : Nat → Nat → Int} {d : Int} (vi : VIm R it) : ∀ c, c ≤ R → 0 ≤ stF it d c ∧ stF it d c ≤ 11
  | 0, _ => by rw [stF]; omega
  | c + 1, hc => by
    have ih := st_R (d := d) vi c (by omega)
    have v := (vi.2 c (by omega)).2.1
    rw [stF]
    by_cases y : it 0 c = 107 ∧ it 2 c ≤ d
    · rw [cif_t y]; exact v
    · rw [cif_f y]; exact ih
theorem sw1_R {a b v : Int} (ha : 0 ≤ a ∧ a ≤ 11) (hb : 0 ≤ b ∧ b ≤ 11) (hv : 0 ≤ v ∧ v ≤ 11) : 0 ≤ sw1 a b v ∧ sw1 a b v ≤ 11 := by
  unfold sw1
  by_cases y : v ≠ a
  · rw [cif_t y]
    by_cases z : v ≠ b
    · rw [cif_t z]; exact hv
    · rw [cif_f z]; exact ha
  · rw [cif_f y]; exact hb
theorem sw_R {R : Nat} {it : Nat → Nat → Int} {d v : Int} (vi : VIm R it) (hv : 0 ≤ v ∧ v ≤ 11) : ∀ c, c ≤ R → 0 ≤ swF it d c v ∧ swF it d c v ≤ 11
  | 0, _ => by rw [swF]; exact hv
  | c + 1, hc => by
    have ih := sw_R (d := d) vi hv c (by omega)
    obtain ⟨_, v1, v2, _, v4⟩ := vi.2 c (by omega)
    rw [swF]
    by_cases y : it 0 c = 120 ∧ it 3 c = d
    · rw [cif_t y]; exact sw1_R v1 (by have := v4 y.1; omega) ih
    · rw [cif_f y]; exact ih
theorem sw_4 {R : Nat} {it : Nat → Nat → Int} {d : Int} (vi : VIm R it) : ∀ c, c ≤ R → swF it d c (-4) = -4
  | 0, _ => by rw [swF]
  | c + 1, hc => by
    have ih := sw_4 (d := d) vi c (by omega)
    obtain ⟨_, v1, v2, _, v4⟩ := vi.2 c (by omega)
    rw [swF, ih]
    by_cases y : it 0 c = 120 ∧ it 3 c = d
    · rw [cif_t y]
      unfold sw1
      rw [cif_t (by omega), cif_t (by omega)]
    · rw [cif_f y]
theorem f0_R {R : Nat} {it : Nat → Nat → Int} {p : Int} (vi : VIm R it) : ∀ c, c ≤ R → nRg (f0F it c p)
  | 0, _ => Or.inl rfl
  | c + 1, hc => by
    have ih := f0_R (p := p) vi c (by omega)
    obtain ⟨_, v1, v2, v3, v4⟩ := vi.2 c (by omega)
    rw [f0F]
    by_cases y : it 0 c = 112 ∧ it 1 c = p
    · rw [cif_t y]; exact Or.inr ⟨v2.1, v3 y.1⟩
    · rw [cif_f y]; exact ih
theorem tm_R {a b : Int} (ha : 0 ≤ a ∧ a ≤ 11) (hb : 0 ≤ b ∧ b ≤ 11) : 0 ≤ (a + b).tmod 12 ∧ (a + b).tmod 12 ≤ 11 := by
  rw [Int.tmod_eq_emod_of_nonneg (by omega)]; omega
theorem bk_R {R : Nat} {it : Nat → Nat → Int} (vi : VIm R it) : ∀ d p, nRg (bkA R it d p)
  | 0, p => f0_R vi R (Nat.le_refl _)
  | d + 1, p => by
    have ih := bk_R vi d p
    rw [bkA]
    by_cases y : bkA R it d p < 0
    · rw [cif_t y]; exact ih
    · rw [cif_f y]
      have h1 : 0 ≤ bkA R it d p ∧ bkA R it d p ≤ 11 := by unfold nRg at ih; omega
      exact Or.inr (sw_R vi (tm_R h1 (st_R vi R (Nat.le_refl _))) R (Nat.le_refl _))
theorem C_sa_7 {D : Nat} {h : St} {K : Int → St → Prop} {R : Nat} {it : Nat → Nat → Int} {d : Int} (ci : CIm h R it) (vi : VIm R it) (rd : inR d) : ∀ (c : Nat) (x : Int), x = (c : Int) - 1 → c ≤ R → K (stF it d c) h → wI D m_Book_stepAt 7 [(0, vR 8), (1, vI d), (2, vI x)] [] h K := by
  intro c
  have r40 := vi.1
  induction c with
  | zero =>
    intro x e hc k
    exact s_Book_stepAt_7 _ _ h K ⟨⟨by omega, by omega⟩, fun _ => k, fun y => by omega⟩
  | succ c ih =>
    intro x e hc k
    have e2 : x = (c : Int) := by omega
    subst e2
    obtain ⟨a1, a2, a3, a4⟩ := ci.2 c (by omega)
    obtain ⟨v0, v1, v2, v3, v4⟩ := vi.2 c (by omega)
    rw [stF] at k
    refine s_Book_stepAt_7 _ _ h K ⟨⟨by omega, by omega⟩, fun y => by omega, fun _ => ⟨⟨by omega, by omega⟩, ?_⟩⟩
    rw [Int.toNat_natCast, a1, a2, a3]
    refine ⟨⟨by omega, by omega⟩, fun y => ih _ (by omega) (by omega) (by rw [cif_f (fun z => y z.1)] at k; exact k), fun y => ⟨⟨by omega, by omega⟩, rd, fun z => ih _ (by omega) (by omega) (by rw [cif_f (fun u => by omega)] at k; exact k), fun z => by rw [cif_t ⟨by omega, by omega⟩] at k; exact k⟩⟩
noncomputable def goV (s v : Int) : Int := cif (v ≠ -4) ((v + s).tmod 12) (-4)
theorem C_go_8 {D : Nat} {h0 : St} {K : St → Prop} {dd : Nat} {s : Int} (hd : dd + 1 < 20) (hs : 0 ≤ s ∧ s ≤ 11) (hv : ∀ p, p < 12 → nRg (h0 (16 + dd) p)) (k : ∀ h2, ag (fun c _ => c ≠ 16 + (dd + 1)) h0 h2 → (∀ p, p < 12 → h2 (16 + (dd + 1)) p = goV s (h0 (16 + dd) p)) → K h2) : ∀ (r c : Nat) (h : St), c + r = 12 → ag (fun c _ => c ≠ 16 + (dd + 1)) h0 h → (∀ p, p < c → h (16 + (dd + 1)) p = goV s (h0 (16 + dd) p)) → wV (D + 1) m_Book_goOn 8 [(0, vR 8), (1, vI ((dd + 1 : Nat) : Int)), (2, vI s), (3, vI c)] [] h K := by
  intro r
  induction r with
  | zero =>
    intro c h hc g w
    exact s_Book_goOn_8 _ _ _ h K ⟨⟨by omega, by omega⟩, fun _ => k h g (fun p hp => w p (by omega)), fun y => by omega⟩
  | succ r ih =>
    intro c h hc g w
    have v := hv c (by omega)
    unfold nRg at v
    have e1 : (((dd + 1 : Nat) : Int) - 1).toNat = dd := by omega
    refine s_Book_goOn_8 _ _ _ h K ⟨⟨by omega, by omega⟩, fun y => by omega, fun _ => ⟨⟨by omega, by omega⟩, ⟨by omega, by omega⟩, ⟨by omega, by omega⟩, ?_⟩⟩
    rw [e1, Int.toNat_natCast, Int.toNat_natCast, g (16 + dd) c (by omega)]
    refine ⟨⟨⟨by omega, by omega⟩, fun _ => ⟨by omega, by omega⟩⟩, ih (c + 1) _ (by omega) (ag_up (by omega) g) (fun p hp => ?_)⟩
    by_cases e : p = c
    · subst e; rw [up_same]; rfl
    · rw [up_ne (by omega)]; exact w p (by omega)
theorem c_Book_goOn {D : Nat} {h : St} {K : St → Prop} {R : Nat} {it : Nat → Nat → Int} {dd : Nat} (ci : CIm h R it) (vi : VIm R it) (hd : dd + 1 < 20) (hv : ∀ p, p < 12 → nRg (h (16 + dd) p)) (k : ∀ h2, ag (fun c _ => c ≠ 16 + (dd + 1)) h h2 → (∀ p, p < 12 → h2 (16 + (dd + 1)) p = goV (stF it ((dd + 1 : Nat) : Int) R) (h (16 + dd) p)) → K h2) : mwpV (D + 2) m_Book_goOn [vR 8, vI ((dd + 1 : Nat) : Int)] h K := by
  refine mV_intro b_Book_goOn rfl (s_Book_goOn_0 (d := D) _ h K (mI_intro b_Book_stepAt rfl (s_Book_stepAt_0 (d := D) _ h _ ?_)))
  have c1 := ci.1
  refine C_sa_7 ci vi ⟨by omega, by omega⟩ R _ (by omega) (Nat.le_refl _) ?_
  exact C_go_8 hd (st_R vi R (Nat.le_refl _)) hv k 12 0 h (by omega) ag_rfl (fun p hp => absurd hp (Nat.not_lt_zero _))
theorem C_sp_2 {D : Nat} {h0 : St} {K : St → Prop} {c0 : Nat} {a b : Int} (sc : shp c0 = .inl (.int, 12, 0)) (lc : Nat.blt c0 nC = true) (ra : inR a) (rb : inR b) (hv : ∀ p, p < 12 → nRg (h0 c0 p)) (k : ∀ h2, ag (fun c _ => c ≠ c0) h0 h2 → (∀ p, p < 12 → h2 c0 p = sw1 a b (h0 c0 p)) → K h2) : ∀ (r c : Nat) (h : St), c + r = 12 → ag (fun c _ => c ≠ c0) h0 h → (∀ p, p < c → h c0 p = sw1 a b (h0 c0 p)) → (∀ p, c ≤ p → h c0 p = h0 c0 p) → wV D m_Book_swap 2 [(0, vR c0), (1, vI a), (2, vI b), (3, vI c)] [] h K := by
  intro r
  induction r with
  | zero =>
    intro c h hc g w1 w2
    exact s_Book_swap_2 sc lc _ _ _ h K ⟨⟨by omega, by omega⟩, fun _ => k h g (fun p hp => w1 p (by omega)), fun y => by omega⟩
  | succ r ih =>
    intro c h hc g w1 w2
    have v := hv c (by omega)
    unfold nRg at v
    refine s_Book_swap_2 sc lc _ _ _ h K ⟨⟨by omega, by omega⟩, fun y => by omega, fun _ => ⟨⟨by omega, by omega⟩, ?_⟩⟩
    rw [Int.toNat_natCast, w2 c (Nat.le_refl _)]
    have st : ∀ x, x = sw1 a b (h0 c0 c) → wV D m_Book_swap 2 [(0, vR c0), (1, vI a), (2, vI b), (3, vI ((c : Int) + 1))] [] (up h c0 c x) K := fun x hx => by
      refine ih (c + 1) _ (by omega) (ag_up (by omega) g) (fun p hp => ?_) (fun p hp => by rw [up_ne (by omega)]; exact w2 p (by omega))
      by_cases e : p = c
      · subst e; rw [up_same]; exact hx
      · rw [up_ne (by omega)]; exact w1 p (by omega)
    refine ⟨⟨by omega, by omega⟩, ra, fun y => ⟨rb, fun z => ?_, fun z => st _ ?_⟩, fun y => st _ ?_⟩
    · refine ih (c + 1) h (by omega) g (fun p hp => ?_) (fun p hp => w2 p (by omega))
      by_cases e : p = c
      · subst e; rw [w2 p (Nat.le_refl _)]; unfold sw1; rw [cif_t y, cif_t z]
      · exact w1 p (by omega)
    · unfold sw1; rw [cif_t y, cif_f z]
    · unfold sw1; rw [cif_f y]
theorem sh16 {dd : Nat} (hd : dd < 20) : shp (16 + dd) = .inl (.int, 12, 0) ∧ Nat.blt (16 + dd) nC = true := by
  have := rw_16 (i := (dd : Int)) ⟨by omega, by omega⟩
  rw [Int.toNat_natCast] at this; exact this
theorem sh37 {dd : Nat} (hd : dd < 20) : shp (37 + dd) = .inl (.int, 12, 0) ∧ Nat.blt (37 + dd) nC = true := by
  have := rw_37 (i := (dd : Int)) ⟨by omega, by omega⟩
  rw [Int.toNat_natCast] at this; exact this
theorem sw_n {R : Nat} {it : Nat → Nat → Int} {d v : Int} (vi : VIm R it) (hv : nRg v) {c : Nat} (hc : c ≤ R) : nRg (swF it d c v) := by
  rcases hv with e | e
  · rw [e, sw_4 vi c hc]; exact Or.inl rfl
  · exact Or.inr (sw_R vi e c hc)
theorem C_cp_2 {D : Nat} {K : St → Prop} {R : Nat} {it : Nat → Nat → Int} {dd : Nat} {g : Nat → Int} (vi : VIm R it) (hd : dd < 20) (hg : ∀ p, p < 12 → nRg (g p)) : ∀ (r c : Nat) (h : St), c + r = R → CIm h R it → (∀ p, p < 12 → h (16 + dd) p = swF it dd c (g p)) → (∀ h2, ag (fun c _ => c ≠ 16 + dd) h h2 → (∀ p, p < 12 → h2 (16 + dd) p = swF it dd R (g p)) → K h2) → wV (D + 1) m_Book_changePlaces 2 [(0, vR 8), (1, vI dd), (2, vI c)] [] h K := by
  have r40 := vi.1
  intro r
  induction r with
  | zero =>
    intro c h hc ci w k
    have c1 := ci.1
    have e : c = R := by omega
    subst e
    exact s_Book_changePlaces_2 _ _ h K ⟨⟨by omega, by omega⟩, ⟨by omega, by omega⟩, fun _ => k h ag_rfl w, fun y => by omega⟩
  | succ r ih =>
    intro c h hc ci w k
    have c1 := ci.1
    obtain ⟨a1, a2, a3, a4⟩ := ci.2 c (by omega)
    obtain ⟨v0, v1, v2, v3, v4⟩ := vi.2 c (by omega)
    refine s_Book_changePlaces_2 _ _ h K ⟨⟨by omega, by omega⟩, ⟨by omega, by omega⟩, fun y => by omega, fun _ => ⟨⟨by omega, by omega⟩, ?_⟩⟩
    rw [Int.toNat_natCast, Int.toNat_natCast, a1, a2, a3]
    have no : ¬ (it 0 c = 120 ∧ it 3 c = dd) → wV (D + 1) m_Book_changePlaces 2 [(0, vR 8), (1, vI dd), (2, vI ((c : Int) + 1))] [] h K := fun z => ih (c + 1) h (by omega) ci (fun p hp => by rw [swF, cif_f z]; exact w p hp) k
    refine ⟨⟨by omega, by omega⟩, fun y => no (fun z => y z.1), fun y => ?_⟩
    have y2 : it 0 c = 120 := by omega
    have v5 := v4 y2
    rw [a4 y2]
    refine ⟨⟨by omega, by omega⟩, ⟨by omega, by omega⟩, fun z => no (fun u => z u.2), fun z => ⟨⟨by omega, by omega⟩, ?_⟩⟩
    have s := sh16 hd
    refine mV_intro b_Book_swap rfl (s_Book_swap_0 (d := D) s.1 s.2 _ _ h _ (C_sp_2 s.1 s.2 ⟨by omega, by omega⟩ ⟨by omega, by omega⟩ (fun p hp => by rw [w p hp]; exact sw_n vi (hg p hp) (by omega)) (fun h2 g2 w2 => ?_) 12 0 h (by omega) ag_rfl (fun p hp => absurd hp (Nat.not_lt_zero _)) (fun p _ => rfl)))
    refine ih (c + 1) h2 (by omega) (CIm_c (ag_sub (fun c k p => by omega) g2) ci) (fun p hp => ?_) (fun h3 g3 => k h3 (ag_trans g2 g3))
    rw [w2 p hp, w p hp, swF, cif_t ⟨y2, by omega⟩]
theorem c_Book_changePlaces {D : Nat} {h : St} {K : St → Prop} {R : Nat} {it : Nat → Nat → Int} {dd : Nat} (ci : CIm h R it) (vi : VIm R it) (hd : dd < 20) (hg : ∀ p, p < 12 → nRg (h (16 + dd) p)) (k : ∀ h2, ag (fun c _ => c ≠ 16 + dd) h h2 → (∀ p, p < 12 → h2 (16 + dd) p = swF it dd R (h (16 + dd) p)) → K h2) : mwpV (D + 2) m_Book_changePlaces [vR 8, vI dd] h K :=
  mV_intro b_Book_changePlaces rfl (s_Book_changePlaces_0 (d := D) _ h K (C_cp_2 (g := fun p => h (16 + dd) p) vi hd hg R 0 h (Nat.zero_add _) ci (fun p _ => rfl) k))
theorem C_tp_13 {D : Nat} {K : St → Prop} {dd : Nat} {f : Nat → Int} (hd : dd < 20) (hf : ∀ p, p < 12 → nRg (f p)) : ∀ (r c : Nat) (h : St), c + r = 12 → (∀ p, p < 12 → h (16 + dd) p = f p) → (∀ m : Nat, m < 12 → h (37 + dd) m = lastP f m c) → (∀ h2, ag (fun c _ => c ≠ 37 + dd) h h2 → (∀ m : Nat, m < 12 → h2 (37 + dd) m = lastP f m 12) → K h2) → wV (D + 1) m_Book_tellPosts 13 [(0, vR 8), (1, vI dd), (2, vI c)] [] h K := by
  intro r
  induction r with
  | zero =>
    intro c h hc w1 w2 k
    have e : c = 12 := by omega
    subst e
    exact s_Book_tellPosts_13 _ _ h K ⟨⟨by omega, by omega⟩, fun _ => k h ag_rfl w2, fun y => by omega⟩
  | succ r ih =>
    intro c h hc w1 w2 k
    have v := hf c (by omega)
    unfold nRg at v
    refine s_Book_tellPosts_13 _ _ h K ⟨⟨by omega, by omega⟩, fun y => by omega, fun _ => ⟨⟨by omega, by omega⟩, ⟨by omega, by omega⟩, ?_⟩⟩
    rw [Int.toNat_natCast, Int.toNat_natCast, w1 c (by omega)]
    refine ⟨⟨by omega, by omega⟩, fun y => ih (c + 1) h (by omega) w1 (fun m hm => ?_) k, fun y => ⟨⟨by omega, by omega⟩, ih (c + 1) _ (by omega) (fun p hp => by rw [up_ne (by omega)]; exact w1 p hp) (fun m hm => ?_) (fun h2 g2 => k h2 (ag_trans (ag_up (by omega) ag_rfl) g2))⟩⟩
    · rw [lastP, if_neg (by omega)]; exact w2 m hm
    · rw [lastP]
      by_cases e : f c = m
      · rw [if_pos e, show (f c).toNat = m by omega, up_same]
      · rw [if_neg e, up_ne (by omega)]; exact w2 m hm
theorem c_Book_tellPosts {D : Nat} {h : St} {K : St → Prop} {dd : Nat} {f : Nat → Int} (hd : dd < 20) (hf : ∀ p, p < 12 → nRg (f p)) (w1 : ∀ p, p < 12 → h (16 + dd) p = f p) (k : ∀ h2, ag (fun c _ => c ≠ 37 + dd) h h2 → (∀ m : Nat, m < 12 → h2 (37 + dd) m = lastP f m 12) → K h2) : mwpV (D + 2) m_Book_tellPosts [vR 8, vI dd] h K := by
  refine mV_intro b_Book_tellPosts rfl (s_Book_tellPosts_0 (d := D) _ h K ⟨⟨by omega, by omega⟩, ?_⟩)
  rw [Int.toNat_natCast]
  have s := sh37 hd
  refine c_JA_fill s.1 s.2 (C_tp_13 hd hf 12 0 _ (by omega) (fun p hp => by rw [fillC_out (by omega)]; exact w1 p hp) (fun m hm => by rw [fillC_in hm]; rfl) (fun h2 g2 => k h2 (ag_trans (ag_fill (by omega) ag_rfl) g2)))
def agK (h h2 : St) : Prop := ag (fun c k => ¬ (c = 8 ∧ k = 12) ∧ ¬ (16 ≤ c ∧ c ≤ 35) ∧ ¬ (37 ≤ c ∧ c ≤ 56)) h h2
theorem C_ad_91 {D : Nat} {K : Int → St → Prop} {R : Nat} {it : Nat → Nat → Int} (vi : VIm R it) : ∀ (r c : Nat) (h : St), c + r = 20 → h 8 12 = (R : Int) → (∀ d, d < 20 → ∀ p, p < 12 → h (16 + d) p = bkA R it d p) → (∀ d, d < c → ∀ m : Nat, m < 12 → h (37 + d) m = lastP (bkA R it d) m 12) → (∀ h2, agK h h2 → CBk h2 R (bkA R it) → K R h2) → wI (D + 2) m_Book_adopt 91 [(0, vR 8), (1, vI c)] [] h K := by
  intro r
  induction r with
  | zero =>
    intro c h hc e w1 w2 k
    refine s_Book_adopt_91 _ h K ⟨⟨by omega, by omega⟩, fun _ => ?_, fun y => by omega⟩
    rw [e]
    exact k h ag_rfl ⟨e, w1, fun d hd => w2 d (by omega)⟩
  | succ r ih =>
    intro c h hc e w1 w2 k
    refine s_Book_adopt_91 _ h K ⟨⟨by omega, by omega⟩, fun y => by omega, fun _ => ?_⟩
    refine c_Book_tellPosts (by omega) (fun p _ => bk_R vi c p) (w1 c (by omega)) (fun h2 g2 w3 => ?_)
    refine ih (c + 1) h2 (by omega) (by rw [g2 8 12 (by omega)]; exact e) (fun d hd p hp => by rw [g2 (16 + d) p (by omega)]; exact w1 d hd p hp) (fun d hd m hm => ?_) (fun h3 g3 => k h3 (ag_trans (ag_sub (fun c k p => by omega) g2) g3))
    by_cases y : d = c
    · subst y; exact w3 m hm
    · rw [g2 (37 + d) m (by omega)]; exact w2 d (by omega) m hm
theorem C_ad_67 {D : Nat} {K : Int → St → Prop} {R : Nat} {it : Nat → Nat → Int} (vi : VIm R it) : ∀ (r c : Nat) (h : St), c + 1 + r = 20 → CIm h R it → h 8 12 = (R : Int) → (∀ d, d ≤ c → ∀ p, p < 12 → h (16 + d) p = bkA R it d p) → (∀ h2, agK h h2 → CBk h2 R (bkA R it) → K R h2) → wI (D + 2) m_Book_adopt 67 [(0, vR 8), (1, vI ((c + 1 : Nat) : Int))] [] h K := by
  intro r
  induction r with
  | zero =>
    intro c h hc ci e w1 k
    refine s_Book_adopt_67 _ h K ⟨⟨by omega, by omega⟩, fun _ => ?_, fun y => by omega⟩
    exact C_ad_91 vi 20 0 h (by omega) e (fun d hd => w1 d (by omega)) (fun d hd => absurd hd (Nat.not_lt_zero _)) k
  | succ r ih =>
    intro c h hc ci e w1 k
    refine s_Book_adopt_67 _ h K ⟨⟨by omega, by omega⟩, fun y => by omega, fun _ => ?_⟩
    have hv : ∀ p, p < 12 → nRg (h (16 + c) p) := fun p hp => by rw [w1 c (Nat.le_refl _) p hp]; exact bk_R vi c p
    refine c_Book_goOn ci vi (by omega) hv (fun h2 g2 w2 => ?_)
    have ci2 := CIm_c (ag_sub (fun c k p => by omega) g2) ci
    have sR := st_R (d := ((c + 1 : Nat) : Int)) vi R (Nat.le_refl _)
    refine c_Book_changePlaces ci2 vi (by omega) (fun p hp => ?_) (fun h3 g3 w3 => ?_)
    · rw [w2 p hp]
      unfold goV
      have := hv p hp
      by_cases y : h (16 + c) p = -4
      · rw [cif_f (fun z => z y)]; exact Or.inl rfl
      · rw [cif_t y]
        unfold nRg at this
        exact Or.inr (tm_R (by omega) sR)
    · refine ih (c + 1) h3 (by omega) (CIm_c (ag_sub (fun c k p => by omega) g3) ci2) (by rw [g3 8 12 (by omega), g2 8 12 (by omega)]; exact e) (fun d hd p hp => ?_) (fun h4 g4 => k h4 (ag_trans (ag_trans (ag_sub (fun c k p => by omega) g2) (ag_sub (fun c k p => by omega) g3)) g4))
      by_cases y : d = c + 1
      · subst y
        rw [w3 p hp, w2 p hp, w1 c (Nat.le_refl _) p hp, bkA]
        have := bk_R vi c p
        unfold nRg at this
        by_cases z : bkA R it c p < 0
        · have z2 : bkA R it c p = -4 := by omega
          rw [cif_t z]
          unfold goV
          rw [z2, cif_f (fun u => u rfl)]
          exact sw_4 vi R (Nat.le_refl _)
        · rw [cif_f z]
          unfold goV
          rw [cif_t (by omega)]
      · rw [g3 (16 + d) p (by omega), g2 (16 + d) p (by omega)]
        exact w1 d (by omega) p hp
theorem C_ad_21 {D : Nat} {K : Int → St → Prop} {R : Nat} {it : Nat → Nat → Int} (vi : VIm R it) : ∀ (r c : Nat) (h : St), c + r = R → CIm h R it → h 8 12 = (R : Int) → (∀ p : Nat, p < 12 → h 16 p = f0F it c p) → (∀ h2, agK h h2 → CBk h2 R (bkA R it) → K R h2) → wI (D + 2) m_Book_adopt 21 [(0, vR 8), (1, vI c)] [] h K := by
  have r40 := vi.1
  intro r
  induction r with
  | zero =>
    intro c h hc ci e w k
    have c1 := ci.1
    have ec : c = R := by omega
    subst ec
    refine s_Book_adopt_21 _ h K ⟨⟨by omega, by omega⟩, ⟨by omega, by omega⟩, fun _ => ?_, fun y => by omega⟩
    refine C_ad_67 vi 19 0 h (by omega) ci e (fun d hd p hp => ?_) k
    have : d = 0 := by omega
    subst this
    exact w p hp
  | succ r ih =>
    intro c h hc ci e w k
    have c1 := ci.1
    obtain ⟨a1, a2, a3, a4⟩ := ci.2 c (by omega)
    obtain ⟨v0, v1, v2, v3, v4⟩ := vi.2 c (by omega)
    refine s_Book_adopt_21 _ h K ⟨⟨by omega, by omega⟩, ⟨by omega, by omega⟩, fun y => by omega, fun _ => ⟨⟨by omega, by omega⟩, ?_⟩⟩
    rw [Int.toNat_natCast, a1, a2, a3]
    refine ⟨⟨by omega, by omega⟩, fun y => ih (c + 1) h (by omega) ci e (fun p hp => by rw [f0F, cif_f (fun z => y z.1)]; exact w p hp) k, fun y => ⟨⟨by omega, by omega⟩, ?_⟩⟩
    refine ih (c + 1) _ (by omega) (CIm_c (ag_up (by omega) ag_rfl) ci) (by rw [up_ne (by omega)]; exact e) (fun p hp => ?_) (fun h2 g2 => k h2 (ag_trans (ag_up (by omega) ag_rfl) g2))
    rw [f0F]
    by_cases z : it 1 c = p
    · rw [cif_t ⟨by omega, z⟩, show (it 1 c).toNat = p by omega, up_same]
    · rw [cif_f (fun u => z u.2), up_ne (by omega)]; exact w p hp
theorem c_Book_adopt {D : Nat} {h : St} {K : Int → St → Prop} {R : Nat} {it : Nat → Nat → Int} (ci : CIm h R it) (vi : VIm R it) (k : ∀ h2, agK h h2 → CBk h2 R (bkA R it) → K R h2) : mwpI (D + 3) m_Book_adopt [vR 8] h K := by
  refine mI_intro b_Book_adopt rfl (s_Book_adopt_0 (d := D) h K (c_JA_fill (len := 12) rfl (by decide) ?_))
  have g : agK h (fillC (up h 8 12 (h 8 7)) 16 12 (-4)) := ag_fill (by omega) (ag_up (by omega) ag_rfl)
  refine C_ad_21 vi R 0 _ (Nat.zero_add _) (CIm_c (ag_sub (fun c k p => by omega) g) ci) (by rw [fillC_out (by decide), up_same]; exact ci.1) (fun p hp => by rw [fillC_in hp]; rfl) (fun h2 g2 => k h2 (ag_trans g g2))
