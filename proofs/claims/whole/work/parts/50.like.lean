theorem s_Senders_likeTo_0 {d : Nat}  (x1 x3 : Int) (h : St) (K : Int → St → Prop) (F : (0 ≤ x1 ∧ x1 < 12) ∧ (0 ≤ x3 ∧ x3 < 12) ∧ (mwpI (d + 1) m_JL_bitCount [vJ (and6 (h 62 x1.toNat) (h 67 x3.toNat))] h (fun z3 h3 => (mwpI (d + 1) m_JI_bitCount [vI (and3 (h3 63 x1.toNat) (h3 68 x3.toNat))] h3 (fun z4 h4 => (mwpI (d + 1) m_JI_bitCount [vI (and3 (h4 64 x1.toNat) (h4 69 x3.toNat))] h4 (fun z5 h5 => (K (((3 * z3) + (2 * z4)) + z5) h5)))))))) : wI (d + 1) m_Senders_likeTo 0 [(0, vR 60), (1, vI x1), (2, vR 65), (3, vI x3)] [] h K := by
  refine w_iconst rfl ?_
  refine w_aload_n rfl rfl ?_
  refine w_getR rfl f_Senders_19 rfl rfl rfl rfl rfl ?_
  refine w_iload_n rfl rfl ?_
  obtain ⟨b1, F⟩ := F
  refine w_laload rfl rfl rfl b1 ?_
  refine w_aload_n rfl rfl ?_
  refine w_getR rfl f_Senders_19 rfl rfl rfl rfl rfl ?_
  refine w_iload_n rfl rfl ?_
  obtain ⟨b2, F⟩ := F
  refine w_laload rfl rfl rfl b2 ?_
  refine w_land rfl ?_
  refine c_SI [vJ (and6 (h 62 x1.toNat) (h 67 x3.toNat))] [vI 3] rfl b_JL_bitCount k_Senders_64 rfl rfl rfl (mwpI_mono (fun z3 h3 F => ?_) F)
  refine w_imul rfl ?_
  refine w_iconst rfl ?_
  refine w_aload_n rfl rfl ?_
  refine w_getR rfl f_Senders_23 rfl rfl rfl rfl rfl ?_
  refine w_iload_n rfl rfl ?_
  refine w_iaload rfl rfl rfl b1 ?_
  refine w_aload_n rfl rfl ?_
  refine w_getR rfl f_Senders_23 rfl rfl rfl rfl rfl ?_
  refine w_iload_n rfl rfl ?_
  refine w_iaload rfl rfl rfl b2 ?_
  refine w_iand rfl ?_
  refine c_SI [vI (and3 (h3 63 x1.toNat) (h3 68 x3.toNat))] [vI 2, vI (3 * z3)] rfl b_JI_bitCount k_Senders_70 rfl rfl rfl (mwpI_mono (fun z4 h4 F => ?_) F)
  refine w_imul rfl ?_
  refine w_iadd rfl ?_
  refine w_aload_n rfl rfl ?_
  refine w_getR rfl f_Senders_26 rfl rfl rfl rfl rfl ?_
  refine w_iload_n rfl rfl ?_
  refine w_iaload rfl rfl rfl b1 ?_
  refine w_aload_n rfl rfl ?_
  refine w_getR rfl f_Senders_26 rfl rfl rfl rfl rfl ?_
  refine w_iload_n rfl rfl ?_
  refine w_iaload rfl rfl rfl b2 ?_
  refine w_iand rfl ?_
  refine c_SI [vI (and3 (h4 64 x1.toNat) (h4 69 x3.toNat))] [vI ((3 * z3) + (2 * z4))] rfl b_JI_bitCount k_Senders_70 rfl rfl rfl (mwpI_mono (fun z5 h5 F => ?_) F)
  refine w_iadd rfl ?_
  exact w_iret rfl rfl ⟨rfl, rfl, _, rfl, F⟩
theorem s_M_likeOf_0 {d : Nat}  (x1 x2 x3 : Int) (h : St) (K : Int → St → Prop) (F : (wI (d + 1) m_M_likeOf 6 [(0, vR 109), (1, vI x1), (2, vI x2), (3, vI x3), (4, vI 0), (5, vI 0)] [] h K)) : wI (d + 1) m_M_likeOf 0 [(0, vR 109), (1, vI x1), (2, vI x2), (3, vI x3)] [] h K := by
  refine w_iconst rfl ?_
  refine w_istore rfl rfl rfl rfl (w_ls (ls2 := [(0, vR 109), (1, vI x1), (2, vI x2), (3, vI x3), (4, vI 0)]) rfl ?_)
  refine w_iconst rfl ?_
  refine w_istore rfl rfl rfl rfl (w_ls (ls2 := [(0, vR 109), (1, vI x1), (2, vI x2), (3, vI x3), (4, vI 0), (5, vI 0)]) rfl ?_)
  exact F
theorem s_M_likeOf_6 {d : Nat}  (x1 x2 x3 x4 x5 : Int) (h : St) (K : Int → St → Prop) (F : (inR x5) ∧ ((60 ≤ x5 → (K x4 h)) ∧ (¬ (60 ≤ x5) → (wI (d + 1) m_M_likeOf 34 [(0, vR 109), (1, vI x1), (2, vI x2), (3, vI x3), (4, vI x4), (5, vI x5), (6, vI 0), (7, vI 0), (8, vI 0), (9, vI 0), (10, vI 0), (11, vI 0), (12, vI 0)] [] h K)))) : wI (d + 1) m_M_likeOf 6 [(0, vR 109), (1, vI x1), (2, vI x2), (3, vI x3), (4, vI x4), (5, vI x5)] [] h K := by
  refine w_iload rfl rfl ?_
  refine w_bipush (by decide) (by decide) rfl ?_
  obtain ⟨b1, F⟩ := F
  refine w_icmp_ge (tgt := 311) rfl (by decide) ⟨b1, (r_lit rfl)⟩ (fun q2 => ?_) (fun q2 => ?_)
  · replace F := F.1 q2
    refine w_iload rfl rfl ?_
    exact w_iret rfl rfl ⟨rfl, rfl, _, rfl, F⟩
  · replace F := F.2 q2
    refine w_iconst rfl ?_
    refine w_istore rfl rfl rfl rfl (w_ls (ls2 := [(0, vR 109), (1, vI x1), (2, vI x2), (3, vI x3), (4, vI x4), (5, vI x5), (6, vI 0)]) rfl ?_)
    refine w_iconst rfl ?_
    refine w_istore rfl rfl rfl rfl (w_ls (ls2 := [(0, vR 109), (1, vI x1), (2, vI x2), (3, vI x3), (4, vI x4), (5, vI x5), (6, vI 0), (7, vI 0)]) rfl ?_)
    refine w_iconst rfl ?_
    refine w_istore rfl rfl rfl rfl (w_ls (ls2 := [(0, vR 109), (1, vI x1), (2, vI x2), (3, vI x3), (4, vI x4), (5, vI x5), (6, vI 0), (7, vI 0), (8, vI 0)]) rfl ?_)
    refine w_iconst rfl ?_
    refine w_istore rfl rfl rfl rfl (w_ls (ls2 := [(0, vR 109), (1, vI x1), (2, vI x2), (3, vI x3), (4, vI x4), (5, vI x5), (6, vI 0), (7, vI 0), (8, vI 0), (9, vI 0)]) rfl ?_)
    refine w_iconst rfl ?_
    refine w_istore rfl rfl rfl rfl (w_ls (ls2 := [(0, vR 109), (1, vI x1), (2, vI x2), (3, vI x3), (4, vI x4), (5, vI x5), (6, vI 0), (7, vI 0), (8, vI 0), (9, vI 0), (10, vI 0)]) rfl ?_)
    refine w_iconst rfl ?_
    refine w_istore rfl rfl rfl rfl (w_ls (ls2 := [(0, vR 109), (1, vI x1), (2, vI x2), (3, vI x3), (4, vI x4), (5, vI x5), (6, vI 0), (7, vI 0), (8, vI 0), (9, vI 0), (10, vI 0), (11, vI 0)]) rfl ?_)
    refine w_iconst rfl ?_
    refine w_istore rfl rfl rfl rfl (w_ls (ls2 := [(0, vR 109), (1, vI x1), (2, vI x2), (3, vI x3), (4, vI x4), (5, vI x5), (6, vI 0), (7, vI 0), (8, vI 0), (9, vI 0), (10, vI 0), (11, vI 0), (12, vI 0)]) rfl ?_)
    exact F
theorem s_M_likeOf_34 {d : Nat}  (x1 x2 x3 x4 x5 x6 x7 x8 x9 x10 x11 x12 : Int) (h : St) (K : Int → St → Prop) (F : (inR x12) ∧ (inR (h 110 0)) ∧ (((h 110 0) ≤ x12 → (((inR x6) ∧ (¬ (x6 = 0) → ((inR x7))))) ∧ (((inR x8) ∧ (¬ (x8 = 0) → ((inR x9))))) ∧ (((inR x10) ∧ (¬ (x10 = 0) → ((inR x11))))) ∧ (wI (d + 1) m_M_likeOf 6 [(0, vR 109), (1, vI x1), (2, vI x2), (3, vI x3), (4, vI (x4 + (((cif (x6 = 0) 0 (cif (x7 = 0) 0 3)) + (cif (x8 = 0) 0 (cif (x9 = 0) 0 2))) + (b2i (¬ (x10 = 0) ∧ (¬ (x11 = 0))))))), (5, vI (x5 + 1))] [] h K)) ∧ (¬ ((h 110 0) ≤ x12) → (mwpI (d + 1) m_M_isOf [vR 109, vI x12, vI x2, vI x1] h (fun z19 h19 => (mwpI (d + 1) m_M_isOf [vR 109, vI x12, vI x3, vI (x1 + 1)] h19 (fun z20 h20 => (((inR x6) ∧ (¬ (x6 ≠ 0) → ((inR z19) ∧ (¬ (z19 = 0) → ((0 ≤ x12 ∧ x12 < 60) ∧ (inR (h20 131 x12.toNat)) ∧ (inR x5))))))) ∧ (((inR x7) ∧ (¬ (x7 ≠ 0) → ((inR z20) ∧ (¬ (z20 = 0) → ((0 ≤ x12 ∧ x12 < 60) ∧ (inR (h20 131 x12.toNat)) ∧ (inR x5))))))) ∧ (((inR x8) ∧ (¬ (x8 ≠ 0) → ((inR z19) ∧ (¬ (z19 = 0) → ((0 ≤ x12 ∧ x12 < 180) ∧ (inR (h20 115 x12.toNat)) ∧ (inR x5))))))) ∧ (((inR x9) ∧ (¬ (x9 ≠ 0) → ((inR z20) ∧ (¬ (z20 = 0) → ((0 ≤ x12 ∧ x12 < 180) ∧ (inR (h20 115 x12.toNat)) ∧ (inR x5))))))) ∧ (((inR x10) ∧ (¬ (x10 ≠ 0) → ((inR z19) ∧ (¬ (z19 = 0) → ((0 ≤ x12 ∧ x12 < 180) ∧ (inR (h20 113 x12.toNat)) ∧ (inR ((h20 113 x12.toNat).tmod 24)) ∧ (inR x5))))))) ∧ (((inR x11) ∧ (¬ (x11 ≠ 0) → ((inR z20) ∧ (¬ (z20 = 0) → ((0 ≤ x12 ∧ x12 < 180) ∧ (inR (h20 113 x12.toNat)) ∧ (inR ((h20 113 x12.toNat).tmod 24)) ∧ (inR x5))))))) ∧ (wI (d + 1) m_M_likeOf 34 [(0, vR 109), (1, vI x1), (2, vI x2), (3, vI x3), (4, vI x4), (5, vI x5), (6, vI (b2i ((x6 ≠ 0) ∨ (¬ (z19 = 0) ∧ (¬ ((h20 131 x12.toNat) ≠ x5)))))), (7, vI (b2i ((x7 ≠ 0) ∨ (¬ (z20 = 0) ∧ (¬ ((h20 131 x12.toNat) ≠ x5)))))), (8, vI (b2i ((x8 ≠ 0) ∨ (¬ (z19 = 0) ∧ (¬ ((h20 115 x12.toNat) ≠ x5)))))), (9, vI (b2i ((x9 ≠ 0) ∨ (¬ (z20 = 0) ∧ (¬ ((h20 115 x12.toNat) ≠ x5)))))), (10, vI (b2i ((x10 ≠ 0) ∨ (¬ (z19 = 0) ∧ (¬ (((h20 113 x12.toNat).tmod 24) ≠ x5)))))), (11, vI (b2i ((x11 ≠ 0) ∨ (¬ (z20 = 0) ∧ (¬ (((h20 113 x12.toNat).tmod 24) ≠ x5)))))), (12, vI (x12 + 1))] [] h20 K)))))))) : wI (d + 1) m_M_likeOf 34 [(0, vR 109), (1, vI x1), (2, vI x2), (3, vI x3), (4, vI x4), (5, vI x5), (6, vI x6), (7, vI x7), (8, vI x8), (9, vI x9), (10, vI x10), (11, vI x11), (12, vI x12)] [] h K := by
  refine w_iload rfl rfl ?_
  refine w_aload_n rfl rfl ?_
  refine w_getR rfl f_M_7 rfl rfl rfl rfl rfl ?_
  refine w_iconst rfl ?_
  refine w_iaload rfl rfl rfl ⟨by decide, by decide⟩ ?_
  obtain ⟨b1, F⟩ := F
  obtain ⟨b2, F⟩ := F
  refine w_icmp_ge (tgt := 253) rfl (by decide) ⟨b1, b2⟩ (fun q3 => ?_) (fun q3 => ?_)
  · replace F := F.1 q3
    refine w_iload rfl rfl ?_
    refine w_iload rfl rfl ?_
    obtain ⟨G, F⟩ := F
    have J : ∀ (t8 : Int), t8 = cif (x6 = 0) 0 (cif (x7 = 0) 0 3) → wI (d + 1) m_M_likeOf 270 [(0, vR 109), (1, vI x1), (2, vI x2), (3, vI x3), (4, vI x4), (5, vI x5), (6, vI x6), (7, vI x7), (8, vI x8), (9, vI x9), (10, vI x10), (11, vI x11), (12, vI x12)] [vI t8, vI x4] h K := by
      intro t8 et8
      subst et8
      refine w_iload rfl rfl ?_
      obtain ⟨G, F⟩ := F
      have J : ∀ (t13 : Int), t13 = cif (x8 = 0) 0 (cif (x9 = 0) 0 2) → wI (d + 1) m_M_likeOf 285 [(0, vR 109), (1, vI x1), (2, vI x2), (3, vI x3), (4, vI x4), (5, vI x5), (6, vI x6), (7, vI x7), (8, vI x8), (9, vI x9), (10, vI x10), (11, vI x11), (12, vI x12)] [vI t13, vI (cif (x6 = 0) 0 (cif (x7 = 0) 0 3)), vI x4] h K := by
        intro t13 et13
        subst et13
        refine w_iadd rfl ?_
        refine w_iload rfl rfl ?_
        obtain ⟨G, F⟩ := F
        have J : ∀ (t18 : Int), t18 = b2i (¬ (x10 = 0) ∧ (¬ (x11 = 0))) → wI (d + 1) m_M_likeOf 301 [(0, vR 109), (1, vI x1), (2, vI x2), (3, vI x3), (4, vI x4), (5, vI x5), (6, vI x6), (7, vI x7), (8, vI x8), (9, vI x9), (10, vI x10), (11, vI x11), (12, vI x12)] [vI t18, vI ((cif (x6 = 0) 0 (cif (x7 = 0) 0 3)) + (cif (x8 = 0) 0 (cif (x9 = 0) 0 2))), vI x4] h K := by
          intro t18 et18
          subst et18
          refine w_iadd rfl ?_
          refine w_iadd rfl ?_
          refine w_istore rfl rfl rfl rfl (w_ls (ls2 := [(0, vR 109), (1, vI x1), (2, vI x2), (3, vI x3), (4, vI (x4 + (((cif (x6 = 0) 0 (cif (x7 = 0) 0 3)) + (cif (x8 = 0) 0 (cif (x9 = 0) 0 2))) + (b2i (¬ (x10 = 0) ∧ (¬ (x11 = 0))))))), (5, vI x5), (6, vI x6), (7, vI x7), (8, vI x8), (9, vI x9), (10, vI x10), (11, vI x11), (12, vI x12)]) rfl ?_)
          refine w_iinc rfl rfl rfl rfl rfl (w_ls (ls2 := [(0, vR 109), (1, vI x1), (2, vI x2), (3, vI x3), (4, vI (x4 + (((cif (x6 = 0) 0 (cif (x7 = 0) 0 3)) + (cif (x8 = 0) 0 (cif (x9 = 0) 0 2))) + (b2i (¬ (x10 = 0) ∧ (¬ (x11 = 0))))))), (5, vI (x5 + 1)), (6, vI x6), (7, vI x7), (8, vI x8), (9, vI x9), (10, vI x10), (11, vI x11), (12, vI x12)]) rfl ?_)
          refine w_goto (tgt := 6) rfl (by decide) ?_
          exact w_kp [0, 1, 2, 3, 4, 5] F
        obtain ⟨b14, gb_⟩ := G
        refine w_if_eq (tgt := 300) rfl (by decide) b14 (fun q15 => ?_) (fun q15 => ?_)
        · refine w_iconst rfl ?_
          exact J _ (b2i_f (fun z => z.1 q15)).symm
        · have G := gb_ q15
          have b16 := G
          refine w_iload rfl rfl ?_
          refine w_if_eq (tgt := 300) rfl (by decide) b16 (fun q17 => ?_) (fun q17 => ?_)
          · refine w_iconst rfl ?_
            exact J _ (b2i_f (fun z => (fun z => z q17) z.2)).symm
          · refine w_iconst rfl ?_
            refine w_goto (tgt := 301) rfl (by decide) ?_
            exact J _ (b2i_t ⟨q15, q17⟩).symm
      obtain ⟨b9, gb_⟩ := G
      refine w_if_eq (tgt := 284) rfl (by decide) b9 (fun q10 => ?_) (fun q10 => ?_)
      · refine w_iconst rfl ?_
        exact J _ (cif_t q10).symm
      · have G := gb_ q10
        have b11 := G
        refine w_iload rfl rfl ?_
        refine w_if_eq (tgt := 284) rfl (by decide) b11 (fun q12 => ?_) (fun q12 => ?_)
        · refine w_iconst rfl ?_
          exact J _ ((cif_f q10).trans (cif_t q12)).symm
        · refine w_iconst rfl ?_
          refine w_goto (tgt := 285) rfl (by decide) ?_
          exact J _ ((cif_f q10).trans (cif_f q12)).symm
    obtain ⟨b4, gb_⟩ := G
    refine w_if_eq (tgt := 269) rfl (by decide) b4 (fun q5 => ?_) (fun q5 => ?_)
    · refine w_iconst rfl ?_
      exact J _ (cif_t q5).symm
    · have G := gb_ q5
      have b6 := G
      refine w_iload rfl rfl ?_
      refine w_if_eq (tgt := 269) rfl (by decide) b6 (fun q7 => ?_) (fun q7 => ?_)
      · refine w_iconst rfl ?_
        exact J _ ((cif_f q5).trans (cif_t q7)).symm
      · refine w_iconst rfl ?_
        refine w_goto (tgt := 270) rfl (by decide) ?_
        exact J _ ((cif_f q5).trans (cif_f q7)).symm
  · replace F := F.2 q3
    refine w_aload_n rfl rfl ?_
    refine w_iload rfl rfl ?_
    refine w_iload_n rfl rfl ?_
    refine w_iload_n rfl rfl ?_
    refine c_VI [vI x12, vI x2, vI x1] [] rfl b_M_isOf k_M_203 rfl rfl rfl rfl rfl rfl (mwpI_mono (fun z19 h19 F => ?_) F)
    refine w_istore rfl rfl rfl rfl (w_ls (ls2 := [(0, vR 109), (1, vI x1), (2, vI x2), (3, vI x3), (4, vI x4), (5, vI x5), (6, vI x6), (7, vI x7), (8, vI x8), (9, vI x9), (10, vI x10), (11, vI x11), (12, vI x12), (13, vI z19)]) rfl ?_)
    refine w_aload_n rfl rfl ?_
    refine w_iload rfl rfl ?_
    refine w_iload_n rfl rfl ?_
    refine w_iload_n rfl rfl ?_
    refine w_iconst rfl ?_
    refine w_iadd rfl ?_
    refine c_VI [vI x12, vI x3, vI (x1 + 1)] [] rfl b_M_isOf k_M_203 rfl rfl rfl rfl rfl rfl (mwpI_mono (fun z20 h20 F => ?_) F)
    refine w_istore rfl rfl rfl rfl (w_ls (ls2 := [(0, vR 109), (1, vI x1), (2, vI x2), (3, vI x3), (4, vI x4), (5, vI x5), (6, vI x6), (7, vI x7), (8, vI x8), (9, vI x9), (10, vI x10), (11, vI x11), (12, vI x12), (13, vI z19), (14, vI z20)]) rfl ?_)
    refine w_iload rfl rfl ?_
    obtain ⟨G, F⟩ := F
    have J : ∀ (t29 : Int), t29 = b2i ((x6 ≠ 0) ∨ (¬ (z19 = 0) ∧ (¬ ((h20 131 x12.toNat) ≠ x5)))) → wI (d + 1) m_M_likeOf 94 [(0, vR 109), (1, vI x1), (2, vI x2), (3, vI x3), (4, vI x4), (5, vI x5), (6, vI x6), (7, vI x7), (8, vI x8), (9, vI x9), (10, vI x10), (11, vI x11), (12, vI x12), (13, vI z19), (14, vI z20)] [vI t29] h20 K := by
      intro t29 et29
      subst et29
      refine w_istore rfl rfl rfl rfl (w_ls (ls2 := [(0, vR 109), (1, vI x1), (2, vI x2), (3, vI x3), (4, vI x4), (5, vI x5), (6, vI (b2i ((x6 ≠ 0) ∨ (¬ (z19 = 0) ∧ (¬ ((h20 131 x12.toNat) ≠ x5)))))), (7, vI x7), (8, vI x8), (9, vI x9), (10, vI x10), (11, vI x11), (12, vI x12), (13, vI z19), (14, vI z20)]) rfl ?_)
      refine w_iload rfl rfl ?_
      obtain ⟨G, F⟩ := F
      have J : ∀ (t38 : Int), t38 = b2i ((x7 ≠ 0) ∨ (¬ (z20 = 0) ∧ (¬ ((h20 131 x12.toNat) ≠ x5)))) → wI (d + 1) m_M_likeOf 123 [(0, vR 109), (1, vI x1), (2, vI x2), (3, vI x3), (4, vI x4), (5, vI x5), (6, vI (b2i ((x6 ≠ 0) ∨ (¬ (z19 = 0) ∧ (¬ ((h20 131 x12.toNat) ≠ x5)))))), (7, vI x7), (8, vI x8), (9, vI x9), (10, vI x10), (11, vI x11), (12, vI x12), (13, vI z19), (14, vI z20)] [vI t38] h20 K := by
        intro t38 et38
        subst et38
        refine w_istore rfl rfl rfl rfl (w_ls (ls2 := [(0, vR 109), (1, vI x1), (2, vI x2), (3, vI x3), (4, vI x4), (5, vI x5), (6, vI (b2i ((x6 ≠ 0) ∨ (¬ (z19 = 0) ∧ (¬ ((h20 131 x12.toNat) ≠ x5)))))), (7, vI (b2i ((x7 ≠ 0) ∨ (¬ (z20 = 0) ∧ (¬ ((h20 131 x12.toNat) ≠ x5)))))), (8, vI x8), (9, vI x9), (10, vI x10), (11, vI x11), (12, vI x12), (13, vI z19), (14, vI z20)]) rfl ?_)
        refine w_iload rfl rfl ?_
        obtain ⟨G, F⟩ := F
        have J : ∀ (t47 : Int), t47 = b2i ((x8 ≠ 0) ∨ (¬ (z19 = 0) ∧ (¬ ((h20 115 x12.toNat) ≠ x5)))) → wI (d + 1) m_M_likeOf 152 [(0, vR 109), (1, vI x1), (2, vI x2), (3, vI x3), (4, vI x4), (5, vI x5), (6, vI (b2i ((x6 ≠ 0) ∨ (¬ (z19 = 0) ∧ (¬ ((h20 131 x12.toNat) ≠ x5)))))), (7, vI (b2i ((x7 ≠ 0) ∨ (¬ (z20 = 0) ∧ (¬ ((h20 131 x12.toNat) ≠ x5)))))), (8, vI x8), (9, vI x9), (10, vI x10), (11, vI x11), (12, vI x12), (13, vI z19), (14, vI z20)] [vI t47] h20 K := by
          intro t47 et47
          subst et47
          refine w_istore rfl rfl rfl rfl (w_ls (ls2 := [(0, vR 109), (1, vI x1), (2, vI x2), (3, vI x3), (4, vI x4), (5, vI x5), (6, vI (b2i ((x6 ≠ 0) ∨ (¬ (z19 = 0) ∧ (¬ ((h20 131 x12.toNat) ≠ x5)))))), (7, vI (b2i ((x7 ≠ 0) ∨ (¬ (z20 = 0) ∧ (¬ ((h20 131 x12.toNat) ≠ x5)))))), (8, vI (b2i ((x8 ≠ 0) ∨ (¬ (z19 = 0) ∧ (¬ ((h20 115 x12.toNat) ≠ x5)))))), (9, vI x9), (10, vI x10), (11, vI x11), (12, vI x12), (13, vI z19), (14, vI z20)]) rfl ?_)
          refine w_iload rfl rfl ?_
          obtain ⟨G, F⟩ := F
          have J : ∀ (t56 : Int), t56 = b2i ((x9 ≠ 0) ∨ (¬ (z20 = 0) ∧ (¬ ((h20 115 x12.toNat) ≠ x5)))) → wI (d + 1) m_M_likeOf 181 [(0, vR 109), (1, vI x1), (2, vI x2), (3, vI x3), (4, vI x4), (5, vI x5), (6, vI (b2i ((x6 ≠ 0) ∨ (¬ (z19 = 0) ∧ (¬ ((h20 131 x12.toNat) ≠ x5)))))), (7, vI (b2i ((x7 ≠ 0) ∨ (¬ (z20 = 0) ∧ (¬ ((h20 131 x12.toNat) ≠ x5)))))), (8, vI (b2i ((x8 ≠ 0) ∨ (¬ (z19 = 0) ∧ (¬ ((h20 115 x12.toNat) ≠ x5)))))), (9, vI x9), (10, vI x10), (11, vI x11), (12, vI x12), (13, vI z19), (14, vI z20)] [vI t56] h20 K := by
            intro t56 et56
            subst et56
            refine w_istore rfl rfl rfl rfl (w_ls (ls2 := [(0, vR 109), (1, vI x1), (2, vI x2), (3, vI x3), (4, vI x4), (5, vI x5), (6, vI (b2i ((x6 ≠ 0) ∨ (¬ (z19 = 0) ∧ (¬ ((h20 131 x12.toNat) ≠ x5)))))), (7, vI (b2i ((x7 ≠ 0) ∨ (¬ (z20 = 0) ∧ (¬ ((h20 131 x12.toNat) ≠ x5)))))), (8, vI (b2i ((x8 ≠ 0) ∨ (¬ (z19 = 0) ∧ (¬ ((h20 115 x12.toNat) ≠ x5)))))), (9, vI (b2i ((x9 ≠ 0) ∨ (¬ (z20 = 0) ∧ (¬ ((h20 115 x12.toNat) ≠ x5)))))), (10, vI x10), (11, vI x11), (12, vI x12), (13, vI z19), (14, vI z20)]) rfl ?_)
            refine w_iload rfl rfl ?_
            obtain ⟨G, F⟩ := F
            have J : ∀ (t66 : Int), t66 = b2i ((x10 ≠ 0) ∨ (¬ (z19 = 0) ∧ (¬ (((h20 113 x12.toNat).tmod 24) ≠ x5)))) → wI (d + 1) m_M_likeOf 213 [(0, vR 109), (1, vI x1), (2, vI x2), (3, vI x3), (4, vI x4), (5, vI x5), (6, vI (b2i ((x6 ≠ 0) ∨ (¬ (z19 = 0) ∧ (¬ ((h20 131 x12.toNat) ≠ x5)))))), (7, vI (b2i ((x7 ≠ 0) ∨ (¬ (z20 = 0) ∧ (¬ ((h20 131 x12.toNat) ≠ x5)))))), (8, vI (b2i ((x8 ≠ 0) ∨ (¬ (z19 = 0) ∧ (¬ ((h20 115 x12.toNat) ≠ x5)))))), (9, vI (b2i ((x9 ≠ 0) ∨ (¬ (z20 = 0) ∧ (¬ ((h20 115 x12.toNat) ≠ x5)))))), (10, vI x10), (11, vI x11), (12, vI x12), (13, vI z19), (14, vI z20)] [vI t66] h20 K := by
              intro t66 et66
              subst et66
              refine w_istore rfl rfl rfl rfl (w_ls (ls2 := [(0, vR 109), (1, vI x1), (2, vI x2), (3, vI x3), (4, vI x4), (5, vI x5), (6, vI (b2i ((x6 ≠ 0) ∨ (¬ (z19 = 0) ∧ (¬ ((h20 131 x12.toNat) ≠ x5)))))), (7, vI (b2i ((x7 ≠ 0) ∨ (¬ (z20 = 0) ∧ (¬ ((h20 131 x12.toNat) ≠ x5)))))), (8, vI (b2i ((x8 ≠ 0) ∨ (¬ (z19 = 0) ∧ (¬ ((h20 115 x12.toNat) ≠ x5)))))), (9, vI (b2i ((x9 ≠ 0) ∨ (¬ (z20 = 0) ∧ (¬ ((h20 115 x12.toNat) ≠ x5)))))), (10, vI (b2i ((x10 ≠ 0) ∨ (¬ (z19 = 0) ∧ (¬ (((h20 113 x12.toNat).tmod 24) ≠ x5)))))), (11, vI x11), (12, vI x12), (13, vI z19), (14, vI z20)]) rfl ?_)
              refine w_iload rfl rfl ?_
              obtain ⟨G, F⟩ := F
              have J : ∀ (t76 : Int), t76 = b2i ((x11 ≠ 0) ∨ (¬ (z20 = 0) ∧ (¬ (((h20 113 x12.toNat).tmod 24) ≠ x5)))) → wI (d + 1) m_M_likeOf 245 [(0, vR 109), (1, vI x1), (2, vI x2), (3, vI x3), (4, vI x4), (5, vI x5), (6, vI (b2i ((x6 ≠ 0) ∨ (¬ (z19 = 0) ∧ (¬ ((h20 131 x12.toNat) ≠ x5)))))), (7, vI (b2i ((x7 ≠ 0) ∨ (¬ (z20 = 0) ∧ (¬ ((h20 131 x12.toNat) ≠ x5)))))), (8, vI (b2i ((x8 ≠ 0) ∨ (¬ (z19 = 0) ∧ (¬ ((h20 115 x12.toNat) ≠ x5)))))), (9, vI (b2i ((x9 ≠ 0) ∨ (¬ (z20 = 0) ∧ (¬ ((h20 115 x12.toNat) ≠ x5)))))), (10, vI (b2i ((x10 ≠ 0) ∨ (¬ (z19 = 0) ∧ (¬ (((h20 113 x12.toNat).tmod 24) ≠ x5)))))), (11, vI x11), (12, vI x12), (13, vI z19), (14, vI z20)] [vI t76] h20 K := by
                intro t76 et76
                subst et76
                refine w_istore rfl rfl rfl rfl (w_ls (ls2 := [(0, vR 109), (1, vI x1), (2, vI x2), (3, vI x3), (4, vI x4), (5, vI x5), (6, vI (b2i ((x6 ≠ 0) ∨ (¬ (z19 = 0) ∧ (¬ ((h20 131 x12.toNat) ≠ x5)))))), (7, vI (b2i ((x7 ≠ 0) ∨ (¬ (z20 = 0) ∧ (¬ ((h20 131 x12.toNat) ≠ x5)))))), (8, vI (b2i ((x8 ≠ 0) ∨ (¬ (z19 = 0) ∧ (¬ ((h20 115 x12.toNat) ≠ x5)))))), (9, vI (b2i ((x9 ≠ 0) ∨ (¬ (z20 = 0) ∧ (¬ ((h20 115 x12.toNat) ≠ x5)))))), (10, vI (b2i ((x10 ≠ 0) ∨ (¬ (z19 = 0) ∧ (¬ (((h20 113 x12.toNat).tmod 24) ≠ x5)))))), (11, vI (b2i ((x11 ≠ 0) ∨ (¬ (z20 = 0) ∧ (¬ (((h20 113 x12.toNat).tmod 24) ≠ x5)))))), (12, vI x12), (13, vI z19), (14, vI z20)]) rfl ?_)
                refine w_iinc rfl rfl rfl rfl rfl (w_ls (ls2 := [(0, vR 109), (1, vI x1), (2, vI x2), (3, vI x3), (4, vI x4), (5, vI x5), (6, vI (b2i ((x6 ≠ 0) ∨ (¬ (z19 = 0) ∧ (¬ ((h20 131 x12.toNat) ≠ x5)))))), (7, vI (b2i ((x7 ≠ 0) ∨ (¬ (z20 = 0) ∧ (¬ ((h20 131 x12.toNat) ≠ x5)))))), (8, vI (b2i ((x8 ≠ 0) ∨ (¬ (z19 = 0) ∧ (¬ ((h20 115 x12.toNat) ≠ x5)))))), (9, vI (b2i ((x9 ≠ 0) ∨ (¬ (z20 = 0) ∧ (¬ ((h20 115 x12.toNat) ≠ x5)))))), (10, vI (b2i ((x10 ≠ 0) ∨ (¬ (z19 = 0) ∧ (¬ (((h20 113 x12.toNat).tmod 24) ≠ x5)))))), (11, vI (b2i ((x11 ≠ 0) ∨ (¬ (z20 = 0) ∧ (¬ (((h20 113 x12.toNat).tmod 24) ≠ x5)))))), (12, vI (x12 + 1)), (13, vI z19), (14, vI z20)]) rfl ?_)
                refine w_goto (tgt := 34) rfl (by decide) ?_
                exact w_kp [0, 1, 2, 3, 4, 5, 6, 7, 8, 9, 10, 11, 12] F
              obtain ⟨b67, gb_⟩ := G
              refine w_if_ne (tgt := 240) rfl (by decide) b67 (fun q68 => ?_) (fun q68 => ?_)
              · refine w_iconst rfl ?_
                refine w_goto (tgt := 245) rfl (by decide) ?_
                exact J _ (b2i_t (Or.inl q68)).symm
              · have G := gb_ q68
                obtain ⟨b69, gb_⟩ := G
                refine w_iload rfl rfl ?_
                refine w_if_eq (tgt := 244) rfl (by decide) b69 (fun q70 => ?_) (fun q70 => ?_)
                · refine w_iconst rfl ?_
                  exact J _ (b2i_f (fun z => z.elim q68 (fun z => z.1 q70))).symm
                · have G := gb_ q70
                  obtain ⟨b71, b72, b73, b74⟩ := G
                  refine w_aload_n rfl rfl ?_
                  refine w_getR rfl f_M_19 rfl rfl rfl rfl rfl ?_
                  refine w_iload rfl rfl ?_
                  refine w_iaload rfl rfl rfl b71 ?_
                  refine w_bipush (by decide) (by decide) rfl ?_
                  refine w_irem ⟨b72, (r_lit rfl), (by decide)⟩ rfl ?_
                  refine w_iload rfl rfl ?_
                  refine w_icmp_ne (tgt := 244) rfl (by decide) ⟨b73, b74⟩ (fun q75 => ?_) (fun q75 => ?_)
                  · refine w_iconst rfl ?_
                    exact J _ (b2i_f (fun z => z.elim q68 (fun z => (fun z => z q75) z.2))).symm
                  · refine w_iconst rfl ?_
                    refine w_goto (tgt := 245) rfl (by decide) ?_
                    exact J _ (b2i_t (Or.inr ⟨q70, q75⟩)).symm
            obtain ⟨b57, gb_⟩ := G
            refine w_if_ne (tgt := 208) rfl (by decide) b57 (fun q58 => ?_) (fun q58 => ?_)
            · refine w_iconst rfl ?_
              refine w_goto (tgt := 213) rfl (by decide) ?_
              exact J _ (b2i_t (Or.inl q58)).symm
            · have G := gb_ q58
              obtain ⟨b59, gb_⟩ := G
              refine w_iload rfl rfl ?_
              refine w_if_eq (tgt := 212) rfl (by decide) b59 (fun q60 => ?_) (fun q60 => ?_)
              · refine w_iconst rfl ?_
                exact J _ (b2i_f (fun z => z.elim q58 (fun z => z.1 q60))).symm
              · have G := gb_ q60
                obtain ⟨b61, b62, b63, b64⟩ := G
                refine w_aload_n rfl rfl ?_
                refine w_getR rfl f_M_19 rfl rfl rfl rfl rfl ?_
                refine w_iload rfl rfl ?_
                refine w_iaload rfl rfl rfl b61 ?_
                refine w_bipush (by decide) (by decide) rfl ?_
                refine w_irem ⟨b62, (r_lit rfl), (by decide)⟩ rfl ?_
                refine w_iload rfl rfl ?_
                refine w_icmp_ne (tgt := 212) rfl (by decide) ⟨b63, b64⟩ (fun q65 => ?_) (fun q65 => ?_)
                · refine w_iconst rfl ?_
                  exact J _ (b2i_f (fun z => z.elim q58 (fun z => (fun z => z q65) z.2))).symm
                · refine w_iconst rfl ?_
                  refine w_goto (tgt := 213) rfl (by decide) ?_
                  exact J _ (b2i_t (Or.inr ⟨q60, q65⟩)).symm
          obtain ⟨b48, gb_⟩ := G
          refine w_if_ne (tgt := 176) rfl (by decide) b48 (fun q49 => ?_) (fun q49 => ?_)
          · refine w_iconst rfl ?_
            refine w_goto (tgt := 181) rfl (by decide) ?_
            exact J _ (b2i_t (Or.inl q49)).symm
          · have G := gb_ q49
            obtain ⟨b50, gb_⟩ := G
            refine w_iload rfl rfl ?_
            refine w_if_eq (tgt := 180) rfl (by decide) b50 (fun q51 => ?_) (fun q51 => ?_)
            · refine w_iconst rfl ?_
              exact J _ (b2i_f (fun z => z.elim q49 (fun z => z.1 q51))).symm
            · have G := gb_ q51
              obtain ⟨b52, b53, b54⟩ := G
              refine w_aload_n rfl rfl ?_
              refine w_getR rfl f_M_25 rfl rfl rfl rfl rfl ?_
              refine w_iload rfl rfl ?_
              refine w_iaload rfl rfl rfl b52 ?_
              refine w_iload rfl rfl ?_
              refine w_icmp_ne (tgt := 180) rfl (by decide) ⟨b53, b54⟩ (fun q55 => ?_) (fun q55 => ?_)
              · refine w_iconst rfl ?_
                exact J _ (b2i_f (fun z => z.elim q49 (fun z => (fun z => z q55) z.2))).symm
              · refine w_iconst rfl ?_
                refine w_goto (tgt := 181) rfl (by decide) ?_
                exact J _ (b2i_t (Or.inr ⟨q51, q55⟩)).symm
        obtain ⟨b39, gb_⟩ := G
        refine w_if_ne (tgt := 147) rfl (by decide) b39 (fun q40 => ?_) (fun q40 => ?_)
        · refine w_iconst rfl ?_
          refine w_goto (tgt := 152) rfl (by decide) ?_
          exact J _ (b2i_t (Or.inl q40)).symm
        · have G := gb_ q40
          obtain ⟨b41, gb_⟩ := G
          refine w_iload rfl rfl ?_
          refine w_if_eq (tgt := 151) rfl (by decide) b41 (fun q42 => ?_) (fun q42 => ?_)
          · refine w_iconst rfl ?_
            exact J _ (b2i_f (fun z => z.elim q40 (fun z => z.1 q42))).symm
          · have G := gb_ q42
            obtain ⟨b43, b44, b45⟩ := G
            refine w_aload_n rfl rfl ?_
            refine w_getR rfl f_M_25 rfl rfl rfl rfl rfl ?_
            refine w_iload rfl rfl ?_
            refine w_iaload rfl rfl rfl b43 ?_
            refine w_iload rfl rfl ?_
            refine w_icmp_ne (tgt := 151) rfl (by decide) ⟨b44, b45⟩ (fun q46 => ?_) (fun q46 => ?_)
            · refine w_iconst rfl ?_
              exact J _ (b2i_f (fun z => z.elim q40 (fun z => (fun z => z q46) z.2))).symm
            · refine w_iconst rfl ?_
              refine w_goto (tgt := 152) rfl (by decide) ?_
              exact J _ (b2i_t (Or.inr ⟨q42, q46⟩)).symm
      obtain ⟨b30, gb_⟩ := G
      refine w_if_ne (tgt := 118) rfl (by decide) b30 (fun q31 => ?_) (fun q31 => ?_)
      · refine w_iconst rfl ?_
        refine w_goto (tgt := 123) rfl (by decide) ?_
        exact J _ (b2i_t (Or.inl q31)).symm
      · have G := gb_ q31
        obtain ⟨b32, gb_⟩ := G
        refine w_iload rfl rfl ?_
        refine w_if_eq (tgt := 122) rfl (by decide) b32 (fun q33 => ?_) (fun q33 => ?_)
        · refine w_iconst rfl ?_
          exact J _ (b2i_f (fun z => z.elim q31 (fun z => z.1 q33))).symm
        · have G := gb_ q33
          obtain ⟨b34, b35, b36⟩ := G
          refine w_aload_n rfl rfl ?_
          refine w_getR rfl f_M_81 rfl rfl rfl rfl rfl ?_
          refine w_iload rfl rfl ?_
          refine w_iaload rfl rfl rfl b34 ?_
          refine w_iload rfl rfl ?_
          refine w_icmp_ne (tgt := 122) rfl (by decide) ⟨b35, b36⟩ (fun q37 => ?_) (fun q37 => ?_)
          · refine w_iconst rfl ?_
            exact J _ (b2i_f (fun z => z.elim q31 (fun z => (fun z => z q37) z.2))).symm
          · refine w_iconst rfl ?_
            refine w_goto (tgt := 123) rfl (by decide) ?_
            exact J _ (b2i_t (Or.inr ⟨q33, q37⟩)).symm
    obtain ⟨b21, gb_⟩ := G
    refine w_if_ne (tgt := 89) rfl (by decide) b21 (fun q22 => ?_) (fun q22 => ?_)
    · refine w_iconst rfl ?_
      refine w_goto (tgt := 94) rfl (by decide) ?_
      exact J _ (b2i_t (Or.inl q22)).symm
    · have G := gb_ q22
      obtain ⟨b23, gb_⟩ := G
      refine w_iload rfl rfl ?_
      refine w_if_eq (tgt := 93) rfl (by decide) b23 (fun q24 => ?_) (fun q24 => ?_)
      · refine w_iconst rfl ?_
        exact J _ (b2i_f (fun z => z.elim q22 (fun z => z.1 q24))).symm
      · have G := gb_ q24
        obtain ⟨b25, b26, b27⟩ := G
        refine w_aload_n rfl rfl ?_
        refine w_getR rfl f_M_81 rfl rfl rfl rfl rfl ?_
        refine w_iload rfl rfl ?_
        refine w_iaload rfl rfl rfl b25 ?_
        refine w_iload rfl rfl ?_
        refine w_icmp_ne (tgt := 93) rfl (by decide) ⟨b26, b27⟩ (fun q28 => ?_) (fun q28 => ?_)
        · refine w_iconst rfl ?_
          exact J _ (b2i_f (fun z => z.elim q22 (fun z => (fun z => z q28) z.2))).symm
        · refine w_iconst rfl ?_
          refine w_goto (tgt := 94) rfl (by decide) ?_
          exact J _ (b2i_t (Or.inr ⟨q24, q28⟩)).symm
def vsA (lg : Nat → Nat → Int) (v : Nat → Nat) (n : Nat) (d : Int) (a : Int) (j : Nat) : Prop := exA n (fun i => ofA lg a d i ∧ v i = j)
noncomputable def lvA (lg : Nat → Nat → Int) (fh : Nat → Nat) (n : Nat) (d a b : Int) (j : Nat) : Int := 3 * b2i (vsA lg fh n d a j ∧ vsA lg fh n (d + 1) b j) + 2 * b2i (vsA lg (wvA lg) n d a j ∧ vsA lg (wvA lg) n (d + 1) b j) + b2i (vsA lg (hrA lg) n d a j ∧ vsA lg (hrA lg) n (d + 1) b j)
noncomputable def likA (lg : Nat → Nat → Int) (fh : Nat → Nat) (n : Nat) (d a b : Int) : Int := sm (lvA lg fh n d a b) 60
theorem likA_R {lg : Nat → Nat → Int} {fh : Nat → Nat} {n : Nat} {d a b : Int} : 0 ≤ likA lg fh n d a b ∧ likA lg fh n d a b ≤ 360 := by
  have := sm_bnd (f := lvA lg fh n d a b) (u := 6) (by omega) 60 (fun i _ => by
    have := b2i_B (p := vsA lg fh n d a i ∧ vsA lg fh n (d + 1) b i)
    have := b2i_B (p := vsA lg (wvA lg) n d a i ∧ vsA lg (wvA lg) n (d + 1) b i)
    have := b2i_B (p := vsA lg (hrA lg) n d a i ∧ vsA lg (hrA lg) n (d + 1) b i)
    unfold lvA
    omega)
  unfold likA
  omega
theorem pb_60 {x m : Nat} (hm : m ≤ 32) (hx : x < 2 ^ m) : pb 32 x = pb 60 x := by
  have e1 := pb_more (m := 32 - m) m x hx
  have e2 := pb_more (m := 60 - m) m x hx
  rw [show m + (32 - m) = 32 by omega] at e1
  rw [show m + (60 - m) = 60 by omega] at e2
  rw [e1, e2]
theorem pb_and {S S2 : Nat → Prop} {v : Nat → Nat} {n : Nat} : ((pb 60 (orB S v n &&& orB S2 v n) : Nat) : Int) = sm (fun j => b2i (exA n (fun i => S i ∧ v i = j) ∧ exA n (fun i => S2 i ∧ v i = j))) 60 := by
  rw [pb_sm]
  refine sm_congr 60 (fun j _ => b2i_congr ?_)
  rw [Nat.testBit_and, Bool.and_eq_true, orB_tb, orB_tb]
theorem lik_sum {lg : Nat → Nat → Int} {fh : Nat → Nat} {n : Nat} {d a b : Int} : likA lg fh n d a b = 3 * sm (fun j => b2i (vsA lg fh n d a j ∧ vsA lg fh n (d + 1) b j)) 60 + 2 * sm (fun j => b2i (vsA lg (wvA lg) n d a j ∧ vsA lg (wvA lg) n (d + 1) b j)) 60 + sm (fun j => b2i (vsA lg (hrA lg) n d a j ∧ vsA lg (hrA lg) n (d + 1) b j)) 60 := by
  unfold likA lvA
  rw [sm_mul, sm_mul, ← sm_add, ← sm_add]
theorem c_Senders_likeTo {D : Nat} {h : St} {K : Int → St → Prop} {n : Nat} {lg : Nat → Nat → Int} {fh : Nat → Nat} {d : Int} (vl : VLog n lg) (fb : ∀ c, c < n → fh c < 60) (s1 : Snd60 h lg fh n d n) (s2 : Snd65 h lg fh n (d + 1) n) {a b : Nat} (ha : a < 12) (hb : b < 12) (k : K (likA lg fh n d a b) h) : mwpI (D + 2) m_Senders_likeTo [vR 60, vI a, vR 65, vI b] h K := by
  obtain ⟨m1, m2, m3⟩ := s1 a ha
  obtain ⟨n1, n2, n3⟩ := s2 b hb
  have w8 : ∀ i, i < n → wvA lg i < 8 := fun i hi => by have := (vl i hi).2.2.2.2.2.1; unfold wvA; omega
  have b1 : orB (onS lg d a) fh n < 2 ^ 60 := orB_lt n fb
  have b2 : orB (onS lg (d + 1) b) fh n < 2 ^ 60 := orB_lt n fb
  have b3 : orB (onS lg d a) (wvA lg) n < 2 ^ 8 := orB_lt n w8
  have b4 : orB (onS lg (d + 1) b) (wvA lg) n < 2 ^ 8 := orB_lt n w8
  have b5 : orB (onS lg d a) (hrA lg) n < 2 ^ 24 := orB_lt n (fun i hi => (hrA_R vl hi).2)
  have b6 : orB (onS lg (d + 1) b) (hrA lg) n < 2 ^ 24 := orB_lt n (fun i hi => (hrA_R vl hi).2)
  have l1 : orB (onS lg d a) fh n &&& orB (onS lg (d + 1) b) fh n ≤ orB (onS lg d a) fh n := Nat.and_le_left
  have l2 : orB (onS lg d a) (wvA lg) n &&& orB (onS lg (d + 1) b) (wvA lg) n ≤ orB (onS lg d a) (wvA lg) n := Nat.and_le_left
  have l3 : orB (onS lg d a) (hrA lg) n &&& orB (onS lg (d + 1) b) (hrA lg) n ≤ orB (onS lg d a) (hrA lg) n := Nat.and_le_left
  refine mI_intro b_Senders_likeTo rfl (s_Senders_likeTo_0 (d := D) _ _ h K ?_)
  rw [Int.toNat_natCast, Int.toNat_natCast, m1, n1, and6_nat (by omega) (by omega)]
  refine ⟨by omega, by omega, c_JL_bitCount (by omega) ?_⟩
  rw [m2, n2, and3_nat (by omega) (by omega)]
  refine c_JI_bitCount (by omega) ?_
  rw [m3, n3, and3_nat (by omega) (by omega)]
  refine c_JI_bitCount (by omega) ?_
  rw [pb_more (m := 4) 60 _ (by omega), pb_60 (m := 8) (by omega) (by omega), pb_60 (m := 24) (by omega) (by omega), pb_and, pb_and, pb_and]
  rw [lik_sum] at k
  exact k
