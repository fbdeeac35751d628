theorem s_M_lacksOf_0 {d : Nat}  (x1 x2 x3 : Int) (h : St) (K : Int → St → Prop) (F : (wI (d + 4) m_M_lacksOf 25 [(0, vR 109), (1, vI x1), (2, vI x2), (3, vI x3), (4, vI 0), (5, vI ((-4))), (6, vI 0), (7, vI 0), (8, vI 1), (9, vI 1), (10, vI 0), (11, vI 0)] [] h K)) : wI (d + 4) m_M_lacksOf 0 [(0, vR 109), (1, vI x1), (2, vI x2), (3, vI x3)] [] h K := by
  refine w_iconst rfl ?_
  refine w_istore rfl rfl rfl rfl (w_ls (ls2 := [(0, vR 109), (1, vI x1), (2, vI x2), (3, vI x3), (4, vI 0)]) rfl ?_)
  refine w_bipush (by decide) (by decide) rfl ?_
  refine w_istore rfl rfl rfl rfl (w_ls (ls2 := [(0, vR 109), (1, vI x1), (2, vI x2), (3, vI x3), (4, vI 0), (5, vI ((-4)))]) rfl ?_)
  refine w_iconst rfl ?_
  refine w_istore rfl rfl rfl rfl (w_ls (ls2 := [(0, vR 109), (1, vI x1), (2, vI x2), (3, vI x3), (4, vI 0), (5, vI ((-4))), (6, vI 0)]) rfl ?_)
  refine w_iconst rfl ?_
  refine w_istore rfl rfl rfl rfl (w_ls (ls2 := [(0, vR 109), (1, vI x1), (2, vI x2), (3, vI x3), (4, vI 0), (5, vI ((-4))), (6, vI 0), (7, vI 0)]) rfl ?_)
  refine w_iconst rfl ?_
  refine w_istore rfl rfl rfl rfl (w_ls (ls2 := [(0, vR 109), (1, vI x1), (2, vI x2), (3, vI x3), (4, vI 0), (5, vI ((-4))), (6, vI 0), (7, vI 0), (8, vI 1)]) rfl ?_)
  refine w_iconst rfl ?_
  refine w_istore rfl rfl rfl rfl (w_ls (ls2 := [(0, vR 109), (1, vI x1), (2, vI x2), (3, vI x3), (4, vI 0), (5, vI ((-4))), (6, vI 0), (7, vI 0), (8, vI 1), (9, vI 1)]) rfl ?_)
  refine w_iconst rfl ?_
  refine w_istore rfl rfl rfl rfl (w_ls (ls2 := [(0, vR 109), (1, vI x1), (2, vI x2), (3, vI x3), (4, vI 0), (5, vI ((-4))), (6, vI 0), (7, vI 0), (8, vI 1), (9, vI 1), (10, vI 0)]) rfl ?_)
  refine w_iconst rfl ?_
  refine w_istore rfl rfl rfl rfl (w_ls (ls2 := [(0, vR 109), (1, vI x1), (2, vI x2), (3, vI x3), (4, vI 0), (5, vI ((-4))), (6, vI 0), (7, vI 0), (8, vI 1), (9, vI 1), (10, vI 0), (11, vI 0)]) rfl ?_)
  exact F
theorem s_M_lacksOf_25 {d : Nat}  (x1 x2 x3 x4 x5 x6 x7 x8 x9 x10 x11 : Int) (h : St) (K : Int → St → Prop) (F : (inR x11) ∧ (inR (h 110 0)) ∧ (((h 110 0) ≤ x11 → (inR x4) ∧ ((x4 ≠ 0 → (((inR x6))) ∧ (((inR x7))) ∧ (((¬ (x4 ≤ 1) → ((inR x8))))) ∧ (((inR x9) ∧ (¬ (x9 = 0) → ((inR x10))))) ∧ (K ((((b2i (x6 = 0)) + (cif (x7 = 0) 2 0)) + (cif (x4 ≤ 1) 0 (cif (x8 = 0) 0 4))) + (cif (x9 = 0) 0 (cif (x10 = 0) 0 8))) h)) ∧ (¬ (x4 ≠ 0) → (K 0 h)))) ∧ (¬ ((h 110 0) ≤ x11) → (0 ≤ x11 ∧ x11 < 180) ∧ (inR (h 111 x11.toNat)) ∧ (inR x1) ∧ (((h 111 x11.toNat) ≠ x1 → (wI (d + 4) m_M_lacksOf 25 [(0, vR 109), (1, vI x1), (2, vI x2), (3, vI x3), (4, vI x4), (5, vI x5), (6, vI x6), (7, vI x7), (8, vI x8), (9, vI x9), (10, vI x10), (11, vI (x11 + 1))] [] h K)) ∧ (¬ ((h 111 x11.toNat) ≠ x1) → (mwpI (d + 4) m_M_isOn [vR 109, vI x11, vI x2, vI x3] h (fun z25 h25 => (inR z25) ∧ ((z25 ≠ 0 → (((inR x8) ∧ (¬ (x8 = 0) → ((inR x5) ∧ (¬ (x5 < 0) → ((0 ≤ x5 ∧ x5 < 180) ∧ (inR (h25 114 x11.toNat)) ∧ (inR (h25 114 x5.toNat)))))))) ∧ (((inR x9) ∧ (¬ (x9 = 0) → ((inR x5) ∧ (¬ (x5 < 0) → ((0 ≤ x11 ∧ x11 < 60) ∧ (0 ≤ x5 ∧ x5 < 60) ∧ (inR (h25 131 x11.toNat)) ∧ (inR (h25 131 x5.toNat)))))))) ∧ (inR x6) ∧ ((x6 ≠ 0 → (wI (d + 4) m_M_lacksOf 163 [(0, vR 109), (1, vI x1), (2, vI x2), (3, vI x3), (4, vI (x4 + 1)), (5, vI x11), (6, vI 1), (7, vI x7), (8, vI (b2i (¬ (x8 = 0) ∧ ((x5 < 0) ∨ (¬ ((h25 114 x11.toNat) ≠ (h25 114 x5.toNat))))))), (9, vI (b2i (¬ (x9 = 0) ∧ ((x5 < 0) ∨ (¬ ((h25 131 x11.toNat) ≠ (h25 131 x5.toNat))))))), (10, vI x10), (11, vI x11), (12, vI 0)] [] h25 K)) ∧ (¬ (x6 ≠ 0) → (mwpI (d + 4) m_M_fateOf [vR 109, vI x11] h25 (fun z49 h49 => (((inR (and3 z49 1)))) ∧ (wI (d + 4) m_M_lacksOf 163 [(0, vR 109), (1, vI x1), (2, vI x2), (3, vI x3), (4, vI (x4 + 1)), (5, vI x11), (6, vI (b2i (¬ ((and3 z49 1) ≠ 1)))), (7, vI x7), (8, vI (b2i (¬ (x8 = 0) ∧ ((x5 < 0) ∨ (¬ ((h25 114 x11.toNat) ≠ (h25 114 x5.toNat))))))), (9, vI (b2i (¬ (x9 = 0) ∧ ((x5 < 0) ∨ (¬ ((h25 131 x11.toNat) ≠ (h25 131 x5.toNat))))))), (10, vI x10), (11, vI x11), (12, vI 0)] [] h49 K)))))) ∧ (¬ (z25 ≠ 0) → (wI (d + 4) m_M_lacksOf 25 [(0, vR 109), (1, vI x1), (2, vI x2), (3, vI x3), (4, vI x4), (5, vI x5), (6, vI x6), (7, vI x7), (8, vI x8), (9, vI x9), (10, vI x10), (11, vI (x11 + 1))] [] h25 K)))))))))) : wI (d + 4) m_M_lacksOf 25 [(0, vR 109), (1, vI x1), (2, vI x2), (3, vI x3), (4, vI x4), (5, vI x5), (6, vI x6), (7, vI x7), (8, vI x8), (9, vI x9), (10, vI x10), (11, vI x11)] [] h K := by
  refine w_iload rfl rfl ?_
  refine w_aload_n rfl rfl ?_
  refine w_getR rfl f_M_7 rfl rfl rfl rfl rfl ?_
  refine w_iconst rfl ?_
  refine w_iaload rfl rfl rfl ⟨by decide, by decide⟩ ?_
  obtain ⟨b1, F⟩ := F
  obtain ⟨b2, F⟩ := F
  refine w_icmp_ge (tgt := 260) rfl (by decide) ⟨b1, b2⟩ (fun q3 => ?_) (fun q3 => ?_)
  · replace F := F.1 q3
    refine w_iload rfl rfl ?_
    obtain ⟨b4, F⟩ := F
    refine w_if_ne (tgt := 267) rfl (by decide) b4 (fun q5 => ?_) (fun q5 => ?_)
    · replace F := F.1 q5
      refine w_iload rfl rfl ?_
      obtain ⟨G, F⟩ := F
      have J : ∀ (t8 : Int), t8 = b2i (x6 = 0) → wI (d + 4) m_M_lacksOf 277 [(0, vR 109), (1, vI x1), (2, vI x2), (3, vI x3), (4, vI x4), (5, vI x5), (6, vI x6), (7, vI x7), (8, vI x8), (9, vI x9), (10, vI x10), (11, vI x11)] [vI t8] h K := by
        intro t8 et8
        subst et8
        refine w_iload rfl rfl ?_
        obtain ⟨G, F⟩ := F
        have J : ∀ (t11 : Int), t11 = cif (x7 = 0) 2 0 → wI (d + 4) m_M_lacksOf 287 [(0, vR 109), (1, vI x1), (2, vI x2), (3, vI x3), (4, vI x4), (5, vI x5), (6, vI x6), (7, vI x7), (8, vI x8), (9, vI x9), (10, vI x10), (11, vI x11)] [vI t11, vI (b2i (x6 = 0))] h K := by
          intro t11 et11
          subst et11
          refine w_iadd rfl ?_
          refine w_iload rfl rfl ?_
          refine w_iconst rfl ?_
          obtain ⟨G, F⟩ := F
          have J : ∀ (t15 : Int), t15 = cif (x4 ≤ 1) 0 (cif (x8 = 0) 0 4) → wI (d + 4) m_M_lacksOf 304 [(0, vR 109), (1, vI x1), (2, vI x2), (3, vI x3), (4, vI x4), (5, vI x5), (6, vI x6), (7, vI x7), (8, vI x8), (9, vI x9), (10, vI x10), (11, vI x11)] [vI t15, vI ((b2i (x6 = 0)) + (cif (x7 = 0) 2 0))] h K := by
            intro t15 et15
            subst et15
            refine w_iadd rfl ?_
            refine w_iload rfl rfl ?_
            obtain ⟨G, F⟩ := F
            have J : ∀ (t20 : Int), t20 = cif (x9 = 0) 0 (cif (x10 = 0) 0 8) → wI (d + 4) m_M_lacksOf 321 [(0, vR 109), (1, vI x1), (2, vI x2), (3, vI x3), (4, vI x4), (5, vI x5), (6, vI x6), (7, vI x7), (8, vI x8), (9, vI x9), (10, vI x10), (11, vI x11)] [vI t20, vI (((b2i (x6 = 0)) + (cif (x7 = 0) 2 0)) + (cif (x4 ≤ 1) 0 (cif (x8 = 0) 0 4)))] h K := by
              intro t20 et20
              subst et20
              refine w_iadd rfl ?_
              exact w_iret rfl rfl ⟨rfl, rfl, _, rfl, F⟩
            obtain ⟨b16, gb_⟩ := G
            refine w_if_eq (tgt := 320) rfl (by decide) b16 (fun q17 => ?_) (fun q17 => ?_)
            · refine w_iconst rfl ?_
              exact J _ (cif_t q17).symm
            · have G := gb_ q17
              have b18 := G
              refine w_iload rfl rfl ?_
              refine w_if_eq (tgt := 320) rfl (by decide) b18 (fun q19 => ?_) (fun q19 => ?_)
              · refine w_iconst rfl ?_
                exact J _ ((cif_f q17).trans (cif_t q19)).symm
              · refine w_bipush (by decide) (by decide) rfl ?_
                refine w_goto (tgt := 321) rfl (by decide) ?_
                exact J _ ((cif_f q17).trans (cif_f q19)).symm
          have gb_ := G
          refine w_icmp_le (tgt := 303) rfl (by decide) ⟨b4, (r_lit rfl)⟩ (fun q12 => ?_) (fun q12 => ?_)
          · refine w_iconst rfl ?_
            exact J _ (cif_t q12).symm
          · have G := gb_ q12
            have b13 := G
            refine w_iload rfl rfl ?_
            refine w_if_eq (tgt := 303) rfl (by decide) b13 (fun q14 => ?_) (fun q14 => ?_)
            · refine w_iconst rfl ?_
              exact J _ ((cif_f q12).trans (cif_t q14)).symm
            · refine w_iconst rfl ?_
              refine w_goto (tgt := 304) rfl (by decide) ?_
              exact J _ ((cif_f q12).trans (cif_f q14)).symm
        have b9 := G
        refine w_if_eq (tgt := 286) rfl (by decide) b9 (fun q10 => ?_) (fun q10 => ?_)
        · refine w_iconst rfl ?_
          exact J _ (cif_t q10).symm
        · refine w_iconst rfl ?_
          refine w_goto (tgt := 287) rfl (by decide) ?_
          exact J _ (cif_f q10).symm
      have b6 := G
      refine w_if_eq (tgt := 276) rfl (by decide) b6 (fun q7 => ?_) (fun q7 => ?_)
      · refine w_iconst rfl ?_
        exact J _ (b2i_t q7).symm
      · refine w_iconst rfl ?_
        refine w_goto (tgt := 277) rfl (by decide) ?_
        exact J _ (b2i_f q7).symm
    · replace F := F.2 q5
      refine w_iconst rfl ?_
      exact w_iret rfl rfl ⟨rfl, rfl, _, rfl, F⟩
  · replace F := F.2 q3
    refine w_aload_n rfl rfl ?_
    refine w_getR rfl f_M_13 rfl rfl rfl rfl rfl ?_
    refine w_iload rfl rfl ?_
    obtain ⟨b21, F⟩ := F
    refine w_iaload rfl rfl rfl b21 ?_
    refine w_iload_n rfl rfl ?_
    obtain ⟨b22, F⟩ := F
    obtain ⟨b23, F⟩ := F
    refine w_icmp_ne (tgt := 254) rfl (by decide) ⟨b22, b23⟩ (fun q24 => ?_) (fun q24 => ?_)
    · replace F := F.1 q24
      refine w_iinc rfl rfl rfl rfl rfl (w_ls (ls2 := [(0, vR 109), (1, vI x1), (2, vI x2), (3, vI x3), (4, vI x4), (5, vI x5), (6, vI x6), (7, vI x7), (8, vI x8), (9, vI x9), (10, vI x10), (11, vI (x11 + 1))]) rfl ?_)
      refine w_goto (tgt := 25) rfl (by decide) ?_
      exact F
    · replace F := F.2 q24
      refine w_aload_n rfl rfl ?_
      refine w_iload rfl rfl ?_
      refine w_iload_n rfl rfl ?_
      refine w_iload_n rfl rfl ?_
      refine c_VI [vI x11, vI x2, vI x3] [] rfl b_M_isOn k_M_251 rfl rfl rfl rfl rfl rfl (mwpI_mono (fun z25 h25 F => ?_) F)
      obtain ⟨b26, F⟩ := F
      refine w_if_ne (tgt := 61) rfl (by decide) b26 (fun q27 => ?_) (fun q27 => ?_)
      · replace F := F.1 q27
        refine w_iinc rfl rfl rfl rfl rfl (w_ls (ls2 := [(0, vR 109), (1, vI x1), (2, vI x2), (3, vI x3), (4, vI (x4 + 1)), (5, vI x5), (6, vI x6), (7, vI x7), (8, vI x8), (9, vI x9), (10, vI x10), (11, vI x11)]) rfl ?_)
        refine w_iload rfl rfl ?_
        obtain ⟨G, F⟩ := F
        have J : ∀ (t36 : Int), t36 = b2i (¬ (x8 = 0) ∧ ((x5 < 0) ∨ (¬ ((h25 114 x11.toNat) ≠ (h25 114 x5.toNat))))) → wI (d + 4) m_M_lacksOf 96 [(0, vR 109), (1, vI x1), (2, vI x2), (3, vI x3), (4, vI (x4 + 1)), (5, vI x5), (6, vI x6), (7, vI x7), (8, vI x8), (9, vI x9), (10, vI x10), (11, vI x11)] [vI t36] h25 K := by
          intro t36 et36
          subst et36
          refine w_istore rfl rfl rfl rfl (w_ls (ls2 := [(0, vR 109), (1, vI x1), (2, vI x2), (3, vI x3), (4, vI (x4 + 1)), (5, vI x5), (6, vI x6), (7, vI x7), (8, vI (b2i (¬ (x8 = 0) ∧ ((x5 < 0) ∨ (¬ ((h25 114 x11.toNat) ≠ (h25 114 x5.toNat))))))), (9, vI x9), (10, vI x10), (11, vI x11)]) rfl ?_)
          refine w_iload rfl rfl ?_
          obtain ⟨G, F⟩ := F
          have J : ∀ (t46 : Int), t46 = b2i (¬ (x9 = 0) ∧ ((x5 < 0) ∨ (¬ ((h25 131 x11.toNat) ≠ (h25 131 x5.toNat))))) → wI (d + 4) m_M_lacksOf 130 [(0, vR 109), (1, vI x1), (2, vI x2), (3, vI x3), (4, vI (x4 + 1)), (5, vI x5), (6, vI x6), (7, vI x7), (8, vI (b2i (¬ (x8 = 0) ∧ ((x5 < 0) ∨ (¬ ((h25 114 x11.toNat) ≠ (h25 114 x5.toNat))))))), (9, vI x9), (10, vI x10), (11, vI x11)] [vI t46] h25 K := by
            intro t46 et46
            subst et46
            refine w_istore rfl rfl rfl rfl (w_ls (ls2 := [(0, vR 109), (1, vI x1), (2, vI x2), (3, vI x3), (4, vI (x4 + 1)), (5, vI x5), (6, vI x6), (7, vI x7), (8, vI (b2i (¬ (x8 = 0) ∧ ((x5 < 0) ∨ (¬ ((h25 114 x11.toNat) ≠ (h25 114 x5.toNat))))))), (9, vI (b2i (¬ (x9 = 0) ∧ ((x5 < 0) ∨ (¬ ((h25 131 x11.toNat) ≠ (h25 131 x5.toNat))))))), (10, vI x10), (11, vI x11)]) rfl ?_)
            refine w_iload rfl rfl ?_
            refine w_istore rfl rfl rfl rfl (w_ls (ls2 := [(0, vR 109), (1, vI x1), (2, vI x2), (3, vI x3), (4, vI (x4 + 1)), (5, vI x11), (6, vI x6), (7, vI x7), (8, vI (b2i (¬ (x8 = 0) ∧ ((x5 < 0) ∨ (¬ ((h25 114 x11.toNat) ≠ (h25 114 x5.toNat))))))), (9, vI (b2i (¬ (x9 = 0) ∧ ((x5 < 0) ∨ (¬ ((h25 131 x11.toNat) ≠ (h25 131 x5.toNat))))))), (10, vI x10), (11, vI x11)]) rfl ?_)
            refine w_iload rfl rfl ?_
            obtain ⟨b47, F⟩ := F
            refine w_if_ne (tgt := 153) rfl (by decide) b47 (fun q48 => ?_) (fun q48 => ?_)
            · replace F := F.1 q48
              refine w_iconst rfl ?_
              refine w_goto (tgt := 158) rfl (by decide) ?_
              refine w_istore rfl rfl rfl rfl (w_ls (ls2 := [(0, vR 109), (1, vI x1), (2, vI x2), (3, vI x3), (4, vI (x4 + 1)), (5, vI x11), (6, vI 1), (7, vI x7), (8, vI (b2i (¬ (x8 = 0) ∧ ((x5 < 0) ∨ (¬ ((h25 114 x11.toNat) ≠ (h25 114 x5.toNat))))))), (9, vI (b2i (¬ (x9 = 0) ∧ ((x5 < 0) ∨ (¬ ((h25 131 x11.toNat) ≠ (h25 131 x5.toNat))))))), (10, vI x10), (11, vI x11)]) rfl ?_)
              refine w_iconst rfl ?_
              refine w_istore rfl rfl rfl rfl (w_ls (ls2 := [(0, vR 109), (1, vI x1), (2, vI x2), (3, vI x3), (4, vI (x4 + 1)), (5, vI x11), (6, vI 1), (7, vI x7), (8, vI (b2i (¬ (x8 = 0) ∧ ((x5 < 0) ∨ (¬ ((h25 114 x11.toNat) ≠ (h25 114 x5.toNat))))))), (9, vI (b2i (¬ (x9 = 0) ∧ ((x5 < 0) ∨ (¬ ((h25 131 x11.toNat) ≠ (h25 131 x5.toNat))))))), (10, vI x10), (11, vI x11), (12, vI 0)]) rfl ?_)
              exact F
            · replace F := F.2 q48
              refine w_aload_n rfl rfl ?_
              refine w_iload rfl rfl ?_
              refine c_VI [vI x11] [] rfl b_M_fateOf k_M_248 rfl rfl rfl rfl rfl rfl (mwpI_mono (fun z49 h49 F => ?_) F)
              refine w_iconst rfl ?_
              refine w_iand rfl ?_
              refine w_iconst rfl ?_
              obtain ⟨G, F⟩ := F
              have J : ∀ (t52 : Int), t52 = b2i (¬ ((and3 z49 1) ≠ 1)) → wI (d + 4) m_M_lacksOf 158 [(0, vR 109), (1, vI x1), (2, vI x2), (3, vI x3), (4, vI (x4 + 1)), (5, vI x11), (6, vI x6), (7, vI x7), (8, vI (b2i (¬ (x8 = 0) ∧ ((x5 < 0) ∨ (¬ ((h25 114 x11.toNat) ≠ (h25 114 x5.toNat))))))), (9, vI (b2i (¬ (x9 = 0) ∧ ((x5 < 0) ∨ (¬ ((h25 131 x11.toNat) ≠ (h25 131 x5.toNat))))))), (10, vI x10), (11, vI x11)] [vI t52] h49 K := by
                intro t52 et52
                subst et52
                refine w_istore rfl rfl rfl rfl (w_ls (ls2 := [(0, vR 109), (1, vI x1), (2, vI x2), (3, vI x3), (4, vI (x4 + 1)), (5, vI x11), (6, vI (b2i (¬ ((and3 z49 1) ≠ 1)))), (7, vI x7), (8, vI (b2i (¬ (x8 = 0) ∧ ((x5 < 0) ∨ (¬ ((h25 114 x11.toNat) ≠ (h25 114 x5.toNat))))))), (9, vI (b2i (¬ (x9 = 0) ∧ ((x5 < 0) ∨ (¬ ((h25 131 x11.toNat) ≠ (h25 131 x5.toNat))))))), (10, vI x10), (11, vI x11)]) rfl ?_)
                refine w_iconst rfl ?_
                refine w_istore rfl rfl rfl rfl (w_ls (ls2 := [(0, vR 109), (1, vI x1), (2, vI x2), (3, vI x3), (4, vI (x4 + 1)), (5, vI x11), (6, vI (b2i (¬ ((and3 z49 1) ≠ 1)))), (7, vI x7), (8, vI (b2i (¬ (x8 = 0) ∧ ((x5 < 0) ∨ (¬ ((h25 114 x11.toNat) ≠ (h25 114 x5.toNat))))))), (9, vI (b2i (¬ (x9 = 0) ∧ ((x5 < 0) ∨ (¬ ((h25 131 x11.toNat) ≠ (h25 131 x5.toNat))))))), (10, vI x10), (11, vI x11), (12, vI 0)]) rfl ?_)
                exact F
              have b50 := G
              refine w_icmp_ne (tgt := 157) rfl (by decide) ⟨b50, (r_lit rfl)⟩ (fun q51 => ?_) (fun q51 => ?_)
              · refine w_iconst rfl ?_
                exact J _ (b2i_f (fun z => z q51)).symm
              · refine w_iconst rfl ?_
                refine w_goto (tgt := 158) rfl (by decide) ?_
                exact J _ (b2i_t q51).symm
          obtain ⟨b37, gb_⟩ := G
          refine w_if_eq (tgt := 129) rfl (by decide) b37 (fun q38 => ?_) (fun q38 => ?_)
          · refine w_iconst rfl ?_
            exact J _ (b2i_f (fun z => z.1 q38)).symm
          · have G := gb_ q38
            obtain ⟨b39, gb_⟩ := G
            refine w_iload rfl rfl ?_
            refine w_if_lt (tgt := 125) rfl (by decide) b39 (fun q40 => ?_) (fun q40 => ?_)
            · refine w_iconst rfl ?_
              refine w_goto (tgt := 130) rfl (by decide) ?_
              exact J _ (b2i_t ⟨q38, (Or.inl q40)⟩).symm
            · have G := gb_ q40
              obtain ⟨b41, b42, b43, b44⟩ := G
              refine w_aload_n rfl rfl ?_
              refine w_getR rfl f_M_81 rfl rfl rfl rfl rfl ?_
              refine w_iload rfl rfl ?_
              refine w_iaload rfl rfl rfl b41 ?_
              refine w_aload_n rfl rfl ?_
              refine w_getR rfl f_M_81 rfl rfl rfl rfl rfl ?_
              refine w_iload rfl rfl ?_
              refine w_iaload rfl rfl rfl b42 ?_
              refine w_icmp_ne (tgt := 129) rfl (by decide) ⟨b43, b44⟩ (fun q45 => ?_) (fun q45 => ?_)
              · refine w_iconst rfl ?_
                exact J _ (b2i_f (fun z => (fun z => z.elim q40 (fun z => z q45)) z.2)).symm
              · refine w_iconst rfl ?_
                refine w_goto (tgt := 130) rfl (by decide) ?_
                exact J _ (b2i_t ⟨q38, (Or.inr q45)⟩).symm
        obtain ⟨b28, gb_⟩ := G
        refine w_if_eq (tgt := 95) rfl (by decide) b28 (fun q29 => ?_) (fun q29 => ?_)
        · refine w_iconst rfl ?_
          exact J _ (b2i_f (fun z => z.1 q29)).symm
        · have G := gb_ q29
          obtain ⟨b30, gb_⟩ := G
          refine w_iload rfl rfl ?_
          refine w_if_lt (tgt := 91) rfl (by decide) b30 (fun q31 => ?_) (fun q31 => ?_)
          · refine w_iconst rfl ?_
            refine w_goto (tgt := 96) rfl (by decide) ?_
            exact J _ (b2i_t ⟨q29, (Or.inl q31)⟩).symm
          · have G := gb_ q31
            obtain ⟨b32, b33, b34⟩ := G
            refine w_aload_n rfl rfl ?_
            refine w_getR rfl f_M_22 rfl rfl rfl rfl rfl ?_
            refine w_iload rfl rfl ?_
            refine w_iaload rfl rfl rfl b21 ?_
            refine w_aload_n rfl rfl ?_
            refine w_getR rfl f_M_22 rfl rfl rfl rfl rfl ?_
            refine w_iload rfl rfl ?_
            refine w_iaload rfl rfl rfl b32 ?_
            refine w_icmp_ne (tgt := 95) rfl (by decide) ⟨b33, b34⟩ (fun q35 => ?_) (fun q35 => ?_)
            · refine w_iconst rfl ?_
              exact J _ (b2i_f (fun z => (fun z => z.elim q31 (fun z => z q35)) z.2)).symm
            · refine w_iconst rfl ?_
              refine w_goto (tgt := 96) rfl (by decide) ?_
              exact J _ (b2i_t ⟨q29, (Or.inr q35)⟩).symm
      · replace F := F.2 q27
        refine w_goto (tgt := 254) rfl (by decide) ?_
        refine w_iinc rfl rfl rfl rfl rfl (w_ls (ls2 := [(0, vR 109), (1, vI x1), (2, vI x2), (3, vI x3), (4, vI x4), (5, vI x5), (6, vI x6), (7, vI x7), (8, vI x8), (9, vI x9), (10, vI x10), (11, vI (x11 + 1))]) rfl ?_)
        refine w_goto (tgt := 25) rfl (by decide) ?_
        exact F
theorem s_M_lacksOf_163 {d : Nat}  (x1 x2 x3 x4 x5 x6 x7 x8 x9 x10 x11 x12 : Int) (h : St) (K : Int → St → Prop) (F : (inR x12) ∧ (inR (h 110 0)) ∧ (((h 110 0) ≤ x12 → (wI (d + 4) m_M_lacksOf 25 [(0, vR 109), (1, vI x1), (2, vI x2), (3, vI x3), (4, vI x4), (5, vI x5), (6, vI x6), (7, vI x7), (8, vI x8), (9, vI x9), (10, vI x10), (11, vI (x11 + 1))] [] h K)) ∧ (¬ ((h 110 0) ≤ x12) → (inR x7) ∧ ((x7 ≠ 0 → (inR x10) ∧ ((x10 ≠ 0 → (wI (d + 4) m_M_lacksOf 163 [(0, vR 109), (1, vI x1), (2, vI x2), (3, vI x3), (4, vI x4), (5, vI x5), (6, vI x6), (7, vI 1), (8, vI x8), (9, vI x9), (10, vI 1), (11, vI x11), (12, vI (x12 + 1))] [] h K)) ∧ (¬ (x10 ≠ 0) → (0 ≤ x12 ∧ x12 < 180) ∧ (inR (h 111 x12.toNat)) ∧ (inR x1) ∧ (((h 111 x12.toNat) = x1 → (wI (d + 4) m_M_lacksOf 163 [(0, vR 109), (1, vI x1), (2, vI x2), (3, vI x3), (4, vI x4), (5, vI x5), (6, vI x6), (7, vI 1), (8, vI x8), (9, vI x9), (10, vI 0), (11, vI x11), (12, vI (x12 + 1))] [] h K)) ∧ (¬ ((h 111 x12.toNat) = x1) → (mwpI (d + 4) m_M_isOn [vR 109, vI x12, vI x2, vI x3] h (fun z12 h12 => (((inR z12) ∧ (¬ (z12 = 0) → ((0 ≤ x12 ∧ x12 < 60) ∧ (0 ≤ x11 ∧ x11 < 60) ∧ (inR (h12 131 x12.toNat)) ∧ (inR (h12 131 x11.toNat)))))) ∧ (wI (d + 4) m_M_lacksOf 163 [(0, vR 109), (1, vI x1), (2, vI x2), (3, vI x3), (4, vI x4), (5, vI x5), (6, vI x6), (7, vI 1), (8, vI x8), (9, vI x9), (10, vI (b2i (¬ (z12 = 0) ∧ (¬ ((h12 131 x12.toNat) ≠ (h12 131 x11.toNat)))))), (11, vI x11), (12, vI (x12 + 1))] [] h12 K)))))))) ∧ (¬ (x7 ≠ 0) → (mwpI (d + 4) m_M_answers [vR 109, vI x12, vI x11] h (fun z21 h21 => (((inR z21))) ∧ (inR x10) ∧ ((x10 ≠ 0 → (wI (d + 4) m_M_lacksOf 163 [(0, vR 109), (1, vI x1), (2, vI x2), (3, vI x3), (4, vI x4), (5, vI x5), (6, vI x6), (7, vI (b2i (¬ (z21 = 0)))), (8, vI x8), (9, vI x9), (10, vI 1), (11, vI x11), (12, vI (x12 + 1))] [] h21 K)) ∧ (¬ (x10 ≠ 0) → (0 ≤ x12 ∧ x12 < 180) ∧ (inR (h21 111 x12.toNat)) ∧ (inR x1) ∧ (((h21 111 x12.toNat) = x1 → (wI (d + 4) m_M_lacksOf 163 [(0, vR 109), (1, vI x1), (2, vI x2), (3, vI x3), (4, vI x4), (5, vI x5), (6, vI x6), (7, vI (b2i (¬ (z21 = 0)))), (8, vI x8), (9, vI x9), (10, vI 0), (11, vI x11), (12, vI (x12 + 1))] [] h21 K)) ∧ (¬ ((h21 111 x12.toNat) = x1) → (mwpI (d + 4) m_M_isOn [vR 109, vI x12, vI x2, vI x3] h21 (fun z31 h31 => (((inR z31) ∧ (¬ (z31 = 0) → ((0 ≤ x12 ∧ x12 < 60) ∧ (0 ≤ x11 ∧ x11 < 60) ∧ (inR (h31 131 x12.toNat)) ∧ (inR (h31 131 x11.toNat)))))) ∧ (wI (d + 4) m_M_lacksOf 163 [(0, vR 109), (1, vI x1), (2, vI x2), (3, vI x3), (4, vI x4), (5, vI x5), (6, vI x6), (7, vI (b2i (¬ (z21 = 0)))), (8, vI x8), (9, vI x9), (10, vI (b2i (¬ (z31 = 0) ∧ (¬ ((h31 131 x12.toNat) ≠ (h31 131 x11.toNat)))))), (11, vI x11), (12, vI (x12 + 1))] [] h31 K)))))))))))))) : wI (d + 4) m_M_lacksOf 163 [(0, vR 109), (1, vI x1), (2, vI x2), (3, vI x3), (4, vI x4), (5, vI x5), (6, vI x6), (7, vI x7), (8, vI x8), (9, vI x9), (10, vI x10), (11, vI x11), (12, vI x12)] [] h K := by
  refine w_iload rfl rfl ?_
  refine w_aload_n rfl rfl ?_
  refine w_getR rfl f_M_7 rfl rfl rfl rfl rfl ?_
  refine w_iconst rfl ?_
  refine w_iaload rfl rfl rfl ⟨by decide, by decide⟩ ?_
  obtain ⟨b1, F⟩ := F
  obtain ⟨b2, F⟩ := F
  refine w_icmp_ge (tgt := 254) rfl (by decide) ⟨b1, b2⟩ (fun q3 => ?_) (fun q3 => ?_)
  · replace F := F.1 q3
    refine w_iinc rfl rfl rfl rfl rfl (w_ls (ls2 := [(0, vR 109), (1, vI x1), (2, vI x2), (3, vI x3), (4, vI x4), (5, vI x5), (6, vI x6), (7, vI x7), (8, vI x8), (9, vI x9), (10, vI x10), (11, vI (x11 + 1)), (12, vI x12)]) rfl ?_)
    refine w_goto (tgt := 25) rfl (by decide) ?_
    exact w_kp [0, 1, 2, 3, 4, 5, 6, 7, 8, 9, 10, 11] F
  · replace F := F.2 q3
    refine w_iload rfl rfl ?_
    obtain ⟨b4, F⟩ := F
    refine w_if_ne (tgt := 190) rfl (by decide) b4 (fun q5 => ?_) (fun q5 => ?_)
    · replace F := F.1 q5
      refine w_iconst rfl ?_
      refine w_goto (tgt := 195) rfl (by decide) ?_
      refine w_istore rfl rfl rfl rfl (w_ls (ls2 := [(0, vR 109), (1, vI x1), (2, vI x2), (3, vI x3), (4, vI x4), (5, vI x5), (6, vI x6), (7, vI 1), (8, vI x8), (9, vI x9), (10, vI x10), (11, vI x11), (12, vI x12)]) rfl ?_)
      refine w_iload rfl rfl ?_
      obtain ⟨b6, F⟩ := F
      refine w_if_ne (tgt := 241) rfl (by decide) b6 (fun q7 => ?_) (fun q7 => ?_)
      · replace F := F.1 q7
        refine w_iconst rfl ?_
        refine w_goto (tgt := 246) rfl (by decide) ?_
        refine w_istore rfl rfl rfl rfl (w_ls (ls2 := [(0, vR 109), (1, vI x1), (2, vI x2), (3, vI x3), (4, vI x4), (5, vI x5), (6, vI x6), (7, vI 1), (8, vI x8), (9, vI x9), (10, vI 1), (11, vI x11), (12, vI x12)]) rfl ?_)
        refine w_iinc rfl rfl rfl rfl rfl (w_ls (ls2 := [(0, vR 109), (1, vI x1), (2, vI x2), (3, vI x3), (4, vI x4), (5, vI x5), (6, vI x6), (7, vI 1), (8, vI x8), (9, vI x9), (10, vI 1), (11, vI x11), (12, vI (x12 + 1))]) rfl ?_)
        refine w_goto (tgt := 163) rfl (by decide) ?_
        exact F
      · replace F := F.2 q7
        refine w_aload_n rfl rfl ?_
        refine w_getR rfl f_M_13 rfl rfl rfl rfl rfl ?_
        refine w_iload rfl rfl ?_
        obtain ⟨b8, F⟩ := F
        refine w_iaload rfl rfl rfl b8 ?_
        refine w_iload_n rfl rfl ?_
        obtain ⟨b9, F⟩ := F
        obtain ⟨b10, F⟩ := F
        refine w_icmp_eq (tgt := 245) rfl (by decide) ⟨b9, b10⟩ (fun q11 => ?_) (fun q11 => ?_)
        · replace F := F.1 q11
          refine w_iconst rfl ?_
          refine w_istore rfl rfl rfl rfl (w_ls (ls2 := [(0, vR 109), (1, vI x1), (2, vI x2), (3, vI x3), (4, vI x4), (5, vI x5), (6, vI x6), (7, vI 1), (8, vI x8), (9, vI x9), (10, vI 0), (11, vI x11), (12, vI x12)]) rfl ?_)
          refine w_iinc rfl rfl rfl rfl rfl (w_ls (ls2 := [(0, vR 109), (1, vI x1), (2, vI x2), (3, vI x3), (4, vI x4), (5, vI x5), (6, vI x6), (7, vI 1), (8, vI x8), (9, vI x9), (10, vI 0), (11, vI x11), (12, vI (x12 + 1))]) rfl ?_)
          refine w_goto (tgt := 163) rfl (by decide) ?_
          exact F
        · replace F := F.2 q11
          refine w_aload_n rfl rfl ?_
          refine w_iload rfl rfl ?_
          refine w_iload_n rfl rfl ?_
          refine w_iload_n rfl rfl ?_
          refine c_VI [vI x12, vI x2, vI x3] [] rfl b_M_isOn k_M_251 rfl rfl rfl rfl rfl rfl (mwpI_mono (fun z12 h12 F => ?_) F)
          obtain ⟨G, F⟩ := F
          have J : ∀ (t20 : Int), t20 = b2i (¬ (z12 = 0) ∧ (¬ ((h12 131 x12.toNat) ≠ (h12 131 x11.toNat)))) → wI (d + 4) m_M_lacksOf 246 [(0, vR 109), (1, vI x1), (2, vI x2), (3, vI x3), (4, vI x4), (5, vI x5), (6, vI x6), (7, vI 1), (8, vI x8), (9, vI x9), (10, vI x10), (11, vI x11), (12, vI x12)] [vI t20] h12 K := by
            intro t20 et20
            subst et20
            refine w_istore rfl rfl rfl rfl (w_ls (ls2 := [(0, vR 109), (1, vI x1), (2, vI x2), (3, vI x3), (4, vI x4), (5, vI x5), (6, vI x6), (7, vI 1), (8, vI x8), (9, vI x9), (10, vI (b2i (¬ (z12 = 0) ∧ (¬ ((h12 131 x12.toNat) ≠ (h12 131 x11.toNat)))))), (11, vI x11), (12, vI x12)]) rfl ?_)
            refine w_iinc rfl rfl rfl rfl rfl (w_ls (ls2 := [(0, vR 109), (1, vI x1), (2, vI x2), (3, vI x3), (4, vI x4), (5, vI x5), (6, vI x6), (7, vI 1), (8, vI x8), (9, vI x9), (10, vI (b2i (¬ (z12 = 0) ∧ (¬ ((h12 131 x12.toNat) ≠ (h12 131 x11.toNat)))))), (11, vI x11), (12, vI (x12 + 1))]) rfl ?_)
            refine w_goto (tgt := 163) rfl (by decide) ?_
            exact F
          obtain ⟨b13, gb_⟩ := G
          refine w_if_eq (tgt := 245) rfl (by decide) b13 (fun q14 => ?_) (fun q14 => ?_)
          · refine w_iconst rfl ?_
            exact J _ (b2i_f (fun z => z.1 q14)).symm
          · have G := gb_ q14
            obtain ⟨b15, b16, b17, b18⟩ := G
            refine w_aload_n rfl rfl ?_
            refine w_getR rfl f_M_81 rfl rfl rfl rfl rfl ?_
            refine w_iload rfl rfl ?_
            refine w_iaload rfl rfl rfl b15 ?_
            refine w_aload_n rfl rfl ?_
            refine w_getR rfl f_M_81 rfl rfl rfl rfl rfl ?_
            refine w_iload rfl rfl ?_
            refine w_iaload rfl rfl rfl b16 ?_
            refine w_icmp_ne (tgt := 245) rfl (by decide) ⟨b17, b18⟩ (fun q19 => ?_) (fun q19 => ?_)
            · refine w_iconst rfl ?_
              exact J _ (b2i_f (fun z => (fun z => z q19) z.2)).symm
            · refine w_iconst rfl ?_
              refine w_goto (tgt := 246) rfl (by decide) ?_
              exact J _ (b2i_t ⟨q14, q19⟩).symm
    · replace F := F.2 q5
      refine w_aload_n rfl rfl ?_
      refine w_iload rfl rfl ?_
      refine w_iload rfl rfl ?_
      refine c_VI [vI x12, vI x11] [] rfl b_M_answers k_M_245 rfl rfl rfl rfl rfl rfl (mwpI_mono (fun z21 h21 F => ?_) F)
      obtain ⟨G, F⟩ := F
      have J : ∀ (t24 : Int), t24 = b2i (¬ (z21 = 0)) → wI (d + 4) m_M_lacksOf 195 [(0, vR 109), (1, vI x1), (2, vI x2), (3, vI x3), (4, vI x4), (5, vI x5), (6, vI x6), (7, vI x7), (8, vI x8), (9, vI x9), (10, vI x10), (11, vI x11), (12, vI x12)] [vI t24] h21 K := by
        intro t24 et24
        subst et24
        refine w_istore rfl rfl rfl rfl (w_ls (ls2 := [(0, vR 109), (1, vI x1), (2, vI x2), (3, vI x3), (4, vI x4), (5, vI x5), (6, vI x6), (7, vI (b2i (¬ (z21 = 0)))), (8, vI x8), (9, vI x9), (10, vI x10), (11, vI x11), (12, vI x12)]) rfl ?_)
        refine w_iload rfl rfl ?_
        obtain ⟨b25, F⟩ := F
        refine w_if_ne (tgt := 241) rfl (by decide) b25 (fun q26 => ?_) (fun q26 => ?_)
        · replace F := F.1 q26
          refine w_iconst rfl ?_
          refine w_goto (tgt := 246) rfl (by decide) ?_
          refine w_istore rfl rfl rfl rfl (w_ls (ls2 := [(0, vR 109), (1, vI x1), (2, vI x2), (3, vI x3), (4, vI x4), (5, vI x5), (6, vI x6), (7, vI (b2i (¬ (z21 = 0)))), (8, vI x8), (9, vI x9), (10, vI 1), (11, vI x11), (12, vI x12)]) rfl ?_)
          refine w_iinc rfl rfl rfl rfl rfl (w_ls (ls2 := [(0, vR 109), (1, vI x1), (2, vI x2), (3, vI x3), (4, vI x4), (5, vI x5), (6, vI x6), (7, vI (b2i (¬ (z21 = 0)))), (8, vI x8), (9, vI x9), (10, vI 1), (11, vI x11), (12, vI (x12 + 1))]) rfl ?_)
          refine w_goto (tgt := 163) rfl (by decide) ?_
          exact F
        · replace F := F.2 q26
          refine w_aload_n rfl rfl ?_
          refine w_getR rfl f_M_13 rfl rfl rfl rfl rfl ?_
          refine w_iload rfl rfl ?_
          obtain ⟨b27, F⟩ := F
          refine w_iaload rfl rfl rfl b27 ?_
          refine w_iload_n rfl rfl ?_
          obtain ⟨b28, F⟩ := F
          obtain ⟨b29, F⟩ := F
          refine w_icmp_eq (tgt := 245) rfl (by decide) ⟨b28, b29⟩ (fun q30 => ?_) (fun q30 => ?_)
          · replace F := F.1 q30
            refine w_iconst rfl ?_
            refine w_istore rfl rfl rfl rfl (w_ls (ls2 := [(0, vR 109), (1, vI x1), (2, vI x2), (3, vI x3), (4, vI x4), (5, vI x5), (6, vI x6), (7, vI (b2i (¬ (z21 = 0)))), (8, vI x8), (9, vI x9), (10, vI 0), (11, vI x11), (12, vI x12)]) rfl ?_)
            refine w_iinc rfl rfl rfl rfl rfl (w_ls (ls2 := [(0, vR 109), (1, vI x1), (2, vI x2), (3, vI x3), (4, vI x4), (5, vI x5), (6, vI x6), (7, vI (b2i (¬ (z21 = 0)))), (8, vI x8), (9, vI x9), (10, vI 0), (11, vI x11), (12, vI (x12 + 1))]) rfl ?_)
            refine w_goto (tgt := 163) rfl (by decide) ?_
            exact F
          · replace F := F.2 q30
            refine w_aload_n rfl rfl ?_
            refine w_iload rfl rfl ?_
            refine w_iload_n rfl rfl ?_
            refine w_iload_n rfl rfl ?_
            refine c_VI [vI x12, vI x2, vI x3] [] rfl b_M_isOn k_M_251 rfl rfl rfl rfl rfl rfl (mwpI_mono (fun z31 h31 F => ?_) F)
            obtain ⟨G, F⟩ := F
            have J : ∀ (t39 : Int), t39 = b2i (¬ (z31 = 0) ∧ (¬ ((h31 131 x12.toNat) ≠ (h31 131 x11.toNat)))) → wI (d + 4) m_M_lacksOf 246 [(0, vR 109), (1, vI x1), (2, vI x2), (3, vI x3), (4, vI x4), (5, vI x5), (6, vI x6), (7, vI (b2i (¬ (z21 = 0)))), (8, vI x8), (9, vI x9), (10, vI x10), (11, vI x11), (12, vI x12)] [vI t39] h31 K := by
              intro t39 et39
              subst et39
              refine w_istore rfl rfl rfl rfl (w_ls (ls2 := [(0, vR 109), (1, vI x1), (2, vI x2), (3, vI x3), (4, vI x4), (5, vI x5), (6, vI x6), (7, vI (b2i (¬ (z21 = 0)))), (8, vI x8), (9, vI x9), (10, vI (b2i (¬ (z31 = 0) ∧ (¬ ((h31 131 x12.toNat) ≠ (h31 131 x11.toNat)))))), (11, vI x11), (12, vI x12)]) rfl ?_)
              refine w_iinc rfl rfl rfl rfl rfl (w_ls (ls2 := [(0, vR 109), (1, vI x1), (2, vI x2), (3, vI x3), (4, vI x4), (5, vI x5), (6, vI x6), (7, vI (b2i (¬ (z21 = 0)))), (8, vI x8), (9, vI x9), (10, vI (b2i (¬ (z31 = 0) ∧ (¬ ((h31 131 x12.toNat) ≠ (h31 131 x11.toNat)))))), (11, vI x11), (12, vI (x12 + 1))]) rfl ?_)
              refine w_goto (tgt := 163) rfl (by decide) ?_
              exact F
            obtain ⟨b32, gb_⟩ := G
            refine w_if_eq (tgt := 245) rfl (by decide) b32 (fun q33 => ?_) (fun q33 => ?_)
            · refine w_iconst rfl ?_
              exact J _ (b2i_f (fun z => z.1 q33)).symm
            · have G := gb_ q33
              obtain ⟨b34, b35, b36, b37⟩ := G
              refine w_aload_n rfl rfl ?_
              refine w_getR rfl f_M_81 rfl rfl rfl rfl rfl ?_
              refine w_iload rfl rfl ?_
              refine w_iaload rfl rfl rfl b34 ?_
              refine w_aload_n rfl rfl ?_
              refine w_getR rfl f_M_81 rfl rfl rfl rfl rfl ?_
              refine w_iload rfl rfl ?_
              refine w_iaload rfl rfl rfl b35 ?_
              refine w_icmp_ne (tgt := 245) rfl (by decide) ⟨b36, b37⟩ (fun q38 => ?_) (fun q38 => ?_)
              · refine w_iconst rfl ?_
                exact J _ (b2i_f (fun z => (fun z => z q38) z.2)).symm
              · refine w_iconst rfl ?_
                refine w_goto (tgt := 246) rfl (by decide) ?_
                exact J _ (b2i_t ⟨q33, q38⟩).symm
      have b22 := G
      refine w_if_eq (tgt := 194) rfl (by decide) b22 (fun q23 => ?_) (fun q23 => ?_)
      · refine w_iconst rfl ?_
        exact J _ (b2i_f (fun z => z q23)).symm
      · refine w_iconst rfl ?_
        refine w_goto (tgt := 195) rfl (by decide) ?_
        exact J _ (b2i_t q23).symm
theorem o1 {P X Q : Prop} (hq : Q ↔ P ∨ X) (z : b2i P ≠ 0) : b2i Q = 1 := b2i_t (hq.mpr (Or.inl (b2i_ne0.mp z)))
theorem o2 {P X Q : Prop} (hq : Q ↔ P ∨ X) (z : ¬ b2i P ≠ 0) : b2i Q = b2i X := b2i_congr (hq.trans ⟨fun y => y.elim (fun p => absurd (b2i_ne0.mpr p) z) id, Or.inr⟩)
section M45
variable {D : Nat} {h : St} {K : Int → St → Prop} {n : Nat} {lg : Nat → Nat → Int} {w d e nm : Int}
theorem M_lk_163 (ml : MLog h n lg) (vl : VLog n lg) (hw : h 109 15 = w) (w1 : 1 ≤ w ∧ w ≤ 23) (fr : ∀ c, c < n → inR (h 131 c)) (r1 : inR nm) (r2 : inR d) (r3 : inR e) {c : Nat} (hc : c < n) (rc : rlA lg nm d e c) {x4 x5 x6 x8 x9 : Int} {A S : Prop} (k : wI (D + 4) m_M_lacksOf 25 [(0, vR 109), (1, vI nm), (2, vI d), (3, vI e), (4, vI x4), (5, vI x5), (6, vI x6), (7, vI (b2i (A ∨ exA n (fun o => ansA lg w o c)))), (8, vI x8), (9, vI x9), (10, vI (b2i (S ∨ exA n (shA lg d e (h 131) c)))), (11, vI ((c : Int) + 1))] [] h K) : ∀ (r o : Nat), o + r = n → wI (D + 4) m_M_lacksOf 163 [(0, vR 109), (1, vI nm), (2, vI d), (3, vI e), (4, vI x4), (5, vI x5), (6, vI x6), (7, vI (b2i (A ∨ exA o (fun o => ansA lg w o c)))), (8, vI x8), (9, vI x9), (10, vI (b2i (S ∨ exA o (shA lg d e (h 131) c)))), (11, vI (c : Int)), (12, vI (o : Int))] [] h K := by
  have hn := ml.2.1
  have h8 := ml.1
  intro r
  induction r with
  | zero =>
    intro o ho
    have e9 : o = n := by omega
    subst e9
    exact s_M_lacksOf_163 _ _ _ _ _ _ _ _ _ _ _ _ h K ⟨⟨by omega, by omega⟩, ⟨by omega, by omega⟩, fun _ => k, fun z => absurd (by omega) z⟩
  | succ r ih =>
    intro o ho
    have ho2 : o < n := by omega
    have ih2 := ih (o + 1) (by omega)
    obtain ⟨b0, b1, b2, b3, b4, b5⟩ := ml.2.2 o ho2
    have q2 := vl o ho2
    have eA : (A ∨ exA (o + 1) (fun o => ansA lg w o c)) ↔ (A ∨ exA o (fun o => ansA lg w o c)) ∨ ansA lg w o c := by rw [exA_s, or_assoc]
    have eS : (S ∨ exA (o + 1) (shA lg d e (h 131) c)) ↔ (S ∨ exA o (shA lg d e (h 131) c)) ∨ shA lg d e (h 131) c o := by rw [exA_s, or_assoc]
    have f0 : ∀ {p : Prop}, ¬ p → b2i p = 0 := fun hp => b2i_f hp
    have s1 : lg 0 o = nm → b2i (shA lg d e (h 131) c o) = 0 := fun q => b2i_f (fun z => z.1 (by rw [q, rc.1]))
    have s2 : ¬ lg 0 o = nm → b2i (¬ b2i (onD lg o d e) = 0 ∧ ¬ (h 131 o ≠ h 131 c)) = b2i (shA lg d e (h 131) c o) := fun q => b2i_congr (by
      rw [b2i_eq0, Classical.not_not, Classical.not_not]
      exact ⟨fun z => ⟨by rw [rc.1]; exact q, z.1, z.2⟩, fun z => ⟨z.2.1, z.2.2⟩⟩)
    refine s_M_lacksOf_163 _ _ _ _ _ _ _ _ _ _ _ _ h K ?_
    rw [Int.toNat_natCast, Int.toNat_natCast, b0]
    refine ⟨⟨by omega, by omega⟩, ⟨by omega, by omega⟩, fun z => by omega, fun _ => ⟨b2i_R, fun z1 => ?_, fun z1 => c_M_answers ml vl hw w1 ho2 hc ?_⟩⟩
    · rw [o1 eA z1] at ih2
      refine ⟨b2i_R, fun z2 => ?_, fun z2 => ⟨by omega, ⟨by omega, by omega⟩, r1, fun z3 => ?_, fun z3 => c_M_isOn ml vl ho2 r2 r3 ⟨⟨b2i_R, fun _ => ⟨by omega, by omega, fr o ho2, fr c hc⟩⟩, ?_⟩⟩⟩
      · rw [o1 eS z2] at ih2; exact ih2
      · rw [o2 eS z2, s1 z3] at ih2; exact ih2
      · rw [o2 eS z2, ← s2 z3] at ih2; exact ih2
    · rw [o2 eA z1] at ih2
      rw [bb]
      refine ⟨b2i_R, b2i_R, fun z2 => ?_, fun z2 => ⟨by omega, ⟨by omega, by omega⟩, r1, fun z3 => ?_, fun z3 => c_M_isOn ml vl ho2 r2 r3 ⟨⟨b2i_R, fun _ => ⟨by omega, by omega, fr o ho2, fr c hc⟩⟩, ?_⟩⟩⟩
      · rw [o1 eS z2] at ih2; exact ih2
      · rw [o2 eS z2, s1 (by rw [← b0]; exact z3)] at ih2; exact ih2
      · rw [o2 eS z2, ← s2 (by rw [← b0]; exact z3)] at ih2; exact ih2
theorem c_M_lacksOf (ml : MLog h n lg) (vl : VLog n lg) (hw : h 109 15 = w) (w1 : 1 ≤ w ∧ w ≤ 23) (fr : ∀ c, c < n → inR (h 131 c)) (r1 : inR nm) (r2 : inR d) (r3 : inR e) (k : K (lackA lg w (h 131) n nm d e) h) : mwpI (D + 5) m_M_lacksOf [vR 109, vI nm, vI d, vI e] h K := by
  have hn := ml.2.1
  have h8 := ml.1
  have lp : ∀ (r c : Nat) (l : Int), c + r = n → (-4 ≤ l ∧ l < 60) → ((l < 0 ∧ cnA lg nm d e c = 0) ∨ (0 ≤ l ∧ l.toNat < c ∧ rlA lg nm d e l.toNat)) → wI (D + 4) m_M_lacksOf 25 [(0, vR 109), (1, vI nm), (2, vI d), (3, vI e), (4, vI (cnA lg nm d e c)), (5, vI l), (6, vI (b2i (aaA lg w nm d e n c))), (7, vI (b2i (abA lg w nm d e n c))), (8, vI (b2i (sameA lg nm d e (lg 3) c))), (9, vI (b2i (sameA lg nm d e (h 131) c))), (10, vI (b2i (seA lg nm d e (h 131) n c))), (11, vI (c : Int))] [] h K := by
    intro r
    induction r with
    | zero =>
      intro c l hc lR la
      have e9 : c = n := by omega
      subst e9
      have cr := cn_R (lg := lg) (nm := nm) (d := d) (e := e) hn
      have v1 : b2i (b2i (aaA lg w nm d e c c) = 0) = b2i (¬ aaA lg w nm d e c c) := b2i_congr b2i_eq0
      have v2 : cif (b2i (abA lg w nm d e c c) = 0) 2 0 = 2 * b2i (¬ abA lg w nm d e c c) := by
        by_cases q : abA lg w nm d e c c
        · rw [cif_f (fun z => b2i_eq0.mp z q), b2i_f (fun z => z q)]; rfl
        · rw [cif_t (b2i_f q), b2i_t q]; rfl
      have v4 : cif (cnA lg nm d e c ≤ 1) 0 (cif (b2i (sameA lg nm d e (lg 3) c) = 0) 0 4) = 4 * b2i (2 ≤ cnA lg nm d e c ∧ sameA lg nm d e (lg 3) c) := by
        by_cases q : cnA lg nm d e c ≤ 1
        · rw [cif_t q, b2i_f (fun z => by omega)]; rfl
        · rw [cif_f q]
          by_cases q2 : sameA lg nm d e (lg 3) c
          · rw [cif_f (fun z => b2i_eq0.mp z q2), b2i_t ⟨by omega, q2⟩]; rfl
          · rw [cif_t (b2i_f q2), b2i_f (fun z => q2 z.2)]; rfl
      have v8 : cif (b2i (sameA lg nm d e (h 131) c) = 0) 0 (cif (b2i (seA lg nm d e (h 131) c c) = 0) 0 8) = 8 * b2i (sameA lg nm d e (h 131) c ∧ seA lg nm d e (h 131) c c) := by
        by_cases q : sameA lg nm d e (h 131) c
        · rw [cif_f (fun z => b2i_eq0.mp z q)]
          by_cases q2 : seA lg nm d e (h 131) c c
          · rw [cif_f (fun z => b2i_eq0.mp z q2), b2i_t ⟨q, q2⟩]; rfl
          · rw [cif_t (b2i_f q2), b2i_f (fun z => q2 z.2)]; rfl
        · rw [cif_t (b2i_f q), b2i_f (fun z => q z.1)]; rfl
      unfold lackA at k
      refine s_M_lacksOf_25 _ _ _ _ _ _ _ _ _ _ _ h K ⟨⟨by omega, by omega⟩, ⟨by omega, by omega⟩, fun _ => ⟨⟨by omega, by omega⟩, fun z => ⟨b2i_R, b2i_R, fun _ => b2i_R, ⟨b2i_R, fun _ => b2i_R⟩, ?_⟩, fun z => ?_⟩, fun z => absurd (by omega) z⟩
      · rw [cif_t z] at k
        rw [v1, v2, v4, v8]
        exact k
      · rw [cif_f z] at k
        exact k
    | succ r ih =>
      intro c l hc lR la
      have hc2 : c < n := by omega
      obtain ⟨a0, a1, a2, a3, a4, a5⟩ := ml.2.2 c hc2
      have q1 := vl c hc2
      have no : ¬ rlA lg nm d e c → wI (D + 4) m_M_lacksOf 25 [(0, vR 109), (1, vI nm), (2, vI d), (3, vI e), (4, vI (cnA lg nm d e c)), (5, vI l), (6, vI (b2i (aaA lg w nm d e n c))), (7, vI (b2i (abA lg w nm d e n c))), (8, vI (b2i (sameA lg nm d e (lg 3) c))), (9, vI (b2i (sameA lg nm d e (h 131) c))), (10, vI (b2i (seA lg nm d e (h 131) n c))), (11, vI ((c : Int) + 1))] [] h K := fun rc => by
        have t1 : cnA lg nm d e (c + 1) = cnA lg nm d e c := by
          show cnA lg nm d e c + b2i (rlA lg nm d e c) = _
          rw [b2i_f rc, Int.add_zero]
        have ih2 := ih (c + 1) l (by omega) lR (la.elim (fun y => Or.inl ⟨y.1, by rw [t1]; exact y.2⟩) (fun y => Or.inr ⟨y.1, by have := y.2.1; omega, y.2.2⟩))
        rw [t1, show b2i (aaA lg w nm d e n (c + 1)) = b2i (aaA lg w nm d e n c) from exA_n (fun q => rc q.1), show b2i (abA lg w nm d e n (c + 1)) = b2i (abA lg w nm d e n c) from exA_n (fun q => rc q.1), show b2i (seA lg nm d e (h 131) n (c + 1)) = b2i (seA lg nm d e (h 131) n c) from exA_n (fun q => rc q.1), b2i_congr (same_no rc), b2i_congr (same_no (g := h 131) rc)] at ih2
        exact ih2
      refine s_M_lacksOf_25 _ _ _ _ _ _ _ _ _ _ _ h K ?_
      rw [Int.toNat_natCast, a0]
      refine ⟨⟨by omega, by omega⟩, ⟨by omega, by omega⟩, fun z => by omega, fun _ => ⟨by omega, ⟨by omega, by omega⟩, r1, fun z => no (fun q => z q.1), fun z => c_M_isOn ml vl hc2 r2 r3 ⟨b2i_R, fun z2 => ?_, fun z2 => no (fun q => z2 (b2i_ne0.mpr q.2))⟩⟩⟩
      have rc : rlA lg nm d e c := ⟨by omega, b2i_ne0.mp z2⟩
      rw [a3]
      have t1 : cnA lg nm d e (c + 1) = cnA lg nm d e c + 1 := by
        show cnA lg nm d e c + b2i (rlA lg nm d e c) = _
        rw [b2i_t rc]
      have ih2 := ih (c + 1) (c : Int) (by omega) (by omega) (Or.inr ⟨by omega, by omega, by rw [Int.toNat_natCast]; exact rc⟩)
      have sm8 : ∀ g : Nat → Int, b2i (¬ b2i (sameA lg nm d e g c) = 0 ∧ (l < 0 ∨ ¬ (g c ≠ g l.toNat))) = b2i (sameA lg nm d e g (c + 1)) := fun g => b2i_congr (by
        rw [b2i_eq0, Classical.not_not, Classical.not_not]
        rcases la with ⟨l1, l2⟩ | ⟨l1, l2, l3⟩
        · rw [same_yes (Or.inr ⟨rfl, cn_0.mp l2⟩) rc rc]
          exact ⟨fun q => ⟨q.1, rfl⟩, fun q => ⟨q.1, Or.inl l1⟩⟩
        · rw [same_yes (Or.inl l2) l3 rc]
          exact ⟨fun q => ⟨q.1, q.2.elim (fun y => by omega) id⟩, fun q => ⟨q.1, Or.inr q.2⟩⟩)
      have e3 : l < 0 ∨ h 114 l.toNat = lg 3 l.toNat := by
        rcases la with ⟨l1, _⟩ | ⟨l1, l2, l3⟩
        · exact Or.inl l1
        · exact Or.inr (ml.2.2 l.toNat (by omega)).2.2.2.1
      have s8 : b2i (¬ b2i (sameA lg nm d e (lg 3) c) = 0 ∧ (l < 0 ∨ ¬ (lg 3 c ≠ h 114 l.toNat))) = b2i (sameA lg nm d e (lg 3) (c + 1)) := by
        rw [← sm8]
        refine b2i_congr ?_
        rcases e3 with q | q
        · exact ⟨fun y => ⟨y.1, Or.inl q⟩, fun y => ⟨y.1, Or.inl q⟩⟩
        · rw [q]
      have eA : aaA lg w nm d e n (c + 1) ↔ aaA lg w nm d e n c ∨ exA n (ansA lg w c) := by
        unfold aaA
        rw [exA_s]
        exact ⟨fun y => y.imp id (fun y => y.2), fun y => y.imp id (fun y => ⟨rc, y⟩)⟩
      have tB : (abA lg w nm d e n c ∨ exA n (fun o => ansA lg w o c)) ↔ abA lg w nm d e n (c + 1) := by
        unfold abA
        rw [exA_s]
        exact ⟨fun y => y.imp id (fun y => ⟨rc, y⟩), fun y => y.imp id (fun y => y.2)⟩
      have tS : (seA lg nm d e (h 131) n c ∨ exA n (shA lg d e (h 131) c)) ↔ seA lg nm d e (h 131) n (c + 1) := by
        unfold seA
        rw [exA_s]
        exact ⟨fun y => y.imp id (fun y => ⟨rc, y⟩), fun y => y.imp id (fun y => y.2)⟩
      rw [← b2i_congr tB, ← b2i_congr tS, t1] at ih2
      have z7 : ∀ {A : Prop}, b2i (A ∨ exA 0 (fun o => ansA lg w o c)) = b2i A := fun {A} => b2i_congr ⟨fun y => y.elim id (fun y => absurd y exA_0), Or.inl⟩
      have z10 : ∀ {A : Prop}, b2i (A ∨ exA 0 (shA lg d e (h 131) c)) = b2i A := fun {A} => b2i_congr ⟨fun y => y.elim id (fun y => absurd y exA_0), Or.inl⟩
      have go := M_lk_163 (D := D) (K := K) ml vl hw w1 fr r1 r2 r3 hc2 rc ih2 n 0 (by omega)
      rw [z7, z10] at go
      rw [s8, sm8]
      refine ⟨⟨b2i_R, fun _ => ⟨⟨by omega, by omega⟩, fun y => ?_⟩⟩, ⟨b2i_R, fun _ => ⟨⟨by omega, by omega⟩, fun y => ?_⟩⟩, b2i_R, fun y => ?_, fun y => c_M_fateOf ml vl hw w1 hc2 ?_⟩
      · have l3 : l.toNat < n := by rcases la with ⟨l1, _⟩ | ⟨_, l2, _⟩ <;> omega
        rcases e3 with q | q
        · exact absurd q y
        · rw [q]
          have q3 := vl l.toNat l3
          exact ⟨by omega, ⟨by omega, by omega⟩, ⟨by omega, by omega⟩⟩
      · have l3 : l.toNat < n := by rcases la with ⟨l1, _⟩ | ⟨_, l2, _⟩ <;> omega
        exact ⟨by omega, by omega, fr c hc2, fr l.toNat l3⟩
      · rw [o1 eA y] at go
        exact go
      · unfold fateA
        rw [or_12.2.2.1]
        refine ⟨b2i_R, ?_⟩
        rw [o2 eA y] at go
        rw [b2i_congr (q := exA n (ansA lg w c)) (by
          rw [Classical.not_not]
          exact ⟨fun y2 => b2i_ne0.mp (by omega), fun y2 => b2i_t y2⟩)]
        exact go
  have q := lp n 0 (-4) (by omega) (by omega) (Or.inl ⟨by omega, rfl⟩)
  rw [b2i_f (p := aaA lg w nm d e n 0) exA_0, b2i_f (p := abA lg w nm d e n 0) exA_0, b2i_f (p := seA lg nm d e (h 131) n 0) exA_0, b2i_t (p := sameA lg nm d e (lg 3) 0) (fun a b ha => absurd ha (Nat.not_lt_zero a)), b2i_t (p := sameA lg nm d e (h 131) 0) (fun a b ha => absurd ha (Nat.not_lt_zero a))] at q
  exact mI_intro b_M_lacksOf rfl (s_M_lacksOf_0 (d := D) _ _ _ h K q)
end M45
