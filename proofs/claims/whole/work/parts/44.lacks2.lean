theorem s_Orders_lacksOf_0 {d : Nat}  (x3 x4 x5 : Int) (h : St) (K : Int → St → Prop) (F : (wI (d + 3) m_Orders_lacksOf 21 [(0, vR 77), (1, vR 1), (2, vR 57), (3, vI x3), (4, vI x4), (5, vI x5), (6, vI 0), (7, vI 0), (8, vI 0), (9, vI 0), (10, vI 1), (11, vI 1), (12, vI 0)] [] h K)) : wI (d + 3) m_Orders_lacksOf 0 [(0, vR 77), (1, vR 1), (2, vR 57), (3, vI x3), (4, vI x4), (5, vI x5)] [] h K := by
  refine w_iconst rfl ?_
  refine w_istore rfl rfl rfl rfl (w_ls (ls2 := [(0, vR 77), (1, vR 1), (2, vR 57), (3, vI x3), (4, vI x4), (5, vI x5), (6, vI 0)]) rfl ?_)
  refine w_iconst rfl ?_
  refine w_istore rfl rfl rfl rfl (w_ls (ls2 := [(0, vR 77), (1, vR 1), (2, vR 57), (3, vI x3), (4, vI x4), (5, vI x5), (6, vI 0), (7, vI 0)]) rfl ?_)
  refine w_iconst rfl ?_
  refine w_istore rfl rfl rfl rfl (w_ls (ls2 := [(0, vR 77), (1, vR 1), (2, vR 57), (3, vI x3), (4, vI x4), (5, vI x5), (6, vI 0), (7, vI 0), (8, vI 0)]) rfl ?_)
  refine w_iconst rfl ?_
  refine w_istore rfl rfl rfl rfl (w_ls (ls2 := [(0, vR 77), (1, vR 1), (2, vR 57), (3, vI x3), (4, vI x4), (5, vI x5), (6, vI 0), (7, vI 0), (8, vI 0), (9, vI 0)]) rfl ?_)
  refine w_iconst rfl ?_
  refine w_istore rfl rfl rfl rfl (w_ls (ls2 := [(0, vR 77), (1, vR 1), (2, vR 57), (3, vI x3), (4, vI x4), (5, vI x5), (6, vI 0), (7, vI 0), (8, vI 0), (9, vI 0), (10, vI 1)]) rfl ?_)
  refine w_iconst rfl ?_
  refine w_istore rfl rfl rfl rfl (w_ls (ls2 := [(0, vR 77), (1, vR 1), (2, vR 57), (3, vI x3), (4, vI x4), (5, vI x5), (6, vI 0), (7, vI 0), (8, vI 0), (9, vI 0), (10, vI 1), (11, vI 1)]) rfl ?_)
  refine w_iconst rfl ?_
  refine w_istore rfl rfl rfl rfl (w_ls (ls2 := [(0, vR 77), (1, vR 1), (2, vR 57), (3, vI x3), (4, vI x4), (5, vI x5), (6, vI 0), (7, vI 0), (8, vI 0), (9, vI 0), (10, vI 1), (11, vI 1), (12, vI 0)]) rfl ?_)
  exact F
theorem s_Orders_lacksOf_21 {d : Nat}  (x3 x4 x5 x6 x7 x8 x9 x10 x11 x12 : Int) (h : St) (K : Int → St → Prop) (F : (inR x12) ∧ (inR (h 1 6)) ∧ (((h 1 6) ≤ x12 → (inR x6) ∧ ((x6 ≠ 0 → (inR x11) ∧ ((x11 = 0 → (((inR x8))) ∧ (((inR x9))) ∧ (((¬ (x6 < 2) → ((inR x10))))) ∧ (K (or3 (or3 (or3 (b2i (x8 = 0)) (cif (x9 = 0) 2 0)) (cif (x6 < 2) 0 (cif (x10 = 0) 0 4))) (cif ((0 : Int) = 0) 0 8)) h)) ∧ (¬ (x11 = 0) → (mwpI (d + 3) m_Orders_isShared [vR 77, vR 1, vR 57, vI x7, vI x4, vI x5] h (fun z20 h20 => (((inR z20))) ∧ (((inR x8))) ∧ (((inR x9))) ∧ (((¬ (x6 < 2) → ((inR x10))))) ∧ (K (or3 (or3 (or3 (b2i (x8 = 0)) (cif (x9 = 0) 2 0)) (cif (x6 < 2) 0 (cif (x10 = 0) 0 4))) (cif (¬ (z20 = 0)) 8 0)) h20)))))) ∧ (¬ (x6 ≠ 0) → (K 0 h)))) ∧ (¬ ((h 1 6) ≤ x12) → (mwpI (d + 3) m_CallLog_isFromOn [vR 1, vI x12, vI x3, vI x4, vI x5] h (fun z36 h36 => (inR z36) ∧ ((z36 ≠ 0 → (((inR x6))) ∧ (mwpI (d + 3) m_Orders_fateOf [vR 77, vR 1, vI x12] h36 (fun z42 h42 => (((inR (and3 z42 1)))) ∧ (mwpI (d + 3) m_Orders_answersAny [vR 77, vR 1, vI x12] h42 (fun z46 h46 => (0 ≤ x12 ∧ x12 < 60) ∧ (0 ≤ cif (x6 ≠ 0) x7 x12 ∧ cif (x6 ≠ 0) x7 x12 < 60) ∧ (((inR (h46 5 x12.toNat)) ∧ (inR (h46 5 ((cif (x6 ≠ 0) x7 x12).toNat))))) ∧ (mwpI (d + 3) m_Hands_handOf [vR 57, vR 1, vI x12] h46 (fun z53 h53 => (mwpI (d + 3) m_Hands_handOf [vR 57, vR 1, vI (cif (x6 ≠ 0) x7 x12)] h53 (fun z54 h54 => (((inR z53) ∧ (inR z54))) ∧ (wI (d + 3) m_Orders_lacksOf 21 [(0, vR 77), (1, vR 1), (2, vR 57), (3, vI x3), (4, vI x4), (5, vI x5), (6, vI (x6 + 1)), (7, vI (cif (x6 ≠ 0) x7 x12)), (8, vI (or3 x8 (b2i (¬ ((and3 z42 1) = 0))))), (9, vI (or3 x9 z46)), (10, vI (and3 x10 (b2i (¬ ((h46 5 x12.toNat) ≠ (h46 5 ((cif (x6 ≠ 0) x7 x12).toNat))))))), (11, vI (and3 x11 (b2i (¬ (z53 ≠ z54))))), (12, vI (x12 + 1))] [] h54 K)))))))))) ∧ (¬ (z36 ≠ 0) → (wI (d + 3) m_Orders_lacksOf 21 [(0, vR 77), (1, vR 1), (2, vR 57), (3, vI x3), (4, vI x4), (5, vI x5), (6, vI x6), (7, vI x7), (8, vI x8), (9, vI x9), (10, vI x10), (11, vI x11), (12, vI (x12 + 1))] [] h36 K)))))))) : wI (d + 3) m_Orders_lacksOf 21 [(0, vR 77), (1, vR 1), (2, vR 57), (3, vI x3), (4, vI x4), (5, vI x5), (6, vI x6), (7, vI x7), (8, vI x8), (9, vI x9), (10, vI x10), (11, vI x11), (12, vI x12)] [] h K := by
  refine w_iload rfl rfl ?_
  refine w_aload_n rfl rfl ?_
  refine w_getI rfl f_Orders_19 rfl rfl rfl ?_
  obtain ⟨b1, F⟩ := F
  obtain ⟨b2, F⟩ := F
  refine w_icmp_ge (tgt := 158) rfl (by decide) ⟨b1, b2⟩ (fun q3 => ?_) (fun q3 => ?_)
  · replace F := F.1 q3
    refine w_iload rfl rfl ?_
    obtain ⟨b4, F⟩ := F
    refine w_if_ne (tgt := 165) rfl (by decide) b4 (fun q5 => ?_) (fun q5 => ?_)
    · replace F := F.1 q5
      refine w_iload rfl rfl ?_
      obtain ⟨b6, F⟩ := F
      refine w_if_eq (tgt := 189) rfl (by decide) b6 (fun q7 => ?_) (fun q7 => ?_)
      · replace F := F.1 q7
        refine w_iconst rfl ?_
        refine w_istore rfl rfl rfl rfl (w_ls (ls2 := [(0, vR 77), (1, vR 1), (2, vR 57), (3, vI x3), (4, vI x4), (5, vI x5), (6, vI x6), (7, vI x7), (8, vI x8), (9, vI x9), (10, vI x10), (11, vI x11), (12, vI 0)]) rfl ?_)
        refine w_iload rfl rfl ?_
        obtain ⟨G, F⟩ := F
        have J : ∀ (t10 : Int), t10 = b2i (x8 = 0) → wI (d + 3) m_Orders_lacksOf 202 [(0, vR 77), (1, vR 1), (2, vR 57), (3, vI x3), (4, vI x4), (5, vI x5), (6, vI x6), (7, vI x7), (8, vI x8), (9, vI x9), (10, vI x10), (11, vI x11), (12, vI 0)] [vI t10] h K := by
          intro t10 et10
          subst et10
          refine w_iload rfl rfl ?_
          obtain ⟨G, F⟩ := F
          have J : ∀ (t13 : Int), t13 = cif (x9 = 0) 2 0 → wI (d + 3) m_Orders_lacksOf 212 [(0, vR 77), (1, vR 1), (2, vR 57), (3, vI x3), (4, vI x4), (5, vI x5), (6, vI x6), (7, vI x7), (8, vI x8), (9, vI x9), (10, vI x10), (11, vI x11), (12, vI 0)] [vI t13, vI (b2i (x8 = 0))] h K := by
            intro t13 et13
            subst et13
            refine w_ior rfl ?_
            refine w_iload rfl rfl ?_
            refine w_iconst rfl ?_
            obtain ⟨G, F⟩ := F
            have J : ∀ (t17 : Int), t17 = cif (x6 < 2) 0 (cif (x10 = 0) 0 4) → wI (d + 3) m_Orders_lacksOf 229 [(0, vR 77), (1, vR 1), (2, vR 57), (3, vI x3), (4, vI x4), (5, vI x5), (6, vI x6), (7, vI x7), (8, vI x8), (9, vI x9), (10, vI x10), (11, vI x11), (12, vI 0)] [vI t17, vI (or3 (b2i (x8 = 0)) (cif (x9 = 0) 2 0))] h K := by
              intro t17 et17
              subst et17
              refine w_ior rfl ?_
              refine w_iload rfl rfl ?_
              have J : ∀ (t19 : Int), t19 = cif ((0 : Int) = 0) 0 8 → wI (d + 3) m_Orders_lacksOf 241 [(0, vR 77), (1, vR 1), (2, vR 57), (3, vI x3), (4, vI x4), (5, vI x5), (6, vI x6), (7, vI x7), (8, vI x8), (9, vI x9), (10, vI x10), (11, vI x11), (12, vI 0)] [vI t19, vI (or3 (or3 (b2i (x8 = 0)) (cif (x9 = 0) 2 0)) (cif (x6 < 2) 0 (cif (x10 = 0) 0 4)))] h K := by
                intro t19 et19
                subst et19
                refine w_ior rfl ?_
                exact w_iret rfl rfl ⟨rfl, rfl, _, rfl, F⟩
              refine w_if_eq (tgt := 240) rfl (by decide) (r_lit rfl) (fun q18 => ?_) (fun q18 => ?_)
              · refine w_iconst rfl ?_
                exact J _ (cif_t q18).symm
              · refine w_bipush (by decide) (by decide) rfl ?_
                refine w_goto (tgt := 241) rfl (by decide) ?_
                exact J _ (cif_f q18).symm
            have gb_ := G
            refine w_icmp_lt (tgt := 228) rfl (by decide) ⟨b4, (r_lit rfl)⟩ (fun q14 => ?_) (fun q14 => ?_)
            · refine w_iconst rfl ?_
              exact J _ (cif_t q14).symm
            · have G := gb_ q14
              have b15 := G
              refine w_iload rfl rfl ?_
              refine w_if_eq (tgt := 228) rfl (by decide) b15 (fun q16 => ?_) (fun q16 => ?_)
              · refine w_iconst rfl ?_
                exact J _ ((cif_f q14).trans (cif_t q16)).symm
              · refine w_iconst rfl ?_
                refine w_goto (tgt := 229) rfl (by decide) ?_
                exact J _ ((cif_f q14).trans (cif_f q16)).symm
          have b11 := G
          refine w_if_eq (tgt := 211) rfl (by decide) b11 (fun q12 => ?_) (fun q12 => ?_)
          · refine w_iconst rfl ?_
            exact J _ (cif_t q12).symm
          · refine w_iconst rfl ?_
            refine w_goto (tgt := 212) rfl (by decide) ?_
            exact J _ (cif_f q12).symm
        have b8 := G
        refine w_if_eq (tgt := 201) rfl (by decide) b8 (fun q9 => ?_) (fun q9 => ?_)
        · refine w_iconst rfl ?_
          exact J _ (b2i_t q9).symm
        · refine w_iconst rfl ?_
          refine w_goto (tgt := 202) rfl (by decide) ?_
          exact J _ (b2i_f q9).symm
      · replace F := F.2 q7
        refine w_aload_n rfl rfl ?_
        refine w_aload_n rfl rfl ?_
        refine w_aload_n rfl rfl ?_
        refine w_iload rfl rfl ?_
        refine w_iload rfl rfl ?_
        refine w_iload rfl rfl ?_
        refine c_VI [vR 1, vR 57, vI x7, vI x4, vI x5] [] rfl b_Orders_isShared k_Orders_73 rfl rfl rfl rfl rfl rfl (mwpI_mono (fun z20 h20 F => ?_) F)
        obtain ⟨G, F⟩ := F
        have J : ∀ (t23 : Int), t23 = b2i (¬ (z20 = 0)) → wI (d + 3) m_Orders_lacksOf 190 [(0, vR 77), (1, vR 1), (2, vR 57), (3, vI x3), (4, vI x4), (5, vI x5), (6, vI x6), (7, vI x7), (8, vI x8), (9, vI x9), (10, vI x10), (11, vI x11), (12, vI x12)] [vI t23] h20 K := by
          intro t23 et23
          subst et23
          refine w_istore rfl rfl rfl rfl (w_ls (ls2 := [(0, vR 77), (1, vR 1), (2, vR 57), (3, vI x3), (4, vI x4), (5, vI x5), (6, vI x6), (7, vI x7), (8, vI x8), (9, vI x9), (10, vI x10), (11, vI x11), (12, vI (b2i (¬ (z20 = 0))))]) rfl ?_)
          refine w_iload rfl rfl ?_
          obtain ⟨G, F⟩ := F
          have J : ∀ (t26 : Int), t26 = b2i (x8 = 0) → wI (d + 3) m_Orders_lacksOf 202 [(0, vR 77), (1, vR 1), (2, vR 57), (3, vI x3), (4, vI x4), (5, vI x5), (6, vI x6), (7, vI x7), (8, vI x8), (9, vI x9), (10, vI x10), (11, vI x11), (12, vI (b2i (¬ (z20 = 0))))] [vI t26] h20 K := by
            intro t26 et26
            subst et26
            refine w_iload rfl rfl ?_
            obtain ⟨G, F⟩ := F
            have J : ∀ (t29 : Int), t29 = cif (x9 = 0) 2 0 → wI (d + 3) m_Orders_lacksOf 212 [(0, vR 77), (1, vR 1), (2, vR 57), (3, vI x3), (4, vI x4), (5, vI x5), (6, vI x6), (7, vI x7), (8, vI x8), (9, vI x9), (10, vI x10), (11, vI x11), (12, vI (b2i (¬ (z20 = 0))))] [vI t29, vI (b2i (x8 = 0))] h20 K := by
              intro t29 et29
              subst et29
              refine w_ior rfl ?_
              refine w_iload rfl rfl ?_
              refine w_iconst rfl ?_
              obtain ⟨G, F⟩ := F
              have J : ∀ (t33 : Int), t33 = cif (x6 < 2) 0 (cif (x10 = 0) 0 4) → wI (d + 3) m_Orders_lacksOf 229 [(0, vR 77), (1, vR 1), (2, vR 57), (3, vI x3), (4, vI x4), (5, vI x5), (6, vI x6), (7, vI x7), (8, vI x8), (9, vI x9), (10, vI x10), (11, vI x11), (12, vI (b2i (¬ (z20 = 0))))] [vI t33, vI (or3 (b2i (x8 = 0)) (cif (x9 = 0) 2 0))] h20 K := by
                intro t33 et33
                subst et33
                refine w_ior rfl ?_
                refine w_iload rfl rfl ?_
                have J : ∀ (t35 : Int), t35 = cif (¬ (z20 = 0)) 8 0 → wI (d + 3) m_Orders_lacksOf 241 [(0, vR 77), (1, vR 1), (2, vR 57), (3, vI x3), (4, vI x4), (5, vI x5), (6, vI x6), (7, vI x7), (8, vI x8), (9, vI x9), (10, vI x10), (11, vI x11), (12, vI (b2i (¬ (z20 = 0))))] [vI t35, vI (or3 (or3 (b2i (x8 = 0)) (cif (x9 = 0) 2 0)) (cif (x6 < 2) 0 (cif (x10 = 0) 0 4)))] h20 K := by
                  intro t35 et35
                  subst et35
                  refine w_ior rfl ?_
                  exact w_iret rfl rfl ⟨rfl, rfl, _, rfl, F⟩
                refine w_ifeq_b (tgt := 240) rfl (by decide) (fun q34 => ?_) (fun q34 => ?_)
                · refine w_iconst rfl ?_
                  exact J _ (cif_f q34).symm
                · refine w_bipush (by decide) (by decide) rfl ?_
                  refine w_goto (tgt := 241) rfl (by decide) ?_
                  exact J _ (cif_t q34).symm
              have gb_ := G
              refine w_icmp_lt (tgt := 228) rfl (by decide) ⟨b4, (r_lit rfl)⟩ (fun q30 => ?_) (fun q30 => ?_)
              · refine w_iconst rfl ?_
                exact J _ (cif_t q30).symm
              · have G := gb_ q30
                have b31 := G
                refine w_iload rfl rfl ?_
                refine w_if_eq (tgt := 228) rfl (by decide) b31 (fun q32 => ?_) (fun q32 => ?_)
                · refine w_iconst rfl ?_
                  exact J _ ((cif_f q30).trans (cif_t q32)).symm
                · refine w_iconst rfl ?_
                  refine w_goto (tgt := 229) rfl (by decide) ?_
                  exact J _ ((cif_f q30).trans (cif_f q32)).symm
            have b27 := G
            refine w_if_eq (tgt := 211) rfl (by decide) b27 (fun q28 => ?_) (fun q28 => ?_)
            · refine w_iconst rfl ?_
              exact J _ (cif_t q28).symm
            · refine w_iconst rfl ?_
              refine w_goto (tgt := 212) rfl (by decide) ?_
              exact J _ (cif_f q28).symm
          have b24 := G
          refine w_if_eq (tgt := 201) rfl (by decide) b24 (fun q25 => ?_) (fun q25 => ?_)
          · refine w_iconst rfl ?_
            exact J _ (b2i_t q25).symm
          · refine w_iconst rfl ?_
            refine w_goto (tgt := 202) rfl (by decide) ?_
            exact J _ (b2i_f q25).symm
        have b21 := G
        refine w_if_eq (tgt := 189) rfl (by decide) b21 (fun q22 => ?_) (fun q22 => ?_)
        · refine w_iconst rfl ?_
          exact J _ (b2i_f (fun z => z q22)).symm
        · refine w_iconst rfl ?_
          refine w_goto (tgt := 190) rfl (by decide) ?_
          exact J _ (b2i_t q22).symm
    · replace F := F.2 q5
      refine w_iconst rfl ?_
      exact w_iret rfl rfl ⟨rfl, rfl, _, rfl, F⟩
  · replace F := F.2 q3
    refine w_aload_n rfl rfl ?_
    refine w_iload rfl rfl ?_
    refine w_iload_n rfl rfl ?_
    refine w_iload rfl rfl ?_
    refine w_iload rfl rfl ?_
    refine c_VI [vI x12, vI x3, vI x4, vI x5] [] rfl b_CallLog_isFromOn k_Orders_60 rfl rfl rfl rfl rfl rfl (mwpI_mono (fun z36 h36 F => ?_) F)
    obtain ⟨b37, F⟩ := F
    refine w_if_ne (tgt := 47) rfl (by decide) b37 (fun q38 => ?_) (fun q38 => ?_)
    · replace F := F.1 q38
      refine w_iload rfl rfl ?_
      obtain ⟨G, F⟩ := F
      have J : ∀ (t41 : Int), t41 = cif (x6 ≠ 0) x7 x12 → wI (d + 3) m_Orders_lacksOf 59 [(0, vR 77), (1, vR 1), (2, vR 57), (3, vI x3), (4, vI x4), (5, vI x5), (6, vI x6), (7, vI x7), (8, vI x8), (9, vI x9), (10, vI x10), (11, vI x11), (12, vI x12)] [vI t41] h36 K := by
        intro t41 et41
        subst et41
        refine w_istore rfl rfl rfl rfl (w_ls (ls2 := [(0, vR 77), (1, vR 1), (2, vR 57), (3, vI x3), (4, vI x4), (5, vI x5), (6, vI x6), (7, vI (cif (x6 ≠ 0) x7 x12)), (8, vI x8), (9, vI x9), (10, vI x10), (11, vI x11), (12, vI x12)]) rfl ?_)
        refine w_iinc rfl rfl rfl rfl rfl (w_ls (ls2 := [(0, vR 77), (1, vR 1), (2, vR 57), (3, vI x3), (4, vI x4), (5, vI x5), (6, vI (x6 + 1)), (7, vI (cif (x6 ≠ 0) x7 x12)), (8, vI x8), (9, vI x9), (10, vI x10), (11, vI x11), (12, vI x12)]) rfl ?_)
        refine w_iload rfl rfl ?_
        refine w_aload_n rfl rfl ?_
        refine w_aload_n rfl rfl ?_
        refine w_iload rfl rfl ?_
        refine c_VI [vR 1, vI x12] [vI x8] rfl b_Orders_fateOf k_Orders_56 rfl rfl rfl rfl rfl rfl (mwpI_mono (fun z42 h42 F => ?_) F)
        refine w_iconst rfl ?_
        refine w_iand rfl ?_
        obtain ⟨G, F⟩ := F
        have J : ∀ (t45 : Int), t45 = b2i (¬ ((and3 z42 1) = 0)) → wI (d + 3) m_Orders_lacksOf 83 [(0, vR 77), (1, vR 1), (2, vR 57), (3, vI x3), (4, vI x4), (5, vI x5), (6, vI (x6 + 1)), (7, vI (cif (x6 ≠ 0) x7 x12)), (8, vI x8), (9, vI x9), (10, vI x10), (11, vI x11), (12, vI x12)] [vI t45, vI x8] h42 K := by
          intro t45 et45
          subst et45
          refine w_ior rfl ?_
          refine w_istore rfl rfl rfl rfl (w_ls (ls2 := [(0, vR 77), (1, vR 1), (2, vR 57), (3, vI x3), (4, vI x4), (5, vI x5), (6, vI (x6 + 1)), (7, vI (cif (x6 ≠ 0) x7 x12)), (8, vI (or3 x8 (b2i (¬ ((and3 z42 1) = 0))))), (9, vI x9), (10, vI x10), (11, vI x11), (12, vI x12)]) rfl ?_)
          refine w_iload rfl rfl ?_
          refine w_aload_n rfl rfl ?_
          refine w_aload_n rfl rfl ?_
          refine w_iload rfl rfl ?_
          refine c_VI [vR 1, vI x12] [vI x9] rfl b_Orders_answersAny k_Orders_64 rfl rfl rfl rfl rfl rfl (mwpI_mono (fun z46 h46 F => ?_) F)
          refine w_ior rfl ?_
          refine w_istore rfl rfl rfl rfl (w_ls (ls2 := [(0, vR 77), (1, vR 1), (2, vR 57), (3, vI x3), (4, vI x4), (5, vI x5), (6, vI (x6 + 1)), (7, vI (cif (x6 ≠ 0) x7 x12)), (8, vI (or3 x8 (b2i (¬ ((and3 z42 1) = 0))))), (9, vI (or3 x9 z46)), (10, vI x10), (11, vI x11), (12, vI x12)]) rfl ?_)
          refine w_iload rfl rfl ?_
          refine w_aload_n rfl rfl ?_
          refine w_getR rfl f_Orders_40 rfl rfl rfl rfl rfl ?_
          refine w_iload rfl rfl ?_
          obtain ⟨b47, F⟩ := F
          refine w_iaload rfl rfl rfl b47 ?_
          refine w_aload_n rfl rfl ?_
          refine w_getR rfl f_Orders_40 rfl rfl rfl rfl rfl ?_
          refine w_iload rfl rfl ?_
          obtain ⟨b48, F⟩ := F
          refine w_iaload rfl rfl rfl b48 ?_
          obtain ⟨G, F⟩ := F
          have J : ∀ (t52 : Int), t52 = b2i (¬ ((h46 5 x12.toNat) ≠ (h46 5 ((cif (x6 ≠ 0) x7 x12).toNat)))) → wI (d + 3) m_Orders_lacksOf 122 [(0, vR 77), (1, vR 1), (2, vR 57), (3, vI x3), (4, vI x4), (5, vI x5), (6, vI (x6 + 1)), (7, vI (cif (x6 ≠ 0) x7 x12)), (8, vI (or3 x8 (b2i (¬ ((and3 z42 1) = 0))))), (9, vI (or3 x9 z46)), (10, vI x10), (11, vI x11), (12, vI x12)] [vI t52, vI x10] h46 K := by
            intro t52 et52
            subst et52
            refine w_iand rfl ?_
            refine w_istore rfl rfl rfl rfl (w_ls (ls2 := [(0, vR 77), (1, vR 1), (2, vR 57), (3, vI x3), (4, vI x4), (5, vI x5), (6, vI (x6 + 1)), (7, vI (cif (x6 ≠ 0) x7 x12)), (8, vI (or3 x8 (b2i (¬ ((and3 z42 1) = 0))))), (9, vI (or3 x9 z46)), (10, vI (and3 x10 (b2i (¬ ((h46 5 x12.toNat) ≠ (h46 5 ((cif (x6 ≠ 0) x7 x12).toNat))))))), (11, vI x11), (12, vI x12)]) rfl ?_)
            refine w_iload rfl rfl ?_
            refine w_aload_n rfl rfl ?_
            refine w_aload_n rfl rfl ?_
            refine w_iload rfl rfl ?_
            refine c_VI [vR 1, vI x12] [vI x11] rfl b_Hands_handOf k_Orders_68 rfl rfl rfl rfl rfl rfl (mwpI_mono (fun z53 h53 F => ?_) F)
            refine w_aload_n rfl rfl ?_
            refine w_aload_n rfl rfl ?_
            refine w_iload rfl rfl ?_
            refine c_VI [vR 1, vI (cif (x6 ≠ 0) x7 x12)] [vI z53, vI x11] rfl b_Hands_handOf k_Orders_68 rfl rfl rfl rfl rfl rfl (mwpI_mono (fun z54 h54 F => ?_) F)
            obtain ⟨G, F⟩ := F
            have J : ∀ (t58 : Int), t58 = b2i (¬ (z53 ≠ z54)) → wI (d + 3) m_Orders_lacksOf 149 [(0, vR 77), (1, vR 1), (2, vR 57), (3, vI x3), (4, vI x4), (5, vI x5), (6, vI (x6 + 1)), (7, vI (cif (x6 ≠ 0) x7 x12)), (8, vI (or3 x8 (b2i (¬ ((and3 z42 1) = 0))))), (9, vI (or3 x9 z46)), (10, vI (and3 x10 (b2i (¬ ((h46 5 x12.toNat) ≠ (h46 5 ((cif (x6 ≠ 0) x7 x12).toNat))))))), (11, vI x11), (12, vI x12)] [vI t58, vI x11] h54 K := by
              intro t58 et58
              subst et58
              refine w_iand rfl ?_
              refine w_istore rfl rfl rfl rfl (w_ls (ls2 := [(0, vR 77), (1, vR 1), (2, vR 57), (3, vI x3), (4, vI x4), (5, vI x5), (6, vI (x6 + 1)), (7, vI (cif (x6 ≠ 0) x7 x12)), (8, vI (or3 x8 (b2i (¬ ((and3 z42 1) = 0))))), (9, vI (or3 x9 z46)), (10, vI (and3 x10 (b2i (¬ ((h46 5 x12.toNat) ≠ (h46 5 ((cif (x6 ≠ 0) x7 x12).toNat))))))), (11, vI (and3 x11 (b2i (¬ (z53 ≠ z54))))), (12, vI x12)]) rfl ?_)
              refine w_iinc rfl rfl rfl rfl rfl (w_ls (ls2 := [(0, vR 77), (1, vR 1), (2, vR 57), (3, vI x3), (4, vI x4), (5, vI x5), (6, vI (x6 + 1)), (7, vI (cif (x6 ≠ 0) x7 x12)), (8, vI (or3 x8 (b2i (¬ ((and3 z42 1) = 0))))), (9, vI (or3 x9 z46)), (10, vI (and3 x10 (b2i (¬ ((h46 5 x12.toNat) ≠ (h46 5 ((cif (x6 ≠ 0) x7 x12).toNat))))))), (11, vI (and3 x11 (b2i (¬ (z53 ≠ z54))))), (12, vI (x12 + 1))]) rfl ?_)
              refine w_goto (tgt := 21) rfl (by decide) ?_
              exact F
            obtain ⟨b55, b56⟩ := G
            refine w_icmp_ne (tgt := 148) rfl (by decide) ⟨b55, b56⟩ (fun q57 => ?_) (fun q57 => ?_)
            · refine w_iconst rfl ?_
              exact J _ (b2i_f (fun z => z q57)).symm
            · refine w_iconst rfl ?_
              refine w_goto (tgt := 149) rfl (by decide) ?_
              exact J _ (b2i_t q57).symm
          obtain ⟨b49, b50⟩ := G
          refine w_icmp_ne (tgt := 121) rfl (by decide) ⟨b49, b50⟩ (fun q51 => ?_) (fun q51 => ?_)
          · refine w_iconst rfl ?_
            exact J _ (b2i_f (fun z => z q51)).symm
          · refine w_iconst rfl ?_
            refine w_goto (tgt := 122) rfl (by decide) ?_
            exact J _ (b2i_t q51).symm
        have b43 := G
        refine w_if_eq (tgt := 82) rfl (by decide) b43 (fun q44 => ?_) (fun q44 => ?_)
        · refine w_iconst rfl ?_
          exact J _ (b2i_f (fun z => z q44)).symm
        · refine w_iconst rfl ?_
          refine w_goto (tgt := 83) rfl (by decide) ?_
          exact J _ (b2i_t q44).symm
      have b39 := G
      refine w_if_ne (tgt := 57) rfl (by decide) b39 (fun q40 => ?_) (fun q40 => ?_)
      · refine w_iload rfl rfl ?_
        exact J _ (cif_t q40).symm
      · refine w_iload rfl rfl ?_
        refine w_goto (tgt := 59) rfl (by decide) ?_
        exact J _ (cif_f q40).symm
    · replace F := F.2 q38
      refine w_goto (tgt := 152) rfl (by decide) ?_
      refine w_iinc rfl rfl rfl rfl rfl (w_ls (ls2 := [(0, vR 77), (1, vR 1), (2, vR 57), (3, vI x3), (4, vI x4), (5, vI x5), (6, vI x6), (7, vI x7), (8, vI x8), (9, vI x9), (10, vI x10), (11, vI x11), (12, vI (x12 + 1))]) rfl ?_)
      refine w_goto (tgt := 21) rfl (by decide) ?_
      exact F
theorem or4 {p q r s : Prop} : or3 (or3 (or3 (b2i p) (2 * b2i q)) (4 * b2i r)) (8 * b2i s) = b2i p + 2 * b2i q + 4 * b2i r + 8 * b2i s := by
  rcases b2i_01 (p := p) with e1 | e1 <;> rcases b2i_01 (p := q) with e2 | e2 <;> rcases b2i_01 (p := r) with e3 | e3 <;> rcases b2i_01 (p := s) with e4 | e4 <;> rw [e1, e2, e3, e4] <;> decide
theorem or2 {p q : Prop} : or3 (b2i p) (b2i q) = b2i (p ∨ q) ∧ and3 (b2i p) (b2i q) = b2i (p ∧ q) := by
  by_cases hp : p <;> by_cases hq : q
  · rw [b2i_t hp, b2i_t hq, b2i_t (Or.inl hp), b2i_t ⟨hp, hq⟩]; decide
  · rw [b2i_t hp, b2i_f hq, b2i_t (Or.inl hp), b2i_f (fun z => hq z.2)]; decide
  · rw [b2i_f hp, b2i_t hq, b2i_t (Or.inr hq), b2i_f (fun z => hp z.1)]; decide
  · rw [b2i_f hp, b2i_f hq, b2i_f (fun z => z.elim hp hq), b2i_f (fun z => hp z.1)]; decide
noncomputable def cnA (lg : Nat → Nat → Int) (nm d e : Int) (c : Nat) : Int := sm (fun i => b2i (rlA lg nm d e i)) c
def aaA (lg : Nat → Nat → Int) (w nm d e : Int) (n c : Nat) : Prop := exA c (fun i => rlA lg nm d e i ∧ exA n (ansA lg w i))
def abA (lg : Nat → Nat → Int) (w nm d e : Int) (n c : Nat) : Prop := exA c (fun i => rlA lg nm d e i ∧ exA n (fun o => ansA lg w o i))
def sameA (lg : Nat → Nat → Int) (nm d e : Int) (g : Nat → Int) (c : Nat) : Prop := ∀ a b, a < c → b < c → rlA lg nm d e a → rlA lg nm d e b → g a = g b
def seA (lg : Nat → Nat → Int) (nm d e : Int) (f : Nat → Int) (n c : Nat) : Prop := exA c (fun i => rlA lg nm d e i ∧ exA n (shA lg d e f i))
noncomputable def lackA (lg : Nat → Nat → Int) (w : Int) (f : Nat → Int) (n : Nat) (nm d e : Int) : Int := cif (cnA lg nm d e n ≠ 0) (b2i (¬ aaA lg w nm d e n n) + 2 * b2i (¬ abA lg w nm d e n n) + 4 * b2i (2 ≤ cnA lg nm d e n ∧ sameA lg nm d e (lg 3) n) + 8 * b2i (sameA lg nm d e f n ∧ seA lg nm d e f n n)) 0
theorem lackA_R {lg : Nat → Nat → Int} {w : Int} {f : Nat → Int} {n : Nat} {nm d e : Int} : 0 ≤ lackA lg w f n nm d e ∧ lackA lg w f n nm d e ≤ 15 := by
  have := b2i_B (p := ¬ aaA lg w nm d e n n)
  have := b2i_B (p := ¬ abA lg w nm d e n n)
  have := b2i_B (p := 2 ≤ cnA lg nm d e n ∧ sameA lg nm d e (lg 3) n)
  have := b2i_B (p := sameA lg nm d e f n ∧ seA lg nm d e f n n)
  unfold lackA
  by_cases q : cnA lg nm d e n ≠ 0
  · rw [cif_t q]; omega
  · rw [cif_f q]; omega
section L44
variable {lg : Nat → Nat → Int} {w nm d e : Int} {n c : Nat} {g f : Nat → Int}
theorem cn_R (hn : c ≤ 60) : 0 ≤ cnA lg nm d e c ∧ cnA lg nm d e c ≤ 60 := by
  have := sm_bnd (f := fun i => b2i (rlA lg nm d e i)) (u := 1) (by omega) c (fun i _ => b2i_B)
  unfold cnA
  omega
theorem same_no (q : ¬ rlA lg nm d e c) : sameA lg nm d e g (c + 1) ↔ sameA lg nm d e g c := by
  constructor
  · intro z a b ha hb; exact z a b (by omega) (by omega)
  · intro z a b ha hb ra rb
    have h1 : a ≠ c := fun e => q (e ▸ ra)
    have h2 : b ≠ c := fun e => q (e ▸ rb)
    exact z a b (by omega) (by omega) ra rb
theorem same_yes {F : Nat} (hF : F < c ∨ (F = c ∧ ∀ i, i < c → ¬ rlA lg nm d e i)) (rF : rlA lg nm d e F) (rc : rlA lg nm d e c) : sameA lg nm d e g (c + 1) ↔ sameA lg nm d e g c ∧ g c = g F := by
  constructor
  · intro z
    exact ⟨fun a b ha hb => z a b (by omega) (by omega), z c F (by omega) (by omega) rc rF⟩
  · rintro ⟨z1, z2⟩ a b ha hb ra rb
    have key : ∀ x, x < c + 1 → rlA lg nm d e x → g x = g F := fun x hx rx => by
      by_cases q : x = c
      · subst q; exact z2
      · rcases hF with h1 | ⟨h1, h2⟩
        · exact z1 x F (by omega) h1 rx rF
        · exact absurd rx (h2 x (by omega))
    rw [key a ha ra, key b hb rb]
theorem cn_0 : (cnA lg nm d e c = 0 ↔ ∀ i, i < c → ¬ rlA lg nm d e i) := by
  induction c with
  | zero => exact ⟨fun _ i hi => absurd hi (Nat.not_lt_zero i), fun _ => rfl⟩
  | succ c ih =>
    have e1 : cnA lg nm d e (c + 1) = cnA lg nm d e c + b2i (rlA lg nm d e c) := rfl
    have r1 : 0 ≤ cnA lg nm d e c := (sm_bnd (f := fun i => b2i (rlA lg nm d e i)) (u := 1) (by omega) c (fun i _ => b2i_B)).1
    have r2 := b2i_B (p := rlA lg nm d e c)
    constructor
    · intro z i hi
      by_cases q : i = c
      · subst q; exact b2i_eq0.mp (by omega)
      · exact ih.mp (by omega) i (by omega)
    · intro z
      rw [e1, ih.mpr (fun i hi => z i (by omega)), b2i_f (z c (by omega))]
      rfl
end L44
theorem exA_b {f : Nat → Prop} {c : Nat} {q : Prop} (h : f c ↔ q) : b2i (exA c f ∨ q) = b2i (exA (c + 1) f) := b2i_congr (by rw [exA_s, h])
section C44
variable {D : Nat} {h : St} {K : Int → St → Prop} {n : Nat} {lg : Nat → Nat → Int} {w d e nm : Int} {f : Nat → Int}
theorem c_Orders_lacksOf (cl : CLog h n lg) (vl : VLog n lg) (hw : h 77 0 = w) (w1 : 1 ≤ w ∧ w ≤ 23) (hf : ∀ c, c < n → h 58 (paA lg c) = f c) (fr : ∀ c, c < n → inR (f c)) (r1 : inR nm) (r2 : inR d) (r3 : inR e) (k : K (lackA lg w f n nm d e) h) : mwpI (D + 4) m_Orders_lacksOf [vR 77, vR 1, vR 57, vI nm, vI d, vI e] h K := by
  have hn := cl.2.1
  have h8 := cl.1
  have lp : ∀ (r c F : Nat), c + r = n → (cnA lg nm d e c ≠ 0 → F < c ∧ rlA lg nm d e F) → wI (D + 3) m_Orders_lacksOf 21 [(0, vR 77), (1, vR 1), (2, vR 57), (3, vI nm), (4, vI d), (5, vI e), (6, vI (cnA lg nm d e c)), (7, vI (F : Int)), (8, vI (b2i (aaA lg w nm d e n c))), (9, vI (b2i (abA lg w nm d e n c))), (10, vI (b2i (sameA lg nm d e (lg 3) c))), (11, vI (b2i (sameA lg nm d e f c))), (12, vI (c : Int))] [] h K := by
    intro r
    induction r with
    | zero =>
      intro c F hc hF
      have e9 : c = n := by omega
      subst e9
      have cr := cn_R (lg := lg) (nm := nm) (d := d) (e := e) hn
      have v1 : b2i (b2i (aaA lg w nm d e c c) = 0) = b2i (¬ aaA lg w nm d e c c) := b2i_congr b2i_eq0
      have v2 : cif (b2i (abA lg w nm d e c c) = 0) 2 0 = 2 * b2i (¬ abA lg w nm d e c c) := by
        by_cases q : abA lg w nm d e c c
        · rw [cif_f (fun z => b2i_eq0.mp z q), b2i_f (fun z => z q)]; rfl
        · rw [cif_t (b2i_f q), b2i_t q]; rfl
      have v4 : cif (cnA lg nm d e c < 2) 0 (cif (b2i (sameA lg nm d e (lg 3) c) = 0) 0 4) = 4 * b2i (2 ≤ cnA lg nm d e c ∧ sameA lg nm d e (lg 3) c) := by
        by_cases q : cnA lg nm d e c < 2
        · rw [cif_t q, b2i_f (fun z => by omega)]; rfl
        · rw [cif_f q]
          by_cases q2 : sameA lg nm d e (lg 3) c
          · rw [cif_f (fun z => b2i_eq0.mp z q2), b2i_t ⟨by omega, q2⟩]; rfl
          · rw [cif_t (b2i_f q2), b2i_f (fun z => q2 z.2)]; rfl
      unfold lackA at k
      refine s_Orders_lacksOf_21 _ _ _ _ _ _ _ _ _ _ h K ⟨⟨by omega, by omega⟩, ⟨by omega, by omega⟩, fun _ => ⟨⟨by omega, by omega⟩, fun z => ⟨b2i_R, fun z2 => ⟨b2i_R, b2i_R, fun _ => b2i_R, ?_⟩, fun z2 => c_Orders_isShared cl vl hf fr (hF z).1 r2 r3 ⟨b2i_R, b2i_R, b2i_R, fun _ => b2i_R, ?_⟩⟩, fun z => ?_⟩, fun z => absurd (by omega) z⟩
      · rw [cif_t z, b2i_f (p := sameA lg nm d e f c ∧ seA lg nm d e f c c) (fun q => b2i_eq0.mp z2 q.1), ← b2i_f (p := False) id, ← or4, b2i_f (p := False) id] at k
        rw [v1, v2, v4, cif_t rfl]
        exact k
      · have oh : sameA lg nm d e f c := b2i_ne0.mp z2
        obtain ⟨hF1, hF2⟩ := hF z
        have es : (exA c (shA lg d e f F)) ↔ (sameA lg nm d e f c ∧ seA lg nm d e f c c) := by
          constructor
          · intro q; exact ⟨oh, F, hF1, hF2, q⟩
          · rintro ⟨_, i, hi, ri, o, ho, s1, s2, s3⟩
            exact ⟨o, ho, fun z9 => s1 (by rw [z9, hF2.1, ri.1]), s2, by rw [s3]; exact oh i F hi hF1 ri hF2⟩
        have v8 : cif (¬ b2i (exA c (shA lg d e f F)) = 0) 8 0 = 8 * b2i (sameA lg nm d e f c ∧ seA lg nm d e f c c) := by
          rw [b2i_congr es]
          by_cases q : sameA lg nm d e f c ∧ seA lg nm d e f c c
          · rw [cif_t (fun z9 => b2i_eq0.mp z9 q), b2i_t q]; rfl
          · rw [cif_f (fun z9 => z9 (b2i_f q)), b2i_f q]; rfl
        rw [cif_t z, ← or4] at k
        rw [v1, v2, v4, v8]
        exact k
      · rw [cif_f z] at k
        exact k
    | succ r ih =>
      intro c F hc hF
      have hc2 : c < n := by omega
      obtain ⟨a0, a1, a2, a3, a4, a5⟩ := CLog_at cl hc2
      have q1 := vl c hc2
      have cr := cn_R (lg := lg) (nm := nm) (d := d) (e := e) (show c ≤ 60 by omega)
      refine s_Orders_lacksOf_21 _ _ _ _ _ _ _ _ _ _ h K ⟨⟨by omega, by omega⟩, ⟨by omega, by omega⟩, fun z => by omega, fun _ => c_CallLog_isFromOn cl vl hc2 r1 r2 r3 ⟨b2i_R, fun z => ⟨⟨by omega, by omega⟩, c_Orders_fateOf cl vl hw w1 hc2 ?_⟩, fun z => ?_⟩⟩
      · have rc : rlA lg nm d e c := b2i_ne0.mp z
        obtain ⟨F2, e2, hF2, rF2⟩ : ∃ F2 : Nat, cif (cnA lg nm d e c ≠ 0) (F : Int) (c : Int) = F2 ∧ (F2 < c ∨ (F2 = c ∧ ∀ i, i < c → ¬ rlA lg nm d e i)) ∧ rlA lg nm d e F2 := by
          by_cases q : cnA lg nm d e c ≠ 0
          · exact ⟨F, cif_t q, Or.inl (hF q).1, (hF q).2⟩
          · exact ⟨c, cif_f q, Or.inr ⟨rfl, cn_0.mp (by omega)⟩, rc⟩
        rw [e2]
        unfold fateA
        rw [or_12.2.2.1]
        have hF3 : F2 < n := by omega
        obtain ⟨b0, b1, b2, b3, b4, b5⟩ := CLog_at cl hF3
        have q2 := vl F2 hF3
        refine ⟨b2i_R, c_Orders_answersAny cl vl hw w1 hc2 ⟨by omega, by omega, ?_, c_Hands_handOf cl vl hc2 (c_Hands_handOf cl vl hF3 ⟨?_, ?_⟩)⟩⟩
        · rw [Int.toNat_natCast, Int.toNat_natCast, a3, b3]; exact ⟨⟨by omega, by omega⟩, ⟨by omega, by omega⟩⟩
        · rw [hf c hc2, hf F2 hF3]; exact ⟨fr c hc2, fr F2 hF3⟩
        · rw [Int.toNat_natCast, Int.toNat_natCast, a3, b3, hf c hc2, hf F2 hF3, bb, or2.1, or2.1, or2.2, or2.2]
          have ih2 := ih (c + 1) F2 (by omega) (fun _ => ⟨by omega, rF2⟩)
          have t1 : cnA lg nm d e (c + 1) = cnA lg nm d e c + 1 := by
            show cnA lg nm d e c + b2i (rlA lg nm d e c) = _
            rw [b2i_t rc]
          have t2 : b2i (aaA lg w nm d e n c ∨ exA n (ansA lg w c)) = b2i (aaA lg w nm d e n (c + 1)) := exA_b ⟨fun q => q.2, fun q => ⟨rc, q⟩⟩
          have t3 : b2i (abA lg w nm d e n c ∨ exA n (fun o => ansA lg w o c)) = b2i (abA lg w nm d e n (c + 1)) := exA_b ⟨fun q => q.2, fun q => ⟨rc, q⟩⟩
          have t4 : b2i (sameA lg nm d e (lg 3) c ∧ ¬ (lg 3 c ≠ lg 3 F2)) = b2i (sameA lg nm d e (lg 3) (c + 1)) := b2i_congr (by rw [same_yes hF2 rF2 rc, Classical.not_not])
          have t5 : b2i (sameA lg nm d e f c ∧ ¬ (f c ≠ f F2)) = b2i (sameA lg nm d e f (c + 1)) := b2i_congr (by rw [same_yes hF2 rF2 rc, Classical.not_not])
          rw [t2, t3, t4, t5, ← t1]
          exact ih2
      · have rc : ¬ rlA lg nm d e c := fun q => z (b2i_ne0.mpr q)
        have ih2 := ih (c + 1) F (by omega)
        rw [show cnA lg nm d e (c + 1) = cnA lg nm d e c by
          show cnA lg nm d e c + b2i (rlA lg nm d e c) = _
          rw [b2i_f rc, Int.add_zero], show b2i (aaA lg w nm d e n (c + 1)) = b2i (aaA lg w nm d e n c) from exA_n (fun q => rc q.1), show b2i (abA lg w nm d e n (c + 1)) = b2i (abA lg w nm d e n c) from exA_n (fun q => rc q.1), b2i_congr (same_no rc), b2i_congr (same_no (g := f) rc)] at ih2
        exact ih2 (fun q => ⟨by have := (hF q).1; omega, (hF q).2⟩)
  have q := lp n 0 0 (by omega) (fun z => absurd rfl z)
  rw [b2i_f (p := aaA lg w nm d e n 0) exA_0, b2i_f (p := abA lg w nm d e n 0) exA_0, b2i_t (p := sameA lg nm d e (lg 3) 0) (fun a b ha => absurd ha (Nat.not_lt_zero a)), b2i_t (p := sameA lg nm d e f 0) (fun a b ha => absurd ha (Nat.not_lt_zero a))] at q
  exact mI_intro b_Orders_lacksOf rfl (s_Orders_lacksOf_0 (d := D) _ _ _ h K q)
end C44
