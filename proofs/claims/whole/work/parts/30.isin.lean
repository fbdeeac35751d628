theorem s_Places_fits_0 {d : Nat}  (x1 x2 x3 : Int) (h : St) (K : Int → St → Prop) (F : (0 ≤ x1 ∧ x1 < 40) ∧ (0 ≤ h 88 x1.toNat ∧ h 88 x1.toNat < 4) ∧ (-2147483648 < (((h 91 x1.toNat) * (x3 - (h 87 ((h 88 x1.toNat).toNat)))) - ((h 92 x1.toNat) * (x2 - (h 86 ((h 88 x1.toNat).toNat))))) ∧ (((h 91 x1.toNat) * (x3 - (h 87 ((h 88 x1.toNat).toNat)))) - ((h 92 x1.toNat) * (x2 - (h 86 ((h 88 x1.toNat).toNat))))) < 2147483648) ∧ (((inR (((h 91 x1.toNat) * (x2 - (h 86 ((h 88 x1.toNat).toNat)))) + ((h 92 x1.toNat) * (x3 - (h 87 ((h 88 x1.toNat).toNat)))))) ∧ (¬ ((((h 91 x1.toNat) * (x2 - (h 86 ((h 88 x1.toNat).toNat)))) + ((h 92 x1.toNat) * (x3 - (h 87 ((h 88 x1.toNat).toNat))))) ≤ 0) → ((inR (10 * (((((h 91 x1.toNat) * (x3 - (h 87 ((h 88 x1.toNat).toNat)))) - ((h 92 x1.toNat) * (x2 - (h 86 ((h 88 x1.toNat).toNat))))).natAbs : Int)))) ∧ (inR ((h 93 x1.toNat) * (((h 91 x1.toNat) * (x2 - (h 86 ((h 88 x1.toNat).toNat)))) + ((h 92 x1.toNat) * (x3 - (h 87 ((h 88 x1.toNat).toNat))))))))))) ∧ (K (b2i (¬ ((((h 91 x1.toNat) * (x2 - (h 86 ((h 88 x1.toNat).toNat)))) + ((h 92 x1.toNat) * (x3 - (h 87 ((h 88 x1.toNat).toNat))))) ≤ 0) ∧ (¬ (((h 93 x1.toNat) * (((h 91 x1.toNat) * (x2 - (h 86 ((h 88 x1.toNat).toNat)))) + ((h 92 x1.toNat) * (x3 - (h 87 ((h 88 x1.toNat).toNat)))))) < (10 * (((((h 91 x1.toNat) * (x3 - (h 87 ((h 88 x1.toNat).toNat)))) - ((h 92 x1.toNat) * (x2 - (h 86 ((h 88 x1.toNat).toNat))))).natAbs : Int))))))) h)) : wI (d + 1) m_Places_fits 0 [(0, vR 85), (1, vI x1), (2, vI x2), (3, vI x3)] [] h K := by
  refine w_iload_n rfl rfl ?_
  refine w_aload_n rfl rfl ?_
  refine w_getR rfl f_Places_11 rfl rfl rfl rfl rfl ?_
  refine w_aload_n rfl rfl ?_
  refine w_getR rfl f_Places_18 rfl rfl rfl rfl rfl ?_
  refine w_iload_n rfl rfl ?_
  obtain ⟨b1, F⟩ := F
  refine w_iaload rfl rfl rfl b1 ?_
  obtain ⟨b2, F⟩ := F
  refine w_iaload rfl rfl rfl b2 ?_
  refine w_isub rfl ?_
  refine w_istore rfl rfl rfl rfl (w_ls (ls2 := [(0, vR 85), (1, vI x1), (2, vI x2), (3, vI x3), (4, vI (x2 - (h 86 ((h 88 x1.toNat).toNat))))]) rfl ?_)
  refine w_iload_n rfl rfl ?_
  refine w_aload_n rfl rfl ?_
  refine w_getR rfl f_Places_15 rfl rfl rfl rfl rfl ?_
  refine w_aload_n rfl rfl ?_
  refine w_getR rfl f_Places_18 rfl rfl rfl rfl rfl ?_
  refine w_iload_n rfl rfl ?_
  refine w_iaload rfl rfl rfl b1 ?_
  refine w_iaload rfl rfl rfl b2 ?_
  refine w_isub rfl ?_
  refine w_istore rfl rfl rfl rfl (w_ls (ls2 := [(0, vR 85), (1, vI x1), (2, vI x2), (3, vI x3), (4, vI (x2 - (h 86 ((h 88 x1.toNat).toNat)))), (5, vI (x3 - (h 87 ((h 88 x1.toNat).toNat))))]) rfl ?_)
  refine w_aload_n rfl rfl ?_
  refine w_getR rfl f_Places_27 rfl rfl rfl rfl rfl ?_
  refine w_iload_n rfl rfl ?_
  refine w_iaload rfl rfl rfl b1 ?_
  refine w_iload rfl rfl ?_
  refine w_imul rfl ?_
  refine w_aload_n rfl rfl ?_
  refine w_getR rfl f_Places_30 rfl rfl rfl rfl rfl ?_
  refine w_iload_n rfl rfl ?_
  refine w_iaload rfl rfl rfl b1 ?_
  refine w_iload rfl rfl ?_
  refine w_imul rfl ?_
  refine w_iadd rfl ?_
  refine w_istore rfl rfl rfl rfl (w_ls (ls2 := [(0, vR 85), (1, vI x1), (2, vI x2), (3, vI x3), (4, vI (x2 - (h 86 ((h 88 x1.toNat).toNat)))), (5, vI (x3 - (h 87 ((h 88 x1.toNat).toNat)))), (6, vI (((h 91 x1.toNat) * (x2 - (h 86 ((h 88 x1.toNat).toNat)))) + ((h 92 x1.toNat) * (x3 - (h 87 ((h 88 x1.toNat).toNat))))))]) rfl ?_)
  refine w_aload_n rfl rfl ?_
  refine w_getR rfl f_Places_27 rfl rfl rfl rfl rfl ?_
  refine w_iload_n rfl rfl ?_
  refine w_iaload rfl rfl rfl b1 ?_
  refine w_iload rfl rfl ?_
  refine w_imul rfl ?_
  refine w_aload_n rfl rfl ?_
  refine w_getR rfl f_Places_30 rfl rfl rfl rfl rfl ?_
  refine w_iload_n rfl rfl ?_
  refine w_iaload rfl rfl rfl b1 ?_
  refine w_iload rfl rfl ?_
  refine w_imul rfl ?_
  refine w_isub rfl ?_
  obtain ⟨b3, F⟩ := F
  refine c_SI [vI (((h 91 x1.toNat) * (x3 - (h 87 ((h 88 x1.toNat).toNat)))) - ((h 92 x1.toNat) * (x2 - (h 86 ((h 88 x1.toNat).toNat)))))] [] rfl b_JM_abs k_Places_46 rfl rfl rfl (c_JM_abs b3 ?_)
  refine w_istore rfl rfl rfl rfl (w_ls (ls2 := [(0, vR 85), (1, vI x1), (2, vI x2), (3, vI x3), (4, vI (x2 - (h 86 ((h 88 x1.toNat).toNat)))), (5, vI (x3 - (h 87 ((h 88 x1.toNat).toNat)))), (6, vI (((h 91 x1.toNat) * (x2 - (h 86 ((h 88 x1.toNat).toNat)))) + ((h 92 x1.toNat) * (x3 - (h 87 ((h 88 x1.toNat).toNat)))))), (7, vI (((((h 91 x1.toNat) * (x3 - (h 87 ((h 88 x1.toNat).toNat)))) - ((h 92 x1.toNat) * (x2 - (h 86 ((h 88 x1.toNat).toNat))))).natAbs : Int)))]) rfl ?_)
  refine w_iload rfl rfl ?_
  obtain ⟨G, F⟩ := F
  have J : ∀ (t9 : Int), t9 = b2i (¬ ((((h 91 x1.toNat) * (x2 - (h 86 ((h 88 x1.toNat).toNat)))) + ((h 92 x1.toNat) * (x3 - (h 87 ((h 88 x1.toNat).toNat))))) ≤ 0) ∧ (¬ (((h 93 x1.toNat) * (((h 91 x1.toNat) * (x2 - (h 86 ((h 88 x1.toNat).toNat)))) + ((h 92 x1.toNat) * (x3 - (h 87 ((h 88 x1.toNat).toNat)))))) < (10 * (((((h 91 x1.toNat) * (x3 - (h 87 ((h 88 x1.toNat).toNat)))) - ((h 92 x1.toNat) * (x2 - (h 86 ((h 88 x1.toNat).toNat))))).natAbs : Int)))))) → wI (d + 1) m_Places_fits 102 [(0, vR 85), (1, vI x1), (2, vI x2), (3, vI x3), (4, vI (x2 - (h 86 ((h 88 x1.toNat).toNat)))), (5, vI (x3 - (h 87 ((h 88 x1.toNat).toNat)))), (6, vI (((h 91 x1.toNat) * (x2 - (h 86 ((h 88 x1.toNat).toNat)))) + ((h 92 x1.toNat) * (x3 - (h 87 ((h 88 x1.toNat).toNat)))))), (7, vI (((((h 91 x1.toNat) * (x3 - (h 87 ((h 88 x1.toNat).toNat)))) - ((h 92 x1.toNat) * (x2 - (h 86 ((h 88 x1.toNat).toNat))))).natAbs : Int)))] [vI t9] h K := by
    intro t9 et9
    subst et9
    exact w_zret rfl rfl b2i_01 ⟨rfl, rfl, _, rfl, F⟩
  obtain ⟨b4, gb_⟩ := G
  refine w_if_le (tgt := 101) rfl (by decide) b4 (fun q5 => ?_) (fun q5 => ?_)
  · refine w_iconst rfl ?_
    exact J _ (b2i_f (fun z => z.1 q5)).symm
  · have G := gb_ q5
    obtain ⟨b6, b7⟩ := G
    refine w_bipush (by decide) (by decide) rfl ?_
    refine w_iload rfl rfl ?_
    refine w_imul rfl ?_
    refine w_aload_n rfl rfl ?_
    refine w_getR rfl f_Places_33 rfl rfl rfl rfl rfl ?_
    refine w_iload_n rfl rfl ?_
    refine w_iaload rfl rfl rfl b1 ?_
    refine w_iload rfl rfl ?_
    refine w_imul rfl ?_
    refine w_icmp_gt (tgt := 101) rfl (by decide) ⟨b6, b7⟩ (fun q8 => ?_) (fun q8 => ?_)
    · refine w_iconst rfl ?_
      exact J _ (b2i_f (fun z => (fun z => z q8) z.2)).symm
    · refine w_iconst rfl ?_
      refine w_goto (tgt := 102) rfl (by decide) ?_
      exact J _ (b2i_t ⟨q5, q8⟩).symm
theorem s_Places_fitsAll_0 {d : Nat}  (x1 x2 x3 x4 : Int) (h : St) (K : Int → St → Prop) (F : (wI (d + 2) m_Places_fitsAll 3 [(0, vR 85), (1, vI x1), (2, vI x2), (3, vI x3), (4, vI x4), (5, vI 0)] [] h K)) : wI (d + 2) m_Places_fitsAll 0 [(0, vR 85), (1, vI x1), (2, vI x2), (3, vI x3), (4, vI x4)] [] h K := by
  refine w_iconst rfl ?_
  refine w_istore rfl rfl rfl rfl (w_ls (ls2 := [(0, vR 85), (1, vI x1), (2, vI x2), (3, vI x3), (4, vI x4), (5, vI 0)]) rfl ?_)
  exact F
theorem s_Places_fitsAll_3 {d : Nat}  (x1 x2 x3 x4 x5 : Int) (h : St) (K : Int → St → Prop) (F : (inR x5) ∧ (inR (h 85 8)) ∧ (((h 85 8) ≤ x5 → (K 1 h)) ∧ (¬ ((h 85 8) ≤ x5) → (0 ≤ x5 ∧ x5 < 40) ∧ (inR (h 89 x5.toNat)) ∧ (inR x1) ∧ (((h 89 x5.toNat) ≠ x1 → (wI (d + 2) m_Places_fitsAll 3 [(0, vR 85), (1, vI x1), (2, vI x2), (3, vI x3), (4, vI x4), (5, vI (x5 + 1))] [] h K)) ∧ (¬ ((h 89 x5.toNat) ≠ x1) → (inR (h 90 x5.toNat)) ∧ (inR x2) ∧ (((h 90 x5.toNat) ≠ x2 → (wI (d + 2) m_Places_fitsAll 3 [(0, vR 85), (1, vI x1), (2, vI x2), (3, vI x3), (4, vI x4), (5, vI (x5 + 1))] [] h K)) ∧ (¬ ((h 90 x5.toNat) ≠ x2) → (mwpI (d + 2) m_Places_fits [vR 85, vI x5, vI x3, vI x4] h (fun z11 h11 => (inR z11) ∧ ((z11 ≠ 0 → (wI (d + 2) m_Places_fitsAll 3 [(0, vR 85), (1, vI x1), (2, vI x2), (3, vI x3), (4, vI x4), (5, vI (x5 + 1))] [] h11 K)) ∧ (¬ (z11 ≠ 0) → (K 0 h11)))))))))))) : wI (d + 2) m_Places_fitsAll 3 [(0, vR 85), (1, vI x1), (2, vI x2), (3, vI x3), (4, vI x4), (5, vI x5)] [] h K := by
  refine w_iload rfl rfl ?_
  refine w_aload_n rfl rfl ?_
  refine w_getI rfl f_Places_36 rfl rfl rfl ?_
  obtain ⟨b1, F⟩ := F
  obtain ⟨b2, F⟩ := F
  refine w_icmp_ge (tgt := 54) rfl (by decide) ⟨b1, b2⟩ (fun q3 => ?_) (fun q3 => ?_)
  · replace F := F.1 q3
    refine w_iconst rfl ?_
    exact w_zret rfl rfl (by decide) ⟨rfl, rfl, _, rfl, F⟩
  · replace F := F.2 q3
    refine w_aload_n rfl rfl ?_
    refine w_getR rfl f_Places_21 rfl rfl rfl rfl rfl ?_
    refine w_iload rfl rfl ?_
    obtain ⟨b4, F⟩ := F
    refine w_iaload rfl rfl rfl b4 ?_
    refine w_iload_n rfl rfl ?_
    obtain ⟨b5, F⟩ := F
    obtain ⟨b6, F⟩ := F
    refine w_icmp_ne (tgt := 48) rfl (by decide) ⟨b5, b6⟩ (fun q7 => ?_) (fun q7 => ?_)
    · replace F := F.1 q7
      refine w_iinc rfl rfl rfl rfl rfl (w_ls (ls2 := [(0, vR 85), (1, vI x1), (2, vI x2), (3, vI x3), (4, vI x4), (5, vI (x5 + 1))]) rfl ?_)
      refine w_goto (tgt := 3) rfl (by decide) ?_
      exact F
    · replace F := F.2 q7
      refine w_aload_n rfl rfl ?_
      refine w_getR rfl f_Places_24 rfl rfl rfl rfl rfl ?_
      refine w_iload rfl rfl ?_
      refine w_iaload rfl rfl rfl b4 ?_
      refine w_iload_n rfl rfl ?_
      obtain ⟨b8, F⟩ := F
      obtain ⟨b9, F⟩ := F
      refine w_icmp_ne (tgt := 48) rfl (by decide) ⟨b8, b9⟩ (fun q10 => ?_) (fun q10 => ?_)
      · replace F := F.1 q10
        refine w_iinc rfl rfl rfl rfl rfl (w_ls (ls2 := [(0, vR 85), (1, vI x1), (2, vI x2), (3, vI x3), (4, vI x4), (5, vI (x5 + 1))]) rfl ?_)
        refine w_goto (tgt := 3) rfl (by decide) ?_
        exact F
      · replace F := F.2 q10
        refine w_aload_n rfl rfl ?_
        refine w_iload rfl rfl ?_
        refine w_iload_n rfl rfl ?_
        refine w_iload rfl rfl ?_
        refine c_VI [vI x5, vI x3, vI x4] [] rfl b_Places_fits k_Places_52 rfl rfl rfl rfl rfl rfl (mwpI_mono (fun z11 h11 F => ?_) F)
        obtain ⟨b12, F⟩ := F
        refine w_if_ne (tgt := 48) rfl (by decide) b12 (fun q13 => ?_) (fun q13 => ?_)
        · replace F := F.1 q13
          refine w_iinc rfl rfl rfl rfl rfl (w_ls (ls2 := [(0, vR 85), (1, vI x1), (2, vI x2), (3, vI x3), (4, vI x4), (5, vI (x5 + 1))]) rfl ?_)
          refine w_goto (tgt := 3) rfl (by decide) ?_
          exact F
        · replace F := F.2 q13
          refine w_iconst rfl ?_
          exact w_zret rfl rfl (by decide) ⟨rfl, rfl, _, rfl, F⟩
theorem s_M_fits_0 {d : Nat}  (x1 x2 x3 x4 : Int) (h : St) (K : Int → St → Prop) (F : (wI (d + 1) m_M_fits 3 [(0, vR 109), (1, vI x1), (2, vI x2), (3, vI x3), (4, vI x4), (5, vI 0)] [] h K)) : wI (d + 1) m_M_fits 0 [(0, vR 109), (1, vI x1), (2, vI x2), (3, vI x3), (4, vI x4)] [] h K := by
  refine w_iconst rfl ?_
  refine w_istore rfl rfl rfl rfl (w_ls (ls2 := [(0, vR 109), (1, vI x1), (2, vI x2), (3, vI x3), (4, vI x4), (5, vI 0)]) rfl ?_)
  exact F
theorem s_M_fits_3 {d : Nat}  (x1 x2 x3 x4 x5 : Int) (h : St) (K : Int → St → Prop) (F : (inR x5) ∧ (inR (h 117 0)) ∧ (((h 117 0) ≤ x5 → (K 1 h)) ∧ (¬ ((h 117 0) ≤ x5) → (0 ≤ (6 * x5) + 1 ∧ (6 * x5) + 1 < 720) ∧ (inR (h 118 (((6 * x5) + 1).toNat))) ∧ (inR x1) ∧ (((h 118 (((6 * x5) + 1).toNat)) ≠ x1 → (wI (d + 1) m_M_fits 3 [(0, vR 109), (1, vI x1), (2, vI x2), (3, vI x3), (4, vI x4), (5, vI (x5 + 1))] [] h K)) ∧ (¬ ((h 118 (((6 * x5) + 1).toNat)) ≠ x1) → (0 ≤ (6 * x5) + 2 ∧ (6 * x5) + 2 < 720) ∧ (inR (h 118 (((6 * x5) + 2).toNat))) ∧ (inR x2) ∧ (((h 118 (((6 * x5) + 2).toNat)) = x2 → (0 ≤ 6 * x5 ∧ 6 * x5 < 720) ∧ (0 ≤ h 118 ((6 * x5).toNat) ∧ h 118 ((6 * x5).toNat) < 4) ∧ (0 ≤ (6 * x5) + 3 ∧ (6 * x5) + 3 < 720) ∧ (0 ≤ (6 * x5) + 4 ∧ (6 * x5) + 4 < 720) ∧ (inR (((h 118 (((6 * x5) + 3).toNat)) * (x3 - (h 123 ((h 118 ((6 * x5).toNat)).toNat)))) + ((h 118 (((6 * x5) + 4).toNat)) * (x4 - (h 124 ((h 118 ((6 * x5).toNat)).toNat)))))) ∧ (((((h 118 (((6 * x5) + 3).toNat)) * (x3 - (h 123 ((h 118 ((6 * x5).toNat)).toNat)))) + ((h 118 (((6 * x5) + 4).toNat)) * (x4 - (h 124 ((h 118 ((6 * x5).toNat)).toNat))))) ≤ 0 → (K 0 h)) ∧ (¬ ((((h 118 (((6 * x5) + 3).toNat)) * (x3 - (h 123 ((h 118 ((6 * x5).toNat)).toNat)))) + ((h 118 (((6 * x5) + 4).toNat)) * (x4 - (h 124 ((h 118 ((6 * x5).toNat)).toNat))))) ≤ 0) → (-2147483648 < (((h 118 (((6 * x5) + 3).toNat)) * (x4 - (h 124 ((h 118 ((6 * x5).toNat)).toNat)))) - ((h 118 (((6 * x5) + 4).toNat)) * (x3 - (h 123 ((h 118 ((6 * x5).toNat)).toNat))))) ∧ (((h 118 (((6 * x5) + 3).toNat)) * (x4 - (h 124 ((h 118 ((6 * x5).toNat)).toNat)))) - ((h 118 (((6 * x5) + 4).toNat)) * (x3 - (h 123 ((h 118 ((6 * x5).toNat)).toNat))))) < 2147483648) ∧ (0 ≤ (6 * x5) + 5 ∧ (6 * x5) + 5 < 720) ∧ (inR (10 * (((((h 118 (((6 * x5) + 3).toNat)) * (x4 - (h 124 ((h 118 ((6 * x5).toNat)).toNat)))) - ((h 118 (((6 * x5) + 4).toNat)) * (x3 - (h 123 ((h 118 ((6 * x5).toNat)).toNat))))).natAbs : Int)))) ∧ (inR ((h 118 (((6 * x5) + 5).toNat)) * (((h 118 (((6 * x5) + 3).toNat)) * (x3 - (h 123 ((h 118 ((6 * x5).toNat)).toNat)))) + ((h 118 (((6 * x5) + 4).toNat)) * (x4 - (h 124 ((h 118 ((6 * x5).toNat)).toNat))))))) ∧ (((10 * (((((h 118 (((6 * x5) + 3).toNat)) * (x4 - (h 124 ((h 118 ((6 * x5).toNat)).toNat)))) - ((h 118 (((6 * x5) + 4).toNat)) * (x3 - (h 123 ((h 118 ((6 * x5).toNat)).toNat))))).natAbs : Int))) ≤ ((h 118 (((6 * x5) + 5).toNat)) * (((h 118 (((6 * x5) + 3).toNat)) * (x3 - (h 123 ((h 118 ((6 * x5).toNat)).toNat)))) + ((h 118 (((6 * x5) + 4).toNat)) * (x4 - (h 124 ((h 118 ((6 * x5).toNat)).toNat)))))) → (wI (d + 1) m_M_fits 3 [(0, vR 109), (1, vI x1), (2, vI x2), (3, vI x3), (4, vI x4), (5, vI (x5 + 1))] [] h K)) ∧ (¬ ((10 * (((((h 118 (((6 * x5) + 3).toNat)) * (x4 - (h 124 ((h 118 ((6 * x5).toNat)).toNat)))) - ((h 118 (((6 * x5) + 4).toNat)) * (x3 - (h 123 ((h 118 ((6 * x5).toNat)).toNat))))).natAbs : Int))) ≤ ((h 118 (((6 * x5) + 5).toNat)) * (((h 118 (((6 * x5) + 3).toNat)) * (x3 - (h 123 ((h 118 ((6 * x5).toNat)).toNat)))) + ((h 118 (((6 * x5) + 4).toNat)) * (x4 - (h 124 ((h 118 ((6 * x5).toNat)).toNat))))))) → (K 0 h)))))) ∧ (¬ ((h 118 (((6 * x5) + 2).toNat)) = x2) → (wI (d + 1) m_M_fits 3 [(0, vR 109), (1, vI x1), (2, vI x2), (3, vI x3), (4, vI x4), (5, vI (x5 + 1))] [] h K)))))))) : wI (d + 1) m_M_fits 3 [(0, vR 109), (1, vI x1), (2, vI x2), (3, vI x3), (4, vI x4), (5, vI x5)] [] h K := by
  refine w_iload rfl rfl ?_
  refine w_aload_n rfl rfl ?_
  refine w_getR rfl f_M_31 rfl rfl rfl rfl rfl ?_
  refine w_iconst rfl ?_
  refine w_iaload rfl rfl rfl ⟨by decide, by decide⟩ ?_
  obtain ⟨b1, F⟩ := F
  obtain ⟨b2, F⟩ := F
  refine w_icmp_ge (tgt := 173) rfl (by decide) ⟨b1, b2⟩ (fun q3 => ?_) (fun q3 => ?_)
  · replace F := F.1 q3
    refine w_iconst rfl ?_
    exact w_zret rfl rfl (by decide) ⟨rfl, rfl, _, rfl, F⟩
  · replace F := F.2 q3
    refine w_bipush (by decide) (by decide) rfl ?_
    refine w_iload rfl rfl ?_
    refine w_imul rfl ?_
    refine w_istore rfl rfl rfl rfl (w_ls (ls2 := [(0, vR 109), (1, vI x1), (2, vI x2), (3, vI x3), (4, vI x4), (5, vI x5), (6, vI (6 * x5))]) rfl ?_)
    refine w_aload_n rfl rfl ?_
    refine w_getR rfl f_M_34 rfl rfl rfl rfl rfl ?_
    refine w_iload rfl rfl ?_
    refine w_iconst rfl ?_
    refine w_iadd rfl ?_
    obtain ⟨b4, F⟩ := F
    refine w_iaload rfl rfl rfl b4 ?_
    refine w_iload_n rfl rfl ?_
    obtain ⟨b5, F⟩ := F
    obtain ⟨b6, F⟩ := F
    refine w_icmp_ne (tgt := 167) rfl (by decide) ⟨b5, b6⟩ (fun q7 => ?_) (fun q7 => ?_)
    · replace F := F.1 q7
      refine w_iinc rfl rfl rfl rfl rfl (w_ls (ls2 := [(0, vR 109), (1, vI x1), (2, vI x2), (3, vI x3), (4, vI x4), (5, vI (x5 + 1)), (6, vI (6 * x5))]) rfl ?_)
      refine w_goto (tgt := 3) rfl (by decide) ?_
      exact w_kp [0, 1, 2, 3, 4, 5] F
    · replace F := F.2 q7
      refine w_aload_n rfl rfl ?_
      refine w_getR rfl f_M_34 rfl rfl rfl rfl rfl ?_
      refine w_iload rfl rfl ?_
      refine w_iconst rfl ?_
      refine w_iadd rfl ?_
      obtain ⟨b8, F⟩ := F
      refine w_iaload rfl rfl rfl b8 ?_
      refine w_iload_n rfl rfl ?_
      obtain ⟨b9, F⟩ := F
      obtain ⟨b10, F⟩ := F
      refine w_icmp_eq (tgt := 50) rfl (by decide) ⟨b9, b10⟩ (fun q11 => ?_) (fun q11 => ?_)
      · replace F := F.1 q11
        refine w_iload_n rfl rfl ?_
        refine w_aload_n rfl rfl ?_
        refine w_getR rfl f_M_56 rfl rfl rfl rfl rfl ?_
        refine w_aload_n rfl rfl ?_
        refine w_getR rfl f_M_34 rfl rfl rfl rfl rfl ?_
        refine w_iload rfl rfl ?_
        obtain ⟨b12, F⟩ := F
        refine w_iaload rfl rfl rfl b12 ?_
        obtain ⟨b13, F⟩ := F
        refine w_iaload rfl rfl rfl b13 ?_
        refine w_isub rfl ?_
        refine w_istore rfl rfl rfl rfl (w_ls (ls2 := [(0, vR 109), (1, vI x1), (2, vI x2), (3, vI x3), (4, vI x4), (5, vI x5), (6, vI (6 * x5)), (7, vI (x3 - (h 123 ((h 118 ((6 * x5).toNat)).toNat))))]) rfl ?_)
        refine w_iload rfl rfl ?_
        refine w_aload_n rfl rfl ?_
        refine w_getR rfl f_M_59 rfl rfl rfl rfl rfl ?_
        refine w_aload_n rfl rfl ?_
        refine w_getR rfl f_M_34 rfl rfl rfl rfl rfl ?_
        refine w_iload rfl rfl ?_
        refine w_iaload rfl rfl rfl b12 ?_
        refine w_iaload rfl rfl rfl b13 ?_
        refine w_isub rfl ?_
        refine w_istore rfl rfl rfl rfl (w_ls (ls2 := [(0, vR 109), (1, vI x1), (2, vI x2), (3, vI x3), (4, vI x4), (5, vI x5), (6, vI (6 * x5)), (7, vI (x3 - (h 123 ((h 118 ((6 * x5).toNat)).toNat)))), (8, vI (x4 - (h 124 ((h 118 ((6 * x5).toNat)).toNat))))]) rfl ?_)
        refine w_aload_n rfl rfl ?_
        refine w_getR rfl f_M_34 rfl rfl rfl rfl rfl ?_
        refine w_iload rfl rfl ?_
        refine w_iconst rfl ?_
        refine w_iadd rfl ?_
        obtain ⟨b14, F⟩ := F
        refine w_iaload rfl rfl rfl b14 ?_
        refine w_iload rfl rfl ?_
        refine w_imul rfl ?_
        refine w_aload_n rfl rfl ?_
        refine w_getR rfl f_M_34 rfl rfl rfl rfl rfl ?_
        refine w_iload rfl rfl ?_
        refine w_iconst rfl ?_
        refine w_iadd rfl ?_
        obtain ⟨b15, F⟩ := F
        refine w_iaload rfl rfl rfl b15 ?_
        refine w_iload rfl rfl ?_
        refine w_imul rfl ?_
        refine w_iadd rfl ?_
        refine w_istore rfl rfl rfl rfl (w_ls (ls2 := [(0, vR 109), (1, vI x1), (2, vI x2), (3, vI x3), (4, vI x4), (5, vI x5), (6, vI (6 * x5)), (7, vI (x3 - (h 123 ((h 118 ((6 * x5).toNat)).toNat)))), (8, vI (x4 - (h 124 ((h 118 ((6 * x5).toNat)).toNat)))), (9, vI (((h 118 (((6 * x5) + 3).toNat)) * (x3 - (h 123 ((h 118 ((6 * x5).toNat)).toNat)))) + ((h 118 (((6 * x5) + 4).toNat)) * (x4 - (h 124 ((h 118 ((6 * x5).toNat)).toNat))))))]) rfl ?_)
        refine w_aload_n rfl rfl ?_
        refine w_getR rfl f_M_34 rfl rfl rfl rfl rfl ?_
        refine w_iload rfl rfl ?_
        refine w_iconst rfl ?_
        refine w_iadd rfl ?_
        refine w_iaload rfl rfl rfl b14 ?_
        refine w_iload rfl rfl ?_
        refine w_imul rfl ?_
        refine w_aload_n rfl rfl ?_
        refine w_getR rfl f_M_34 rfl rfl rfl rfl rfl ?_
        refine w_iload rfl rfl ?_
        refine w_iconst rfl ?_
        refine w_iadd rfl ?_
        refine w_iaload rfl rfl rfl b15 ?_
        refine w_iload rfl rfl ?_
        refine w_imul rfl ?_
        refine w_isub rfl ?_
        refine w_istore rfl rfl rfl rfl (w_ls (ls2 := [(0, vR 109), (1, vI x1), (2, vI x2), (3, vI x3), (4, vI x4), (5, vI x5), (6, vI (6 * x5)), (7, vI (x3 - (h 123 ((h 118 ((6 * x5).toNat)).toNat)))), (8, vI (x4 - (h 124 ((h 118 ((6 * x5).toNat)).toNat)))), (9, vI (((h 118 (((6 * x5) + 3).toNat)) * (x3 - (h 123 ((h 118 ((6 * x5).toNat)).toNat)))) + ((h 118 (((6 * x5) + 4).toNat)) * (x4 - (h 124 ((h 118 ((6 * x5).toNat)).toNat)))))), (10, vI (((h 118 (((6 * x5) + 3).toNat)) * (x4 - (h 124 ((h 118 ((6 * x5).toNat)).toNat)))) - ((h 118 (((6 * x5) + 4).toNat)) * (x3 - (h 123 ((h 118 ((6 * x5).toNat)).toNat))))))]) rfl ?_)
        refine w_iload rfl rfl ?_
        obtain ⟨b16, F⟩ := F
        refine w_if_le (tgt := 165) rfl (by decide) b16 (fun q17 => ?_) (fun q17 => ?_)
        · replace F := F.1 q17
          refine w_iconst rfl ?_
          exact w_zret rfl rfl (by decide) ⟨rfl, rfl, _, rfl, F⟩
        · replace F := F.2 q17
          refine w_bipush (by decide) (by decide) rfl ?_
          refine w_iload rfl rfl ?_
          obtain ⟨b18, F⟩ := F
          refine c_SI [vI (((h 118 (((6 * x5) + 3).toNat)) * (x4 - (h 124 ((h 118 ((6 * x5).toNat)).toNat)))) - ((h 118 (((6 * x5) + 4).toNat)) * (x3 - (h 123 ((h 118 ((6 * x5).toNat)).toNat)))))] [vI 10] rfl b_M_size k_M_193 rfl rfl rfl (c_M_size b18 ?_)
          refine w_imul rfl ?_
          refine w_aload_n rfl rfl ?_
          refine w_getR rfl f_M_34 rfl rfl rfl rfl rfl ?_
          refine w_iload rfl rfl ?_
          refine w_iconst rfl ?_
          refine w_iadd rfl ?_
          obtain ⟨b19, F⟩ := F
          refine w_iaload rfl rfl rfl b19 ?_
          refine w_iload rfl rfl ?_
          refine w_imul rfl ?_
          obtain ⟨b20, F⟩ := F
          obtain ⟨b21, F⟩ := F
          refine w_icmp_le (tgt := 167) rfl (by decide) ⟨b20, b21⟩ (fun q22 => ?_) (fun q22 => ?_)
          · replace F := F.1 q22
            refine w_iinc rfl rfl rfl rfl rfl (w_ls (ls2 := [(0, vR 109), (1, vI x1), (2, vI x2), (3, vI x3), (4, vI x4), (5, vI (x5 + 1)), (6, vI (6 * x5)), (7, vI (x3 - (h 123 ((h 118 ((6 * x5).toNat)).toNat)))), (8, vI (x4 - (h 124 ((h 118 ((6 * x5).toNat)).toNat)))), (9, vI (((h 118 (((6 * x5) + 3).toNat)) * (x3 - (h 123 ((h 118 ((6 * x5).toNat)).toNat)))) + ((h 118 (((6 * x5) + 4).toNat)) * (x4 - (h 124 ((h 118 ((6 * x5).toNat)).toNat)))))), (10, vI (((h 118 (((6 * x5) + 3).toNat)) * (x4 - (h 124 ((h 118 ((6 * x5).toNat)).toNat)))) - ((h 118 (((6 * x5) + 4).toNat)) * (x3 - (h 123 ((h 118 ((6 * x5).toNat)).toNat))))))]) rfl ?_)
            refine w_goto (tgt := 3) rfl (by decide) ?_
            exact w_kp [0, 1, 2, 3, 4, 5] F
          · replace F := F.2 q22
            refine w_iconst rfl ?_
            exact w_zret rfl rfl (by decide) ⟨rfl, rfl, _, rfl, F⟩
      · replace F := F.2 q11
        refine w_goto (tgt := 167) rfl (by decide) ?_
        refine w_iinc rfl rfl rfl rfl rfl (w_ls (ls2 := [(0, vR 109), (1, vI x1), (2, vI x2), (3, vI x3), (4, vI x4), (5, vI (x5 + 1)), (6, vI (6 * x5))]) rfl ?_)
        refine w_goto (tgt := 3) rfl (by decide) ?_
        exact w_kp [0, 1, 2, 3, 4, 5] F
theorem s_C_isIn_0 {d : Nat}  (x1 x2 x3 x4 : Int) (h : St) (K : Int → St → Prop) (F : (inR x1) ∧ ((¬ (0 ≤ x1 ∧ x1 ≤ 11) → (K ((-1)) h)) ∧ (0 ≤ x1 ∧ x1 ≤ 11 → (inR x2) ∧ ((¬ (0 ≤ x2 ∧ x2 ≤ 19) → (K ((-1)) h)) ∧ (0 ≤ x2 ∧ x2 ≤ 19 → (inR x3) ∧ (inR x4) ∧ (((0 ≤ x3 ∧ x3 ≤ 15) ∧ (0 ≤ x4 ∧ x4 ≤ 15) → (mwpI (d + 3) m_Places_fitsAll [vR 85, vI x1, vI x2, vI x3, vI x4] h (fun z8 h8 => (((inR z8))) ∧ (K (b2i (¬ (z8 = 0))) h8)))) ∧ (¬ ((0 ≤ x3 ∧ x3 ≤ 15) ∧ (0 ≤ x4 ∧ x4 ≤ 15)) → (K ((-1)) h)))))))) : wI (d + 3) m_C_isIn 0 [(0, vR 0), (1, vI x1), (2, vI x2), (3, vI x3), (4, vI x4)] [] h K := by
  refine w_iload_n rfl rfl ?_
  obtain ⟨b1, F⟩ := F
  refine c_SI [vI x1] [] rfl b_C_isName k_C_96 rfl rfl rfl (c_C_isName b1 ?_)
  refine w_ifeq_b (tgt := 23) rfl (by decide) (fun q2 => ?_) (fun q2 => ?_)
  · replace F := F.1 q2
    refine w_iconst rfl ?_
    exact w_iret rfl rfl ⟨rfl, rfl, _, rfl, F⟩
  · replace F := F.2 q2
    refine w_iload_n rfl rfl ?_
    obtain ⟨b3, F⟩ := F
    refine c_SI [vI x2] [] rfl b_C_isDay k_C_131 rfl rfl rfl (c_C_isDay b3 ?_)
    refine w_ifeq_b (tgt := 23) rfl (by decide) (fun q4 => ?_) (fun q4 => ?_)
    · replace F := F.1 q4
      refine w_iconst rfl ?_
      exact w_iret rfl rfl ⟨rfl, rfl, _, rfl, F⟩
    · replace F := F.2 q4
      refine w_iload_n rfl rfl ?_
      refine w_iload rfl rfl ?_
      obtain ⟨b5, F⟩ := F
      obtain ⟨b6, F⟩ := F
      refine c_SI [vI x3, vI x4] [] rfl b_C_isCell k_C_262 rfl rfl rfl (c_C_isCell b5 b6 ?_)
      refine w_ifne_b (tgt := 25) rfl (by decide) (fun q7 => ?_) (fun q7 => ?_)
      · replace F := F.1 q7
        refine w_aload_n rfl rfl ?_
        refine w_getR rfl f_C_61 rfl rfl rfl rfl rfl ?_
        refine w_iload_n rfl rfl ?_
        refine w_iload_n rfl rfl ?_
        refine w_iload_n rfl rfl ?_
        refine w_iload rfl rfl ?_
        refine c_VI [vI x1, vI x2, vI x3, vI x4] [] rfl b_Places_fitsAll k_C_288 rfl rfl rfl rfl rfl rfl (mwpI_mono (fun z8 h8 F => ?_) F)
        obtain ⟨G, F⟩ := F
        have J : ∀ (t11 : Int), t11 = b2i (¬ (z8 = 0)) → wI (d + 3) m_C_isIn 45 [(0, vR 0), (1, vI x1), (2, vI x2), (3, vI x3), (4, vI x4)] [vI t11] h8 K := by
          intro t11 et11
          subst et11
          exact w_iret rfl rfl ⟨rfl, rfl, _, rfl, F⟩
        have b9 := G
        refine w_if_eq (tgt := 44) rfl (by decide) b9 (fun q10 => ?_) (fun q10 => ?_)
        · refine w_iconst rfl ?_
          exact J _ (b2i_f (fun z => z q10)).symm
        · refine w_iconst rfl ?_
          refine w_goto (tgt := 45) rfl (by decide) ?_
          exact J _ (b2i_t q10).symm
      · replace F := F.2 q7
        refine w_iconst rfl ?_
        exact w_iret rfl rfl ⟨rfl, rfl, _, rfl, F⟩
theorem s_M_isIn_0 {d : Nat}  (x1 x2 x3 x4 : Int) (h : St) (K : Int → St → Prop) (F : (inR x1) ∧ ((¬ (0 ≤ x1 ∧ x1 ≤ 11) → (K ((-1)) h)) ∧ (0 ≤ x1 ∧ x1 ≤ 11 → (inR x2) ∧ ((¬ (0 ≤ x2 ∧ x2 ≤ 19) → (K ((-1)) h)) ∧ (0 ≤ x2 ∧ x2 ≤ 19 → (inR x3) ∧ (inR x4) ∧ (((0 ≤ x3 ∧ x3 ≤ 15) ∧ (0 ≤ x4 ∧ x4 ≤ 15) → (mwpI (d + 2) m_M_fits [vR 109, vI x1, vI x2, vI x3, vI x4] h (fun z8 h8 => (((inR z8))) ∧ (K (b2i (¬ (z8 = 0))) h8)))) ∧ (¬ ((0 ≤ x3 ∧ x3 ≤ 15) ∧ (0 ≤ x4 ∧ x4 ≤ 15)) → (K ((-1)) h)))))))) : wI (d + 2) m_M_isIn 0 [(0, vR 109), (1, vI x1), (2, vI x2), (3, vI x3), (4, vI x4)] [] h K := by
  refine w_iload_n rfl rfl ?_
  obtain ⟨b1, F⟩ := F
  refine c_SI [vI x1] [] rfl b_M_isName k_M_142 rfl rfl rfl (c_M_isName b1 ?_)
  refine w_ifeq_b (tgt := 23) rfl (by decide) (fun q2 => ?_) (fun q2 => ?_)
  · replace F := F.1 q2
    refine w_iconst rfl ?_
    refine w_goto (tgt := 44) rfl (by decide) ?_
    exact w_iret rfl rfl ⟨rfl, rfl, _, rfl, F⟩
  · replace F := F.2 q2
    refine w_iload_n rfl rfl ?_
    obtain ⟨b3, F⟩ := F
    refine c_SI [vI x2] [] rfl b_M_isDay k_M_138 rfl rfl rfl (c_M_isDay b3 ?_)
    refine w_ifeq_b (tgt := 23) rfl (by decide) (fun q4 => ?_) (fun q4 => ?_)
    · replace F := F.1 q4
      refine w_iconst rfl ?_
      refine w_goto (tgt := 44) rfl (by decide) ?_
      exact w_iret rfl rfl ⟨rfl, rfl, _, rfl, F⟩
    · replace F := F.2 q4
      refine w_iload_n rfl rfl ?_
      refine w_iload rfl rfl ?_
      obtain ⟨b5, F⟩ := F
      obtain ⟨b6, F⟩ := F
      refine c_SI [vI x3, vI x4] [] rfl b_M_isCell k_M_285 rfl rfl rfl (c_M_isCell b5 b6 ?_)
      refine w_ifne_b (tgt := 27) rfl (by decide) (fun q7 => ?_) (fun q7 => ?_)
      · replace F := F.1 q7
        refine w_aload_n rfl rfl ?_
        refine w_iload_n rfl rfl ?_
        refine w_iload_n rfl rfl ?_
        refine w_iload_n rfl rfl ?_
        refine w_iload rfl rfl ?_
        refine c_VI [vI x1, vI x2, vI x3, vI x4] [] rfl b_M_fits k_M_294 rfl rfl rfl rfl rfl rfl (mwpI_mono (fun z8 h8 F => ?_) F)
        obtain ⟨G, F⟩ := F
        have J : ∀ (t11 : Int), t11 = b2i (¬ (z8 = 0)) → wI (d + 2) m_M_isIn 44 [(0, vR 109), (1, vI x1), (2, vI x2), (3, vI x3), (4, vI x4)] [vI t11] h8 K := by
          intro t11 et11
          subst et11
          exact w_iret rfl rfl ⟨rfl, rfl, _, rfl, F⟩
        have b9 := G
        refine w_if_eq (tgt := 43) rfl (by decide) b9 (fun q10 => ?_) (fun q10 => ?_)
        · refine w_iconst rfl ?_
          exact J _ (b2i_f (fun z => z q10)).symm
        · refine w_iconst rfl ?_
          refine w_goto (tgt := 44) rfl (by decide) ?_
          exact J _ (b2i_t q10).symm
      · replace F := F.2 q7
        refine w_iconst rfl ?_
        refine w_goto (tgt := 44) rfl (by decide) ?_
        exact w_iret rfl rfl ⟨rfl, rfl, _, rfl, F⟩
theorem mul_bnd {a b u v : Int} (ha : -u ≤ a ∧ a ≤ u) (hb : -v ≤ b ∧ b ≤ v) : -(u * v) ≤ a * b ∧ a * b ≤ u * v := by
  have h1 : (a * b).natAbs ≤ u.natAbs * v.natAbs := by
    rw [Int.natAbs_mul]
    exact Nat.mul_le_mul (by omega) (by omega)
  have h2 : ((u.natAbs * v.natAbs : Nat) : Int) = u * v := by
    rw [Int.natCast_mul, show ((u.natAbs : Nat) : Int) = u by omega, show ((v.natAbs : Nat) : Int) = v by omega]
  omega
def alo (hx hy : Nat → Int) (bg : Nat → Nat → Int) (i : Nat) (x y : Int) : Int := bg 3 i * (x - hx (bg 0 i).toNat) + bg 4 i * (y - hy (bg 0 i).toNat)
def acr (hx hy : Nat → Int) (bg : Nat → Nat → Int) (i : Nat) (x y : Int) : Int := bg 3 i * (y - hy (bg 0 i).toNat) - bg 4 i * (x - hx (bg 0 i).toNat)
def bfit (hx hy : Nat → Int) (bg : Nat → Nat → Int) (i : Nat) (x y : Int) : Prop := 0 < alo hx hy bg i x y ∧ 10 * (((acr hx hy bg i x y).natAbs : Nat) : Int) ≤ bg 5 i * alo hx hy bg i x y
def okB (hx hy : Nat → Int) (bg : Nat → Nat → Int) (nm dy x y : Int) (i : Nat) : Prop := bg 1 i = nm → bg 2 i = dy → bfit hx hy bg i x y
def fitsA (hx hy : Nat → Int) (n : Nat) (bg : Nat → Nat → Int) (nm dy x y : Int) : Prop := ∀ i, i < n → okB hx hy bg nm dy x y i
def hrOk (hx hy : Nat → Int) : Prop := ∀ i, i < 4 → (0 ≤ hx i ∧ hx i ≤ 15) ∧ (0 ≤ hy i ∧ hy i ≤ 15)
theorem fit_R {hx hy : Nat → Int} {n : Nat} {bg : Nat → Nat → Int} (hh : hrOk hx hy) (vb : VBr n bg) {i : Nat} (hi : i < n) {x y : Int} (qx : 0 ≤ x ∧ x ≤ 15) (qy : 0 ≤ y ∧ y ≤ 15) : (-270 ≤ alo hx hy bg i x y ∧ alo hx hy bg i x y ≤ 270) ∧ (-270 ≤ acr hx hy bg i x y ∧ acr hx hy bg i x y ≤ 270) ∧ (-5400 ≤ bg 5 i * alo hx hy bg i x y ∧ bg 5 i * alo hx hy bg i x y ≤ 5400) := by
  obtain ⟨v0, v1, v2, v3, v4, v5⟩ := vb i hi
  obtain ⟨w0, w1⟩ := hh (bg 0 i).toNat (by omega)
  have m1 := mul_bnd (a := bg 3 i) (b := x - hx (bg 0 i).toNat) (u := 9) (v := 15) (by omega) (by omega)
  have m2 := mul_bnd (a := bg 4 i) (b := y - hy (bg 0 i).toNat) (u := 9) (v := 15) (by omega) (by omega)
  have m3 := mul_bnd (a := bg 3 i) (b := y - hy (bg 0 i).toNat) (u := 9) (v := 15) (by omega) (by omega)
  have m4 := mul_bnd (a := bg 4 i) (b := x - hx (bg 0 i).toNat) (u := 9) (v := 15) (by omega) (by omega)
  have n1 : -270 ≤ alo hx hy bg i x y ∧ alo hx hy bg i x y ≤ 270 := by unfold alo; omega
  have n2 : -270 ≤ acr hx hy bg i x y ∧ acr hx hy bg i x y ≤ 270 := by unfold acr; omega
  have m5 := mul_bnd (a := bg 5 i) (b := alo hx hy bg i x y) (u := 20) (v := 270) (by omega) (by omega)
  exact ⟨n1, n2, by omega⟩
theorem c_Places_fits {D : Nat} {h : St} {K : Int → St → Prop} {n : Nat} {bg : Nat → Nat → Int} (cb : CBr h n bg) (vb : VBr n bg) (hh : hrOk (h 86) (h 87)) {i : Nat} (hi : i < n) {x y : Int} (qx : 0 ≤ x ∧ x ≤ 15) (qy : 0 ≤ y ∧ y ≤ 15) (k : K (b2i (bfit (h 86) (h 87) bg i x y)) h) : mwpI (D + 2) m_Places_fits [vR 85, vI i, vI x, vI y] h K := by
  have hn := cb.2.1
  obtain ⟨c0, c1, c2, c3, c4, c5⟩ := cb.2.2 i hi
  obtain ⟨v0, v1, v2, v3, v4, v5⟩ := vb i hi
  obtain ⟨f1, f2, f3⟩ := fit_R hh vb hi qx qy
  refine mI_intro b_Places_fits rfl (s_Places_fits_0 (d := D) (i : Int) x y h K ?_)
  rw [Int.toNat_natCast, c0, c3, c4, c5]
  have ea : bg 3 i * (x - h 86 (bg 0 i).toNat) + bg 4 i * (y - h 87 (bg 0 i).toNat) = alo (h 86) (h 87) bg i x y := rfl
  have eb : bg 3 i * (y - h 87 (bg 0 i).toNat) - bg 4 i * (x - h 86 (bg 0 i).toNat) = acr (h 86) (h 87) bg i x y := rfl
  rw [ea, eb]
  refine ⟨by omega, by omega, by omega, ⟨⟨by omega, by omega⟩, fun _ => ⟨⟨by omega, by omega⟩, ⟨by omega, by omega⟩⟩⟩, ?_⟩
  rw [b2i_congr (q := bfit (h 86) (h 87) bg i x y) (by unfold bfit; omega)]
  exact k
theorem c_Places_fitsAll {D : Nat} {h : St} {K : Int → St → Prop} {n : Nat} {bg : Nat → Nat → Int} (cb : CBr h n bg) (vb : VBr n bg) (hh : hrOk (h 86) (h 87)) {nm dy x y : Int} (r1 : inR nm) (r2 : inR dy) (qx : 0 ≤ x ∧ x ≤ 15) (qy : 0 ≤ y ∧ y ≤ 15) (k : K (b2i (fitsA (h 86) (h 87) n bg nm dy x y)) h) : mwpI (D + 3) m_Places_fitsAll [vR 85, vI nm, vI dy, vI x, vI y] h K := by
  have hn := cb.2.1
  have h8 := cb.1
  have lp : ∀ (m b : Nat), b + m = n → (∀ i, i < b → okB (h 86) (h 87) bg nm dy x y i) → wI (D + 2) m_Places_fitsAll 3 [(0, vR 85), (1, vI nm), (2, vI dy), (3, vI x), (4, vI y), (5, vI (b : Int))] [] h K := by
    intro m
    induction m with
    | zero =>
      intro b hb ok
      have e : b = n := by omega
      subst e
      rw [b2i_t (p := fitsA (h 86) (h 87) b bg nm dy x y) ok] at k
      exact s_Places_fitsAll_3 _ _ _ _ _ h K ⟨⟨by omega, by omega⟩, ⟨by omega, by omega⟩, fun _ => k, fun z => absurd (by omega) z⟩
    | succ m ih =>
      intro b hb ok
      obtain ⟨c0, c1, c2, c3, c4, c5⟩ := cb.2.2 b (by omega)
      obtain ⟨v0, v1, v2, v3, v4, v5⟩ := vb b (by omega)
      refine s_Places_fitsAll_3 _ _ _ _ _ h K ?_
      rw [Int.toNat_natCast, c1, c2]
      have nx : okB (h 86) (h 87) bg nm dy x y b → ∀ i, i < b + 1 → okB (h 86) (h 87) bg nm dy x y i := fun o i hi => by
        by_cases e : i = b
        · subst e; exact o
        · exact ok i (by omega)
      refine ⟨⟨by omega, by omega⟩, ⟨by omega, by omega⟩, fun z => by omega, fun _ => ⟨by omega, ⟨by omega, by omega⟩, r1, fun z => ?_, fun z => ⟨⟨by omega, by omega⟩, r2, fun z2 => ?_, fun z2 => c_Places_fits cb vb hh (by omega) qx qy ⟨b2i_R, fun z3 => ?_, fun z3 => ?_⟩⟩⟩⟩
      · exact ih (b + 1) (by omega) (nx (fun q _ => absurd q z))
      · exact ih (b + 1) (by omega) (nx (fun _ q => absurd q z2))
      · exact ih (b + 1) (by omega) (nx (fun _ _ => b2i_ne0.mp z3))
      · have e : ¬ fitsA (h 86) (h 87) n bg nm dy x y := fun q => z3 (b2i_ne0.mpr (q b (by omega) (by omega) (by omega)))
        rw [b2i_f e] at k
        exact k
  exact mI_intro b_Places_fitsAll rfl (s_Places_fitsAll_0 (d := D) _ _ _ _ h K (lp n 0 (by omega) (fun i hi => absurd hi (Nat.not_lt_zero i))))
theorem c_M_fits {D : Nat} {h : St} {K : Int → St → Prop} {n : Nat} {bg : Nat → Nat → Int} (mb : MBr h n bg) (vb : VBr n bg) {hx hy : Nat → Int} (hh : hrOk hx hy) (ex : ∀ i, i < 4 → h 123 i = hx i ∧ h 124 i = hy i) {nm dy x y : Int} (r1 : inR nm) (r2 : inR dy) (qx : 0 ≤ x ∧ x ≤ 15) (qy : 0 ≤ y ∧ y ≤ 15) (k : K (b2i (fitsA hx hy n bg nm dy x y)) h) : mwpI (D + 2) m_M_fits [vR 109, vI nm, vI dy, vI x, vI y] h K := by
  have hn := mb.2.1
  have h8 := mb.1
  have lp : ∀ (m b : Nat), b + m = n → (∀ i, i < b → okB hx hy bg nm dy x y i) → wI (D + 1) m_M_fits 3 [(0, vR 109), (1, vI nm), (2, vI dy), (3, vI x), (4, vI y), (5, vI (b : Int))] [] h K := by
    intro m
    induction m with
    | zero =>
      intro b hb ok
      have e : b = n := by omega
      subst e
      rw [b2i_t (p := fitsA hx hy b bg nm dy x y) ok] at k
      exact s_M_fits_3 _ _ _ _ _ h K ⟨⟨by omega, by omega⟩, ⟨by omega, by omega⟩, fun _ => k, fun z => absurd (by omega) z⟩
    | succ m ih =>
      intro b hb ok
      have hb2 : b < n := by omega
      obtain ⟨c0, c1, c2, c3, c4, c5⟩ := mb.2.2 b (by omega)
      obtain ⟨v0, v1, v2, v3, v4, v5⟩ := vb b (by omega)
      obtain ⟨f1, f2, f3⟩ := fit_R hh vb hb2 qx qy
      obtain ⟨x1, x2⟩ := ex (bg 0 b).toNat (by omega)
      refine s_M_fits_3 _ _ _ _ _ h K ?_
      rw [show (6 * (b : Int)).toNat = 6 * b by omega, show (6 * (b : Int) + 1).toNat = 6 * b + 1 by omega, show (6 * (b : Int) + 2).toNat = 6 * b + 2 by omega, show (6 * (b : Int) + 3).toNat = 6 * b + 3 by omega, show (6 * (b : Int) + 4).toNat = 6 * b + 4 by omega, show (6 * (b : Int) + 5).toNat = 6 * b + 5 by omega, c0, c1, c2, c3, c4, c5, x1, x2]
      have ea : bg 3 b * (x - hx (bg 0 b).toNat) + bg 4 b * (y - hy (bg 0 b).toNat) = alo hx hy bg b x y := rfl
      have eb : bg 3 b * (y - hy (bg 0 b).toNat) - bg 4 b * (x - hx (bg 0 b).toNat) = acr hx hy bg b x y := rfl
      rw [ea, eb]
      have nx : okB hx hy bg nm dy x y b → ∀ i, i < b + 1 → okB hx hy bg nm dy x y i := fun o i hi => by
        by_cases e : i = b
        · subst e; exact o
        · exact ok i (by omega)
      have no : bg 1 b = nm → bg 2 b = dy → ¬ bfit hx hy bg b x y → K 0 h := fun q1 q2 q3 => by
        have e : ¬ fitsA hx hy n bg nm dy x y := fun q => q3 (q b hb2 q1 q2)
        rw [b2i_f e] at k
        exact k
      refine ⟨⟨by omega, by omega⟩, ⟨by omega, by omega⟩, fun z => by omega, fun _ => ⟨by omega, ⟨by omega, by omega⟩, r1, fun z => ih (b + 1) (by omega) (nx (fun q _ => absurd q z)), fun z => ⟨by omega, ⟨by omega, by omega⟩, r2, fun z2 => ?_, fun z2 => ih (b + 1) (by omega) (nx (fun _ q => absurd q z2))⟩⟩⟩
      refine ⟨by omega, by omega, by omega, by omega, ⟨by omega, by omega⟩, fun z3 => no (by omega) z2 (fun q => by have := q.1; omega), fun z3 => ⟨by omega, by omega, ⟨by omega, by omega⟩, ⟨by omega, by omega⟩, fun z4 => ih (b + 1) (by omega) (nx (fun _ _ => ⟨by omega, z4⟩)), fun z4 => no (by omega) z2 (fun q => z4 q.2)⟩⟩
  exact mI_intro b_M_fits rfl (s_M_fits_0 (d := D) _ _ _ _ h K (lp n 0 (by omega) (fun i hi => absurd hi (Nat.not_lt_zero i))))
theorem RHr_ok {h : St} (r : RHr h) : hrOk (h 86) (h 87) ∧ ∀ i, i < 4 → h 123 i = h 86 i ∧ h 124 i = h 87 i :=
  ⟨fun i hi => ⟨(r i hi).2.2.1, (r i hi).2.2.2⟩, fun i hi => ⟨(r i hi).1.symm, (r i hi).2.1.symm⟩⟩
theorem P_isIn {KK : Int → Int → St → Prop} {h : St} (hr : Rel h) {a1 a2 a3 a4 : Int} (r1 : inR a1) (r2 : inR a2) (r3 : inR a3) (r4 : inR a4) (k : ∀ z h2, inR z → Rel h2 → KK z z h2) : mwpI 40 m_C_isIn [vR 0, vI a1, vI a2, vI a3, vI a4] h (fun z h1 => mwpI 40 m_M_isIn [vR 109, vI a1, vI a2, vI a3, vI a4] h1 (fun z2 h2 => KK z z2 h2)) := by
  obtain ⟨c1, c2, c3, c4, c5, ⟨n, bg, cb, mb, vb⟩, c9⟩ := id hr
  obtain ⟨hh, ex⟩ := RHr_ok c5
  have kb := k (-1) h (by decide) hr
  have bad : ¬ ((0 ≤ a1 ∧ a1 ≤ 11) ∧ (0 ≤ a2 ∧ a2 ≤ 19) ∧ ((0 ≤ a3 ∧ a3 ≤ 15) ∧ (0 ≤ a4 ∧ a4 ≤ 15))) → mwpI 40 m_M_isIn [vR 109, vI a1, vI a2, vI a3, vI a4] h (fun z2 h2 => KK (-1) z2 h2) := fun q =>
    mI_intro b_M_isIn rfl (s_M_isIn_0 (d := 37) a1 a2 a3 a4 _ _ ⟨r1, fun _ => kb, fun q1 => ⟨r2, fun _ => kb, fun q2 => ⟨r3, r4, fun q3 => absurd ⟨q1, q2, q3⟩ q, fun _ => kb⟩⟩⟩)
  refine mI_intro b_C_isIn rfl (s_C_isIn_0 (d := 36) a1 a2 a3 a4 h _ ⟨r1, fun q => bad (fun z => q z.1), fun q1 => ⟨r2, fun q => bad (fun z => q z.2.1), fun q2 => ⟨r3, r4, fun q3 => ?_, fun q => bad (fun z => q z.2.2)⟩⟩⟩)
  refine c_Places_fitsAll cb vb hh r1 r2 q3.1 q3.2 ⟨b2i_R, ?_⟩
  refine mI_intro b_M_isIn rfl (s_M_isIn_0 (d := 37) a1 a2 a3 a4 _ _ ⟨r1, fun q => absurd q1 q, fun q1 => ⟨r2, fun q => absurd q2 q, fun q2 => ⟨r3, r4, fun _ => ?_, fun q => absurd q3 q⟩⟩⟩)
  refine c_M_fits mb vb hh ex r1 r2 q3.1 q3.2 ⟨b2i_R, k _ _ b2i_R hr⟩
