theorem s_Orders_isTakenUp_0 {d : Nat}  (x2 x3 : Int) (h : St) (K : Int → St → Prop) (F : (0 ≤ x3 ∧ x3 < 60) ∧ (0 ≤ x2 ∧ x2 < 60) ∧ (inR (h 2 x3.toNat)) ∧ (inR (h 3 x2.toNat)) ∧ (((h 2 x3.toNat) = (h 3 x2.toNat) → (((inR ((h 4 x3.toNat) - (h 4 x2.toNat))) ∧ (((h 4 x3.toNat) - (h 4 x2.toNat)) ≠ 0 → ((¬ (((h 4 x3.toNat) - (h 4 x2.toNat)) ≤ 0) → ((inR (h 77 0)))))))) ∧ (K (b2i (((((h 4 x3.toNat) - (h 4 x2.toNat)) ≠ 0) ∧ (¬ (((h 4 x3.toNat) - (h 4 x2.toNat)) ≤ 0) ∧ (¬ ((h 77 0) < ((h 4 x3.toNat) - (h 4 x2.toNat)))))) ∨ (¬ (((h 4 x3.toNat) - (h 4 x2.toNat)) ≠ 0) ∧ (¬ (x3 ≤ x2))))) h)) ∧ (¬ ((h 2 x3.toNat) = (h 3 x2.toNat)) → (K 0 h)))) : wI d m_Orders_isTakenUp 0 [(0, vR 77), (1, vR 1), (2, vI x2), (3, vI x3)] [] h K := by
  refine w_aload_n rfl rfl ?_
  refine w_getR rfl f_Orders_37 rfl rfl rfl rfl rfl ?_
  refine w_iload_n rfl rfl ?_
  obtain ⟨b1, F⟩ := F
  refine w_iaload rfl rfl rfl b1 ?_
  refine w_aload_n rfl rfl ?_
  refine w_getR rfl f_Orders_34 rfl rfl rfl rfl rfl ?_
  refine w_iload_n rfl rfl ?_
  obtain ⟨b2, F⟩ := F
  refine w_iaload rfl rfl rfl b2 ?_
  obtain ⟨b3, F⟩ := F
  obtain ⟨b4, F⟩ := F
  refine w_icmp_eq (tgt := 17) rfl (by decide) ⟨b3, b4⟩ (fun q5 => ?_) (fun q5 => ?_)
  · replace F := F.1 q5
    refine w_aload_n rfl rfl ?_
    refine w_getR rfl f_Orders_43 rfl rfl rfl rfl rfl ?_
    refine w_iload_n rfl rfl ?_
    refine w_iaload rfl rfl rfl b1 ?_
    refine w_aload_n rfl rfl ?_
    refine w_getR rfl f_Orders_43 rfl rfl rfl rfl rfl ?_
    refine w_iload_n rfl rfl ?_
    refine w_iaload rfl rfl rfl b2 ?_
    refine w_isub rfl ?_
    refine w_istore rfl rfl rfl rfl (w_ls (ls2 := [(0, vR 77), (1, vR 1), (2, vI x2), (3, vI x3), (4, vI ((h 4 x3.toNat) - (h 4 x2.toNat)))]) rfl ?_)
    refine w_iload rfl rfl ?_
    obtain ⟨G, F⟩ := F
    have J : ∀ (t12 : Int), t12 = b2i (((((h 4 x3.toNat) - (h 4 x2.toNat)) ≠ 0) ∧ (¬ (((h 4 x3.toNat) - (h 4 x2.toNat)) ≤ 0) ∧ (¬ ((h 77 0) < ((h 4 x3.toNat) - (h 4 x2.toNat)))))) ∨ (¬ (((h 4 x3.toNat) - (h 4 x2.toNat)) ≠ 0) ∧ (¬ (x3 ≤ x2)))) → wI d m_Orders_isTakenUp 69 [(0, vR 77), (1, vR 1), (2, vI x2), (3, vI x3), (4, vI ((h 4 x3.toNat) - (h 4 x2.toNat)))] [vI t12] h K := by
      intro t12 et12
      subst et12
      exact w_zret rfl rfl b2i_01 ⟨rfl, rfl, _, rfl, F⟩
    obtain ⟨b6, ga_⟩ := G
    refine w_if_ne (tgt := 50) rfl (by decide) b6 (fun q7 => ?_) (fun q7 => ?_)
    · have G := ga_ q7
      have gb_ := G
      refine w_iload rfl rfl ?_
      refine w_if_le (tgt := 68) rfl (by decide) b6 (fun q8 => ?_) (fun q8 => ?_)
      · refine w_iconst rfl ?_
        exact J _ (b2i_f (fun z => z.elim (fun y => (fun z => z.1 q8) y.2) (fun y => y.1 q7))).symm
      · have G := gb_ q8
        have b9 := G
        refine w_iload rfl rfl ?_
        refine w_aload_n rfl rfl ?_
        refine w_getI rfl f_Orders_9 rfl rfl rfl ?_
        refine w_icmp_gt (tgt := 68) rfl (by decide) ⟨b6, b9⟩ (fun q10 => ?_) (fun q10 => ?_)
        · refine w_iconst rfl ?_
          exact J _ (b2i_f (fun z => z.elim (fun y => (fun z => (fun z => z q10) z.2) y.2) (fun y => y.1 q7))).symm
        · refine w_iconst rfl ?_
          refine w_goto (tgt := 69) rfl (by decide) ?_
          exact J _ (b2i_t (Or.inl ⟨q7, ⟨q8, q10⟩⟩)).symm
    · refine w_iload_n rfl rfl ?_
      refine w_iload_n rfl rfl ?_
      refine w_icmp_le (tgt := 46) rfl (by decide) ⟨⟨by omega, by omega⟩, ⟨by omega, by omega⟩⟩ (fun q11 => ?_) (fun q11 => ?_)
      · refine w_iconst rfl ?_
        refine w_goto (tgt := 69) rfl (by decide) ?_
        exact J _ (b2i_f (fun z => z.elim (fun y => q7 y.1) (fun y => (fun z => z q11) y.2))).symm
      · refine w_iconst rfl ?_
        refine w_goto (tgt := 69) rfl (by decide) ?_
        exact J _ (b2i_t (Or.inr ⟨q7, q11⟩)).symm
  · replace F := F.2 q5
    refine w_iconst rfl ?_
    exact w_zret rfl rfl (by decide) ⟨rfl, rfl, _, rfl, F⟩
theorem s_Orders_answers_0 {d : Nat}  (x2 x3 : Int) (h : St) (K : Int → St → Prop) (F : (mwpI (d + 1) m_Orders_isTakenUp [vR 77, vR 1, vI x2, vI x3] h (fun z1 h1 => (((inR z1) ∧ (¬ (z1 = 0) → ((0 ≤ x3 ∧ x3 < 60) ∧ (0 ≤ x2 ∧ x2 < 60) ∧ (inR (h1 3 x3.toNat)) ∧ (inR (h1 2 x2.toNat)))))) ∧ (K (b2i (¬ (z1 = 0) ∧ (¬ ((h1 3 x3.toNat) ≠ (h1 2 x2.toNat))))) h1)))) : wI (d + 1) m_Orders_answers 0 [(0, vR 77), (1, vR 1), (2, vI x2), (3, vI x3)] [] h K := by
  refine w_aload_n rfl rfl ?_
  refine w_aload_n rfl rfl ?_
  refine w_iload_n rfl rfl ?_
  refine w_iload_n rfl rfl ?_
  refine c_VI [vR 1, vI x2, vI x3] [] rfl b_Orders_isTakenUp k_Orders_31 rfl rfl rfl rfl rfl rfl (mwpI_mono (fun z1 h1 F => ?_) F)
  obtain ⟨G, F⟩ := F
  have J : ∀ (t9 : Int), t9 = b2i (¬ (z1 = 0) ∧ (¬ ((h1 3 x3.toNat) ≠ (h1 2 x2.toNat)))) → wI (d + 1) m_Orders_answers 30 [(0, vR 77), (1, vR 1), (2, vI x2), (3, vI x3)] [vI t9] h1 K := by
    intro t9 et9
    subst et9
    exact w_zret rfl rfl b2i_01 ⟨rfl, rfl, _, rfl, F⟩
  obtain ⟨b2, gb_⟩ := G
  refine w_if_eq (tgt := 29) rfl (by decide) b2 (fun q3 => ?_) (fun q3 => ?_)
  · refine w_iconst rfl ?_
    exact J _ (b2i_f (fun z => z.1 q3)).symm
  · have G := gb_ q3
    obtain ⟨b4, b5, b6, b7⟩ := G
    refine w_aload_n rfl rfl ?_
    refine w_getR rfl f_Orders_34 rfl rfl rfl rfl rfl ?_
    refine w_iload_n rfl rfl ?_
    refine w_iaload rfl rfl rfl b4 ?_
    refine w_aload_n rfl rfl ?_
    refine w_getR rfl f_Orders_37 rfl rfl rfl rfl rfl ?_
    refine w_iload_n rfl rfl ?_
    refine w_iaload rfl rfl rfl b5 ?_
    refine w_icmp_ne (tgt := 29) rfl (by decide) ⟨b6, b7⟩ (fun q8 => ?_) (fun q8 => ?_)
    · refine w_iconst rfl ?_
      exact J _ (b2i_f (fun z => (fun z => z q8) z.2)).symm
    · refine w_iconst rfl ?_
      refine w_goto (tgt := 30) rfl (by decide) ?_
      exact J _ (b2i_t ⟨q3, q8⟩).symm
theorem s_Orders_passesOn_0 {d : Nat}  (x2 x3 : Int) (h : St) (K : Int → St → Prop) (F : (mwpI (d + 1) m_Orders_isTakenUp [vR 77, vR 1, vI x2, vI x3] h (fun z1 h1 => (((inR z1) ∧ (¬ (z1 = 0) → ((0 ≤ x3 ∧ x3 < 60) ∧ (0 ≤ x2 ∧ x2 < 60) ∧ (inR (h1 3 x3.toNat)) ∧ (inR (h1 2 x2.toNat)) ∧ (¬ ((h1 3 x3.toNat) = (h1 2 x2.toNat)) → ((inR (h1 5 x3.toNat)) ∧ (inR (h1 5 x2.toNat)))))))) ∧ (K (b2i (¬ (z1 = 0) ∧ (¬ ((h1 3 x3.toNat) = (h1 2 x2.toNat)) ∧ (¬ ((h1 5 x3.toNat) ≠ (h1 5 x2.toNat)))))) h1)))) : wI (d + 1) m_Orders_passesOn 0 [(0, vR 77), (1, vR 1), (2, vI x2), (3, vI x3)] [] h K := by
  refine w_aload_n rfl rfl ?_
  refine w_aload_n rfl rfl ?_
  refine w_iload_n rfl rfl ?_
  refine w_iload_n rfl rfl ?_
  refine c_VI [vR 1, vI x2, vI x3] [] rfl b_Orders_isTakenUp k_Orders_31 rfl rfl rfl rfl rfl rfl (mwpI_mono (fun z1 h1 F => ?_) F)
  obtain ⟨G, F⟩ := F
  have J : ∀ (t12 : Int), t12 = b2i (¬ (z1 = 0) ∧ (¬ ((h1 3 x3.toNat) = (h1 2 x2.toNat)) ∧ (¬ ((h1 5 x3.toNat) ≠ (h1 5 x2.toNat))))) → wI (d + 1) m_Orders_passesOn 45 [(0, vR 77), (1, vR 1), (2, vI x2), (3, vI x3)] [vI t12] h1 K := by
    intro t12 et12
    subst et12
    exact w_zret rfl rfl b2i_01 ⟨rfl, rfl, _, rfl, F⟩
  obtain ⟨b2, gb_⟩ := G
  refine w_if_eq (tgt := 44) rfl (by decide) b2 (fun q3 => ?_) (fun q3 => ?_)
  · refine w_iconst rfl ?_
    exact J _ (b2i_f (fun z => z.1 q3)).symm
  · have G := gb_ q3
    obtain ⟨b4, b5, b6, b7, gb_⟩ := G
    refine w_aload_n rfl rfl ?_
    refine w_getR rfl f_Orders_34 rfl rfl rfl rfl rfl ?_
    refine w_iload_n rfl rfl ?_
    refine w_iaload rfl rfl rfl b4 ?_
    refine w_aload_n rfl rfl ?_
    refine w_getR rfl f_Orders_37 rfl rfl rfl rfl rfl ?_
    refine w_iload_n rfl rfl ?_
    refine w_iaload rfl rfl rfl b5 ?_
    refine w_icmp_eq (tgt := 44) rfl (by decide) ⟨b6, b7⟩ (fun q8 => ?_) (fun q8 => ?_)
    · refine w_iconst rfl ?_
      exact J _ (b2i_f (fun z => (fun z => z.1 q8) z.2)).symm
    · have G := gb_ q8
      obtain ⟨b9, b10⟩ := G
      refine w_aload_n rfl rfl ?_
      refine w_getR rfl f_Orders_40 rfl rfl rfl rfl rfl ?_
      refine w_iload_n rfl rfl ?_
      refine w_iaload rfl rfl rfl b4 ?_
      refine w_aload_n rfl rfl ?_
      refine w_getR rfl f_Orders_40 rfl rfl rfl rfl rfl ?_
      refine w_iload_n rfl rfl ?_
      refine w_iaload rfl rfl rfl b5 ?_
      refine w_icmp_ne (tgt := 44) rfl (by decide) ⟨b9, b10⟩ (fun q11 => ?_) (fun q11 => ?_)
      · refine w_iconst rfl ?_
        exact J _ (b2i_f (fun z => (fun z => (fun z => z q11) z.2) z.2)).symm
      · refine w_iconst rfl ?_
        refine w_goto (tgt := 45) rfl (by decide) ?_
        exact J _ (b2i_t ⟨q3, ⟨q8, q11⟩⟩).symm
theorem s_Orders_fateOf_0 {d : Nat}  (x2 : Int) (h : St) (K : Int → St → Prop) (F : (wI (d + 2) m_Orders_fateOf 5 [(0, vR 77), (1, vR 1), (2, vI x2), (3, vI 0), (4, vI 0)] [] h K)) : wI (d + 2) m_Orders_fateOf 0 [(0, vR 77), (1, vR 1), (2, vI x2)] [] h K := by
  refine w_iconst rfl ?_
  refine w_istore_n rfl rfl rfl rfl (w_ls (ls2 := [(0, vR 77), (1, vR 1), (2, vI x2), (3, vI 0)]) rfl ?_)
  refine w_iconst rfl ?_
  refine w_istore rfl rfl rfl rfl (w_ls (ls2 := [(0, vR 77), (1, vR 1), (2, vI x2), (3, vI 0), (4, vI 0)]) rfl ?_)
  exact F
theorem s_Orders_fateOf_5 {d : Nat}  (x2 x3 x4 : Int) (h : St) (K : Int → St → Prop) (F : (inR x4) ∧ (inR (h 1 6)) ∧ (((h 1 6) ≤ x4 → (K x3 h)) ∧ (¬ ((h 1 6) ≤ x4) → (mwpI (d + 2) m_Orders_answers [vR 77, vR 1, vI x2, vI x4] h (fun z4 h4 => (inR z4) ∧ ((z4 = 0 → (mwpI (d + 2) m_Orders_passesOn [vR 77, vR 1, vI x2, vI x4] h4 (fun z7 h7 => (inR z7) ∧ ((z7 = 0 → (wI (d + 2) m_Orders_fateOf 5 [(0, vR 77), (1, vR 1), (2, vI x2), (3, vI x3), (4, vI (x4 + 1))] [] h7 K)) ∧ (¬ (z7 = 0) → (wI (d + 2) m_Orders_fateOf 5 [(0, vR 77), (1, vR 1), (2, vI x2), (3, vI (or3 x3 2)), (4, vI (x4 + 1))] [] h7 K)))))) ∧ (¬ (z4 = 0) → (wI (d + 2) m_Orders_fateOf 5 [(0, vR 77), (1, vR 1), (2, vI x2), (3, vI (or3 x3 1)), (4, vI (x4 + 1))] [] h4 K)))))))) : wI (d + 2) m_Orders_fateOf 5 [(0, vR 77), (1, vR 1), (2, vI x2), (3, vI x3), (4, vI x4)] [] h K := by
  refine w_iload rfl rfl ?_
  refine w_aload_n rfl rfl ?_
  refine w_getI rfl f_Orders_19 rfl rfl rfl ?_
  obtain ⟨b1, F⟩ := F
  obtain ⟨b2, F⟩ := F
  refine w_icmp_ge (tgt := 53) rfl (by decide) ⟨b1, b2⟩ (fun q3 => ?_) (fun q3 => ?_)
  · replace F := F.1 q3
    refine w_iload_n rfl rfl ?_
    exact w_iret rfl rfl ⟨rfl, rfl, _, rfl, F⟩
  · replace F := F.2 q3
    refine w_aload_n rfl rfl ?_
    refine w_aload_n rfl rfl ?_
    refine w_iload_n rfl rfl ?_
    refine w_iload rfl rfl ?_
    refine c_VI [vR 1, vI x2, vI x4] [] rfl b_Orders_answers k_Orders_24 rfl rfl rfl rfl rfl rfl (mwpI_mono (fun z4 h4 F => ?_) F)
    obtain ⟨b5, F⟩ := F
    refine w_if_eq (tgt := 32) rfl (by decide) b5 (fun q6 => ?_) (fun q6 => ?_)
    · replace F := F.1 q6
      refine w_aload_n rfl rfl ?_
      refine w_aload_n rfl rfl ?_
      refine w_iload_n rfl rfl ?_
      refine w_iload rfl rfl ?_
      refine c_VI [vR 1, vI x2, vI x4] [] rfl b_Orders_passesOn k_Orders_28 rfl rfl rfl rfl rfl rfl (mwpI_mono (fun z7 h7 F => ?_) F)
      obtain ⟨b8, F⟩ := F
      refine w_if_eq (tgt := 47) rfl (by decide) b8 (fun q9 => ?_) (fun q9 => ?_)
      · replace F := F.1 q9
        refine w_iinc rfl rfl rfl rfl rfl (w_ls (ls2 := [(0, vR 77), (1, vR 1), (2, vI x2), (3, vI x3), (4, vI (x4 + 1))]) rfl ?_)
        refine w_goto (tgt := 5) rfl (by decide) ?_
        exact F
      · replace F := F.2 q9
        refine w_iload_n rfl rfl ?_
        refine w_iconst rfl ?_
        refine w_ior rfl ?_
        refine w_istore_n rfl rfl rfl rfl (w_ls (ls2 := [(0, vR 77), (1, vR 1), (2, vI x2), (3, vI (or3 x3 2)), (4, vI x4)]) rfl ?_)
        refine w_iinc rfl rfl rfl rfl rfl (w_ls (ls2 := [(0, vR 77), (1, vR 1), (2, vI x2), (3, vI (or3 x3 2)), (4, vI (x4 + 1))]) rfl ?_)
        refine w_goto (tgt := 5) rfl (by decide) ?_
        exact F
    · replace F := F.2 q6
      refine w_iload_n rfl rfl ?_
      refine w_iconst rfl ?_
      refine w_ior rfl ?_
      refine w_istore_n rfl rfl rfl rfl (w_ls (ls2 := [(0, vR 77), (1, vR 1), (2, vI x2), (3, vI (or3 x3 1)), (4, vI x4)]) rfl ?_)
      refine w_goto (tgt := 47) rfl (by decide) ?_
      refine w_iinc rfl rfl rfl rfl rfl (w_ls (ls2 := [(0, vR 77), (1, vR 1), (2, vI x2), (3, vI (or3 x3 1)), (4, vI (x4 + 1))]) rfl ?_)
      refine w_goto (tgt := 5) rfl (by decide) ?_
      exact F
theorem s_C_fate_0 {d : Nat}  (x1 : Int) (h : St) (K : Int → St → Prop) (F : (inR x1) ∧ (0 ≤ h 1 6 ∧ h 1 6 ≤ 60) ∧ ((0 ≤ x1 ∧ x1 < h 1 6 → (mwpI (d + 3) m_Orders_fateOf [vR 77, vR 1, vI x1] h (fun z4 h4 => (K z4 h4)))) ∧ (¬ (0 ≤ x1 ∧ x1 < h 1 6) → (K ((-1)) h)))) : wI (d + 3) m_C_fate 0 [(0, vR 0), (1, vI x1)] [] h K := by
  refine w_aload_n rfl rfl ?_
  refine w_iload_n rfl rfl ?_
  obtain ⟨b1, F⟩ := F
  obtain ⟨b2, F⟩ := F
  refine c_VI [vI x1] [] rfl b_C_isCall k_C_144 rfl rfl rfl rfl rfl rfl (c_C_isCall b1 b2 ?_)
  refine w_ifne_b (tgt := 10) rfl (by decide) (fun q3 => ?_) (fun q3 => ?_)
  · replace F := F.1 q3
    refine w_aload_n rfl rfl ?_
    refine w_getR rfl f_C_47 rfl rfl rfl rfl rfl ?_
    refine w_aload_n rfl rfl ?_
    refine w_getR rfl f_C_10 rfl rfl rfl rfl rfl ?_
    refine w_iload_n rfl rfl ?_
    refine c_VI [vR 1, vI x1] [] rfl b_Orders_fateOf k_C_221 rfl rfl rfl rfl rfl rfl (mwpI_mono (fun z4 h4 F => ?_) F)
    exact w_iret rfl rfl ⟨rfl, rfl, _, rfl, F⟩
  · replace F := F.2 q3
    refine w_iconst rfl ?_
    exact w_iret rfl rfl ⟨rfl, rfl, _, rfl, F⟩
theorem s_M_isBehind_0 {d : Nat}  (x1 x2 : Int) (h : St) (K : Int → St → Prop) (F : (0 ≤ x2 ∧ x2 < 180) ∧ (0 ≤ x1 ∧ x1 < 180) ∧ (((inR (h 111 x2.toNat)) ∧ (inR (h 112 x1.toNat)) ∧ (¬ ((h 111 x2.toNat) ≠ (h 112 x1.toNat)) → ((inR ((h 113 x2.toNat) - (h 113 x1.toNat))) ∧ (((h 113 x2.toNat) - (h 113 x1.toNat)) ≠ 0 → ((inR (h 109 15)))))))) ∧ (K (b2i (¬ ((h 111 x2.toNat) ≠ (h 112 x1.toNat)) ∧ (((((h 113 x2.toNat) - (h 113 x1.toNat)) ≠ 0) ∧ (1 ≤ ((h 113 x2.toNat) - (h 113 x1.toNat)) ∧ ((h 113 x2.toNat) - (h 113 x1.toNat)) ≤ (h 109 15))) ∨ (¬ (((h 113 x2.toNat) - (h 113 x1.toNat)) ≠ 0) ∧ (¬ (x2 ≤ x1)))))) h)) : wI (d + 1) m_M_isBehind 0 [(0, vR 109), (1, vI x1), (2, vI x2)] [] h K := by
  refine w_aload_n rfl rfl ?_
  refine w_getR rfl f_M_19 rfl rfl rfl rfl rfl ?_
  refine w_iload_n rfl rfl ?_
  obtain ⟨b1, F⟩ := F
  refine w_iaload rfl rfl rfl b1 ?_
  refine w_aload_n rfl rfl ?_
  refine w_getR rfl f_M_19 rfl rfl rfl rfl rfl ?_
  refine w_iload_n rfl rfl ?_
  obtain ⟨b2, F⟩ := F
  refine w_iaload rfl rfl rfl b2 ?_
  refine w_isub rfl ?_
  refine w_istore_n rfl rfl rfl rfl (w_ls (ls2 := [(0, vR 109), (1, vI x1), (2, vI x2), (3, vI ((h 113 x2.toNat) - (h 113 x1.toNat)))]) rfl ?_)
  refine w_aload_n rfl rfl ?_
  refine w_getR rfl f_M_13 rfl rfl rfl rfl rfl ?_
  refine w_iload_n rfl rfl ?_
  refine w_iaload rfl rfl rfl b1 ?_
  refine w_aload_n rfl rfl ?_
  refine w_getR rfl f_M_16 rfl rfl rfl rfl rfl ?_
  refine w_iload_n rfl rfl ?_
  refine w_iaload rfl rfl rfl b2 ?_
  obtain ⟨G, F⟩ := F
  have J : ∀ (t11 : Int), t11 = b2i (¬ ((h 111 x2.toNat) ≠ (h 112 x1.toNat)) ∧ (((((h 113 x2.toNat) - (h 113 x1.toNat)) ≠ 0) ∧ (1 ≤ ((h 113 x2.toNat) - (h 113 x1.toNat)) ∧ ((h 113 x2.toNat) - (h 113 x1.toNat)) ≤ (h 109 15))) ∨ (¬ (((h 113 x2.toNat) - (h 113 x1.toNat)) ≠ 0) ∧ (¬ (x2 ≤ x1))))) → wI (d + 1) m_M_isBehind 60 [(0, vR 109), (1, vI x1), (2, vI x2), (3, vI ((h 113 x2.toNat) - (h 113 x1.toNat)))] [vI t11] h K := by
    intro t11 et11
    subst et11
    exact w_zret rfl rfl b2i_01 ⟨rfl, rfl, _, rfl, F⟩
  obtain ⟨b3, b4, gb_⟩ := G
  refine w_icmp_ne (tgt := 59) rfl (by decide) ⟨b3, b4⟩ (fun q5 => ?_) (fun q5 => ?_)
  · refine w_iconst rfl ?_
    exact J _ (b2i_f (fun z => z.1 q5)).symm
  · have G := gb_ q5
    obtain ⟨b6, ga_⟩ := G
    refine w_iload_n rfl rfl ?_
    refine w_if_ne (tgt := 41) rfl (by decide) b6 (fun q7 => ?_) (fun q7 => ?_)
    · have G := ga_ q7
      have b8 := G
      refine w_iload_n rfl rfl ?_
      refine w_i2l b6 rfl ?_
      refine w_lconst rfl ?_
      refine w_aload_n rfl rfl ?_
      refine w_getI rfl f_M_53 rfl rfl rfl ?_
      refine w_i2l b8 rfl ?_
      refine c_SI [vJ ((h 113 x2.toNat) - (h 113 x1.toNat)), vJ 1, vJ (h 109 15)] [] rfl b_M_in k_M_130 rfl rfl rfl (c_M_in (inL_of b6) (by decide) (inL_of b8) ?_)
      refine w_ifeq_b (tgt := 59) rfl (by decide) (fun q9 => ?_) (fun q9 => ?_)
      · refine w_iconst rfl ?_
        exact J _ (b2i_f (fun z => (fun z => z.elim (fun y => q9 y.2) (fun y => y.1 q7)) z.2)).symm
      · refine w_iconst rfl ?_
        refine w_goto (tgt := 60) rfl (by decide) ?_
        exact J _ (b2i_t ⟨q5, (Or.inl ⟨q7, q9⟩)⟩).symm
    · refine w_iload_n rfl rfl ?_
      refine w_iload_n rfl rfl ?_
      refine w_icmp_le (tgt := 59) rfl (by decide) ⟨⟨by omega, by omega⟩, ⟨by omega, by omega⟩⟩ (fun q10 => ?_) (fun q10 => ?_)
      · refine w_iconst rfl ?_
        exact J _ (b2i_f (fun z => (fun z => z.elim (fun y => q7 y.1) (fun y => (fun z => z q10) y.2)) z.2)).symm
      · refine w_goto (tgt := 55) rfl (by decide) ?_
        refine w_iconst rfl ?_
        refine w_goto (tgt := 60) rfl (by decide) ?_
        exact J _ (b2i_t ⟨q5, (Or.inr ⟨q7, q10⟩)⟩).symm
theorem s_M_answers_0 {d : Nat}  (x1 x2 : Int) (h : St) (K : Int → St → Prop) (F : (mwpI (d + 2) m_M_isBehind [vR 109, vI x1, vI x2] h (fun z1 h1 => (((inR z1) ∧ (¬ (z1 = 0) → ((0 ≤ x2 ∧ x2 < 180) ∧ (0 ≤ x1 ∧ x1 < 180) ∧ (inR (h1 112 x2.toNat)) ∧ (inR (h1 111 x1.toNat)))))) ∧ (K (b2i (¬ (z1 = 0) ∧ (¬ ((h1 112 x2.toNat) ≠ (h1 111 x1.toNat))))) h1)))) : wI (d + 2) m_M_answers 0 [(0, vR 109), (1, vI x1), (2, vI x2)] [] h K := by
  refine w_aload_n rfl rfl ?_
  refine w_iload_n rfl rfl ?_
  refine w_iload_n rfl rfl ?_
  refine c_VI [vI x1, vI x2] [] rfl b_M_isBehind k_M_242 rfl rfl rfl rfl rfl rfl (mwpI_mono (fun z1 h1 F => ?_) F)
  obtain ⟨G, F⟩ := F
  have J : ∀ (t9 : Int), t9 = b2i (¬ (z1 = 0) ∧ (¬ ((h1 112 x2.toNat) ≠ (h1 111 x1.toNat)))) → wI (d + 2) m_M_answers 29 [(0, vR 109), (1, vI x1), (2, vI x2)] [vI t9] h1 K := by
    intro t9 et9
    subst et9
    exact w_zret rfl rfl b2i_01 ⟨rfl, rfl, _, rfl, F⟩
  obtain ⟨b2, gb_⟩ := G
  refine w_if_eq (tgt := 28) rfl (by decide) b2 (fun q3 => ?_) (fun q3 => ?_)
  · refine w_iconst rfl ?_
    exact J _ (b2i_f (fun z => z.1 q3)).symm
  · have G := gb_ q3
    obtain ⟨b4, b5, b6, b7⟩ := G
    refine w_aload_n rfl rfl ?_
    refine w_getR rfl f_M_16 rfl rfl rfl rfl rfl ?_
    refine w_iload_n rfl rfl ?_
    refine w_iaload rfl rfl rfl b4 ?_
    refine w_aload_n rfl rfl ?_
    refine w_getR rfl f_M_13 rfl rfl rfl rfl rfl ?_
    refine w_iload_n rfl rfl ?_
    refine w_iaload rfl rfl rfl b5 ?_
    refine w_icmp_ne (tgt := 28) rfl (by decide) ⟨b6, b7⟩ (fun q8 => ?_) (fun q8 => ?_)
    · refine w_iconst rfl ?_
      exact J _ (b2i_f (fun z => (fun z => z q8) z.2)).symm
    · refine w_iconst rfl ?_
      refine w_goto (tgt := 29) rfl (by decide) ?_
      exact J _ (b2i_t ⟨q3, q8⟩).symm
theorem s_M_fateOf_0 {d : Nat}  (x1 : Int) (h : St) (K : Int → St → Prop) (F : (wI (d + 3) m_M_fateOf 7 [(0, vR 109), (1, vI x1), (2, vI 0), (3, vI 0), (4, vI 0)] [] h K)) : wI (d + 3) m_M_fateOf 0 [(0, vR 109), (1, vI x1)] [] h K := by
  refine w_iconst rfl ?_
  refine w_istore_n rfl rfl rfl rfl (w_ls (ls2 := [(0, vR 109), (1, vI x1), (2, vI 0)]) rfl ?_)
  refine w_iconst rfl ?_
  refine w_istore_n rfl rfl rfl rfl (w_ls (ls2 := [(0, vR 109), (1, vI x1), (2, vI 0), (3, vI 0)]) rfl ?_)
  refine w_iconst rfl ?_
  refine w_istore rfl rfl rfl rfl (w_ls (ls2 := [(0, vR 109), (1, vI x1), (2, vI 0), (3, vI 0), (4, vI 0)]) rfl ?_)
  exact F
theorem s_M_fateOf_7 {d : Nat}  (x1 x2 x3 x4 : Int) (h : St) (K : Int → St → Prop) (F : (inR x4) ∧ (inR (h 110 0)) ∧ (((h 110 0) ≤ x4 → (((inR x2))) ∧ (((inR x3))) ∧ (K ((b2i (¬ (x2 = 0))) + (cif (x3 = 0) 0 2)) h)) ∧ (¬ ((h 110 0) ≤ x4) → (inR x2) ∧ ((x2 ≠ 0 → (inR x3) ∧ ((x3 ≠ 0 → (wI (d + 3) m_M_fateOf 7 [(0, vR 109), (1, vI x1), (2, vI 1), (3, vI 1), (4, vI (x4 + 1))] [] h K)) ∧ (¬ (x3 ≠ 0) → (mwpI (d + 3) m_M_isBehind [vR 109, vI x1, vI x4] h (fun z14 h14 => (((inR z14) ∧ (¬ (z14 = 0) → ((0 ≤ x4 ∧ x4 < 180) ∧ (0 ≤ x1 ∧ x1 < 180) ∧ (inR (h14 112 x4.toNat)) ∧ (inR (h14 111 x1.toNat)) ∧ (¬ ((h14 112 x4.toNat) = (h14 111 x1.toNat)) → ((inR (h14 114 x4.toNat)) ∧ (inR (h14 114 x1.toNat)))))))) ∧ (wI (d + 3) m_M_fateOf 7 [(0, vR 109), (1, vI x1), (2, vI 1), (3, vI (b2i (¬ (z14 = 0) ∧ (¬ ((h14 112 x4.toNat) = (h14 111 x1.toNat)) ∧ (¬ ((h14 114 x4.toNat) ≠ (h14 114 x1.toNat))))))), (4, vI (x4 + 1))] [] h14 K)))))) ∧ (¬ (x2 ≠ 0) → (mwpI (d + 3) m_M_answers [vR 109, vI x1, vI x4] h (fun z26 h26 => (((inR z26))) ∧ (inR x3) ∧ ((x3 ≠ 0 → (wI (d + 3) m_M_fateOf 7 [(0, vR 109), (1, vI x1), (2, vI (b2i (¬ (z26 = 0)))), (3, vI 1), (4, vI (x4 + 1))] [] h26 K)) ∧ (¬ (x3 ≠ 0) → (mwpI (d + 3) m_M_isBehind [vR 109, vI x1, vI x4] h26 (fun z32 h32 => (((inR z32) ∧ (¬ (z32 = 0) → ((0 ≤ x4 ∧ x4 < 180) ∧ (0 ≤ x1 ∧ x1 < 180) ∧ (inR (h32 112 x4.toNat)) ∧ (inR (h32 111 x1.toNat)) ∧ (¬ ((h32 112 x4.toNat) = (h32 111 x1.toNat)) → ((inR (h32 114 x4.toNat)) ∧ (inR (h32 114 x1.toNat)))))))) ∧ (wI (d + 3) m_M_fateOf 7 [(0, vR 109), (1, vI x1), (2, vI (b2i (¬ (z26 = 0)))), (3, vI (b2i (¬ (z32 = 0) ∧ (¬ ((h32 112 x4.toNat) = (h32 111 x1.toNat)) ∧ (¬ ((h32 114 x4.toNat) ≠ (h32 114 x1.toNat))))))), (4, vI (x4 + 1))] [] h32 K)))))))))))) : wI (d + 3) m_M_fateOf 7 [(0, vR 109), (1, vI x1), (2, vI x2), (3, vI x3), (4, vI x4)] [] h K := by
  refine w_iload rfl rfl ?_
  refine w_aload_n rfl rfl ?_
  refine w_getR rfl f_M_7 rfl rfl rfl rfl rfl ?_
  refine w_iconst rfl ?_
  refine w_iaload rfl rfl rfl ⟨by decide, by decide⟩ ?_
  obtain ⟨b1, F⟩ := F
  obtain ⟨b2, F⟩ := F
  refine w_icmp_ge (tgt := 96) rfl (by decide) ⟨b1, b2⟩ (fun q3 => ?_) (fun q3 => ?_)
  · replace F := F.1 q3
    refine w_iload_n rfl rfl ?_
    obtain ⟨G, F⟩ := F
    have J : ∀ (t6 : Int), t6 = b2i (¬ (x2 = 0)) → wI (d + 3) m_M_fateOf 105 [(0, vR 109), (1, vI x1), (2, vI x2), (3, vI x3), (4, vI x4)] [vI t6] h K := by
      intro t6 et6
      subst et6
      refine w_iload_n rfl rfl ?_
      obtain ⟨G, F⟩ := F
      have J : ∀ (t9 : Int), t9 = cif (x3 = 0) 0 2 → wI (d + 3) m_M_fateOf 114 [(0, vR 109), (1, vI x1), (2, vI x2), (3, vI x3), (4, vI x4)] [vI t9, vI (b2i (¬ (x2 = 0)))] h K := by
        intro t9 et9
        subst et9
        refine w_iadd rfl ?_
        exact w_iret rfl rfl ⟨rfl, rfl, _, rfl, F⟩
      have b7 := G
      refine w_if_eq (tgt := 113) rfl (by decide) b7 (fun q8 => ?_) (fun q8 => ?_)
      · refine w_iconst rfl ?_
        exact J _ (cif_t q8).symm
      · refine w_iconst rfl ?_
        refine w_goto (tgt := 114) rfl (by decide) ?_
        exact J _ (cif_f q8).symm
    have b4 := G
    refine w_if_eq (tgt := 104) rfl (by decide) b4 (fun q5 => ?_) (fun q5 => ?_)
    · refine w_iconst rfl ?_
      exact J _ (b2i_f (fun z => z q5)).symm
    · refine w_iconst rfl ?_
      refine w_goto (tgt := 105) rfl (by decide) ?_
      exact J _ (b2i_t q5).symm
  · replace F := F.2 q3
    refine w_iload_n rfl rfl ?_
    obtain ⟨b10, F⟩ := F
    refine w_if_ne (tgt := 32) rfl (by decide) b10 (fun q11 => ?_) (fun q11 => ?_)
    · replace F := F.1 q11
      refine w_iconst rfl ?_
      refine w_goto (tgt := 37) rfl (by decide) ?_
      refine w_istore_n rfl rfl rfl rfl (w_ls (ls2 := [(0, vR 109), (1, vI x1), (2, vI 1), (3, vI x3), (4, vI x4)]) rfl ?_)
      refine w_iload_n rfl rfl ?_
      obtain ⟨b12, F⟩ := F
      refine w_if_ne (tgt := 84) rfl (by decide) b12 (fun q13 => ?_) (fun q13 => ?_)
      · replace F := F.1 q13
        refine w_iconst rfl ?_
        refine w_goto (tgt := 89) rfl (by decide) ?_
        refine w_istore_n rfl rfl rfl rfl (w_ls (ls2 := [(0, vR 109), (1, vI x1), (2, vI 1), (3, vI 1), (4, vI x4)]) rfl ?_)
        refine w_iinc rfl rfl rfl rfl rfl (w_ls (ls2 := [(0, vR 109), (1, vI x1), (2, vI 1), (3, vI 1), (4, vI (x4 + 1))]) rfl ?_)
        refine w_goto (tgt := 7) rfl (by decide) ?_
        exact F
      · replace F := F.2 q13
        refine w_aload_n rfl rfl ?_
        refine w_iload_n rfl rfl ?_
        refine w_iload rfl rfl ?_
        refine c_VI [vI x1, vI x4] [] rfl b_M_isBehind k_M_242 rfl rfl rfl rfl rfl rfl (mwpI_mono (fun z14 h14 F => ?_) F)
        obtain ⟨G, F⟩ := F
        have J : ∀ (t25 : Int), t25 = b2i (¬ (z14 = 0) ∧ (¬ ((h14 112 x4.toNat) = (h14 111 x1.toNat)) ∧ (¬ ((h14 114 x4.toNat) ≠ (h14 114 x1.toNat))))) → wI (d + 3) m_M_fateOf 89 [(0, vR 109), (1, vI x1), (2, vI 1), (3, vI x3), (4, vI x4)] [vI t25] h14 K := by
          intro t25 et25
          subst et25
          refine w_istore_n rfl rfl rfl rfl (w_ls (ls2 := [(0, vR 109), (1, vI x1), (2, vI 1), (3, vI (b2i (¬ (z14 = 0) ∧ (¬ ((h14 112 x4.toNat) = (h14 111 x1.toNat)) ∧ (¬ ((h14 114 x4.toNat) ≠ (h14 114 x1.toNat))))))), (4, vI x4)]) rfl ?_)
          refine w_iinc rfl rfl rfl rfl rfl (w_ls (ls2 := [(0, vR 109), (1, vI x1), (2, vI 1), (3, vI (b2i (¬ (z14 = 0) ∧ (¬ ((h14 112 x4.toNat) = (h14 111 x1.toNat)) ∧ (¬ ((h14 114 x4.toNat) ≠ (h14 114 x1.toNat))))))), (4, vI (x4 + 1))]) rfl ?_)
          refine w_goto (tgt := 7) rfl (by decide) ?_
          exact F
        obtain ⟨b15, gb_⟩ := G
        refine w_if_eq (tgt := 88) rfl (by decide) b15 (fun q16 => ?_) (fun q16 => ?_)
        · refine w_iconst rfl ?_
          exact J _ (b2i_f (fun z => z.1 q16)).symm
        · have G := gb_ q16
          obtain ⟨b17, b18, b19, b20, gb_⟩ := G
          refine w_aload_n rfl rfl ?_
          refine w_getR rfl f_M_16 rfl rfl rfl rfl rfl ?_
          refine w_iload rfl rfl ?_
          refine w_iaload rfl rfl rfl b17 ?_
          refine w_aload_n rfl rfl ?_
          refine w_getR rfl f_M_13 rfl rfl rfl rfl rfl ?_
          refine w_iload_n rfl rfl ?_
          refine w_iaload rfl rfl rfl b18 ?_
          refine w_icmp_eq (tgt := 88) rfl (by decide) ⟨b19, b20⟩ (fun q21 => ?_) (fun q21 => ?_)
          · refine w_iconst rfl ?_
            exact J _ (b2i_f (fun z => (fun z => z.1 q21) z.2)).symm
          · have G := gb_ q21
            obtain ⟨b22, b23⟩ := G
            refine w_aload_n rfl rfl ?_
            refine w_getR rfl f_M_22 rfl rfl rfl rfl rfl ?_
            refine w_iload rfl rfl ?_
            refine w_iaload rfl rfl rfl b17 ?_
            refine w_aload_n rfl rfl ?_
            refine w_getR rfl f_M_22 rfl rfl rfl rfl rfl ?_
            refine w_iload_n rfl rfl ?_
            refine w_iaload rfl rfl rfl b18 ?_
            refine w_icmp_ne (tgt := 88) rfl (by decide) ⟨b22, b23⟩ (fun q24 => ?_) (fun q24 => ?_)
            · refine w_iconst rfl ?_
              exact J _ (b2i_f (fun z => (fun z => (fun z => z q24) z.2) z.2)).symm
            · refine w_iconst rfl ?_
              refine w_goto (tgt := 89) rfl (by decide) ?_
              exact J _ (b2i_t ⟨q16, ⟨q21, q24⟩⟩).symm
    · replace F := F.2 q11
      refine w_aload_n rfl rfl ?_
      refine w_iload_n rfl rfl ?_
      refine w_iload rfl rfl ?_
      refine c_VI [vI x1, vI x4] [] rfl b_M_answers k_M_245 rfl rfl rfl rfl rfl rfl (mwpI_mono (fun z26 h26 F => ?_) F)
      obtain ⟨G, F⟩ := F
      have J : ∀ (t29 : Int), t29 = b2i (¬ (z26 = 0)) → wI (d + 3) m_M_fateOf 37 [(0, vR 109), (1, vI x1), (2, vI x2), (3, vI x3), (4, vI x4)] [vI t29] h26 K := by
        intro t29 et29
        subst et29
        refine w_istore_n rfl rfl rfl rfl (w_ls (ls2 := [(0, vR 109), (1, vI x1), (2, vI (b2i (¬ (z26 = 0)))), (3, vI x3), (4, vI x4)]) rfl ?_)
        refine w_iload_n rfl rfl ?_
        obtain ⟨b30, F⟩ := F
        refine w_if_ne (tgt := 84) rfl (by decide) b30 (fun q31 => ?_) (fun q31 => ?_)
        · replace F := F.1 q31
          refine w_iconst rfl ?_
          refine w_goto (tgt := 89) rfl (by decide) ?_
          refine w_istore_n rfl rfl rfl rfl (w_ls (ls2 := [(0, vR 109), (1, vI x1), (2, vI (b2i (¬ (z26 = 0)))), (3, vI 1), (4, vI x4)]) rfl ?_)
          refine w_iinc rfl rfl rfl rfl rfl (w_ls (ls2 := [(0, vR 109), (1, vI x1), (2, vI (b2i (¬ (z26 = 0)))), (3, vI 1), (4, vI (x4 + 1))]) rfl ?_)
          refine w_goto (tgt := 7) rfl (by decide) ?_
          exact F
        · replace F := F.2 q31
          refine w_aload_n rfl rfl ?_
          refine w_iload_n rfl rfl ?_
          refine w_iload rfl rfl ?_
          refine c_VI [vI x1, vI x4] [] rfl b_M_isBehind k_M_242 rfl rfl rfl rfl rfl rfl (mwpI_mono (fun z32 h32 F => ?_) F)
          obtain ⟨G, F⟩ := F
          have J : ∀ (t43 : Int), t43 = b2i (¬ (z32 = 0) ∧ (¬ ((h32 112 x4.toNat) = (h32 111 x1.toNat)) ∧ (¬ ((h32 114 x4.toNat) ≠ (h32 114 x1.toNat))))) → wI (d + 3) m_M_fateOf 89 [(0, vR 109), (1, vI x1), (2, vI (b2i (¬ (z26 = 0)))), (3, vI x3), (4, vI x4)] [vI t43] h32 K := by
            intro t43 et43
            subst et43
            refine w_istore_n rfl rfl rfl rfl (w_ls (ls2 := [(0, vR 109), (1, vI x1), (2, vI (b2i (¬ (z26 = 0)))), (3, vI (b2i (¬ (z32 = 0) ∧ (¬ ((h32 112 x4.toNat) = (h32 111 x1.toNat)) ∧ (¬ ((h32 114 x4.toNat) ≠ (h32 114 x1.toNat))))))), (4, vI x4)]) rfl ?_)
            refine w_iinc rfl rfl rfl rfl rfl (w_ls (ls2 := [(0, vR 109), (1, vI x1), (2, vI (b2i (¬ (z26 = 0)))), (3, vI (b2i (¬ (z32 = 0) ∧ (¬ ((h32 112 x4.toNat) = (h32 111 x1.toNat)) ∧ (¬ ((h32 114 x4.toNat) ≠ (h32 114 x1.toNat))))))), (4, vI (x4 + 1))]) rfl ?_)
            refine w_goto (tgt := 7) rfl (by decide) ?_
            exact F
          obtain ⟨b33, gb_⟩ := G
          refine w_if_eq (tgt := 88) rfl (by decide) b33 (fun q34 => ?_) (fun q34 => ?_)
          · refine w_iconst rfl ?_
            exact J _ (b2i_f (fun z => z.1 q34)).symm
          · have G := gb_ q34
            obtain ⟨b35, b36, b37, b38, gb_⟩ := G
            refine w_aload_n rfl rfl ?_
            refine w_getR rfl f_M_16 rfl rfl rfl rfl rfl ?_
            refine w_iload rfl rfl ?_
            refine w_iaload rfl rfl rfl b35 ?_
            refine w_aload_n rfl rfl ?_
            refine w_getR rfl f_M_13 rfl rfl rfl rfl rfl ?_
            refine w_iload_n rfl rfl ?_
            refine w_iaload rfl rfl rfl b36 ?_
            refine w_icmp_eq (tgt := 88) rfl (by decide) ⟨b37, b38⟩ (fun q39 => ?_) (fun q39 => ?_)
            · refine w_iconst rfl ?_
              exact J _ (b2i_f (fun z => (fun z => z.1 q39) z.2)).symm
            · have G := gb_ q39
              obtain ⟨b40, b41⟩ := G
              refine w_aload_n rfl rfl ?_
              refine w_getR rfl f_M_22 rfl rfl rfl rfl rfl ?_
              refine w_iload rfl rfl ?_
              refine w_iaload rfl rfl rfl b35 ?_
              refine w_aload_n rfl rfl ?_
              refine w_getR rfl f_M_22 rfl rfl rfl rfl rfl ?_
              refine w_iload_n rfl rfl ?_
              refine w_iaload rfl rfl rfl b36 ?_
              refine w_icmp_ne (tgt := 88) rfl (by decide) ⟨b40, b41⟩ (fun q42 => ?_) (fun q42 => ?_)
              · refine w_iconst rfl ?_
                exact J _ (b2i_f (fun z => (fun z => (fun z => z q42) z.2) z.2)).symm
              · refine w_iconst rfl ?_
                refine w_goto (tgt := 89) rfl (by decide) ?_
                exact J _ (b2i_t ⟨q34, ⟨q39, q42⟩⟩).symm
      have b27 := G
      refine w_if_eq (tgt := 36) rfl (by decide) b27 (fun q28 => ?_) (fun q28 => ?_)
      · refine w_iconst rfl ?_
        exact J _ (b2i_f (fun z => z q28)).symm
      · refine w_iconst rfl ?_
        refine w_goto (tgt := 37) rfl (by decide) ?_
        exact J _ (b2i_t q28).symm
theorem s_M_fate_0 {d : Nat}  (x1 : Int) (h : St) (K : Int → St → Prop) (F : (inR x1) ∧ (0 ≤ h 110 0 ∧ h 110 0 ≤ 60) ∧ ((¬ (0 ≤ x1 ∧ x1 < h 110 0) → (K ((-1)) h)) ∧ (0 ≤ x1 ∧ x1 < h 110 0 → (mwpI (d + 4) m_M_fateOf [vR 109, vI x1] h (fun z4 h4 => (K z4 h4)))))) : wI (d + 4) m_M_fate 0 [(0, vR 109), (1, vI x1)] [] h K := by
  refine w_aload_n rfl rfl ?_
  refine w_iload_n rfl rfl ?_
  obtain ⟨b1, F⟩ := F
  obtain ⟨b2, F⟩ := F
  refine c_VI [vI x1] [] rfl b_M_isCall k_M_197 rfl rfl rfl rfl rfl rfl (c_M_isCall b1 b2 ?_)
  refine w_ifeq_b (tgt := 16) rfl (by decide) (fun q3 => ?_) (fun q3 => ?_)
  · replace F := F.1 q3
    refine w_iconst rfl ?_
    exact w_iret rfl rfl ⟨rfl, rfl, _, rfl, F⟩
  · replace F := F.2 q3
    refine w_aload_n rfl rfl ?_
    refine w_iload_n rfl rfl ?_
    refine c_VI [vI x1] [] rfl b_M_fateOf k_M_248 rfl rfl rfl rfl rfl rfl (mwpI_mono (fun z4 h4 F => ?_) F)
    refine w_goto (tgt := 17) rfl (by decide) ?_
    exact w_iret rfl rfl ⟨rfl, rfl, _, rfl, F⟩
theorem s_C_sign_0 {d : Nat}  (x1 x2 x3 x4 : Int) (h : St) (K : Int → St → Prop) (F : (inR x1) ∧ ((¬ (0 ≤ x1 ∧ x1 ≤ 11) → (K ((-1)) h)) ∧ (0 ≤ x1 ∧ x1 ≤ 11 → (inR x2) ∧ ((¬ (0 ≤ x2 ∧ x2 ≤ 11) → (K ((-1)) h)) ∧ (0 ≤ x2 ∧ x2 ≤ 11 → ((x1 = x2 → (K ((-1)) h)) ∧ (¬ (x1 = x2) → (inR x3) ∧ (inR x4) ∧ ((0 ≤ x3 ∧ x3 ≤ x4 ∧ x4 ≤ 19 → (mwpV (d + 4) m_Orders_weighSigns [vR 77, vR 1, vI x3, vI x4] h (fun h9 => (0 ≤ (x1 * 12) + x2 ∧ (x1 * 12) + x2 < 144) ∧ (K (h9 78 (((x1 * 12) + x2).toNat)) h9)))) ∧ (¬ (0 ≤ x3 ∧ x3 ≤ x4 ∧ x4 ≤ 19) → (K ((-1)) h)))))))))) : wI (d + 4) m_C_sign 0 [(0, vR 0), (1, vI x1), (2, vI x2), (3, vI x3), (4, vI x4)] [] h K := by
  refine w_iload_n rfl rfl ?_
  obtain ⟨b1, F⟩ := F
  refine c_SI [vI x1] [] rfl b_C_isName k_C_96 rfl rfl rfl (c_C_isName b1 ?_)
  refine w_ifeq_b (tgt := 28) rfl (by decide) (fun q2 => ?_) (fun q2 => ?_)
  · replace F := F.1 q2
    refine w_iconst rfl ?_
    exact w_iret rfl rfl ⟨rfl, rfl, _, rfl, F⟩
  · replace F := F.2 q2
    refine w_iload_n rfl rfl ?_
    obtain ⟨b3, F⟩ := F
    refine c_SI [vI x2] [] rfl b_C_isName k_C_96 rfl rfl rfl (c_C_isName b3 ?_)
    refine w_ifeq_b (tgt := 28) rfl (by decide) (fun q4 => ?_) (fun q4 => ?_)
    · replace F := F.1 q4
      refine w_iconst rfl ?_
      exact w_iret rfl rfl ⟨rfl, rfl, _, rfl, F⟩
    · replace F := F.2 q4
      refine w_iload_n rfl rfl ?_
      refine w_iload_n rfl rfl ?_
      refine w_icmp_eq (tgt := 28) rfl (by decide) ⟨b1, b3⟩ (fun q5 => ?_) (fun q5 => ?_)
      · replace F := F.1 q5
        refine w_iconst rfl ?_
        exact w_iret rfl rfl ⟨rfl, rfl, _, rfl, F⟩
      · replace F := F.2 q5
        refine w_iload_n rfl rfl ?_
        refine w_iload rfl rfl ?_
        obtain ⟨b6, F⟩ := F
        obtain ⟨b7, F⟩ := F
        refine c_SI [vI x3, vI x4] [] rfl b_C_isSpan k_C_224 rfl rfl rfl (c_C_isSpan b6 b7 ?_)
        refine w_ifne_b (tgt := 30) rfl (by decide) (fun q8 => ?_) (fun q8 => ?_)
        · replace F := F.1 q8
          refine w_aload_n rfl rfl ?_
          refine w_getR rfl f_C_47 rfl rfl rfl rfl rfl ?_
          refine w_aload_n rfl rfl ?_
          refine w_getR rfl f_C_10 rfl rfl rfl rfl rfl ?_
          refine w_iload_n rfl rfl ?_
          refine w_iload rfl rfl ?_
          refine c_VV [vR 1, vI x3, vI x4] [] rfl b_Orders_weighSigns k_C_228 rfl rfl rfl rfl rfl rfl (mwpV_mono (fun h9 F => ?_) F)
          refine w_aload_n rfl rfl ?_
          refine w_getR rfl f_C_47 rfl rfl rfl rfl rfl ?_
          refine w_getR rfl f_C_232 rfl rfl rfl rfl rfl ?_
          refine w_iload_n rfl rfl ?_
          refine w_bipush (by decide) (by decide) rfl ?_
          refine w_imul rfl ?_
          refine w_iload_n rfl rfl ?_
          refine w_iadd rfl ?_
          obtain ⟨b10, F⟩ := F
          refine w_iaload rfl rfl rfl b10 ?_
          exact w_iret rfl rfl ⟨rfl, rfl, _, rfl, F⟩
        · replace F := F.2 q8
          refine w_iconst rfl ?_
          exact w_iret rfl rfl ⟨rfl, rfl, _, rfl, F⟩
theorem s_Orders_weighSigns_0 {d : Nat}  (x2 x3 : Int) (h : St) (K : St → Prop) (F : (mwpV (d + 3) m_JA_fill [vR 78, vI 0] h (fun h1 => (wV (d + 3) m_Orders_weighSigns 11 [(0, vR 77), (1, vR 1), (2, vI x2), (3, vI x3), (4, vI 0)] [] h1 K)))) : wV (d + 3) m_Orders_weighSigns 0 [(0, vR 77), (1, vR 1), (2, vI x2), (3, vI x3)] [] h K := by
  refine w_aload_n rfl rfl ?_
  refine w_getR rfl f_Orders_15 rfl rfl rfl rfl rfl ?_
  refine w_iconst rfl ?_
  refine c_SV [vR 78, vI 0] [] rfl b_JA_fill k_Orders_46 rfl rfl rfl (mwpV_mono (fun h1 F => ?_) F)
  refine w_iconst rfl ?_
  refine w_istore rfl rfl rfl rfl (w_ls (ls2 := [(0, vR 77), (1, vR 1), (2, vI x2), (3, vI x3), (4, vI 0)]) rfl ?_)
  exact F
theorem s_Orders_weighSigns_11 {d : Nat}  (x2 x3 x4 : Int) (h : St) (K : St → Prop) (F : (inR x4) ∧ (inR (h 1 6)) ∧ (((h 1 6) ≤ x4 → (K h)) ∧ (¬ ((h 1 6) ≤ x4) → (mwpI (d + 3) m_CallLog_isOn [vR 1, vI x4, vI x2, vI x3] h (fun z4 h4 => (inR z4) ∧ ((z4 = 0 → (wV (d + 3) m_Orders_weighSigns 11 [(0, vR 77), (1, vR 1), (2, vI x2), (3, vI x3), (4, vI (x4 + 1))] [] h4 K)) ∧ (¬ (z4 = 0) → (mwpI (d + 3) m_Orders_fateOf [vR 77, vR 1, vI x4] h4 (fun z7 h7 => (((inR (and3 z7 1)))) ∧ (((inR (and3 z7 2)))) ∧ (0 ≤ x4 ∧ x4 < 60) ∧ (0 ≤ ((h7 2 x4.toNat) * 12) + (h7 3 x4.toNat) ∧ ((h7 2 x4.toNat) * 12) + (h7 3 x4.toNat) < 144) ∧ (wV (d + 3) m_Orders_weighSigns 11 [(0, vR 77), (1, vR 1), (2, vI x2), (3, vI x3), (4, vI (x4 + 1))] [] (up h7 78 ((((h7 2 x4.toNat) * 12) + (h7 3 x4.toNat)).toNat) ((h7 78 ((((h7 2 x4.toNat) * 12) + (h7 3 x4.toNat)).toNat)) + ((cif ((and3 z7 1) = 0) 0 2) + (cif ((and3 z7 2) = 0) 0 3)))) K)))))))))) : wV (d + 3) m_Orders_weighSigns 11 [(0, vR 77), (1, vR 1), (2, vI x2), (3, vI x3), (4, vI x4)] [] h K := by
  refine w_iload rfl rfl ?_
  refine w_aload_n rfl rfl ?_
  refine w_getI rfl f_Orders_19 rfl rfl rfl ?_
  obtain ⟨b1, F⟩ := F
  obtain ⟨b2, F⟩ := F
  refine w_icmp_ge (tgt := 101) rfl (by decide) ⟨b1, b2⟩ (fun q3 => ?_) (fun q3 => ?_)
  · replace F := F.1 q3
    exact w_vret rfl rfl ⟨rfl, rfl, rfl, F⟩
  · replace F := F.2 q3
    refine w_aload_n rfl rfl ?_
    refine w_iload rfl rfl ?_
    refine w_iload_n rfl rfl ?_
    refine w_iload_n rfl rfl ?_
    refine c_VI [vI x4, vI x2, vI x3] [] rfl b_CallLog_isOn k_Orders_52 rfl rfl rfl rfl rfl rfl (mwpI_mono (fun z4 h4 F => ?_) F)
    obtain ⟨b5, F⟩ := F
    refine w_if_eq (tgt := 95) rfl (by decide) b5 (fun q6 => ?_) (fun q6 => ?_)
    · replace F := F.1 q6
      refine w_iinc rfl rfl rfl rfl rfl (w_ls (ls2 := [(0, vR 77), (1, vR 1), (2, vI x2), (3, vI x3), (4, vI (x4 + 1))]) rfl ?_)
      refine w_goto (tgt := 11) rfl (by decide) ?_
      exact F
    · replace F := F.2 q6
      refine w_aload_n rfl rfl ?_
      refine w_aload_n rfl rfl ?_
      refine w_iload rfl rfl ?_
      refine c_VI [vR 1, vI x4] [] rfl b_Orders_fateOf k_Orders_56 rfl rfl rfl rfl rfl rfl (mwpI_mono (fun z7 h7 F => ?_) F)
      refine w_istore rfl rfl rfl rfl (w_ls (ls2 := [(0, vR 77), (1, vR 1), (2, vI x2), (3, vI x3), (4, vI x4), (5, vI z7)]) rfl ?_)
      refine w_iload rfl rfl ?_
      refine w_iconst rfl ?_
      refine w_iand rfl ?_
      obtain ⟨G, F⟩ := F
      have J : ∀ (t10 : Int), t10 = cif ((and3 z7 1) = 0) 0 2 → wV (d + 3) m_Orders_weighSigns 52 [(0, vR 77), (1, vR 1), (2, vI x2), (3, vI x3), (4, vI x4), (5, vI z7)] [vI t10] h7 K := by
        intro t10 et10
        subst et10
        refine w_iload rfl rfl ?_
        refine w_iconst rfl ?_
        refine w_iand rfl ?_
        obtain ⟨G, F⟩ := F
        have J : ∀ (t13 : Int), t13 = cif ((and3 z7 2) = 0) 0 3 → wV (d + 3) m_Orders_weighSigns 64 [(0, vR 77), (1, vR 1), (2, vI x2), (3, vI x3), (4, vI x4), (5, vI z7)] [vI t13, vI (cif ((and3 z7 1) = 0) 0 2)] h7 K := by
          intro t13 et13
          subst et13
          refine w_iadd rfl ?_
          refine w_istore rfl rfl rfl rfl (w_ls (ls2 := [(0, vR 77), (1, vR 1), (2, vI x2), (3, vI x3), (4, vI x4), (5, vI z7), (6, vI ((cif ((and3 z7 1) = 0) 0 2) + (cif ((and3 z7 2) = 0) 0 3)))]) rfl ?_)
          refine w_aload_n rfl rfl ?_
          refine w_getR rfl f_Orders_15 rfl rfl rfl rfl rfl ?_
          refine w_aload_n rfl rfl ?_
          refine w_getR rfl f_Orders_37 rfl rfl rfl rfl rfl ?_
          refine w_iload rfl rfl ?_
          obtain ⟨b14, F⟩ := F
          refine w_iaload rfl rfl rfl b14 ?_
          refine w_bipush (by decide) (by decide) rfl ?_
          refine w_imul rfl ?_
          refine w_aload_n rfl rfl ?_
          refine w_getR rfl f_Orders_34 rfl rfl rfl rfl rfl ?_
          refine w_iload rfl rfl ?_
          refine w_iaload rfl rfl rfl b14 ?_
          refine w_iadd rfl ?_
          refine w_dup2 rfl rfl rfl ?_
          obtain ⟨b15, F⟩ := F
          refine w_iaload rfl rfl rfl b15 ?_
          refine w_iload rfl rfl ?_
          refine w_iadd rfl ?_
          refine w_iastore rfl rfl rfl b15 ?_
          refine w_iinc rfl rfl rfl rfl rfl (w_ls (ls2 := [(0, vR 77), (1, vR 1), (2, vI x2), (3, vI x3), (4, vI (x4 + 1)), (5, vI z7), (6, vI ((cif ((and3 z7 1) = 0) 0 2) + (cif ((and3 z7 2) = 0) 0 3)))]) rfl ?_)
          refine w_goto (tgt := 11) rfl (by decide) ?_
          exact w_kp [0, 1, 2, 3, 4] F
        have b11 := G
        refine w_if_eq (tgt := 63) rfl (by decide) b11 (fun q12 => ?_) (fun q12 => ?_)
        · refine w_iconst rfl ?_
          exact J _ (cif_t q12).symm
        · refine w_iconst rfl ?_
          refine w_goto (tgt := 64) rfl (by decide) ?_
          exact J _ (cif_f q12).symm
      have b8 := G
      refine w_if_eq (tgt := 51) rfl (by decide) b8 (fun q9 => ?_) (fun q9 => ?_)
      · refine w_iconst rfl ?_
        exact J _ (cif_t q9).symm
      · refine w_iconst rfl ?_
        refine w_goto (tgt := 52) rfl (by decide) ?_
        exact J _ (cif_f q9).symm
theorem s_M_signOf_0 {d : Nat}  (x1 x2 x3 x4 : Int) (h : St) (K : Int → St → Prop) (F : (wI (d + 4) m_M_signOf 6 [(0, vR 109), (1, vI x1), (2, vI x2), (3, vI x3), (4, vI x4), (5, vI 0), (6, vI 0)] [] h K)) : wI (d + 4) m_M_signOf 0 [(0, vR 109), (1, vI x1), (2, vI x2), (3, vI x3), (4, vI x4)] [] h K := by
  refine w_iconst rfl ?_
  refine w_istore rfl rfl rfl rfl (w_ls (ls2 := [(0, vR 109), (1, vI x1), (2, vI x2), (3, vI x3), (4, vI x4), (5, vI 0)]) rfl ?_)
  refine w_iconst rfl ?_
  refine w_istore rfl rfl rfl rfl (w_ls (ls2 := [(0, vR 109), (1, vI x1), (2, vI x2), (3, vI x3), (4, vI x4), (5, vI 0), (6, vI 0)]) rfl ?_)
  exact F
theorem s_M_signOf_6 {d : Nat}  (x1 x2 x3 x4 x5 x6 : Int) (h : St) (K : Int → St → Prop) (F : (inR x6) ∧ (inR (h 110 0)) ∧ (((h 110 0) ≤ x6 → (K x5 h)) ∧ (¬ ((h 110 0) ≤ x6) → (0 ≤ x6 ∧ x6 < 180) ∧ (inR (h 111 x6.toNat)) ∧ (inR x1) ∧ (((h 111 x6.toNat) ≠ x1 → (wI (d + 4) m_M_signOf 6 [(0, vR 109), (1, vI x1), (2, vI x2), (3, vI x3), (4, vI x4), (5, vI (x5 + (cif ((0 : Int) ≠ 0) (cif ((0 : Int) ≠ 1) (cif ((0 : Int) ≠ 2) 5 3) 2) 0))), (6, vI (x6 + 1))] [] h K)) ∧ (¬ ((h 111 x6.toNat) ≠ x1) → (inR (h 112 x6.toNat)) ∧ (inR x2) ∧ (((h 112 x6.toNat) ≠ x2 → (wI (d + 4) m_M_signOf 6 [(0, vR 109), (1, vI x1), (2, vI x2), (3, vI x3), (4, vI x4), (5, vI (x5 + (cif ((0 : Int) ≠ 0) (cif ((0 : Int) ≠ 1) (cif ((0 : Int) ≠ 2) 5 3) 2) 0))), (6, vI (x6 + 1))] [] h K)) ∧ (¬ ((h 112 x6.toNat) ≠ x2) → (mwpI (d + 4) m_M_isOn [vR 109, vI x6, vI x3, vI x4] h (fun z19 h19 => (inR z19) ∧ ((z19 = 0 → (wI (d + 4) m_M_signOf 6 [(0, vR 109), (1, vI x1), (2, vI x2), (3, vI x3), (4, vI x4), (5, vI (x5 + (cif ((0 : Int) ≠ 0) (cif ((0 : Int) ≠ 1) (cif ((0 : Int) ≠ 2) 5 3) 2) 0))), (6, vI (x6 + 1))] [] h19 K)) ∧ (¬ (z19 = 0) → (mwpI (d + 4) m_M_fateOf [vR 109, vI x6] h19 (fun z26 h26 => (((inR z26))) ∧ (wI (d + 4) m_M_signOf 6 [(0, vR 109), (1, vI x1), (2, vI x2), (3, vI x3), (4, vI x4), (5, vI (x5 + (cif (z26 ≠ 0) (cif (z26 ≠ 1) (cif (z26 ≠ 2) 5 3) 2) 0))), (6, vI (x6 + 1))] [] h26 K)))))))))))))) : wI (d + 4) m_M_signOf 6 [(0, vR 109), (1, vI x1), (2, vI x2), (3, vI x3), (4, vI x4), (5, vI x5), (6, vI x6)] [] h K := by
  refine w_iload rfl rfl ?_
  refine w_aload_n rfl rfl ?_
  refine w_getR rfl f_M_7 rfl rfl rfl rfl rfl ?_
  refine w_iconst rfl ?_
  refine w_iaload rfl rfl rfl ⟨by decide, by decide⟩ ?_
  obtain ⟨b1, F⟩ := F
  obtain ⟨b2, F⟩ := F
  refine w_icmp_ge (tgt := 104) rfl (by decide) ⟨b1, b2⟩ (fun q3 => ?_) (fun q3 => ?_)
  · replace F := F.1 q3
    refine w_iload rfl rfl ?_
    exact w_iret rfl rfl ⟨rfl, rfl, _, rfl, F⟩
  · replace F := F.2 q3
    refine w_aload_n rfl rfl ?_
    refine w_getR rfl f_M_13 rfl rfl rfl rfl rfl ?_
    refine w_iload rfl rfl ?_
    obtain ⟨b4, F⟩ := F
    refine w_iaload rfl rfl rfl b4 ?_
    refine w_iload_n rfl rfl ?_
    obtain ⟨b5, F⟩ := F
    obtain ⟨b6, F⟩ := F
    refine w_icmp_ne (tgt := 60) rfl (by decide) ⟨b5, b6⟩ (fun q7 => ?_) (fun q7 => ?_)
    · replace F := F.1 q7
      refine w_iconst rfl ?_
      refine w_istore rfl rfl rfl rfl (w_ls (ls2 := [(0, vR 109), (1, vI x1), (2, vI x2), (3, vI x3), (4, vI x4), (5, vI x5), (6, vI x6), (7, vI 0)]) rfl ?_)
      refine w_iload rfl rfl ?_
      refine w_iload rfl rfl ?_
      have J : ∀ (t11 : Int), t11 = cif ((0 : Int) ≠ 0) (cif ((0 : Int) ≠ 1) (cif ((0 : Int) ≠ 2) 5 3) 2) 0 → wI (d + 4) m_M_signOf 95 [(0, vR 109), (1, vI x1), (2, vI x2), (3, vI x3), (4, vI x4), (5, vI x5), (6, vI x6), (7, vI 0)] [vI t11, vI x5] h K := by
        intro t11 et11
        subst et11
        refine w_iadd rfl ?_
        refine w_istore rfl rfl rfl rfl (w_ls (ls2 := [(0, vR 109), (1, vI x1), (2, vI x2), (3, vI x3), (4, vI x4), (5, vI (x5 + (cif ((0 : Int) ≠ 0) (cif ((0 : Int) ≠ 1) (cif ((0 : Int) ≠ 2) 5 3) 2) 0))), (6, vI x6), (7, vI 0)]) rfl ?_)
        refine w_iinc rfl rfl rfl rfl rfl (w_ls (ls2 := [(0, vR 109), (1, vI x1), (2, vI x2), (3, vI x3), (4, vI x4), (5, vI (x5 + (cif ((0 : Int) ≠ 0) (cif ((0 : Int) ≠ 1) (cif ((0 : Int) ≠ 2) 5 3) 2) 0))), (6, vI (x6 + 1)), (7, vI 0)]) rfl ?_)
        refine w_goto (tgt := 6) rfl (by decide) ?_
        exact w_kp [0, 1, 2, 3, 4, 5, 6] F
      refine w_if_ne (tgt := 74) rfl (by decide) (r_lit rfl) (fun q8 => ?_) (fun q8 => ?_)
      · refine w_iload rfl rfl ?_
        refine w_iconst rfl ?_
        refine w_icmp_ne (tgt := 84) rfl (by decide) ⟨(r_lit rfl), (r_lit rfl)⟩ (fun q9 => ?_) (fun q9 => ?_)
        · refine w_iload rfl rfl ?_
          refine w_iconst rfl ?_
          refine w_icmp_ne (tgt := 94) rfl (by decide) ⟨(r_lit rfl), (r_lit rfl)⟩ (fun q10 => ?_) (fun q10 => ?_)
          · refine w_iconst rfl ?_
            exact J _ ((cif_t q8).trans ((cif_t q9).trans (cif_t q10))).symm
          · refine w_iconst rfl ?_
            refine w_goto (tgt := 95) rfl (by decide) ?_
            exact J _ ((cif_t q8).trans ((cif_t q9).trans (cif_f q10))).symm
        · refine w_iconst rfl ?_
          refine w_goto (tgt := 95) rfl (by decide) ?_
          exact J _ ((cif_t q8).trans (cif_f q9)).symm
      · refine w_iconst rfl ?_
        refine w_goto (tgt := 95) rfl (by decide) ?_
        exact J _ (cif_f q8).symm
    · replace F := F.2 q7
      refine w_aload_n rfl rfl ?_
      refine w_getR rfl f_M_16 rfl rfl rfl rfl rfl ?_
      refine w_iload rfl rfl ?_
      refine w_iaload rfl rfl rfl b4 ?_
      refine w_iload_n rfl rfl ?_
      obtain ⟨b12, F⟩ := F
      obtain ⟨b13, F⟩ := F
      refine w_icmp_ne (tgt := 60) rfl (by decide) ⟨b12, b13⟩ (fun q14 => ?_) (fun q14 => ?_)
      · replace F := F.1 q14
        refine w_iconst rfl ?_
        refine w_istore rfl rfl rfl rfl (w_ls (ls2 := [(0, vR 109), (1, vI x1), (2, vI x2), (3, vI x3), (4, vI x4), (5, vI x5), (6, vI x6), (7, vI 0)]) rfl ?_)
        refine w_iload rfl rfl ?_
        refine w_iload rfl rfl ?_
        have J : ∀ (t18 : Int), t18 = cif ((0 : Int) ≠ 0) (cif ((0 : Int) ≠ 1) (cif ((0 : Int) ≠ 2) 5 3) 2) 0 → wI (d + 4) m_M_signOf 95 [(0, vR 109), (1, vI x1), (2, vI x2), (3, vI x3), (4, vI x4), (5, vI x5), (6, vI x6), (7, vI 0)] [vI t18, vI x5] h K := by
          intro t18 et18
          subst et18
          refine w_iadd rfl ?_
          refine w_istore rfl rfl rfl rfl (w_ls (ls2 := [(0, vR 109), (1, vI x1), (2, vI x2), (3, vI x3), (4, vI x4), (5, vI (x5 + (cif ((0 : Int) ≠ 0) (cif ((0 : Int) ≠ 1) (cif ((0 : Int) ≠ 2) 5 3) 2) 0))), (6, vI x6), (7, vI 0)]) rfl ?_)
          refine w_iinc rfl rfl rfl rfl rfl (w_ls (ls2 := [(0, vR 109), (1, vI x1), (2, vI x2), (3, vI x3), (4, vI x4), (5, vI (x5 + (cif ((0 : Int) ≠ 0) (cif ((0 : Int) ≠ 1) (cif ((0 : Int) ≠ 2) 5 3) 2) 0))), (6, vI (x6 + 1)), (7, vI 0)]) rfl ?_)
          refine w_goto (tgt := 6) rfl (by decide) ?_
          exact w_kp [0, 1, 2, 3, 4, 5, 6] F
        refine w_if_ne (tgt := 74) rfl (by decide) (r_lit rfl) (fun q15 => ?_) (fun q15 => ?_)
        · refine w_iload rfl rfl ?_
          refine w_iconst rfl ?_
          refine w_icmp_ne (tgt := 84) rfl (by decide) ⟨(r_lit rfl), (r_lit rfl)⟩ (fun q16 => ?_) (fun q16 => ?_)
          · refine w_iload rfl rfl ?_
            refine w_iconst rfl ?_
            refine w_icmp_ne (tgt := 94) rfl (by decide) ⟨(r_lit rfl), (r_lit rfl)⟩ (fun q17 => ?_) (fun q17 => ?_)
            · refine w_iconst rfl ?_
              exact J _ ((cif_t q15).trans ((cif_t q16).trans (cif_t q17))).symm
            · refine w_iconst rfl ?_
              refine w_goto (tgt := 95) rfl (by decide) ?_
              exact J _ ((cif_t q15).trans ((cif_t q16).trans (cif_f q17))).symm
          · refine w_iconst rfl ?_
            refine w_goto (tgt := 95) rfl (by decide) ?_
            exact J _ ((cif_t q15).trans (cif_f q16)).symm
        · refine w_iconst rfl ?_
          refine w_goto (tgt := 95) rfl (by decide) ?_
          exact J _ (cif_f q15).symm
      · replace F := F.2 q14
        refine w_aload_n rfl rfl ?_
        refine w_iload rfl rfl ?_
        refine w_iload_n rfl rfl ?_
        refine w_iload rfl rfl ?_
        refine c_VI [vI x6, vI x3, vI x4] [] rfl b_M_isOn k_M_251 rfl rfl rfl rfl rfl rfl (mwpI_mono (fun z19 h19 F => ?_) F)
        obtain ⟨b20, F⟩ := F
        refine w_if_eq (tgt := 60) rfl (by decide) b20 (fun q21 => ?_) (fun q21 => ?_)
        · replace F := F.1 q21
          refine w_iconst rfl ?_
          refine w_istore rfl rfl rfl rfl (w_ls (ls2 := [(0, vR 109), (1, vI x1), (2, vI x2), (3, vI x3), (4, vI x4), (5, vI x5), (6, vI x6), (7, vI 0)]) rfl ?_)
          refine w_iload rfl rfl ?_
          refine w_iload rfl rfl ?_
          have J : ∀ (t25 : Int), t25 = cif ((0 : Int) ≠ 0) (cif ((0 : Int) ≠ 1) (cif ((0 : Int) ≠ 2) 5 3) 2) 0 → wI (d + 4) m_M_signOf 95 [(0, vR 109), (1, vI x1), (2, vI x2), (3, vI x3), (4, vI x4), (5, vI x5), (6, vI x6), (7, vI 0)] [vI t25, vI x5] h19 K := by
            intro t25 et25
            subst et25
            refine w_iadd rfl ?_
            refine w_istore rfl rfl rfl rfl (w_ls (ls2 := [(0, vR 109), (1, vI x1), (2, vI x2), (3, vI x3), (4, vI x4), (5, vI (x5 + (cif ((0 : Int) ≠ 0) (cif ((0 : Int) ≠ 1) (cif ((0 : Int) ≠ 2) 5 3) 2) 0))), (6, vI x6), (7, vI 0)]) rfl ?_)
            refine w_iinc rfl rfl rfl rfl rfl (w_ls (ls2 := [(0, vR 109), (1, vI x1), (2, vI x2), (3, vI x3), (4, vI x4), (5, vI (x5 + (cif ((0 : Int) ≠ 0) (cif ((0 : Int) ≠ 1) (cif ((0 : Int) ≠ 2) 5 3) 2) 0))), (6, vI (x6 + 1)), (7, vI 0)]) rfl ?_)
            refine w_goto (tgt := 6) rfl (by decide) ?_
            exact w_kp [0, 1, 2, 3, 4, 5, 6] F
          refine w_if_ne (tgt := 74) rfl (by decide) (r_lit rfl) (fun q22 => ?_) (fun q22 => ?_)
          · refine w_iload rfl rfl ?_
            refine w_iconst rfl ?_
            refine w_icmp_ne (tgt := 84) rfl (by decide) ⟨(r_lit rfl), (r_lit rfl)⟩ (fun q23 => ?_) (fun q23 => ?_)
            · refine w_iload rfl rfl ?_
              refine w_iconst rfl ?_
              refine w_icmp_ne (tgt := 94) rfl (by decide) ⟨(r_lit rfl), (r_lit rfl)⟩ (fun q24 => ?_) (fun q24 => ?_)
              · refine w_iconst rfl ?_
                exact J _ ((cif_t q22).trans ((cif_t q23).trans (cif_t q24))).symm
              · refine w_iconst rfl ?_
                refine w_goto (tgt := 95) rfl (by decide) ?_
                exact J _ ((cif_t q22).trans ((cif_t q23).trans (cif_f q24))).symm
            · refine w_iconst rfl ?_
              refine w_goto (tgt := 95) rfl (by decide) ?_
              exact J _ ((cif_t q22).trans (cif_f q23)).symm
          · refine w_iconst rfl ?_
            refine w_goto (tgt := 95) rfl (by decide) ?_
            exact J _ (cif_f q22).symm
        · replace F := F.2 q21
          refine w_aload_n rfl rfl ?_
          refine w_iload rfl rfl ?_
          refine c_VI [vI x6] [] rfl b_M_fateOf k_M_248 rfl rfl rfl rfl rfl rfl (mwpI_mono (fun z26 h26 F => ?_) F)
          refine w_goto (tgt := 61) rfl (by decide) ?_
          refine w_istore rfl rfl rfl rfl (w_ls (ls2 := [(0, vR 109), (1, vI x1), (2, vI x2), (3, vI x3), (4, vI x4), (5, vI x5), (6, vI x6), (7, vI z26)]) rfl ?_)
          refine w_iload rfl rfl ?_
          refine w_iload rfl rfl ?_
          obtain ⟨G, F⟩ := F
          have J : ∀ (t31 : Int), t31 = cif (z26 ≠ 0) (cif (z26 ≠ 1) (cif (z26 ≠ 2) 5 3) 2) 0 → wI (d + 4) m_M_signOf 95 [(0, vR 109), (1, vI x1), (2, vI x2), (3, vI x3), (4, vI x4), (5, vI x5), (6, vI x6), (7, vI z26)] [vI t31, vI x5] h26 K := by
            intro t31 et31
            subst et31
            refine w_iadd rfl ?_
            refine w_istore rfl rfl rfl rfl (w_ls (ls2 := [(0, vR 109), (1, vI x1), (2, vI x2), (3, vI x3), (4, vI x4), (5, vI (x5 + (cif (z26 ≠ 0) (cif (z26 ≠ 1) (cif (z26 ≠ 2) 5 3) 2) 0))), (6, vI x6), (7, vI z26)]) rfl ?_)
            refine w_iinc rfl rfl rfl rfl rfl (w_ls (ls2 := [(0, vR 109), (1, vI x1), (2, vI x2), (3, vI x3), (4, vI x4), (5, vI (x5 + (cif (z26 ≠ 0) (cif (z26 ≠ 1) (cif (z26 ≠ 2) 5 3) 2) 0))), (6, vI (x6 + 1)), (7, vI z26)]) rfl ?_)
            refine w_goto (tgt := 6) rfl (by decide) ?_
            exact w_kp [0, 1, 2, 3, 4, 5, 6] F
          have b27 := G
          refine w_if_ne (tgt := 74) rfl (by decide) b27 (fun q28 => ?_) (fun q28 => ?_)
          · refine w_iload rfl rfl ?_
            refine w_iconst rfl ?_
            refine w_icmp_ne (tgt := 84) rfl (by decide) ⟨b27, (r_lit rfl)⟩ (fun q29 => ?_) (fun q29 => ?_)
            · refine w_iload rfl rfl ?_
              refine w_iconst rfl ?_
              refine w_icmp_ne (tgt := 94) rfl (by decide) ⟨b27, (r_lit rfl)⟩ (fun q30 => ?_) (fun q30 => ?_)
              · refine w_iconst rfl ?_
                exact J _ ((cif_t q28).trans ((cif_t q29).trans (cif_t q30))).symm
              · refine w_iconst rfl ?_
                refine w_goto (tgt := 95) rfl (by decide) ?_
                exact J _ ((cif_t q28).trans ((cif_t q29).trans (cif_f q30))).symm
            · refine w_iconst rfl ?_
              refine w_goto (tgt := 95) rfl (by decide) ?_
              exact J _ ((cif_t q28).trans (cif_f q29)).symm
          · refine w_iconst rfl ?_
            refine w_goto (tgt := 95) rfl (by decide) ?_
            exact J _ (cif_f q28).symm
theorem s_M_sign_0 {d : Nat}  (x1 x2 x3 x4 : Int) (h : St) (K : Int → St → Prop) (F : (inR x1) ∧ ((¬ (0 ≤ x1 ∧ x1 ≤ 11) → (K ((-1)) h)) ∧ (0 ≤ x1 ∧ x1 ≤ 11 → (inR x2) ∧ ((¬ (0 ≤ x2 ∧ x2 ≤ 11) → (K ((-1)) h)) ∧ (0 ≤ x2 ∧ x2 ≤ 11 → ((x1 = x2 → (K ((-1)) h)) ∧ (¬ (x1 = x2) → (inR x3) ∧ (inR x4) ∧ ((¬ (0 ≤ x3 ∧ x3 ≤ x4 ∧ x4 ≤ 19) → (K ((-1)) h)) ∧ (0 ≤ x3 ∧ x3 ≤ x4 ∧ x4 ≤ 19 → (mwpI (d + 5) m_M_signOf [vR 109, vI x1, vI x2, vI x3, vI x4] h (fun z9 h9 => (K z9 h9)))))))))))) : wI (d + 5) m_M_sign 0 [(0, vR 109), (1, vI x1), (2, vI x2), (3, vI x3), (4, vI x4)] [] h K := by
  refine w_iload_n rfl rfl ?_
  obtain ⟨b1, F⟩ := F
  refine c_SI [vI x1] [] rfl b_M_isName k_M_142 rfl rfl rfl (c_M_isName b1 ?_)
  refine w_ifeq_b (tgt := 40) rfl (by decide) (fun q2 => ?_) (fun q2 => ?_)
  · replace F := F.1 q2
    refine w_iconst rfl ?_
    exact w_iret rfl rfl ⟨rfl, rfl, _, rfl, F⟩
  · replace F := F.2 q2
    refine w_iload_n rfl rfl ?_
    obtain ⟨b3, F⟩ := F
    refine c_SI [vI x2] [] rfl b_M_isName k_M_142 rfl rfl rfl (c_M_isName b3 ?_)
    refine w_ifeq_b (tgt := 40) rfl (by decide) (fun q4 => ?_) (fun q4 => ?_)
    · replace F := F.1 q4
      refine w_iconst rfl ?_
      exact w_iret rfl rfl ⟨rfl, rfl, _, rfl, F⟩
    · replace F := F.2 q4
      refine w_iload_n rfl rfl ?_
      refine w_iload_n rfl rfl ?_
      refine w_icmp_eq (tgt := 40) rfl (by decide) ⟨b1, b3⟩ (fun q5 => ?_) (fun q5 => ?_)
      · replace F := F.1 q5
        refine w_iconst rfl ?_
        exact w_iret rfl rfl ⟨rfl, rfl, _, rfl, F⟩
      · replace F := F.2 q5
        refine w_iload_n rfl rfl ?_
        refine w_iload rfl rfl ?_
        obtain ⟨b6, F⟩ := F
        obtain ⟨b7, F⟩ := F
        refine c_SI [vI x3, vI x4] [] rfl b_M_isSpan k_M_254 rfl rfl rfl (c_M_isSpan b6 b7 ?_)
        refine w_ifeq_b (tgt := 40) rfl (by decide) (fun q8 => ?_) (fun q8 => ?_)
        · replace F := F.1 q8
          refine w_iconst rfl ?_
          exact w_iret rfl rfl ⟨rfl, rfl, _, rfl, F⟩
        · replace F := F.2 q8
          refine w_aload_n rfl rfl ?_
          refine w_iload_n rfl rfl ?_
          refine w_iload_n rfl rfl ?_
          refine w_iload_n rfl rfl ?_
          refine w_iload rfl rfl ?_
          refine c_VI [vI x1, vI x2, vI x3, vI x4] [] rfl b_M_signOf k_M_257 rfl rfl rfl rfl rfl rfl (mwpI_mono (fun z9 h9 F => ?_) F)
          refine w_goto (tgt := 41) rfl (by decide) ?_
          exact w_iret rfl rfl ⟨rfl, rfl, _, rfl, F⟩
def exA (n : Nat) (f : Nat → Prop) : Prop := ∃ o, o < n ∧ f o
theorem exA_0 {f : Nat → Prop} : ¬ exA 0 f := fun ⟨_, ho, _⟩ => absurd ho (Nat.not_lt_zero _)
theorem exA_s {n : Nat} {f : Nat → Prop} : exA (n + 1) f ↔ exA n f ∨ f n := by
  constructor
  · rintro ⟨o, ho, fo⟩
    by_cases e : o = n
    · subst e; exact Or.inr fo
    · exact Or.inl ⟨o, by omega, fo⟩
  · rintro (⟨o, ho, fo⟩ | fo)
    · exact ⟨o, by omega, fo⟩
    · exact ⟨n, by omega, fo⟩
theorem exA_y {n : Nat} {f : Nat → Prop} (fo : f n) : b2i (exA (n + 1) f) = 1 := b2i_t (exA_s.mpr (Or.inr fo))
theorem exA_n {n : Nat} {f : Nat → Prop} (fo : ¬ f n) : b2i (exA (n + 1) f) = b2i (exA n f) := b2i_congr ⟨fun q => (exA_s.mp q).elim id (fun z => absurd z fo), fun q => exA_s.mpr (Or.inl q)⟩
def tkn (lg : Nat → Nat → Int) (w : Int) (c o : Nat) : Prop := lg 0 o = lg 1 c ∧ ((1 ≤ lg 2 o - lg 2 c ∧ lg 2 o - lg 2 c ≤ w) ∨ (lg 2 o = lg 2 c ∧ c < o))
def ansA (lg : Nat → Nat → Int) (w : Int) (c o : Nat) : Prop := tkn lg w c o ∧ lg 1 o = lg 0 c
def psnA (lg : Nat → Nat → Int) (w : Int) (c o : Nat) : Prop := tkn lg w c o ∧ lg 1 o ≠ lg 0 c ∧ lg 3 o = lg 3 c
noncomputable def fateA (lg : Nat → Nat → Int) (w : Int) (n c : Nat) : Int := b2i (exA n (ansA lg w c)) + 2 * b2i (exA n (psnA lg w c))
section F31
variable {D : Nat} {h : St} {K : Int → St → Prop} {n : Nat} {lg : Nat → Nat → Int} {w : Int} {c o : Nat}
theorem c_Orders_isTakenUp (cl : CLog h n lg) (vl : VLog n lg) (hw : h 77 0 = w) (w1 : 1 ≤ w ∧ w ≤ 23) (hc : c < n) (ho : o < n) (k : K (b2i (tkn lg w c o)) h) : mwpI (D + 1) m_Orders_isTakenUp [vR 77, vR 1, vI c, vI o] h K := by
  have hn := cl.2.1
  obtain ⟨a0, a1, a2, a3, a4, a5⟩ := CLog_at cl hc
  obtain ⟨b0, b1, b2, b3, b4, b5⟩ := CLog_at cl ho
  have q1 := vl c hc
  have q2 := vl o ho
  refine mI_intro b_Orders_isTakenUp rfl (s_Orders_isTakenUp_0 (d := D) (c : Int) (o : Int) h K ?_)
  rw [Int.toNat_natCast, Int.toNat_natCast, b0, a1, a2, b2, hw]
  refine ⟨by omega, by omega, ⟨by omega, by omega⟩, ⟨by omega, by omega⟩, fun z => ⟨⟨⟨by omega, by omega⟩, fun _ _ => ⟨by omega, by omega⟩⟩, ?_⟩, fun z => ?_⟩
  · rw [b2i_congr (q := tkn lg w c o) (by unfold tkn; omega)]
    exact k
  · rw [b2i_f (fun q => z q.1)] at k
    exact k
theorem c_Orders_answers (cl : CLog h n lg) (vl : VLog n lg) (hw : h 77 0 = w) (w1 : 1 ≤ w ∧ w ≤ 23) (hc : c < n) (ho : o < n) (k : K (b2i (ansA lg w c o)) h) : mwpI (D + 2) m_Orders_answers [vR 77, vR 1, vI c, vI o] h K := by
  have hn := cl.2.1
  obtain ⟨a0, a1, a2, a3, a4, a5⟩ := CLog_at cl hc
  obtain ⟨b0, b1, b2, b3, b4, b5⟩ := CLog_at cl ho
  have q1 := vl c hc
  have q2 := vl o ho
  refine mI_intro b_Orders_answers rfl (s_Orders_answers_0 (d := D) (c : Int) (o : Int) h K (c_Orders_isTakenUp cl vl hw w1 hc ho ?_))
  rw [Int.toNat_natCast, Int.toNat_natCast, b1, a0]
  refine ⟨⟨b2i_R, fun _ => ⟨by omega, by omega, ⟨by omega, by omega⟩, ⟨by omega, by omega⟩⟩⟩, ?_⟩
  rw [b2i_congr (q := ansA lg w c o) (by rw [b2i_eq0, Classical.not_not, Classical.not_not]; exact Iff.rfl)]
  exact k
theorem c_Orders_passesOn (cl : CLog h n lg) (vl : VLog n lg) (hw : h 77 0 = w) (w1 : 1 ≤ w ∧ w ≤ 23) (hc : c < n) (ho : o < n) (k : K (b2i (psnA lg w c o)) h) : mwpI (D + 2) m_Orders_passesOn [vR 77, vR 1, vI c, vI o] h K := by
  have hn := cl.2.1
  obtain ⟨a0, a1, a2, a3, a4, a5⟩ := CLog_at cl hc
  obtain ⟨b0, b1, b2, b3, b4, b5⟩ := CLog_at cl ho
  have q1 := vl c hc
  have q2 := vl o ho
  refine mI_intro b_Orders_passesOn rfl (s_Orders_passesOn_0 (d := D) (c : Int) (o : Int) h K (c_Orders_isTakenUp cl vl hw w1 hc ho ?_))
  rw [Int.toNat_natCast, Int.toNat_natCast, b1, a0, a3, b3]
  refine ⟨⟨b2i_R, fun _ => ⟨by omega, by omega, ⟨by omega, by omega⟩, ⟨by omega, by omega⟩, fun _ => ⟨⟨by omega, by omega⟩, ⟨by omega, by omega⟩⟩⟩⟩, ?_⟩
  rw [b2i_congr (q := psnA lg w c o) (by rw [b2i_eq0, Classical.not_not, Classical.not_not]; exact Iff.rfl)]
  exact k
theorem or_12 {p q : Prop} : or3 (b2i p + 2 * b2i q) 1 = 1 + 2 * b2i q ∧ or3 (b2i p + 2 * b2i q) 2 = b2i p + 2 * 1 ∧ and3 (b2i p + 2 * b2i q) 1 = b2i p ∧ and3 (b2i p + 2 * b2i q) 2 = 2 * b2i q := by
  rcases b2i_01 (p := p) with e | e <;> rcases b2i_01 (p := q) with f | f <;> rw [e, f] <;> decide
theorem fateA_R : 0 ≤ fateA lg w n c ∧ fateA lg w n c ≤ 3 := by
  have := b2i_B (p := exA n (ansA lg w c))
  have := b2i_B (p := exA n (psnA lg w c))
  unfold fateA
  omega
theorem c_Orders_fateOf (cl : CLog h n lg) (vl : VLog n lg) (hw : h 77 0 = w) (w1 : 1 ≤ w ∧ w ≤ 23) (hc : c < n) (k : K (fateA lg w n c) h) : mwpI (D + 3) m_Orders_fateOf [vR 77, vR 1, vI c] h K := by
  have hn := cl.2.1
  have h8 := cl.1
  have lp : ∀ (m b : Nat), b + m = n → wI (D + 2) m_Orders_fateOf 5 [(0, vR 77), (1, vR 1), (2, vI (c : Int)), (3, vI (b2i (exA b (ansA lg w c)) + 2 * b2i (exA b (psnA lg w c)))), (4, vI (b : Int))] [] h K := by
    intro m
    induction m with
    | zero =>
      intro b hb
      have e : b = n := by omega
      subst e
      exact s_Orders_fateOf_5 _ _ _ h K ⟨⟨by omega, by omega⟩, ⟨by omega, by omega⟩, fun _ => k, fun z => absurd (by omega) z⟩
    | succ m ih =>
      intro b hb
      have hb2 : b < n := by omega
      have ih2 := ih (b + 1) (by omega)
      refine s_Orders_fateOf_5 _ _ _ h K ⟨⟨by omega, by omega⟩, ⟨by omega, by omega⟩, fun z => by omega, fun _ => c_Orders_answers cl vl hw w1 hc hb2 ⟨b2i_R, fun z => c_Orders_passesOn cl vl hw w1 hc hb2 ⟨b2i_R, fun z2 => ?_, fun z2 => ?_⟩, fun z => ?_⟩⟩
      · rw [exA_n (b2i_eq0.mp z), exA_n (b2i_eq0.mp z2)] at ih2
        exact ih2
      · rw [exA_n (b2i_eq0.mp z), exA_y (b2i_ne0.mp z2)] at ih2
        rw [or_12.2.1]
        exact ih2
      · have z1 : ansA lg w c b := b2i_ne0.mp z
        rw [exA_y z1, exA_n (fun q : psnA lg w c b => q.2.1 z1.2)] at ih2
        rw [or_12.1]
        exact ih2
  refine mI_intro b_Orders_fateOf rfl (s_Orders_fateOf_0 (d := D) _ h K ?_)
  have q := lp n 0 (by omega)
  rw [b2i_f exA_0, b2i_f exA_0] at q
  exact q
theorem c_M_isBehind (ml : MLog h n lg) (vl : VLog n lg) (hw : h 109 15 = w) (w1 : 1 ≤ w ∧ w ≤ 23) (hc : c < n) (ho : o < n) (k : K (b2i (tkn lg w c o)) h) : mwpI (D + 2) m_M_isBehind [vR 109, vI c, vI o] h K := by
  have hn := ml.2.1
  obtain ⟨a0, a1, a2, a3, a4, a5⟩ := ml.2.2 c hc
  obtain ⟨b0, b1, b2, b3, b4, b5⟩ := ml.2.2 o ho
  have q1 := vl c hc
  have q2 := vl o ho
  refine mI_intro b_M_isBehind rfl (s_M_isBehind_0 (d := D) (c : Int) (o : Int) h K ?_)
  rw [Int.toNat_natCast, Int.toNat_natCast, b0, a1, a2, b2, hw]
  refine ⟨by omega, by omega, ⟨⟨by omega, by omega⟩, ⟨by omega, by omega⟩, fun _ => ⟨⟨by omega, by omega⟩, fun _ => ⟨by omega, by omega⟩⟩⟩, ?_⟩
  rw [b2i_congr (q := tkn lg w c o) (by unfold tkn; omega)]
  exact k
theorem c_M_answers (ml : MLog h n lg) (vl : VLog n lg) (hw : h 109 15 = w) (w1 : 1 ≤ w ∧ w ≤ 23) (hc : c < n) (ho : o < n) (k : K (b2i (ansA lg w c o)) h) : mwpI (D + 3) m_M_answers [vR 109, vI c, vI o] h K := by
  have hn := ml.2.1
  obtain ⟨a0, a1, a2, a3, a4, a5⟩ := ml.2.2 c hc
  obtain ⟨b0, b1, b2, b3, b4, b5⟩ := ml.2.2 o ho
  have q1 := vl c hc
  have q2 := vl o ho
  refine mI_intro b_M_answers rfl (s_M_answers_0 (d := D) (c : Int) (o : Int) h K (c_M_isBehind ml vl hw w1 hc ho ?_))
  rw [Int.toNat_natCast, Int.toNat_natCast, b1, a0]
  refine ⟨⟨b2i_R, fun _ => ⟨by omega, by omega, ⟨by omega, by omega⟩, ⟨by omega, by omega⟩⟩⟩, ?_⟩
  rw [b2i_congr (q := ansA lg w c o) (by rw [b2i_eq0, Classical.not_not, Classical.not_not]; exact Iff.rfl)]
  exact k
theorem c_M_fateOf (ml : MLog h n lg) (vl : VLog n lg) (hw : h 109 15 = w) (w1 : 1 ≤ w ∧ w ≤ 23) (hc : c < n) (k : K (fateA lg w n c) h) : mwpI (D + 4) m_M_fateOf [vR 109, vI c] h K := by
  have hn := ml.2.1
  have h8 := ml.1
  obtain ⟨a0, a1, a2, a3, a4, a5⟩ := ml.2.2 c hc
  have q1 := vl c hc
  have lp : ∀ (m b : Nat), b + m = n → wI (D + 3) m_M_fateOf 7 [(0, vR 109), (1, vI (c : Int)), (2, vI (b2i (exA b (ansA lg w c)))), (3, vI (b2i (exA b (psnA lg w c)))), (4, vI (b : Int))] [] h K := by
    intro m
    induction m with
    | zero =>
      intro b hb
      have e : b = n := by omega
      subst e
      refine s_M_fateOf_7 _ _ _ _ h K ⟨⟨by omega, by omega⟩, ⟨by omega, by omega⟩, fun _ => ⟨b2i_R, b2i_R, ?_⟩, fun z => absurd (by omega) z⟩
      have e1 : b2i (¬ b2i (exA b (ansA lg w c)) = 0) = b2i (exA b (ansA lg w c)) := b2i_congr b2i_ne0
      have e2 : cif (b2i (exA b (psnA lg w c)) = 0) 0 2 = 2 * b2i (exA b (psnA lg w c)) := by
        rcases b2i_01 (p := exA b (psnA lg w c)) with e | e
        · rw [cif_t e, e]; rfl
        · rw [cif_f (by omega), e]; rfl
      rw [e1, e2]
      exact k
    | succ m ih =>
      intro b hb
      have hb2 : b < n := by omega
      have ih2 := ih (b + 1) (by omega)
      obtain ⟨b0, b1, b2, b3, b4, b5⟩ := ml.2.2 b hb2
      have q2 := vl b hb2
      have s1 : ∀ f : Nat → Prop, b2i (exA b f) ≠ 0 → b2i (exA (b + 1) f) = 1 := fun f q => b2i_t (exA_s.mpr (Or.inl (b2i_ne0.mp q)))
      have s2 : ∀ f : Nat → Prop, ¬ b2i (exA b f) ≠ 0 → b2i (exA (b + 1) f) = b2i (f b) := fun f q => b2i_congr ⟨fun z => (exA_s.mp z).elim (fun y => absurd (b2i_ne0.mpr y) q) id, fun z => exA_s.mpr (Or.inr z)⟩
      have ep : b2i (¬ b2i (tkn lg w c b) = 0 ∧ ¬ lg 1 b = lg 0 c ∧ ¬ lg 3 b ≠ lg 3 c) = b2i (psnA lg w c b) := b2i_congr (by rw [b2i_eq0, Classical.not_not, Classical.not_not]; exact Iff.rfl)
      have ea : b2i (¬ b2i (ansA lg w c b) = 0) = b2i (ansA lg w c b) := b2i_congr b2i_ne0
      refine s_M_fateOf_7 _ _ _ _ h K ⟨⟨by omega, by omega⟩, ⟨by omega, by omega⟩, fun z => by omega, fun _ => ⟨b2i_R, fun z1 => ⟨b2i_R, fun z2 => ?_, fun z2 => c_M_isBehind ml vl hw w1 hc hb2 ?_⟩, fun z1 => c_M_answers ml vl hw w1 hc hb2 ⟨b2i_R, b2i_R, fun z2 => ?_, fun z2 => c_M_isBehind ml vl hw w1 hc hb2 ?_⟩⟩⟩
      · rw [s1 _ z1, s1 _ z2] at ih2
        exact ih2
      · rw [Int.toNat_natCast, Int.toNat_natCast, b1, a0, a3, b3]
        refine ⟨⟨b2i_R, fun _ => ⟨by omega, by omega, ⟨by omega, by omega⟩, ⟨by omega, by omega⟩, fun _ => ⟨⟨by omega, by omega⟩, ⟨by omega, by omega⟩⟩⟩⟩, ?_⟩
        rw [s1 _ z1, s2 _ z2] at ih2
        rw [ep]
        exact ih2
      · rw [s2 _ z1, s1 _ z2] at ih2
        rw [ea]
        exact ih2
      · rw [Int.toNat_natCast, Int.toNat_natCast, b1, a0, a3, b3]
        refine ⟨⟨b2i_R, fun _ => ⟨by omega, by omega, ⟨by omega, by omega⟩, ⟨by omega, by omega⟩, fun _ => ⟨⟨by omega, by omega⟩, ⟨by omega, by omega⟩⟩⟩⟩, ?_⟩
        rw [s2 _ z1, s2 _ z2] at ih2
        rw [ep, ea]
        exact ih2
  refine mI_intro b_M_fateOf rfl (s_M_fateOf_0 (d := D) _ h K ?_)
  have q := lp n 0 (by omega)
  rw [b2i_f exA_0, b2i_f exA_0] at q
  exact q
end F31
theorem P_fate {KK : Int → Int → St → Prop} {h : St} (hr : Rel h) {a1 : Int} (r1 : inR a1) (k : ∀ z h2, inR z → Rel h2 → KK z z h2) : mwpI 40 m_C_fate [vR 0, vI a1] h (fun z h1 => mwpI 40 m_M_fate [vR 109, vI a1] h1 (fun z2 h2 => KK z z2 h2)) := by
  obtain ⟨⟨n, lg, cl, ml, vl⟩, c2, c3, ⟨t1, t2, t3, t4⟩, c9⟩ := id hr
  have hn := cl.2.1
  have w1 := cl.1
  have w2 := ml.1
  refine mI_intro b_C_fate rfl (s_C_fate_0 (d := 36) a1 h _ ⟨r1, by omega, fun q => ?_, fun q => ?_⟩)
  · rw [show a1 = ((a1.toNat : Nat) : Int) by omega]
    refine c_Orders_fateOf (n := n) cl vl rfl t4 (by omega) ?_
    refine mI_intro b_M_fate rfl (s_M_fate_0 (d := 35) _ h _ ⟨⟨by omega, by omega⟩, by omega, fun z => absurd (by omega) z, fun _ => c_M_fateOf (n := n) ml vl t3.symm t4 (by omega) ?_⟩)
    have := fateA_R (lg := lg) (w := h 77 0) (n := n) (c := a1.toNat)
    exact k _ _ ⟨by omega, by omega⟩ hr
  · exact mI_intro b_M_fate rfl (s_M_fate_0 (d := 35) _ h _ ⟨r1, by omega, fun _ => k _ _ (by decide) hr, fun z => absurd z (by omega)⟩)
noncomputable def sgw (lg : Nat → Nat → Int) (w : Int) (n : Nat) (a b d e : Int) (c : Nat) : Int := cif (lg 0 c = a ∧ lg 1 c = b ∧ onD lg c d e) (2 * b2i (exA n (ansA lg w c)) + 3 * b2i (exA n (psnA lg w c))) 0
theorem sgw_R {lg : Nat → Nat → Int} {w : Int} {n : Nat} {a b d e : Int} {c : Nat} : 0 ≤ sgw lg w n a b d e c ∧ sgw lg w n a b d e c ≤ 5 := by
  have := b2i_B (p := exA n (ansA lg w c))
  have := b2i_B (p := exA n (psnA lg w c))
  unfold sgw
  by_cases q : lg 0 c = a ∧ lg 1 c = b ∧ onD lg c d e
  · rw [cif_t q]; omega
  · rw [cif_f q]; omega
noncomputable def sgA (lg : Nat → Nat → Int) (w : Int) (n : Nat) (a b d e : Int) : Int := sm (sgw lg w n a b d e) n
theorem sgA_R {lg : Nat → Nat → Int} {w : Int} {n : Nat} {a b d e : Int} (hn : n ≤ 60) : 0 ≤ sgA lg w n a b d e ∧ sgA lg w n a b d e ≤ 300 := by
  have := sm_bnd (f := sgw lg w n a b d e) (u := 5) (by omega) n (fun i _ => sgw_R)
  unfold sgA
  omega
theorem cif_2 {p : Prop} : cif (b2i p = 0) 0 2 = 2 * b2i p ∧ cif (2 * b2i p = 0) 0 3 = 3 * b2i p := by
  rcases b2i_01 (p := p) with e | e <;> rw [e]
  · exact ⟨cif_t rfl, cif_t rfl⟩
  · exact ⟨cif_f (by decide), cif_f (by decide)⟩
theorem C_weigh {D : Nat} {K : St → Prop} {n : Nat} {lg : Nat → Nat → Int} (vl : VLog n lg) {w d e : Int} (w1 : 1 ≤ w ∧ w ≤ 23) (r2 : inR d) (r3 : inR e) : ∀ (m c : Nat) (h : St), c + m = n → CLog h n lg → h 77 0 = w → (∀ a b : Nat, a < 12 → b < 12 → h 78 (a * 12 + b) = sm (sgw lg w n a b d e) c) → (∀ h2, ag (fun c _ => c ≠ 78) h h2 → (∀ a b : Nat, a < 12 → b < 12 → h2 78 (a * 12 + b) = sgA lg w n a b d e) → K h2) → wV (D + 3) m_Orders_weighSigns 11 [(0, vR 77), (1, vR 1), (2, vI d), (3, vI e), (4, vI (c : Int))] [] h K := by
  intro m
  induction m with
  | zero =>
    intro c h hc cl hw hs k
    have hn := cl.2.1
    have h8 := cl.1
    have e : c = n := by omega
    subst e
    exact s_Orders_weighSigns_11 _ _ _ h K ⟨⟨by omega, by omega⟩, ⟨by omega, by omega⟩, fun _ => k h ag_rfl hs, fun z => absurd (by omega) z⟩
  | succ m ih =>
    intro c h hc cl hw hs k
    have hn := cl.2.1
    have h8 := cl.1
    have hc2 : c < n := by omega
    obtain ⟨a0, a1, a2, a3, a4, a5⟩ := CLog_at cl hc2
    have q1 := vl c hc2
    refine s_Orders_weighSigns_11 _ _ _ h K ⟨⟨by omega, by omega⟩, ⟨by omega, by omega⟩, fun z => by omega, fun _ => c_CallLog_isOn cl vl hc2 r2 r3 ⟨b2i_R, fun z => ?_, fun z => c_Orders_fateOf cl vl hw w1 hc2 ?_⟩⟩
    · refine ih (c + 1) h (by omega) cl hw (fun a b ha hb => ?_) k
      rw [sm_succ, hs a b ha hb, show sgw lg w n a b d e c = 0 from cif_f (fun q => (b2i_eq0.mp z) q.2.2), Int.add_zero]
    · rw [Int.toNat_natCast, a0, a1]
      unfold fateA
      obtain ⟨o1, o2, o3, o4⟩ := or_12 (p := exA n (ansA lg w c)) (q := exA n (psnA lg w c))
      have ba := b2i_B (p := exA n (ansA lg w c))
      have bp := b2i_B (p := exA n (psnA lg w c))
      rw [o3, o4, cif_2.1, cif_2.2]
      refine ⟨b2i_R, ⟨by omega, by omega⟩, by omega, by omega, ?_⟩
      have ez : (lg 0 c * 12 + lg 1 c).toNat = (lg 0 c).toNat * 12 + (lg 1 c).toNat := by omega
      rw [ez]
      refine ih (c + 1) _ (by omega) (CLog_c (ag_up (by omega) ag_rfl) cl) (by rw [up_ne (by omega)]; exact hw) (fun a b ha hb => ?_) (fun h2 g1 g2 => k h2 (ag_trans (ag_up (by omega) ag_rfl) g1) g2)
      rw [sm_succ]
      by_cases q : lg 0 c = a ∧ lg 1 c = b
      · rw [show sgw lg w n a b d e c = 2 * b2i (exA n (ansA lg w c)) + 3 * b2i (exA n (psnA lg w c)) from cif_t ⟨q.1, q.2, b2i_ne0.mp z⟩, ← hs a b ha hb, show (lg 0 c).toNat = a by omega, show (lg 1 c).toNat = b by omega, up_same]
      · rw [show sgw lg w n a b d e c = 0 from cif_f (fun q2 => q ⟨q2.1, q2.2.1⟩), up_ne (by omega), Int.add_zero]
        exact hs a b ha hb
theorem c_Orders_weighSigns {D : Nat} {h : St} {K : St → Prop} {n : Nat} {lg : Nat → Nat → Int} (cl : CLog h n lg) (vl : VLog n lg) {w d e : Int} (hw : h 77 0 = w) (w1 : 1 ≤ w ∧ w ≤ 23) (r2 : inR d) (r3 : inR e) (k : ∀ h2, ag (fun c _ => c ≠ 78) h h2 → (∀ a b : Nat, a < 12 → b < 12 → h2 78 (a * 12 + b) = sgA lg w n a b d e) → K h2) : mwpV (D + 4) m_Orders_weighSigns [vR 77, vR 1, vI d, vI e] h K := by
  refine mV_intro b_Orders_weighSigns rfl (s_Orders_weighSigns_0 (d := D) d e h K (c_JA_fill (len := 144) rfl (by decide) ?_))
  refine C_weigh vl w1 r2 r3 n 0 _ (by omega) (CLog_c (ag_fill (by omega) ag_rfl) cl) (by rw [fillC_out (by decide)]; exact hw) (fun a b ha hb => ?_) (fun h2 g1 g2 => k h2 (ag_trans (ag_fill (by omega) ag_rfl) g1) g2)
  rw [fillC_in (by omega)]
  rfl
theorem c_M_signOf {D : Nat} {h : St} {K : Int → St → Prop} {n : Nat} {lg : Nat → Nat → Int} (ml : MLog h n lg) (vl : VLog n lg) {w a b d e : Int} (hw : h 109 15 = w) (w1 : 1 ≤ w ∧ w ≤ 23) (ra : inR a) (rb : inR b) (r2 : inR d) (r3 : inR e) (k : K (sgA lg w n a b d e) h) : mwpI (D + 5) m_M_signOf [vR 109, vI a, vI b, vI d, vI e] h K := by
  have hn := ml.2.1
  have h8 := ml.1
  have lp : ∀ (m c : Nat), c + m = n → wI (D + 4) m_M_signOf 6 [(0, vR 109), (1, vI a), (2, vI b), (3, vI d), (4, vI e), (5, vI (sm (sgw lg w n a b d e) c)), (6, vI (c : Int))] [] h K := by
    intro m
    induction m with
    | zero =>
      intro c hc
      have e : c = n := by omega
      subst e
      exact s_M_signOf_6 _ _ _ _ _ _ h K ⟨⟨by omega, by omega⟩, ⟨by omega, by omega⟩, fun _ => k, fun z => absurd (by omega) z⟩
    | succ m ih =>
      intro c hc
      have hc2 : c < n := by omega
      obtain ⟨a0, a1, a2, a3, a4, a5⟩ := ml.2.2 c hc2
      have q1 := vl c hc2
      have ih2 := ih (c + 1) (by omega)
      have z0 : cif ((0 : Int) ≠ 0) (cif ((0 : Int) ≠ 1) (cif ((0 : Int) ≠ 2) 5 3) 2) 0 = 0 := cif_f (fun q => q rfl)
      have no : ¬ (lg 0 c = a ∧ lg 1 c = b ∧ onD lg c d e) → wI (D + 4) m_M_signOf 6 [(0, vR 109), (1, vI a), (2, vI b), (3, vI d), (4, vI e), (5, vI (sm (sgw lg w n a b d e) c + 0)), (6, vI ((c : Int) + 1))] [] h K := fun q => by
        rw [sm_succ, show sgw lg w n a b d e c = 0 from cif_f q] at ih2
        exact ih2
      refine s_M_signOf_6 _ _ _ _ _ _ h K ?_
      rw [z0, Int.toNat_natCast, a0, a1]
      refine ⟨⟨by omega, by omega⟩, ⟨by omega, by omega⟩, fun z => by omega, fun _ => ⟨by omega, ⟨by omega, by omega⟩, ra, fun z => no (fun q => z q.1), fun z => ⟨⟨by omega, by omega⟩, rb, fun z2 => no (fun q => z2 q.2.1), fun z2 => c_M_isOn ml vl hc2 r2 r3 ⟨b2i_R, fun z3 => no (fun q => (b2i_eq0.mp z3) q.2.2), fun z3 => c_M_fateOf ml vl hw w1 hc2 ?_⟩⟩⟩⟩
      have fr := fateA_R (lg := lg) (w := w) (n := n) (c := c)
      refine ⟨⟨by omega, by omega⟩, ?_⟩
      have ef : cif (fateA lg w n c ≠ 0) (cif (fateA lg w n c ≠ 1) (cif (fateA lg w n c ≠ 2) 5 3) 2) 0 = sgw lg w n a b d e c := by
        rw [show sgw lg w n a b d e c = 2 * b2i (exA n (ansA lg w c)) + 3 * b2i (exA n (psnA lg w c)) from cif_t ⟨by omega, by omega, b2i_ne0.mp z3⟩]
        unfold fateA
        rcases b2i_01 (p := exA n (ansA lg w c)) with e | e <;> rcases b2i_01 (p := exA n (psnA lg w c)) with f | f <;> rw [e, f]
        · exact cif_f (by decide)
        · rw [cif_t (by decide), cif_t (by decide), cif_f (by decide)]; rfl
        · rw [cif_t (by decide), cif_f (by decide)]; rfl
        · rw [cif_t (by decide), cif_t (by decide), cif_t (by decide)]; rfl
      rw [ef]
      exact ih2
  exact mI_intro b_M_signOf rfl (s_M_signOf_0 (d := D) _ _ _ _ h K (lp n 0 (by omega)))
theorem P_sign {KK : Int → Int → St → Prop} {h : St} (hr : Rel h) {a1 a2 a3 a4 : Int} (r1 : inR a1) (r2 : inR a2) (r3 : inR a3) (r4 : inR a4) (k : ∀ z h2, inR z → Rel h2 → KK z z h2) : mwpI 40 m_C_sign [vR 0, vI a1, vI a2, vI a3, vI a4] h (fun z h1 => mwpI 40 m_M_sign [vR 109, vI a1, vI a2, vI a3, vI a4] h1 (fun z2 h2 => KK z z2 h2)) := by
  obtain ⟨⟨n, lg, cl, ml, vl⟩, c2, c3, ⟨t1, t2, t3, t4⟩, c9⟩ := id hr
  have hn := cl.2.1
  have kb := k (-1) h (by decide) hr
  have bad : ¬ ((0 ≤ a1 ∧ a1 ≤ 11) ∧ (0 ≤ a2 ∧ a2 ≤ 11) ∧ ¬ (a1 = a2) ∧ (0 ≤ a3 ∧ a3 ≤ a4 ∧ a4 ≤ 19)) → mwpI 40 m_M_sign [vR 109, vI a1, vI a2, vI a3, vI a4] h (fun z2 h2 => KK (-1) z2 h2) := fun q =>
    mI_intro b_M_sign rfl (s_M_sign_0 (d := 34) a1 a2 a3 a4 _ _ ⟨r1, fun _ => kb, fun q1 => ⟨r2, fun _ => kb, fun q2 => ⟨fun _ => kb, fun q3 => ⟨r3, r4, fun _ => kb, fun q4 => absurd ⟨q1, q2, q3, q4⟩ q⟩⟩⟩⟩)
  refine mI_intro b_C_sign rfl (s_C_sign_0 (d := 35) a1 a2 a3 a4 h _ ⟨r1, fun q => bad (fun z => q z.1), fun q1 => ⟨r2, fun q => bad (fun z => q z.2.1), fun q2 => ⟨fun q => bad (fun z => z.2.2.1 q), fun q3 => ⟨r3, r4, fun q4 => ?_, fun q => bad (fun z => q z.2.2.2)⟩⟩⟩⟩)
  refine c_Orders_weighSigns cl vl rfl t4 r3 r4 (fun h1 g1 g2 => ⟨by omega, ?_⟩)
  rw [show (a1 * 12 + a2).toNat = a1.toNat * 12 + a2.toNat by omega, g2 _ _ (by omega) (by omega), show ((a1.toNat : Nat) : Int) = a1 by omega, show ((a2.toNat : Nat) : Int) = a2 by omega]
  have hr1 : Rel h1 := Rel_c (ag_sub (fun c k p => by omega) g1) hr
  refine mI_intro b_M_sign rfl (s_M_sign_0 (d := 34) a1 a2 a3 a4 h1 _ ⟨r1, fun q => absurd q1 q, fun _ => ⟨r2, fun q => absurd q2 q, fun _ => ⟨fun q => absurd q q3, fun _ => ⟨r3, r4, fun q => absurd q4 q, fun _ => ?_⟩⟩⟩⟩)
  refine c_M_signOf (MLog_c (ag_sub (fun c k p => by omega) g1) ml) vl (by rw [g1 109 15 (by omega)]; exact t3.symm) t4 r1 r2 r3 r4 ?_
  have := sgA_R (lg := lg) (w := h 77 0) (a := a1) (b := a2) (d := a3) (e := a4) hn
  exact k _ _ ⟨by omega, by omega⟩ hr1
