theorem s_CallLog_isOn_0 {d : Nat}  (x1 x2 x3 : Int) (h : St) (K : Int → St → Prop) (F : (0 ≤ x1 ∧ x1 < 60) ∧ (inR (h 4 x1.toNat)) ∧ (((inR ((h 4 x1.toNat).tdiv 24)) ∧ (inR x2) ∧ (¬ (((h 4 x1.toNat).tdiv 24) < x2) → ((inR x3))))) ∧ (K (b2i (¬ (((h 4 x1.toNat).tdiv 24) < x2) ∧ (¬ (x3 < ((h 4 x1.toNat).tdiv 24))))) h)) : wI d m_CallLog_isOn 0 [(0, vR 1), (1, vI x1), (2, vI x2), (3, vI x3)] [] h K := by
  refine w_aload_n rfl rfl ?_
  refine w_getR rfl f_CallLog_18 rfl rfl rfl rfl rfl ?_
  refine w_iload_n rfl rfl ?_
  obtain ⟨b1, F⟩ := F
  refine w_iaload rfl rfl rfl b1 ?_
  refine w_bipush (by decide) (by decide) rfl ?_
  obtain ⟨b2, F⟩ := F
  refine w_idiv ⟨b2, (r_lit rfl), (by decide)⟩ rfl ?_
  refine w_istore rfl rfl rfl rfl (w_ls (ls2 := [(0, vR 1), (1, vI x1), (2, vI x2), (3, vI x3), (4, vI ((h 4 x1.toNat).tdiv 24))]) rfl ?_)
  refine w_iload rfl rfl ?_
  refine w_iload_n rfl rfl ?_
  obtain ⟨G, F⟩ := F
  have J : ∀ (t8 : Int), t8 = b2i (¬ (((h 4 x1.toNat).tdiv 24) < x2) ∧ (¬ (x3 < ((h 4 x1.toNat).tdiv 24)))) → wI d m_CallLog_isOn 28 [(0, vR 1), (1, vI x1), (2, vI x2), (3, vI x3), (4, vI ((h 4 x1.toNat).tdiv 24))] [vI t8] h K := by
    intro t8 et8
    subst et8
    exact w_zret rfl rfl b2i_01 ⟨rfl, rfl, _, rfl, F⟩
  obtain ⟨b3, b4, gb_⟩ := G
  refine w_icmp_lt (tgt := 27) rfl (by decide) ⟨b3, b4⟩ (fun q5 => ?_) (fun q5 => ?_)
  · refine w_iconst rfl ?_
    exact J _ (b2i_f (fun z => z.1 q5)).symm
  · have G := gb_ q5
    have b6 := G
    refine w_iload rfl rfl ?_
    refine w_iload_n rfl rfl ?_
    refine w_icmp_gt (tgt := 27) rfl (by decide) ⟨b3, b6⟩ (fun q7 => ?_) (fun q7 => ?_)
    · refine w_iconst rfl ?_
      exact J _ (b2i_f (fun z => (fun z => z q7) z.2)).symm
    · refine w_iconst rfl ?_
      refine w_goto (tgt := 28) rfl (by decide) ?_
      exact J _ (b2i_t ⟨q5, q7⟩).symm
theorem s_M_isOn_0 {d : Nat}  (x1 x2 x3 : Int) (h : St) (K : Int → St → Prop) (F : (0 ≤ x1 ∧ x1 < 180) ∧ (inR (h 113 x1.toNat)) ∧ (inR ((h 113 x1.toNat).tdiv 24)) ∧ (inR x2) ∧ (inR x3) ∧ (K (b2i (x2 ≤ ((h 113 x1.toNat).tdiv 24) ∧ ((h 113 x1.toNat).tdiv 24) ≤ x3)) h)) : wI (d + 1) m_M_isOn 0 [(0, vR 109), (1, vI x1), (2, vI x2), (3, vI x3)] [] h K := by
  refine w_aload_n rfl rfl ?_
  refine w_getR rfl f_M_19 rfl rfl rfl rfl rfl ?_
  refine w_iload_n rfl rfl ?_
  obtain ⟨b1, F⟩ := F
  refine w_iaload rfl rfl rfl b1 ?_
  refine w_bipush (by decide) (by decide) rfl ?_
  obtain ⟨b2, F⟩ := F
  refine w_idiv ⟨b2, (r_lit rfl), (by decide)⟩ rfl ?_
  obtain ⟨b3, F⟩ := F
  refine w_i2l b3 rfl ?_
  refine w_iload_n rfl rfl ?_
  obtain ⟨b4, F⟩ := F
  refine w_i2l b4 rfl ?_
  refine w_iload_n rfl rfl ?_
  obtain ⟨b5, F⟩ := F
  refine w_i2l b5 rfl ?_
  refine c_SI [vJ ((h 113 x1.toNat).tdiv 24), vJ x2, vJ x3] [] rfl b_M_in k_M_130 rfl rfl rfl (c_M_in (inL_of b3) (inL_of b4) (inL_of b5) ?_)
  exact w_zret rfl rfl b2i_01 ⟨rfl, rfl, _, rfl, F⟩
theorem s_CallLog_gap_0 {d : Nat}  (x1 x2 : Int) (h : St) (K : Int → St → Prop) (F : (0 ≤ x1 ∧ x1 < 60) ∧ (0 ≤ x2 ∧ x2 < 60) ∧ (-2147483648 < ((h 7 x1.toNat) - (h 7 x2.toNat)) ∧ ((h 7 x1.toNat) - (h 7 x2.toNat)) < 2147483648) ∧ (K ((((h 7 x1.toNat) - (h 7 x2.toNat)).natAbs : Int)) h)) : wI (d + 1) m_CallLog_gap 0 [(0, vR 1), (1, vI x1), (2, vI x2)] [] h K := by
  refine w_aload_n rfl rfl ?_
  refine w_getR rfl f_CallLog_27 rfl rfl rfl rfl rfl ?_
  refine w_iload_n rfl rfl ?_
  obtain ⟨b1, F⟩ := F
  refine w_iaload rfl rfl rfl b1 ?_
  refine w_aload_n rfl rfl ?_
  refine w_getR rfl f_CallLog_27 rfl rfl rfl rfl rfl ?_
  refine w_iload_n rfl rfl ?_
  obtain ⟨b2, F⟩ := F
  refine w_iaload rfl rfl rfl b2 ?_
  refine w_isub rfl ?_
  obtain ⟨b3, F⟩ := F
  refine c_SI [vI ((h 7 x1.toNat) - (h 7 x2.toNat))] [] rfl b_JM_abs k_CallLog_38 rfl rfl rfl (c_JM_abs b3 ?_)
  exact w_iret rfl rfl ⟨rfl, rfl, _, rfl, F⟩
theorem s_CallLog_pairsAsClose_0 {d : Nat}  (x1 : Int) (h : St) (K : Int → St → Prop) (F : (wI (d + 2) m_CallLog_pairsAsClose 4 [(0, vR 1), (1, vI x1), (2, vI 0), (3, vI 0)] [] h K)) : wI (d + 2) m_CallLog_pairsAsClose 0 [(0, vR 1), (1, vI x1)] [] h K := by
  refine w_iconst rfl ?_
  refine w_istore_n rfl rfl rfl rfl (w_ls (ls2 := [(0, vR 1), (1, vI x1), (2, vI 0)]) rfl ?_)
  refine w_iconst rfl ?_
  refine w_istore_n rfl rfl rfl rfl (w_ls (ls2 := [(0, vR 1), (1, vI x1), (2, vI 0), (3, vI 0)]) rfl ?_)
  exact F
theorem s_CallLog_pairsAsClose_4 {d : Nat}  (x1 x2 x3 : Int) (h : St) (K : Int → St → Prop) (F : (inR x3) ∧ (inR (h 1 6)) ∧ (((h 1 6) ≤ x3 → (K x2 h)) ∧ (¬ ((h 1 6) ≤ x3) → (wI (d + 2) m_CallLog_pairsAsClose 17 [(0, vR 1), (1, vI x1), (2, vI x2), (3, vI x3), (4, vI (x3 + 1))] [] h K)))) : wI (d + 2) m_CallLog_pairsAsClose 4 [(0, vR 1), (1, vI x1), (2, vI x2), (3, vI x3)] [] h K := by
  refine w_iload_n rfl rfl ?_
  refine w_aload_n rfl rfl ?_
  refine w_getI rfl f_CallLog_30 rfl rfl rfl ?_
  obtain ⟨b1, F⟩ := F
  obtain ⟨b2, F⟩ := F
  refine w_icmp_ge (tgt := 52) rfl (by decide) ⟨b1, b2⟩ (fun q3 => ?_) (fun q3 => ?_)
  · replace F := F.1 q3
    refine w_iload_n rfl rfl ?_
    exact w_iret rfl rfl ⟨rfl, rfl, _, rfl, F⟩
  · replace F := F.2 q3
    refine w_iload_n rfl rfl ?_
    refine w_iconst rfl ?_
    refine w_iadd rfl ?_
    refine w_istore rfl rfl rfl rfl (w_ls (ls2 := [(0, vR 1), (1, vI x1), (2, vI x2), (3, vI x3), (4, vI (x3 + 1))]) rfl ?_)
    exact F
theorem s_CallLog_pairsAsClose_17 {d : Nat}  (x1 x2 x3 x4 : Int) (h : St) (K : Int → St → Prop) (F : (inR x4) ∧ (inR (h 1 6)) ∧ (((h 1 6) ≤ x4 → (wI (d + 2) m_CallLog_pairsAsClose 4 [(0, vR 1), (1, vI x1), (2, vI x2), (3, vI (x3 + 1))] [] h K)) ∧ (¬ ((h 1 6) ≤ x4) → (mwpI (d + 2) m_CallLog_gap [vR 1, vI x3, vI x4] h (fun z4 h4 => (inR z4) ∧ (inR x1) ∧ ((x1 < z4 → (wI (d + 2) m_CallLog_pairsAsClose 17 [(0, vR 1), (1, vI x1), (2, vI x2), (3, vI x3), (4, vI (x4 + 1))] [] h4 K)) ∧ (¬ (x1 < z4) → (wI (d + 2) m_CallLog_pairsAsClose 17 [(0, vR 1), (1, vI x1), (2, vI (x2 + 1)), (3, vI x3), (4, vI (x4 + 1))] [] h4 K)))))))) : wI (d + 2) m_CallLog_pairsAsClose 17 [(0, vR 1), (1, vI x1), (2, vI x2), (3, vI x3), (4, vI x4)] [] h K := by
  refine w_iload rfl rfl ?_
  refine w_aload_n rfl rfl ?_
  refine w_getI rfl f_CallLog_30 rfl rfl rfl ?_
  obtain ⟨b1, F⟩ := F
  obtain ⟨b2, F⟩ := F
  refine w_icmp_ge (tgt := 46) rfl (by decide) ⟨b1, b2⟩ (fun q3 => ?_) (fun q3 => ?_)
  · replace F := F.1 q3
    refine w_iinc rfl rfl rfl rfl rfl (w_ls (ls2 := [(0, vR 1), (1, vI x1), (2, vI x2), (3, vI (x3 + 1)), (4, vI x4)]) rfl ?_)
    refine w_goto (tgt := 4) rfl (by decide) ?_
    exact w_kp [0, 1, 2, 3] F
  · replace F := F.2 q3
    refine w_aload_n rfl rfl ?_
    refine w_iload_n rfl rfl ?_
    refine w_iload rfl rfl ?_
    refine c_VI [vI x3, vI x4] [] rfl b_CallLog_gap k_CallLog_44 rfl rfl rfl rfl rfl rfl (mwpI_mono (fun z4 h4 F => ?_) F)
    refine w_iload_n rfl rfl ?_
    obtain ⟨b5, F⟩ := F
    obtain ⟨b6, F⟩ := F
    refine w_icmp_gt (tgt := 40) rfl (by decide) ⟨b5, b6⟩ (fun q7 => ?_) (fun q7 => ?_)
    · replace F := F.1 q7
      refine w_iinc rfl rfl rfl rfl rfl (w_ls (ls2 := [(0, vR 1), (1, vI x1), (2, vI x2), (3, vI x3), (4, vI (x4 + 1))]) rfl ?_)
      refine w_goto (tgt := 17) rfl (by decide) ?_
      exact F
    · replace F := F.2 q7
      refine w_iinc rfl rfl rfl rfl rfl (w_ls (ls2 := [(0, vR 1), (1, vI x1), (2, vI (x2 + 1)), (3, vI x3), (4, vI x4)]) rfl ?_)
      refine w_iinc rfl rfl rfl rfl rfl (w_ls (ls2 := [(0, vR 1), (1, vI x1), (2, vI (x2 + 1)), (3, vI x3), (4, vI (x4 + 1))]) rfl ?_)
      refine w_goto (tgt := 17) rfl (by decide) ?_
      exact F
theorem s_C_odds_0 {d : Nat}  (x1 x2 x3 : Int) (h : St) (K : Int → St → Prop) (F : (inR x1) ∧ (0 ≤ h 1 6 ∧ h 1 6 ≤ 60) ∧ ((¬ (0 ≤ x1 ∧ x1 < h 1 6) → (K ((-1)) h)) ∧ (0 ≤ x1 ∧ x1 < h 1 6 → (inR x2) ∧ ((¬ (0 ≤ x2 ∧ x2 < h 1 6) → (K ((-1)) h)) ∧ (0 ≤ x2 ∧ x2 < h 1 6 → ((x1 = x2 → (K ((-1)) h)) ∧ (¬ (x1 = x2) → (inR x3) ∧ ((0 ≤ x3 ∧ x3 ≤ 1 → ((x3 ≠ 0 → (inR ((h 1 6) * ((h 1 6) - 1))) ∧ (K (((h 1 6) * ((h 1 6) - 1)).tdiv 2) h)) ∧ (¬ (x3 ≠ 0) → (mwpI (d + 3) m_CallLog_gap [vR 1, vI x1, vI x2] h (fun z11 h11 => (mwpI (d + 3) m_CallLog_pairsAsClose [vR 1, vI z11] h11 (fun z12 h12 => (K z12 h12)))))))) ∧ (¬ (0 ≤ x3 ∧ x3 ≤ 1) → (K ((-1)) h)))))))))) : wI (d + 3) m_C_odds 0 [(0, vR 0), (1, vI x1), (2, vI x2), (3, vI x3)] [] h K := by
  refine w_aload_n rfl rfl ?_
  refine w_iload_n rfl rfl ?_
  obtain ⟨b1, F⟩ := F
  obtain ⟨b2, F⟩ := F
  refine c_VI [vI x1] [] rfl b_C_isCall k_C_144 rfl rfl rfl rfl rfl rfl (c_C_isCall b1 b2 ?_)
  refine w_ifeq_b (tgt := 30) rfl (by decide) (fun q3 => ?_) (fun q3 => ?_)
  · replace F := F.1 q3
    refine w_iconst rfl ?_
    exact w_iret rfl rfl ⟨rfl, rfl, _, rfl, F⟩
  · replace F := F.2 q3
    refine w_aload_n rfl rfl ?_
    refine w_iload_n rfl rfl ?_
    obtain ⟨b4, F⟩ := F
    refine c_VI [vI x2] [] rfl b_C_isCall k_C_144 rfl rfl rfl rfl rfl rfl (c_C_isCall b4 b2 ?_)
    refine w_ifeq_b (tgt := 30) rfl (by decide) (fun q5 => ?_) (fun q5 => ?_)
    · replace F := F.1 q5
      refine w_iconst rfl ?_
      exact w_iret rfl rfl ⟨rfl, rfl, _, rfl, F⟩
    · replace F := F.2 q5
      refine w_iload_n rfl rfl ?_
      refine w_iload_n rfl rfl ?_
      refine w_icmp_eq (tgt := 30) rfl (by decide) ⟨b1, b4⟩ (fun q6 => ?_) (fun q6 => ?_)
      · replace F := F.1 q6
        refine w_iconst rfl ?_
        exact w_iret rfl rfl ⟨rfl, rfl, _, rfl, F⟩
      · replace F := F.2 q6
        refine w_iload_n rfl rfl ?_
        refine w_iconst rfl ?_
        refine w_iconst rfl ?_
        obtain ⟨b7, F⟩ := F
        refine c_SI [vI x3, vI 0, vI 1] [] rfl b_C_isAmong k_C_103 rfl rfl rfl (c_C_isAmong b7 (r_lit rfl) (r_lit rfl) ?_)
        refine w_ifne_b (tgt := 32) rfl (by decide) (fun q8 => ?_) (fun q8 => ?_)
        · replace F := F.1 q8
          refine w_iload_n rfl rfl ?_
          refine w_if_ne (tgt := 55) rfl (by decide) b7 (fun q9 => ?_) (fun q9 => ?_)
          · replace F := F.1 q9
            refine w_aload_n rfl rfl ?_
            refine w_getR rfl f_C_10 rfl rfl rfl rfl rfl ?_
            refine w_getI rfl f_C_110 rfl rfl rfl ?_
            refine w_aload_n rfl rfl ?_
            refine w_getR rfl f_C_10 rfl rfl rfl rfl rfl ?_
            refine w_getI rfl f_C_110 rfl rfl rfl ?_
            refine w_iconst rfl ?_
            refine w_isub rfl ?_
            refine w_imul rfl ?_
            refine w_iconst rfl ?_
            obtain ⟨b10, F⟩ := F
            refine w_idiv ⟨b10, (r_lit rfl), (by decide)⟩ rfl ?_
            exact w_iret rfl rfl ⟨rfl, rfl, _, rfl, F⟩
          · replace F := F.2 q9
            refine w_aload_n rfl rfl ?_
            refine w_getR rfl f_C_10 rfl rfl rfl rfl rfl ?_
            refine w_aload_n rfl rfl ?_
            refine w_getR rfl f_C_10 rfl rfl rfl rfl rfl ?_
            refine w_iload_n rfl rfl ?_
            refine w_iload_n rfl rfl ?_
            refine c_VI [vI x1, vI x2] [vR 1] rfl b_CallLog_gap k_C_156 rfl rfl rfl rfl rfl rfl (mwpI_mono (fun z11 h11 F => ?_) F)
            refine c_VI [vI z11] [] rfl b_CallLog_pairsAsClose k_C_160 rfl rfl rfl rfl rfl rfl (mwpI_mono (fun z12 h12 F => ?_) F)
            refine w_goto (tgt := 74) rfl (by decide) ?_
            exact w_iret rfl rfl ⟨rfl, rfl, _, rfl, F⟩
        · replace F := F.2 q8
          refine w_iconst rfl ?_
          exact w_iret rfl rfl ⟨rfl, rfl, _, rfl, F⟩
theorem s_M_odds_0 {d : Nat}  (x1 x2 x3 : Int) (h : St) (K : Int → St → Prop) (F : (inR x1) ∧ (0 ≤ h 110 0 ∧ h 110 0 ≤ 60) ∧ ((¬ (0 ≤ x1 ∧ x1 < h 110 0) → (K ((-1)) h)) ∧ (0 ≤ x1 ∧ x1 < h 110 0 → (inR x2) ∧ ((¬ (0 ≤ x2 ∧ x2 < h 110 0) → (K ((-1)) h)) ∧ (0 ≤ x2 ∧ x2 < h 110 0 → ((x1 = x2 → (K ((-1)) h)) ∧ (¬ (x1 = x2) → (inR x3) ∧ ((0 ≤ x3 ∧ x3 ≤ 1 → (wI (d + 2) m_M_odds 42 [(0, vR 109), (1, vI x1), (2, vI x2), (3, vI x3), (4, vI 0), (5, vI 0), (6, vI 0)] [] h K)) ∧ (¬ (0 ≤ x3 ∧ x3 ≤ 1) → (K ((-1)) h)))))))))) : wI (d + 2) m_M_odds 0 [(0, vR 109), (1, vI x1), (2, vI x2), (3, vI x3)] [] h K := by
  refine w_aload_n rfl rfl ?_
  refine w_iload_n rfl rfl ?_
  obtain ⟨b1, F⟩ := F
  obtain ⟨b2, F⟩ := F
  refine c_VI [vI x1] [] rfl b_M_isCall k_M_197 rfl rfl rfl rfl rfl rfl (c_M_isCall b1 b2 ?_)
  refine w_ifeq_b (tgt := 31) rfl (by decide) (fun q3 => ?_) (fun q3 => ?_)
  · replace F := F.1 q3
    refine w_iconst rfl ?_
    exact w_iret rfl rfl ⟨rfl, rfl, _, rfl, F⟩
  · replace F := F.2 q3
    refine w_aload_n rfl rfl ?_
    refine w_iload_n rfl rfl ?_
    obtain ⟨b4, F⟩ := F
    refine c_VI [vI x2] [] rfl b_M_isCall k_M_197 rfl rfl rfl rfl rfl rfl (c_M_isCall b4 b2 ?_)
    refine w_ifeq_b (tgt := 31) rfl (by decide) (fun q5 => ?_) (fun q5 => ?_)
    · replace F := F.1 q5
      refine w_iconst rfl ?_
      exact w_iret rfl rfl ⟨rfl, rfl, _, rfl, F⟩
    · replace F := F.2 q5
      refine w_iload_n rfl rfl ?_
      refine w_iload_n rfl rfl ?_
      refine w_icmp_eq (tgt := 31) rfl (by decide) ⟨b1, b4⟩ (fun q6 => ?_) (fun q6 => ?_)
      · replace F := F.1 q6
        refine w_iconst rfl ?_
        exact w_iret rfl rfl ⟨rfl, rfl, _, rfl, F⟩
      · replace F := F.2 q6
        refine w_iload_n rfl rfl ?_
        obtain ⟨b7, F⟩ := F
        refine w_i2l b7 rfl ?_
        refine w_lconst rfl ?_
        refine w_lconst rfl ?_
        refine c_SI [vJ x3, vJ 0, vJ 1] [] rfl b_M_in k_M_130 rfl rfl rfl (c_M_in (inL_of b7) (by decide) (by decide) ?_)
        refine w_ifne_b (tgt := 33) rfl (by decide) (fun q8 => ?_) (fun q8 => ?_)
        · replace F := F.1 q8
          refine w_iconst rfl ?_
          refine w_istore rfl rfl rfl rfl (w_ls (ls2 := [(0, vR 109), (1, vI x1), (2, vI x2), (3, vI x3), (4, vI 0)]) rfl ?_)
          refine w_iconst rfl ?_
          refine w_istore rfl rfl rfl rfl (w_ls (ls2 := [(0, vR 109), (1, vI x1), (2, vI x2), (3, vI x3), (4, vI 0), (5, vI 0)]) rfl ?_)
          refine w_iconst rfl ?_
          refine w_istore rfl rfl rfl rfl (w_ls (ls2 := [(0, vR 109), (1, vI x1), (2, vI x2), (3, vI x3), (4, vI 0), (5, vI 0), (6, vI 0)]) rfl ?_)
          exact F
        · replace F := F.2 q8
          refine w_iconst rfl ?_
          exact w_iret rfl rfl ⟨rfl, rfl, _, rfl, F⟩
theorem s_M_odds_42 {d : Nat}  (x1 x2 x3 x4 x5 x6 : Int) (h : St) (K : Int → St → Prop) (F : (inR x6) ∧ (inR (h 110 0)) ∧ (((h 110 0) ≤ x6 → (((inR x3))) ∧ (K (cif (x3 ≠ 0) x5 x4) h)) ∧ (¬ ((h 110 0) ≤ x6) → (wI (d + 2) m_M_odds 56 [(0, vR 109), (1, vI x1), (2, vI x2), (3, vI x3), (4, vI x4), (5, vI x5), (6, vI x6), (7, vI 0)] [] h K)))) : wI (d + 2) m_M_odds 42 [(0, vR 109), (1, vI x1), (2, vI x2), (3, vI x3), (4, vI x4), (5, vI x5), (6, vI x6)] [] h K := by
  refine w_iload rfl rfl ?_
  refine w_aload_n rfl rfl ?_
  refine w_getR rfl f_M_7 rfl rfl rfl rfl rfl ?_
  refine w_iconst rfl ?_
  refine w_iaload rfl rfl rfl ⟨by decide, by decide⟩ ?_
  obtain ⟨b1, F⟩ := F
  obtain ⟨b2, F⟩ := F
  refine w_icmp_ge (tgt := 125) rfl (by decide) ⟨b1, b2⟩ (fun q3 => ?_) (fun q3 => ?_)
  · replace F := F.1 q3
    refine w_iload_n rfl rfl ?_
    obtain ⟨G, F⟩ := F
    have J : ∀ (t6 : Int), t6 = cif (x3 ≠ 0) x5 x4 → wI (d + 2) m_M_odds 136 [(0, vR 109), (1, vI x1), (2, vI x2), (3, vI x3), (4, vI x4), (5, vI x5), (6, vI x6)] [vI t6] h K := by
      intro t6 et6
      subst et6
      exact w_iret rfl rfl ⟨rfl, rfl, _, rfl, F⟩
    have b4 := G
    refine w_if_ne (tgt := 134) rfl (by decide) b4 (fun q5 => ?_) (fun q5 => ?_)
    · refine w_iload rfl rfl ?_
      exact J _ (cif_t q5).symm
    · refine w_iload rfl rfl ?_
      refine w_goto (tgt := 136) rfl (by decide) ?_
      exact J _ (cif_f q5).symm
  · replace F := F.2 q3
    refine w_iconst rfl ?_
    refine w_istore rfl rfl rfl rfl (w_ls (ls2 := [(0, vR 109), (1, vI x1), (2, vI x2), (3, vI x3), (4, vI x4), (5, vI x5), (6, vI x6), (7, vI 0)]) rfl ?_)
    exact F
theorem s_M_odds_56 {d : Nat}  (x1 x2 x3 x4 x5 x6 x7 : Int) (h : St) (K : Int → St → Prop) (F : (inR x7) ∧ (inR x6) ∧ ((x6 ≤ x7 → (wI (d + 2) m_M_odds 42 [(0, vR 109), (1, vI x1), (2, vI x2), (3, vI x3), (4, vI x4), (5, vI x5), (6, vI (x6 + 1))] [] h K)) ∧ (¬ (x6 ≤ x7) → (0 ≤ x6 ∧ x6 < 180) ∧ (0 ≤ x7 ∧ x7 < 180) ∧ (-2147483648 < ((h 116 x6.toNat) - (h 116 x7.toNat)) ∧ ((h 116 x6.toNat) - (h 116 x7.toNat)) < 2147483648) ∧ (0 ≤ x1 ∧ x1 < 180) ∧ (0 ≤ x2 ∧ x2 < 180) ∧ (-2147483648 < ((h 116 x1.toNat) - (h 116 x2.toNat)) ∧ ((h 116 x1.toNat) - (h 116 x2.toNat)) < 2147483648) ∧ (((inR ((((h 116 x6.toNat) - (h 116 x7.toNat)).natAbs : Int))) ∧ (inR ((((h 116 x1.toNat) - (h 116 x2.toNat)).natAbs : Int))))) ∧ (wI (d + 2) m_M_odds 56 [(0, vR 109), (1, vI x1), (2, vI x2), (3, vI x3), (4, vI (x4 + (b2i (¬ (((((h 116 x1.toNat) - (h 116 x2.toNat)).natAbs : Int)) < ((((h 116 x6.toNat) - (h 116 x7.toNat)).natAbs : Int))))))), (5, vI (x5 + 1)), (6, vI x6), (7, vI (x7 + 1))] [] h K)))) : wI (d + 2) m_M_odds 56 [(0, vR 109), (1, vI x1), (2, vI x2), (3, vI x3), (4, vI x4), (5, vI x5), (6, vI x6), (7, vI x7)] [] h K := by
  refine w_iload rfl rfl ?_
  refine w_iload rfl rfl ?_
  obtain ⟨b1, F⟩ := F
  obtain ⟨b2, F⟩ := F
  refine w_icmp_ge (tgt := 119) rfl (by decide) ⟨b1, b2⟩ (fun q3 => ?_) (fun q3 => ?_)
  · replace F := F.1 q3
    refine w_iinc rfl rfl rfl rfl rfl (w_ls (ls2 := [(0, vR 109), (1, vI x1), (2, vI x2), (3, vI x3), (4, vI x4), (5, vI x5), (6, vI (x6 + 1)), (7, vI x7)]) rfl ?_)
    refine w_goto (tgt := 42) rfl (by decide) ?_
    exact w_kp [0, 1, 2, 3, 4, 5, 6] F
  · replace F := F.2 q3
    refine w_iinc rfl rfl rfl rfl rfl (w_ls (ls2 := [(0, vR 109), (1, vI x1), (2, vI x2), (3, vI x3), (4, vI x4), (5, vI (x5 + 1)), (6, vI x6), (7, vI x7)]) rfl ?_)
    refine w_iload rfl rfl ?_
    refine w_aload_n rfl rfl ?_
    refine w_getR rfl f_M_28 rfl rfl rfl rfl rfl ?_
    refine w_iload rfl rfl ?_
    obtain ⟨b4, F⟩ := F
    refine w_iaload rfl rfl rfl b4 ?_
    refine w_aload_n rfl rfl ?_
    refine w_getR rfl f_M_28 rfl rfl rfl rfl rfl ?_
    refine w_iload rfl rfl ?_
    obtain ⟨b5, F⟩ := F
    refine w_iaload rfl rfl rfl b5 ?_
    refine w_isub rfl ?_
    obtain ⟨b6, F⟩ := F
    refine c_SI [vI ((h 116 x6.toNat) - (h 116 x7.toNat))] [vI x4] rfl b_M_size k_M_193 rfl rfl rfl (c_M_size b6 ?_)
    refine w_aload_n rfl rfl ?_
    refine w_getR rfl f_M_28 rfl rfl rfl rfl rfl ?_
    refine w_iload_n rfl rfl ?_
    obtain ⟨b7, F⟩ := F
    refine w_iaload rfl rfl rfl b7 ?_
    refine w_aload_n rfl rfl ?_
    refine w_getR rfl f_M_28 rfl rfl rfl rfl rfl ?_
    refine w_iload_n rfl rfl ?_
    obtain ⟨b8, F⟩ := F
    refine w_iaload rfl rfl rfl b8 ?_
    refine w_isub rfl ?_
    obtain ⟨b9, F⟩ := F
    refine c_SI [vI ((h 116 x1.toNat) - (h 116 x2.toNat))] [vI ((((h 116 x6.toNat) - (h 116 x7.toNat)).natAbs : Int)), vI x4] rfl b_M_size k_M_193 rfl rfl rfl (c_M_size b9 ?_)
    obtain ⟨G, F⟩ := F
    have J : ∀ (t13 : Int), t13 = b2i (¬ (((((h 116 x1.toNat) - (h 116 x2.toNat)).natAbs : Int)) < ((((h 116 x6.toNat) - (h 116 x7.toNat)).natAbs : Int)))) → wI (d + 2) m_M_odds 110 [(0, vR 109), (1, vI x1), (2, vI x2), (3, vI x3), (4, vI x4), (5, vI (x5 + 1)), (6, vI x6), (7, vI x7)] [vI t13, vI x4] h K := by
      intro t13 et13
      subst et13
      refine w_iadd rfl ?_
      refine w_istore rfl rfl rfl rfl (w_ls (ls2 := [(0, vR 109), (1, vI x1), (2, vI x2), (3, vI x3), (4, vI (x4 + (b2i (¬ (((((h 116 x1.toNat) - (h 116 x2.toNat)).natAbs : Int)) < ((((h 116 x6.toNat) - (h 116 x7.toNat)).natAbs : Int))))))), (5, vI (x5 + 1)), (6, vI x6), (7, vI x7)]) rfl ?_)
      refine w_iinc rfl rfl rfl rfl rfl (w_ls (ls2 := [(0, vR 109), (1, vI x1), (2, vI x2), (3, vI x3), (4, vI (x4 + (b2i (¬ (((((h 116 x1.toNat) - (h 116 x2.toNat)).natAbs : Int)) < ((((h 116 x6.toNat) - (h 116 x7.toNat)).natAbs : Int))))))), (5, vI (x5 + 1)), (6, vI x6), (7, vI (x7 + 1))]) rfl ?_)
      refine w_goto (tgt := 56) rfl (by decide) ?_
      exact F
    obtain ⟨b10, b11⟩ := G
    refine w_icmp_gt (tgt := 109) rfl (by decide) ⟨b10, b11⟩ (fun q12 => ?_) (fun q12 => ?_)
    · refine w_iconst rfl ?_
      exact J _ (b2i_f (fun z => z q12)).symm
    · refine w_iconst rfl ?_
      refine w_goto (tgt := 110) rfl (by decide) ?_
      exact J _ (b2i_t q12).symm
def sm (f : Nat → Int) : Nat → Int
  | 0 => 0
  | n + 1 => sm f n + f n
theorem sm_succ (f : Nat → Int) (n : Nat) : sm f (n + 1) = sm f n + f n := rfl
theorem sm_congr {f g : Nat → Int} : ∀ n : Nat, (∀ i, i < n → f i = g i) → sm f n = sm g n
  | 0, _ => rfl
  | n + 1, hh => by
    unfold sm
    rw [sm_congr n (fun i hi => hh i (by omega)), hh n (by omega)]
theorem sm_add {f g : Nat → Int} : ∀ n : Nat, sm (fun i => f i + g i) n = sm f n + sm g n
  | 0 => rfl
  | n + 1 => by
    unfold sm
    rw [sm_add n]
    omega
theorem sm_bnd {f : Nat → Int} {u : Int} (hu : 0 ≤ u) : ∀ n : Nat, (∀ i, i < n → 0 ≤ f i ∧ f i ≤ u) → 0 ≤ sm f n ∧ sm f n ≤ u * n
  | 0, _ => by simp [sm]
  | n + 1, hh => by
    have ih := sm_bnd hu n (fun i hi => hh i (by omega))
    have := hh n (by omega)
    have e : u * ((n + 1 : Nat) : Int) = u * n + u := by rw [Int.natCast_add, Int.mul_add]; simp
    unfold sm
    omega
theorem sm_zero {n : Nat} : sm (fun _ => 0) n = 0 := by
  induction n with
  | zero => rfl
  | succ n ih => unfold sm; rw [ih]; rfl
theorem b2i_B {p : Prop} : 0 ≤ b2i p ∧ b2i p ≤ 1 := by
  rcases b2i_01 (p := p) with q | q <;> rw [q] <;> decide
theorem CLog_at {h : St} {n : Nat} {lg : Nat → Nat → Int} (cl : CLog h n lg) {i : Nat} (hi : i < n) : h 2 i = lg 0 i ∧ h 3 i = lg 1 i ∧ h 4 i = lg 2 i ∧ h 5 i = lg 3 i ∧ h 6 i = lg 4 i ∧ h 7 i = lg 5 i := cl.2.2 i hi
def onD (lg : Nat → Nat → Int) (i : Nat) (d e : Int) : Prop := d ≤ (lg 2 i).tdiv 24 ∧ (lg 2 i).tdiv 24 ≤ e
theorem dayR {n : Nat} {lg : Nat → Nat → Int} (vl : VLog n lg) {i : Nat} (hi : i < n) : 0 ≤ (lg 2 i).tdiv 24 ∧ (lg 2 i).tdiv 24 ≤ 19 := by
  have q := (vl i hi).2.2.2.1
  rw [Int.tdiv_eq_ediv_of_nonneg q.1]
  omega
theorem c_CallLog_isOn {D : Nat} {h : St} {K : Int → St → Prop} {n : Nat} {lg : Nat → Nat → Int} (cl : CLog h n lg) (vl : VLog n lg) {i : Nat} (hi : i < n) {d e : Int} (r2 : inR d) (r3 : inR e) (k : K (b2i (onD lg i d e)) h) : mwpI (D + 1) m_CallLog_isOn [vR 1, vI i, vI d, vI e] h K := by
  have q := vl i hi
  have q2 := dayR vl hi
  have hn := cl.2.1
  obtain ⟨c0, c1, c2, c3, c4, c5⟩ := CLog_at cl hi
  refine mI_intro b_CallLog_isOn rfl (s_CallLog_isOn_0 (d := D) (i : Int) d e h K ?_)
  rw [Int.toNat_natCast, c2]
  refine ⟨by omega, ⟨by omega, by omega⟩, ⟨⟨by omega, by omega⟩, r2, fun _ => r3⟩, ?_⟩
  rw [b2i_congr (q := onD lg i d e) (by unfold onD; omega)]
  exact k
theorem c_M_isOn {D : Nat} {h : St} {K : Int → St → Prop} {n : Nat} {lg : Nat → Nat → Int} (ml : MLog h n lg) (vl : VLog n lg) {i : Nat} (hi : i < n) {d e : Int} (r2 : inR d) (r3 : inR e) (k : K (b2i (onD lg i d e)) h) : mwpI (D + 2) m_M_isOn [vR 109, vI i, vI d, vI e] h K := by
  have q := vl i hi
  have q2 := dayR vl hi
  have hn := ml.2.1
  obtain ⟨c0, c1, c2, c3, c4, c5⟩ := ml.2.2 i hi
  refine mI_intro b_M_isOn rfl (s_M_isOn_0 (d := D) (i : Int) d e h K ?_)
  rw [Int.toNat_natCast, c2]
  exact ⟨by omega, ⟨by omega, by omega⟩, ⟨by omega, by omega⟩, r2, r3, k⟩
def gapA (lg : Nat → Nat → Int) (a b : Nat) : Int := ((lg 5 a - lg 5 b).natAbs : Int)
theorem gapA_R {n : Nat} {lg : Nat → Nat → Int} (vl : VLog n lg) {a b : Nat} (ha : a < n) (hb : b < n) : 0 ≤ gapA lg a b ∧ gapA lg a b ≤ 99 := by
  have qa := (vl a ha).2.2.2.2.2.2
  have qb := (vl b hb).2.2.2.2.2.2
  unfold gapA
  omega
theorem gapA_sym {lg : Nat → Nat → Int} {a b : Nat} : gapA lg a b = gapA lg b a := by unfold gapA; omega
theorem c_CallLog_gap {D : Nat} {h : St} {K : Int → St → Prop} {n : Nat} {lg : Nat → Nat → Int} (cl : CLog h n lg) (vl : VLog n lg) {a b : Nat} (ha : a < n) (hb : b < n) (k : K (gapA lg a b) h) : mwpI (D + 2) m_CallLog_gap [vR 1, vI a, vI b] h K := by
  have qa := (vl a ha).2.2.2.2.2.2
  have qb := (vl b hb).2.2.2.2.2.2
  have hn := cl.2.1
  have c5 := (CLog_at cl ha).2.2.2.2.2
  have e5 := (CLog_at cl hb).2.2.2.2.2
  refine mI_intro b_CallLog_gap rfl (s_CallLog_gap_0 (d := D) (a : Int) (b : Int) h K ?_)
  rw [Int.toNat_natCast, Int.toNat_natCast, c5, e5]
  exact ⟨by omega, by omega, by omega, k⟩
noncomputable def clo (lg : Nat → Nat → Int) (w : Int) (a b : Nat) : Int := b2i (gapA lg a b ≤ w)
noncomputable def cloA (lg : Nat → Nat → Int) (w : Int) (n a : Nat) : Int := sm (clo lg w a) n - sm (clo lg w a) (a + 1)
theorem clo_sum {lg : Nat → Nat → Int} {w : Int} : ∀ n : Nat, sm (cloA lg w n) n = sm (fun x => sm (fun y => clo lg w x y) x) n
  | 0 => rfl
  | n + 1 => by
    have ih := clo_sum (lg := lg) (w := w) n
    have e1 : sm (cloA lg w (n + 1)) n = sm (fun a => cloA lg w n a + clo lg w a n) n := sm_congr n (fun i hi => by unfold cloA; rw [sm_succ _ n]; omega)
    have e2 : cloA lg w (n + 1) n = 0 := by unfold cloA; omega
    have e3 : sm (fun a => clo lg w a n) n = sm (fun y => clo lg w n y) n := sm_congr n (fun i hi => by unfold clo; rw [gapA_sym])
    show sm (cloA lg w (n + 1)) n + cloA lg w (n + 1) n = sm (fun x => sm (fun y => clo lg w x y) x) n + sm (fun y => clo lg w n y) n
    rw [e1, sm_add, e2, e3, ih]
    omega
theorem C_pairs_in {D : Nat} {h : St} {K : Int → St → Prop} {n : Nat} {lg : Nat → Nat → Int} (cl : CLog h n lg) (vl : VLog n lg) {w : Int} (rw_ : inR w) {a : Nat} (ha : a < n) : ∀ (m b : Nat) (x : Int), b + m = n → wI (D + 2) m_CallLog_pairsAsClose 4 [(0, vR 1), (1, vI w), (2, vI (x + (sm (clo lg w a) n - sm (clo lg w a) b))), (3, vI ((a : Int) + 1))] [] h K → wI (D + 2) m_CallLog_pairsAsClose 17 [(0, vR 1), (1, vI w), (2, vI x), (3, vI (a : Int)), (4, vI (b : Int))] [] h K := by
  have hn := cl.2.1
  have h6 := cl.1
  intro m
  induction m with
  | zero =>
    intro b x hb k
    refine s_CallLog_pairsAsClose_17 w x _ _ h K ⟨⟨by omega, by omega⟩, ⟨by omega, by omega⟩, fun _ => ?_, fun z => absurd (by omega) z⟩
    have e : b = n := by omega
    subst e
    rw [show x + (sm (clo lg w a) b - sm (clo lg w a) b) = x by omega] at k
    exact k
  | succ m ih =>
    intro b x hb k
    have hb2 : b < n := by omega
    have q := gapA_R vl ha hb2
    refine s_CallLog_pairsAsClose_17 w x _ _ h K ⟨⟨by omega, by omega⟩, ⟨by omega, by omega⟩, fun z => by omega, fun _ => c_CallLog_gap cl vl ha hb2 ⟨⟨by omega, by omega⟩, rw_, fun z => ?_, fun z => ?_⟩⟩
    · have ec : clo lg w a b = 0 := b2i_f (by omega)
      refine ih (b + 1) x (by omega) ?_
      rw [show sm (clo lg w a) (b + 1) = sm (clo lg w a) b + clo lg w a b from rfl, ec, show x + (sm (clo lg w a) n - (sm (clo lg w a) b + 0)) = x + (sm (clo lg w a) n - sm (clo lg w a) b) by omega]
      exact k
    · have ec : clo lg w a b = 1 := b2i_t (by omega)
      refine ih (b + 1) (x + 1) (by omega) ?_
      rw [show sm (clo lg w a) (b + 1) = sm (clo lg w a) b + clo lg w a b from rfl, ec, show x + 1 + (sm (clo lg w a) n - (sm (clo lg w a) b + 1)) = x + (sm (clo lg w a) n - sm (clo lg w a) b) by omega]
      exact k
theorem C_pairs_out {D : Nat} {h : St} {K : Int → St → Prop} {n : Nat} {lg : Nat → Nat → Int} (cl : CLog h n lg) (vl : VLog n lg) {w : Int} (rw_ : inR w) (k : K (sm (cloA lg w n) n) h) : ∀ (m a : Nat), a + m = n → wI (D + 2) m_CallLog_pairsAsClose 4 [(0, vR 1), (1, vI w), (2, vI (sm (cloA lg w n) a)), (3, vI (a : Int))] [] h K := by
  have hn := cl.2.1
  have h6 := cl.1
  intro m
  induction m with
  | zero =>
    intro a ha
    refine s_CallLog_pairsAsClose_4 w _ _ h K ⟨⟨by omega, by omega⟩, ⟨by omega, by omega⟩, fun _ => ?_, fun z => absurd (by omega) z⟩
    have e : a = n := by omega
    subst e
    exact k
  | succ m ih =>
    intro a ha
    refine s_CallLog_pairsAsClose_4 w _ _ h K ⟨⟨by omega, by omega⟩, ⟨by omega, by omega⟩, fun z => by omega, fun _ => ?_⟩
    exact C_pairs_in cl vl rw_ (by omega) m (a + 1) _ (by omega) (ih (a + 1) (by omega))
theorem M_odds_in {D : Nat} {h : St} {K : Int → St → Prop} {n : Nat} {lg : Nat → Nat → Int} (ml : MLog h n lg) (vl : VLog n lg) {a b : Nat} (ha : a < n) (hb : b < n) {w : Int} {x : Nat} (hx : x < n) {u v : Int} : ∀ (m y : Nat), y + m = x → wI (D + 2) m_M_odds 42 [(0, vR 109), (1, vI a), (2, vI b), (3, vI w), (4, vI (u + sm (clo lg (gapA lg a b) x) x)), (5, vI (v + sm (fun _ => 1) x)), (6, vI ((x : Int) + 1))] [] h K → wI (D + 2) m_M_odds 56 [(0, vR 109), (1, vI a), (2, vI b), (3, vI w), (4, vI (u + sm (clo lg (gapA lg a b) x) y)), (5, vI (v + sm (fun _ => 1) y)), (6, vI (x : Int)), (7, vI (y : Int))] [] h K := by
  have hn := ml.2.1
  intro m
  induction m with
  | zero =>
    intro y hy k
    have e : y = x := by omega
    subst e
    exact s_M_odds_56 _ _ w _ _ _ _ h K ⟨⟨by omega, by omega⟩, ⟨by omega, by omega⟩, fun _ => k, fun z => absurd (by omega) z⟩
  | succ m ih =>
    intro y hy k
    have hy2 : y < n := by omega
    have g1 := gapA_R vl ha hb
    have g2 := gapA_R vl hx hy2
    have pa := (ml.2.2 a ha).2.2.2.2.2
    have pb := (ml.2.2 b hb).2.2.2.2.2
    have px := (ml.2.2 x hx).2.2.2.2.2
    have py := (ml.2.2 y hy2).2.2.2.2.2
    have qa := (vl a ha).2.2.2.2.2.2
    have qb := (vl b hb).2.2.2.2.2.2
    have qx := (vl x hx).2.2.2.2.2.2
    have qy := (vl y hy2).2.2.2.2.2.2
    refine s_M_odds_56 _ _ w _ _ _ _ h K ⟨⟨by omega, by omega⟩, ⟨by omega, by omega⟩, fun z => by omega, fun _ => ?_⟩
    simp only [Int.toNat_natCast, pa, pb, px, py]
    refine ⟨by omega, by omega, by omega, by omega, by omega, by omega, ⟨⟨by omega, by omega⟩, ⟨by omega, by omega⟩⟩, ?_⟩
    have e1 : u + sm (clo lg (gapA lg a b) x) y + b2i (¬ ((((lg 5 a - lg 5 b).natAbs : Nat) : Int) < (((lg 5 x - lg 5 y).natAbs : Nat) : Int))) = u + sm (clo lg (gapA lg a b) x) (y + 1) := by
      rw [b2i_congr (q := gapA lg x y ≤ gapA lg a b) (by unfold gapA; omega)]
      show _ = u + (sm (clo lg (gapA lg a b) x) y + clo lg (gapA lg a b) x y)
      unfold clo
      omega
    have e2 : v + sm (fun _ => 1) y + 1 = v + sm (fun _ => 1) (y + 1) := by
      show _ = v + (sm (fun _ => 1) y + 1)
      omega
    rw [e1, e2]
    exact ih (y + 1) (by omega) k
theorem M_odds_out {D : Nat} {h : St} {K : Int → St → Prop} {n : Nat} {lg : Nat → Nat → Int} (ml : MLog h n lg) (vl : VLog n lg) {a b : Nat} (ha : a < n) (hb : b < n) {w : Int} (rw_ : inR w) (k : K (cif (w ≠ 0) (sm (fun x => sm (fun _ => 1) x) n) (sm (fun x => sm (fun y => clo lg (gapA lg a b) x y) x) n)) h) : ∀ (m x : Nat), x + m = n → wI (D + 2) m_M_odds 42 [(0, vR 109), (1, vI a), (2, vI b), (3, vI w), (4, vI (sm (fun x => sm (fun y => clo lg (gapA lg a b) x y) x) x)), (5, vI (sm (fun x => sm (fun _ => 1) x) x)), (6, vI (x : Int))] [] h K := by
  have hn := ml.2.1
  have h6 := ml.1
  intro m
  induction m with
  | zero =>
    intro x hx
    have e : x = n := by omega
    subst e
    exact s_M_odds_42 _ _ w _ _ _ h K ⟨⟨by omega, by omega⟩, ⟨by omega, by omega⟩, fun _ => ⟨rw_, k⟩, fun z => absurd (by omega) z⟩
  | succ m ih =>
    intro x hx
    refine s_M_odds_42 _ _ w _ _ _ h K ⟨⟨by omega, by omega⟩, ⟨by omega, by omega⟩, fun z => by omega, fun _ => ?_⟩
    have q := M_odds_in (D := D) (K := K) ml vl ha hb (w := w) (x := x) (by omega) (u := sm (fun x => sm (fun y => clo lg (gapA lg a b) x y) x) x) (v := sm (fun x => sm (fun _ => 1) x) x) x 0 (by omega) (ih (x + 1) (by omega))
    simp only [show ∀ f : Nat → Int, sm f 0 = 0 from fun _ => rfl, Int.add_zero] at q
    exact q
theorem all_eq : ∀ n : Nat, n ≤ 60 → ((n : Int) * ((n : Int) - 1)).tdiv 2 = sm (fun x => sm (fun _ => 1) x) n := by
  have key : ∀ n : Nat, n < 61 → ((n : Int) * ((n : Int) - 1)).tdiv 2 = sm (fun x => sm (fun _ => 1) x) n := by decide +kernel
  exact fun n hn => key n (by omega)
theorem tri_R : ∀ n : Nat, n ≤ 60 → inR ((n : Int) * ((n : Int) - 1)) ∧ 0 ≤ sm (fun x => sm (fun _ => 1) x) n ∧ sm (fun x => sm (fun _ => 1) x) n ≤ 2000 := by
  have key : ∀ n : Nat, n < 61 → inR ((n : Int) * ((n : Int) - 1)) ∧ 0 ≤ sm (fun x => sm (fun _ => 1) x) n ∧ sm (fun x => sm (fun _ => 1) x) n ≤ 2000 := by decide +kernel
  exact fun n hn => key n (by omega)
theorem P_odds {KK : Int → Int → St → Prop} {h : St} (hr : Rel h) {a1 a2 a3 : Int} (r1 : inR a1) (r2 : inR a2) (r3 : inR a3) (k : ∀ z h2, inR z → Rel h2 → KK z z h2) : mwpI 40 m_C_odds [vR 0, vI a1, vI a2, vI a3] h (fun z h1 => mwpI 40 m_M_odds [vR 109, vI a1, vI a2, vI a3] h1 (fun z2 h2 => KK z z2 h2)) := by
  obtain ⟨⟨n, lg, cl, ml, vl⟩, c9⟩ := id hr
  have hn := cl.2.1
  have w1 := cl.1
  have w2 := ml.1
  have kb := k (-1) h (by decide) hr
  have bad : ¬ ((0 ≤ a1 ∧ a1 < n) ∧ (0 ≤ a2 ∧ a2 < n) ∧ a1 ≠ a2 ∧ (0 ≤ a3 ∧ a3 ≤ 1)) → mwpI 40 m_M_odds [vR 109, vI a1, vI a2, vI a3] h (fun z2 h2 => KK (-1) z2 h2) := fun q => by
    refine mI_intro b_M_odds rfl (s_M_odds_0 (d := 37) a1 a2 a3 _ _ ⟨r1, by omega, fun _ => kb, fun q1 => ⟨r2, fun _ => kb, fun q2 => ⟨fun _ => kb, fun q3 => ⟨r3, fun q4 => absurd ⟨by omega, by omega, q3, q4⟩ q, fun _ => kb⟩⟩⟩⟩)
  have good : ∀ K : Int → St → Prop, (0 ≤ a1 ∧ a1 < n) ∧ (0 ≤ a2 ∧ a2 < n) ∧ a1 ≠ a2 ∧ (0 ≤ a3 ∧ a3 ≤ 1) → K (cif (a3 ≠ 0) (sm (fun x => sm (fun _ => 1) x) n) (sm (fun x => sm (fun y => clo lg (gapA lg a1.toNat a2.toNat) x y) x) n)) h → mwpI 40 m_M_odds [vR 109, vI a1, vI a2, vI a3] h K := fun K q kk => by
    refine mI_intro b_M_odds rfl (s_M_odds_0 (d := 37) a1 a2 a3 _ _ ⟨r1, by omega, fun z => absurd (by omega) z, fun q1 => ⟨r2, fun z => absurd (by omega) z, fun q2 => ⟨fun z => absurd z q.2.2.1, fun q3 => ⟨r3, fun q4 => ?_, fun z => absurd q.2.2.2 z⟩⟩⟩⟩)
    have q5 := M_odds_out (D := 37) (K := K) ml vl (a := a1.toNat) (b := a2.toNat) (by omega) (by omega) r3 kk n 0 (by omega)
    rw [show ((a1.toNat : Nat) : Int) = a1 by omega, show ((a2.toNat : Nat) : Int) = a2 by omega] at q5
    exact q5
  refine mI_intro b_C_odds rfl (s_C_odds_0 (d := 36) a1 a2 a3 h _ ⟨r1, by omega, fun q => bad (by omega), fun q1 => ⟨r2, fun q => bad (by omega), fun q2 => ⟨fun q => bad (by omega), fun q3 => ⟨r3, fun q4 => ⟨fun q5 => ?_, fun q5 => ?_⟩, fun q => bad (by omega)⟩⟩⟩⟩)
  · rw [w1]
    refine ⟨(tri_R n hn).1, ?_⟩
    refine good _ (by omega) ?_
    rw [cif_t q5, all_eq n hn]
    have q6 := (tri_R n hn).2
    exact k _ _ ⟨by omega, by omega⟩ hr
  · rw [show a1 = ((a1.toNat : Nat) : Int) by omega, show a2 = ((a2.toNat : Nat) : Int) by omega]
    have g := gapA_R vl (a := a1.toNat) (b := a2.toNat) (by omega) (by omega)
    refine c_CallLog_gap cl vl (by omega) (by omega) ?_
    refine mI_intro b_CallLog_pairsAsClose rfl (s_CallLog_pairsAsClose_0 (d := 36) _ h _ ?_)
    refine C_pairs_out cl vl ⟨by omega, by omega⟩ ?_ n 0 (by omega)
    rw [show ((a1.toNat : Nat) : Int) = a1 by omega, show ((a2.toNat : Nat) : Int) = a2 by omega]
    refine good _ (by omega) ?_
    rw [cif_f q5, clo_sum]
    have b0 := sm_bnd (f := fun x => sm (fun y => clo lg (gapA lg a1.toNat a2.toNat) x y) x) (u := 60) (by omega) n (fun i hi => by
      have := sm_bnd (f := fun y => clo lg (gapA lg a1.toNat a2.toNat) i y) (u := 1) (by omega) i (fun j _ => b2i_B)
      omega)
    exact k _ _ ⟨by omega, by omega⟩ hr
