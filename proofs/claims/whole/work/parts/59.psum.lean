theorem s_C_sum_0 {d : Nat}  (x1 : Int) (h : St) (K : Int → St → Prop) (F : (inR x1) ∧ ((0 ≤ x1 ∧ x1 ≤ 18 → (mwpV (d + 5) m_Hands_group [vR 57, vR 1] h (fun h3 => (mwpI (d + 5) m_Pairing_solve [vR 59, vR 1, vR 57, vI x1] h3 (fun z4 h4 => (inR z4) ∧ ((z4 = 0 → (K ((-2)) h4)) ∧ (¬ (z4 = 0) → (mwpI (d + 5) m_Pairing_greatest [vR 59] h4 (fun z7 h7 => (K z7 h7)))))))))) ∧ (¬ (0 ≤ x1 ∧ x1 ≤ 18) → (K ((-1)) h)))) : wI (d + 5) m_C_sum 0 [(0, vR 0), (1, vI x1)] [] h K := by
  refine w_iload_n rfl rfl ?_
  obtain ⟨b1, F⟩ := F
  refine c_SI [vI x1] [] rfl b_C_isMidnight k_C_164 rfl rfl rfl (c_C_isMidnight b1 ?_)
  refine w_ifne_b (tgt := 9) rfl (by decide) (fun q2 => ?_) (fun q2 => ?_)
  · replace F := F.1 q2
    refine w_aload_n rfl rfl ?_
    refine w_getR rfl f_C_26 rfl rfl rfl rfl rfl ?_
    refine w_aload_n rfl rfl ?_
    refine w_getR rfl f_C_10 rfl rfl rfl rfl rfl ?_
    refine c_VV [vR 1] [] rfl b_Hands_group k_C_147 rfl rfl rfl rfl rfl rfl (mwpV_mono (fun h3 F => ?_) F)
    refine w_aload_n rfl rfl ?_
    refine w_getR rfl f_C_33 rfl rfl rfl rfl rfl ?_
    refine w_aload_n rfl rfl ?_
    refine w_getR rfl f_C_10 rfl rfl rfl rfl rfl ?_
    refine w_aload_n rfl rfl ?_
    refine w_getR rfl f_C_26 rfl rfl rfl rfl rfl ?_
    refine w_iload_n rfl rfl ?_
    refine c_VI [vR 1, vR 57, vI x1] [] rfl b_Pairing_solve k_C_187 rfl rfl rfl rfl rfl rfl (mwpI_mono (fun z4 h4 F => ?_) F)
    obtain ⟨b5, F⟩ := F
    refine w_if_eq (tgt := 49) rfl (by decide) b5 (fun q6 => ?_) (fun q6 => ?_)
    · replace F := F.1 q6
      refine w_bipush (by decide) (by decide) rfl ?_
      exact w_iret rfl rfl ⟨rfl, rfl, _, rfl, F⟩
    · replace F := F.2 q6
      refine w_aload_n rfl rfl ?_
      refine w_getR rfl f_C_33 rfl rfl rfl rfl rfl ?_
      refine c_VI [] [] rfl b_Pairing_greatest k_C_197 rfl rfl rfl rfl rfl rfl (mwpI_mono (fun z7 h7 F => ?_) F)
      refine w_goto (tgt := 51) rfl (by decide) ?_
      exact w_iret rfl rfl ⟨rfl, rfl, _, rfl, F⟩
  · replace F := F.2 q2
    refine w_iconst rfl ?_
    exact w_iret rfl rfl ⟨rfl, rfl, _, rfl, F⟩
theorem s_M_sum_0 {d : Nat}  (x1 : Int) (h : St) (K : Int → St → Prop) (F : (inR x1) ∧ ((0 ≤ x1 ∧ x1 ≤ 18 → (mwpI (d + 3) m_M_lays [vR 109, vI x1] h (fun z3 h3 => (inR z3) ∧ ((0 ≤ z3 → (mwpI (d + 3) m_M_sums [vR 109, vI ((-1)), vI ((-1))] h3 (fun z6 h6 => (K z6 h6)))) ∧ (¬ (0 ≤ z3) → (K ((-2)) h3)))))) ∧ (¬ (0 ≤ x1 ∧ x1 ≤ 18) → (K ((-1)) h)))) : wI (d + 3) m_M_sum 0 [(0, vR 109), (1, vI x1)] [] h K := by
  refine w_iload_n rfl rfl ?_
  obtain ⟨b1, F⟩ := F
  refine w_i2l b1 rfl ?_
  refine w_lconst rfl ?_
  refine w_ldc2 (z := 18) kc_M_207 (by decide) rfl ?_
  refine c_SI [vJ x1, vJ 0, vJ 18] [] rfl b_M_in k_M_130 rfl rfl rfl (c_M_in (inL_of b1) (by decide) (by decide) ?_)
  refine w_ifne_b (tgt := 14) rfl (by decide) (fun q2 => ?_) (fun q2 => ?_)
  · replace F := F.1 q2
    refine w_aload_n rfl rfl ?_
    refine w_iload_n rfl rfl ?_
    refine c_VI [vI x1] [] rfl b_M_lays k_M_225 rfl rfl rfl rfl rfl rfl (mwpI_mono (fun z3 h3 F => ?_) F)
    obtain ⟨b4, F⟩ := F
    refine w_if_ge (tgt := 27) rfl (by decide) b4 (fun q5 => ?_) (fun q5 => ?_)
    · replace F := F.1 q5
      refine w_aload_n rfl rfl ?_
      refine w_iconst rfl ?_
      refine w_iconst rfl ?_
      refine c_VI [vI ((-1)), vI ((-1))] [] rfl b_M_sums k_M_222 rfl rfl rfl rfl rfl rfl (mwpI_mono (fun z6 h6 F => ?_) F)
      exact w_iret rfl rfl ⟨rfl, rfl, _, rfl, F⟩
    · replace F := F.2 q5
      refine w_bipush (by decide) (by decide) rfl ?_
      refine w_goto (tgt := 33) rfl (by decide) ?_
      exact w_iret rfl rfl ⟨rfl, rfl, _, rfl, F⟩
  · replace F := F.2 q2
    refine w_iconst rfl ?_
    exact w_iret rfl rfl ⟨rfl, rfl, _, rfl, F⟩
theorem s_C_follow_0 {d : Nat}  (x1 x2 x3 : Int) (h : St) (K : Int → St → Prop) (F : (inR x1) ∧ ((¬ (0 ≤ x1 ∧ x1 ≤ 18) → (K ((-1)) h)) ∧ (0 ≤ x1 ∧ x1 ≤ 18 → (inR x2) ∧ ((¬ (0 ≤ x2 ∧ x2 ≤ 11) → (K ((-1)) h)) ∧ (0 ≤ x2 ∧ x2 ≤ 11 → (inR x3) ∧ ((0 ≤ x3 ∧ x3 ≤ 1 → (mwpV (d + 5) m_Hands_group [vR 57, vR 1] h (fun h7 => (mwpI (d + 5) m_Pairing_solve [vR 59, vR 1, vR 57, vI x1] h7 (fun z8 h8 => (inR z8) ∧ ((z8 ≠ 0 → (0 ≤ x2 ∧ x2 < 12) ∧ (inR (h8 70 x2.toNat)) ∧ (((h8 70 x2.toNat) = ((-4)) → (K (h8 70 x2.toNat) h8)) ∧ (¬ ((h8 70 x2.toNat) = ((-4))) → ((x3 ≠ 0 → (mwpI (d + 5) m_Pairing_isSure [vR 59, vI x2] h8 (fun z15 h15 => (((inR z15))) ∧ (K (b2i (¬ (z15 = 0))) h15)))) ∧ (¬ (x3 ≠ 0) → (K (h8 70 x2.toNat) h8)))))) ∧ (¬ (z8 ≠ 0) → (K ((-2)) h8)))))))) ∧ (¬ (0 ≤ x3 ∧ x3 ≤ 1) → (K ((-1)) h)))))))) : wI (d + 5) m_C_follow 0 [(0, vR 0), (1, vI x1), (2, vI x2), (3, vI x3)] [] h K := by
  refine w_iload_n rfl rfl ?_
  obtain ⟨b1, F⟩ := F
  refine c_SI [vI x1] [] rfl b_C_isMidnight k_C_164 rfl rfl rfl (c_C_isMidnight b1 ?_)
  refine w_ifeq_b (tgt := 23) rfl (by decide) (fun q2 => ?_) (fun q2 => ?_)
  · replace F := F.1 q2
    refine w_iconst rfl ?_
    exact w_iret rfl rfl ⟨rfl, rfl, _, rfl, F⟩
  · replace F := F.2 q2
    refine w_iload_n rfl rfl ?_
    obtain ⟨b3, F⟩ := F
    refine c_SI [vI x2] [] rfl b_C_isName k_C_96 rfl rfl rfl (c_C_isName b3 ?_)
    refine w_ifeq_b (tgt := 23) rfl (by decide) (fun q4 => ?_) (fun q4 => ?_)
    · replace F := F.1 q4
      refine w_iconst rfl ?_
      exact w_iret rfl rfl ⟨rfl, rfl, _, rfl, F⟩
    · replace F := F.2 q4
      refine w_iload_n rfl rfl ?_
      refine w_iconst rfl ?_
      refine w_iconst rfl ?_
      obtain ⟨b5, F⟩ := F
      refine c_SI [vI x3, vI 0, vI 1] [] rfl b_C_isAmong k_C_103 rfl rfl rfl (c_C_isAmong b5 (r_lit rfl) (r_lit rfl) ?_)
      refine w_ifne_b (tgt := 25) rfl (by decide) (fun q6 => ?_) (fun q6 => ?_)
      · replace F := F.1 q6
        refine w_aload_n rfl rfl ?_
        refine w_getR rfl f_C_26 rfl rfl rfl rfl rfl ?_
        refine w_aload_n rfl rfl ?_
        refine w_getR rfl f_C_10 rfl rfl rfl rfl rfl ?_
        refine c_VV [vR 1] [] rfl b_Hands_group k_C_147 rfl rfl rfl rfl rfl rfl (mwpV_mono (fun h7 F => ?_) F)
        refine w_aload_n rfl rfl ?_
        refine w_getR rfl f_C_33 rfl rfl rfl rfl rfl ?_
        refine w_aload_n rfl rfl ?_
        refine w_getR rfl f_C_10 rfl rfl rfl rfl rfl ?_
        refine w_aload_n rfl rfl ?_
        refine w_getR rfl f_C_26 rfl rfl rfl rfl rfl ?_
        refine w_iload_n rfl rfl ?_
        refine c_VI [vR 1, vR 57, vI x1] [] rfl b_Pairing_solve k_C_187 rfl rfl rfl rfl rfl rfl (mwpI_mono (fun z8 h8 F => ?_) F)
        obtain ⟨b9, F⟩ := F
        refine w_if_ne (tgt := 58) rfl (by decide) b9 (fun q10 => ?_) (fun q10 => ?_)
        · replace F := F.1 q10
          refine w_aload_n rfl rfl ?_
          refine w_getR rfl f_C_33 rfl rfl rfl rfl rfl ?_
          refine w_getR rfl f_C_191 rfl rfl rfl rfl rfl ?_
          refine w_iload_n rfl rfl ?_
          obtain ⟨b11, F⟩ := F
          refine w_iaload rfl rfl rfl b11 ?_
          refine w_istore rfl rfl rfl rfl (w_ls (ls2 := [(0, vR 0), (1, vI x1), (2, vI x2), (3, vI x3), (4, vI (h8 70 x2.toNat))]) rfl ?_)
          refine w_iload rfl rfl ?_
          refine w_bipush (by decide) (by decide) rfl ?_
          obtain ⟨b12, F⟩ := F
          refine w_icmp_eq (tgt := 80) rfl (by decide) ⟨b12, (r_lit rfl)⟩ (fun q13 => ?_) (fun q13 => ?_)
          · replace F := F.1 q13
            refine w_iload rfl rfl ?_
            exact w_iret rfl rfl ⟨rfl, rfl, _, rfl, F⟩
          · replace F := F.2 q13
            refine w_iload_n rfl rfl ?_
            refine w_if_ne (tgt := 83) rfl (by decide) b5 (fun q14 => ?_) (fun q14 => ?_)
            · replace F := F.1 q14
              refine w_aload_n rfl rfl ?_
              refine w_getR rfl f_C_33 rfl rfl rfl rfl rfl ?_
              refine w_iload_n rfl rfl ?_
              refine c_VI [vI x2] [] rfl b_Pairing_isSure k_C_194 rfl rfl rfl rfl rfl rfl (mwpI_mono (fun z15 h15 F => ?_) F)
              obtain ⟨G, F⟩ := F
              have J : ∀ (t18 : Int), t18 = b2i (¬ (z15 = 0)) → wI (d + 5) m_C_follow 99 [(0, vR 0), (1, vI x1), (2, vI x2), (3, vI x3), (4, vI (h8 70 x2.toNat))] [vI t18] h15 K := by
                intro t18 et18
                subst et18
                exact w_iret rfl rfl ⟨rfl, rfl, _, rfl, F⟩
              have b16 := G
              refine w_if_eq (tgt := 98) rfl (by decide) b16 (fun q17 => ?_) (fun q17 => ?_)
              · refine w_iconst rfl ?_
                exact J _ (b2i_f (fun z => z q17)).symm
              · refine w_iconst rfl ?_
                refine w_goto (tgt := 99) rfl (by decide) ?_
                exact J _ (b2i_t q17).symm
            · replace F := F.2 q14
              refine w_iload rfl rfl ?_
              exact w_iret rfl rfl ⟨rfl, rfl, _, rfl, F⟩
        · replace F := F.2 q10
          refine w_bipush (by decide) (by decide) rfl ?_
          exact w_iret rfl rfl ⟨rfl, rfl, _, rfl, F⟩
      · replace F := F.2 q6
        refine w_iconst rfl ?_
        exact w_iret rfl rfl ⟨rfl, rfl, _, rfl, F⟩
theorem s_M_follow_0 {d : Nat}  (x1 x2 x3 : Int) (h : St) (K : Int → St → Prop) (F : (inR x1) ∧ ((¬ (0 ≤ x1 ∧ x1 ≤ 18) → (K ((-1)) h)) ∧ (0 ≤ x1 ∧ x1 ≤ 18 → (inR x2) ∧ ((¬ (0 ≤ x2 ∧ x2 ≤ 11) → (K ((-1)) h)) ∧ (0 ≤ x2 ∧ x2 ≤ 11 → (inR x3) ∧ ((0 ≤ x3 ∧ x3 ≤ 1 → (mwpI (d + 3) m_M_lays [vR 109, vI x1] h (fun z7 h7 => (inR z7) ∧ ((0 ≤ z7 → (mwpI (d + 3) m_M_placeOf [vR 109, vI x2] h7 (fun z10 h10 => (mwpV (d + 3) m_M_pairs [vR 109] h10 (fun h11 => (inR z10) ∧ ((z10 < 0 → (K ((-4)) h11)) ∧ (¬ (z10 < 0) → (0 ≤ z10 ∧ z10 < 8) ∧ (inR (h11 136 z10.toNat)) ∧ ((0 ≤ (h11 136 z10.toNat) → ((x3 ≠ 0 → (mwpI (d + 3) m_M_isSure [vR 109, vI z10] h11 (fun z18 h18 => (((inR z18))) ∧ (K (b2i (¬ (z18 = 0))) h18)))) ∧ (¬ (x3 ≠ 0) → (0 ≤ h11 136 z10.toNat ∧ h11 136 z10.toNat < 12) ∧ (K (h11 133 ((h11 136 z10.toNat).toNat)) h11)))) ∧ (¬ (0 ≤ (h11 136 z10.toNat)) → (K ((-4)) h11)))))))))) ∧ (¬ (0 ≤ z7) → (K ((-2)) h7)))))) ∧ (¬ (0 ≤ x3 ∧ x3 ≤ 1) → (K ((-1)) h)))))))) : wI (d + 3) m_M_follow 0 [(0, vR 109), (1, vI x1), (2, vI x2), (3, vI x3)] [] h K := by
  refine w_iload_n rfl rfl ?_
  obtain ⟨b1, F⟩ := F
  refine w_i2l b1 rfl ?_
  refine w_lconst rfl ?_
  refine w_ldc2 (z := 18) kc_M_207 (by decide) rfl ?_
  refine c_SI [vJ x1, vJ 0, vJ 18] [] rfl b_M_in k_M_130 rfl rfl rfl (c_M_in (inL_of b1) (by decide) (by decide) ?_)
  refine w_ifeq_b (tgt := 29) rfl (by decide) (fun q2 => ?_) (fun q2 => ?_)
  · replace F := F.1 q2
    refine w_iconst rfl ?_
    exact w_iret rfl rfl ⟨rfl, rfl, _, rfl, F⟩
  · replace F := F.2 q2
    refine w_iload_n rfl rfl ?_
    obtain ⟨b3, F⟩ := F
    refine c_SI [vI x2] [] rfl b_M_isName k_M_142 rfl rfl rfl (c_M_isName b3 ?_)
    refine w_ifeq_b (tgt := 29) rfl (by decide) (fun q4 => ?_) (fun q4 => ?_)
    · replace F := F.1 q4
      refine w_iconst rfl ?_
      exact w_iret rfl rfl ⟨rfl, rfl, _, rfl, F⟩
    · replace F := F.2 q4
      refine w_iload_n rfl rfl ?_
      obtain ⟨b5, F⟩ := F
      refine w_i2l b5 rfl ?_
      refine w_lconst rfl ?_
      refine w_lconst rfl ?_
      refine c_SI [vJ x3, vJ 0, vJ 1] [] rfl b_M_in k_M_130 rfl rfl rfl (c_M_in (inL_of b5) (by decide) (by decide) ?_)
      refine w_ifne_b (tgt := 31) rfl (by decide) (fun q6 => ?_) (fun q6 => ?_)
      · replace F := F.1 q6
        refine w_aload_n rfl rfl ?_
        refine w_iload_n rfl rfl ?_
        refine c_VI [vI x1] [] rfl b_M_lays k_M_225 rfl rfl rfl rfl rfl rfl (mwpI_mono (fun z7 h7 F => ?_) F)
        obtain ⟨b8, F⟩ := F
        refine w_if_ge (tgt := 42) rfl (by decide) b8 (fun q9 => ?_) (fun q9 => ?_)
        · replace F := F.1 q9
          refine w_aload_n rfl rfl ?_
          refine w_iload_n rfl rfl ?_
          refine c_VI [vI x2] [] rfl b_M_placeOf k_M_228 rfl rfl rfl rfl rfl rfl (mwpI_mono (fun z10 h10 F => ?_) F)
          refine w_istore rfl rfl rfl rfl (w_ls (ls2 := [(0, vR 109), (1, vI x1), (2, vI x2), (3, vI x3), (4, vI z10)]) rfl ?_)
          refine w_aload_n rfl rfl ?_
          refine c_VV [] [] rfl b_M_pairs k_M_231 rfl rfl rfl rfl rfl rfl (mwpV_mono (fun h11 F => ?_) F)
          refine w_iload rfl rfl ?_
          obtain ⟨b12, F⟩ := F
          refine w_if_lt (tgt := 68) rfl (by decide) b12 (fun q13 => ?_) (fun q13 => ?_)
          · replace F := F.1 q13
            refine w_bipush (by decide) (by decide) rfl ?_
            exact w_iret rfl rfl ⟨rfl, rfl, _, rfl, F⟩
          · replace F := F.2 q13
            refine w_aload_n rfl rfl ?_
            refine w_getR rfl f_M_96 rfl rfl rfl rfl rfl ?_
            refine w_iload rfl rfl ?_
            obtain ⟨b14, F⟩ := F
            refine w_iaload rfl rfl rfl b14 ?_
            obtain ⟨b15, F⟩ := F
            refine w_if_ge (tgt := 71) rfl (by decide) b15 (fun q16 => ?_) (fun q16 => ?_)
            · replace F := F.1 q16
              refine w_iload_n rfl rfl ?_
              refine w_if_ne (tgt := 90) rfl (by decide) b5 (fun q17 => ?_) (fun q17 => ?_)
              · replace F := F.1 q17
                refine w_aload_n rfl rfl ?_
                refine w_iload rfl rfl ?_
                refine c_VI [vI z10] [] rfl b_M_isSure k_M_234 rfl rfl rfl rfl rfl rfl (mwpI_mono (fun z18 h18 F => ?_) F)
                obtain ⟨G, F⟩ := F
                have J : ∀ (t21 : Int), t21 = b2i (¬ (z18 = 0)) → wI (d + 3) m_M_follow 104 [(0, vR 109), (1, vI x1), (2, vI x2), (3, vI x3), (4, vI z10)] [vI t21] h18 K := by
                  intro t21 et21
                  subst et21
                  exact w_iret rfl rfl ⟨rfl, rfl, _, rfl, F⟩
                have b19 := G
                refine w_if_eq (tgt := 103) rfl (by decide) b19 (fun q20 => ?_) (fun q20 => ?_)
                · refine w_iconst rfl ?_
                  exact J _ (b2i_f (fun z => z q20)).symm
                · refine w_iconst rfl ?_
                  refine w_goto (tgt := 104) rfl (by decide) ?_
                  exact J _ (b2i_t q20).symm
              · replace F := F.2 q17
                refine w_aload_n rfl rfl ?_
                refine w_getR rfl f_M_87 rfl rfl rfl rfl rfl ?_
                refine w_aload_n rfl rfl ?_
                refine w_getR rfl f_M_96 rfl rfl rfl rfl rfl ?_
                refine w_iload rfl rfl ?_
                refine w_iaload rfl rfl rfl b14 ?_
                obtain ⟨b22, F⟩ := F
                refine w_iaload rfl rfl rfl b22 ?_
                refine w_goto (tgt := 104) rfl (by decide) ?_
                exact w_iret rfl rfl ⟨rfl, rfl, _, rfl, F⟩
            · replace F := F.2 q16
              refine w_bipush (by decide) (by decide) rfl ?_
              exact w_iret rfl rfl ⟨rfl, rfl, _, rfl, F⟩
        · replace F := F.2 q9
          refine w_bipush (by decide) (by decide) rfl ?_
          exact w_iret rfl rfl ⟨rfl, rfl, _, rfl, F⟩
      · replace F := F.2 q6
        refine w_iconst rfl ?_
        exact w_iret rfl rfl ⟨rfl, rfl, _, rfl, F⟩
theorem s_Pairing_greatest_0 {d : Nat}  (h : St) (K : Int → St → Prop) (F : (K (h 73 0) h)) : wI d m_Pairing_greatest 0 [(0, vR 59)] [] h K := by
  refine w_aload_n rfl rfl ?_
  refine w_getR rfl f_Pairing_31 rfl rfl rfl rfl rfl ?_
  refine w_iconst rfl ?_
  refine w_iaload rfl rfl rfl ⟨by decide, by decide⟩ ?_
  exact w_iret rfl rfl ⟨rfl, rfl, _, rfl, F⟩
theorem s_Pairing_isSure_0 {d : Nat}  (x1 : Int) (h : St) (K : Int → St → Prop) (F : (((inR (and3 (shr3 (h 59 7) x1) 1)))) ∧ (K (b2i (¬ ((and3 (shr3 (h 59 7) x1) 1) = 0))) h)) : wI d m_Pairing_isSure 0 [(0, vR 59), (1, vI x1)] [] h K := by
  refine w_aload_n rfl rfl ?_
  refine w_getI rfl f_Pairing_38 rfl rfl rfl ?_
  refine w_iload_n rfl rfl ?_
  refine w_ishr rfl ?_
  refine w_iconst rfl ?_
  refine w_iand rfl ?_
  obtain ⟨G, F⟩ := F
  have J : ∀ (t3 : Int), t3 = b2i (¬ ((and3 (shr3 (h 59 7) x1) 1) = 0)) → wI d m_Pairing_isSure 16 [(0, vR 59), (1, vI x1)] [vI t3] h K := by
    intro t3 et3
    subst et3
    exact w_zret rfl rfl b2i_01 ⟨rfl, rfl, _, rfl, F⟩
  have b1 := G
  refine w_if_eq (tgt := 15) rfl (by decide) b1 (fun q2 => ?_) (fun q2 => ?_)
  · refine w_iconst rfl ?_
    exact J _ (b2i_f (fun z => z q2)).symm
  · refine w_iconst rfl ?_
    refine w_goto (tgt := 16) rfl (by decide) ?_
    exact J _ (b2i_t q2).symm
theorem C_grR {D : Nat} {K : St → Prop} {h : St} (hr : Rel h) (k : ∀ (n : Nat) (lg : Nat → Nat → Int) (fh : Nat → Nat) (h1 : St), ag (fun c k => c ≠ 58 ∧ ¬ (c = 57 ∧ k = 1)) h h1 → CLog h1 n lg → MLog h1 n lg → VLog n lg → (∀ c, c < n → h1 58 (paA lg c) = ((fh c : Nat) : Int)) → (∀ c, c < n → fh c < 60) → (∀ f, isHand lg n (h 109 14) f → ∀ c, c < n → f c = ((fh c : Nat) : Int)) → (0 ≤ h 109 14 ∧ h 109 14 ≤ 99) → Rel h1 → K h1) : mwpV (D + 3) m_Hands_group [vR 57, vR 1] h K := by
  obtain ⟨⟨n, lg, cl, ml, vl⟩, c2, c3, ⟨t1, t2, t3, t4⟩, c9⟩ := id hr
  have hn := cl.2.1
  refine c_Hands_group cl vl rfl t2 (fun h1 g1 _ hh => ?_)
  have fb : ∀ c, c < n → (h1 58 (paA lg c)).toNat < 60 := fun c hc => by have q1 : 0 ≤ h1 58 (paA lg c) := (hh.2 c hc).1; have q2 : h1 58 (paA lg c) ≤ c := (hh.2 c hc).2.1; omega
  have fe : ∀ c, c < n → h1 58 (paA lg c) = (((h1 58 (paA lg c)).toNat : Nat) : Int) := fun c hc => by have q1 : 0 ≤ h1 58 (paA lg c) := (hh.2 c hc).1; omega
  refine k n lg (fun c => (h1 58 (paA lg c)).toNat) h1 g1 (CLog_c (ag_sub (fun c k p => by omega) g1) cl) (MLog_c (ag_sub (fun c k p => by omega) g1) ml) vl fe fb (fun f hf c hc => ?_) (by rw [← t1]; exact t2) (Rel_c (ag_sub (fun c k p => by omega) g1) hr)
  rw [← t1] at hf
  rw [isHand_uni hf hh c hc]; exact fe c hc
theorem c_Pairing_greatest {D : Nat} {h : St} {K : Int → St → Prop} (k : K (h 73 0) h) : mwpI (D + 1) m_Pairing_greatest [vR 59] h K := mI_intro b_Pairing_greatest rfl (s_Pairing_greatest_0 (d := D) h K k)
theorem P_sum {KK : Int → Int → St → Prop} {h : St} (hr : Rel h) {a1 : Int} (r1 : inR a1) (k : ∀ z h2, inR z → Rel h2 → KK z z h2) : mwpI 40 m_C_sum [vR 0, vI a1] h (fun z h1 => mwpI 40 m_M_sum [vR 109, vI a1] h1 (fun z2 h2 => KK z z2 h2)) := by
  refine mI_intro b_C_sum rfl (s_C_sum_0 (d := 34) a1 h _ ⟨r1, fun q => ?_, fun q => ?_⟩)
  · refine C_grR hr (fun n lg fh h1 g1 cl ml vl hf fb hu ht hr1 => ?_)
    have cm : ∀ h2 : St, ag (fun c k => (c < 60 ∨ 74 < c) ∧ ¬ (c = 59 ∧ k = 7)) h1 h2 → Rel h2 ∧ MLog h2 n lg ∧ h2 109 14 = h 109 14 := fun h2 g2 => ⟨Rel_c (ag_sub (fun c k p => by omega) g2) hr1, MLog_c (ag_sub (fun c k p => by omega) g2) ml, by rw [g2 109 14 (by omega), g1 109 14 (by omega)]⟩
    refine c_Pairing_solve cl vl (by omega) hf fb (fun no h2 g2 => ?_) (fun p8 q8 h2 g2 sv => ?_)
    · obtain ⟨rl, ml2, et⟩ := cm h2 g2
      refine ⟨by decide, fun _ => ?_, fun y => absurd rfl y⟩
      refine mI_intro b_M_sum rfl (s_M_sum_0 (d := 36) a1 _ _ ⟨r1, fun _ => ?_, fun y => absurd q y⟩)
      exact c_M_lays ml2 vl fb (by omega) et ht hu (fun _ h3 g3 => ⟨by decide, fun y => absurd y (by decide), fun _ => k _ _ (by decide) (Rel_c (ag_sub (fun c k p => by omega) g3) rl)⟩) (fun x1 x2 => absurd ⟨x1, x2⟩ no)
    · obtain ⟨rl, ml2, et⟩ := cm h2 g2
      have w := W0_R (q := nP n lg (a1 + 1)) (Lk_R (n := n) (lg := lg) (fh := fh) (d := a1)) p8 (i := 0) (s := 0)
      refine ⟨by decide, fun y => absurd y (by decide), fun _ => c_Pairing_greatest ?_⟩
      rw [sv.1]
      refine mI_intro b_M_sum rfl (s_M_sum_0 (d := 36) a1 _ _ ⟨r1, fun _ => ?_, fun y => absurd q y⟩)
      refine c_M_lays ml2 vl fb (by omega) et ht hu (fun no => absurd ⟨p8, q8⟩ no) (fun _ _ h3 g3 mq _ => ⟨by decide, fun _ => ?_, fun y => absurd (by decide) y⟩)
      refine c_M_sums (by decide) (by decide) mq (fun h4 g4 _ => k _ _ ⟨by omega, by omega⟩ (Rel_c (ag_sub (fun c k p => by omega) g4) (Rel_c (ag_sub (fun c k p => by omega) g3) rl)))
  · exact mI_intro b_M_sum rfl (s_M_sum_0 (d := 36) a1 _ _ ⟨r1, fun y => absurd y q, fun _ => k _ _ (by decide) hr⟩)
theorem sur_b {h : St} {p q : Nat} {L : Nat → Nat → Int} {N1 N2 : Nat → Nat} {i : Nat} {sr : Nat} (hi : i < p) (inj : ∀ i j, i < j → j < p → N1 i ≠ N1 j) (s3 : ∀ b, sr.testBit b = true ↔ ∃ i, i < p ∧ N1 i = b ∧ sureP p q L i) : sr.testBit (N1 i) = true ↔ sureP p q L i := by
  rw [s3]
  constructor
  · rintro ⟨j, x1, x2, x3⟩
    have e : j = i := by
      by_cases y : j < i
      · exact absurd x2 (inj j i y hi)
      · by_cases z : i < j
        · exact absurd x2.symm (inj i j z x1)
        · omega
    rw [← e]; exact x3
  · intro y; exact ⟨i, hi, rfl, y⟩
theorem c_Pairing_isSure {D : Nat} {h : St} {K : Int → St → Prop} {sr b : Nat} (e : h 59 7 = (sr : Int)) (s2 : sr < 2 ^ 12) (hb : b < 12) (k : K (b2i (sr.testBit b = true)) h) : mwpI (D + 1) m_Pairing_isSure [vR 59, vI b] h K := by
  refine mI_intro b_Pairing_isSure rfl (s_Pairing_isSure_0 (d := D) _ h K ?_)
  rw [e, has_nat (by omega) (by omega)]
  refine ⟨b2i_R, ?_⟩
  rw [bb]; exact k
theorem P_follow {KK : Int → Int → St → Prop} {h : St} (hr : Rel h) {a1 a2 a3 : Int} (r1 : inR a1) (r2 : inR a2) (r3 : inR a3) (k : ∀ z h2, inR z → Rel h2 → KK z z h2) : mwpI 40 m_C_follow [vR 0, vI a1, vI a2, vI a3] h (fun z h1 => mwpI 40 m_M_follow [vR 109, vI a1, vI a2, vI a3] h1 (fun z2 h2 => KK z z2 h2)) := by
  have kb := k (-1) h (by decide) hr
  have bad : ¬ ((0 ≤ a1 ∧ a1 ≤ 18) ∧ (0 ≤ a2 ∧ a2 ≤ 11) ∧ (0 ≤ a3 ∧ a3 ≤ 1)) → mwpI 40 m_M_follow [vR 109, vI a1, vI a2, vI a3] h (fun z2 h2 => KK (-1) z2 h2) := fun q =>
    mI_intro b_M_follow rfl (s_M_follow_0 (d := 36) a1 a2 a3 _ _ ⟨r1, fun _ => kb, fun q1 => ⟨r2, fun _ => kb, fun q2 => ⟨r3, fun q3 => absurd ⟨q1, q2, q3⟩ q, fun _ => kb⟩⟩⟩)
  refine mI_intro b_C_follow rfl (s_C_follow_0 (d := 34) a1 a2 a3 h _ ⟨r1, fun q => bad (fun z => q z.1), fun q1 => ⟨r2, fun q => bad (fun z => q z.2.1), fun q2 => ⟨r3, fun q3 => ?_, fun q => bad (fun z => q z.2.2)⟩⟩⟩)
  obtain ⟨b, rfl⟩ : ∃ b : Nat, a2 = (b : Int) := ⟨a2.toNat, by omega⟩
  refine C_grR hr (fun n lg fh h1 g1 cl ml vl hf fb hu ht hr1 => ?_)
  have cm : ∀ h2 : St, ag (fun c k => (c < 60 ∨ 74 < c) ∧ ¬ (c = 59 ∧ k = 7)) h1 h2 → Rel h2 ∧ MLog h2 n lg ∧ h2 109 14 = h 109 14 := fun h2 g2 => ⟨Rel_c (ag_sub (fun c k p => by omega) g2) hr1, MLog_c (ag_sub (fun c k p => by omega) g2) ml, by rw [g2 109 14 (by omega), g1 109 14 (by omega)]⟩
  have md : ∀ (h2 : St) (K : Int → St → Prop), mwpI 39 m_M_lays [vR 109, vI a1] h2 (fun z7 h7 => (inR z7) ∧ ((0 ≤ z7 → (mwpI 39 m_M_placeOf [vR 109, vI (b : Int)] h7 (fun z10 h10 => (mwpV 39 m_M_pairs [vR 109] h10 (fun h11 => (inR z10) ∧ ((z10 < 0 → (K ((-4)) h11)) ∧ (¬ (z10 < 0) → (0 ≤ z10 ∧ z10 < 8) ∧ (inR (h11 136 z10.toNat)) ∧ ((0 ≤ (h11 136 z10.toNat) → ((a3 ≠ 0 → (mwpI 39 m_M_isSure [vR 109, vI z10] h11 (fun z18 h18 => (((inR z18))) ∧ (K (b2i (¬ (z18 = 0))) h18)))) ∧ (¬ (a3 ≠ 0) → (0 ≤ h11 136 z10.toNat ∧ h11 136 z10.toNat < 12) ∧ (K (h11 133 ((h11 136 z10.toNat).toNat)) h11)))) ∧ (¬ (0 ≤ (h11 136 z10.toNat)) → (K ((-4)) h11)))))))))) ∧ (¬ (0 ≤ z7) → (K ((-2)) h7)))) → mwpI 40 m_M_follow [vR 109, vI a1, vI (b : Int), vI a3] h2 K := fun h2 K y =>
    mI_intro b_M_follow rfl (s_M_follow_0 (d := 36) a1 _ a3 _ _ ⟨r1, fun q => absurd q1 q, fun _ => ⟨r2, fun q => absurd q2 q, fun _ => ⟨r3, fun _ => y, fun q => absurd q3 q⟩⟩⟩)
  refine c_Pairing_solve cl vl (by omega) hf fb (fun no h2 g2 => ?_) (fun p8 q8 h2 g2 sv => ?_)
  · obtain ⟨rl, ml2, et⟩ := cm h2 g2
    refine ⟨by decide, fun y => absurd rfl y, fun _ => md h2 _ ?_⟩
    exact c_M_lays ml2 vl fb (by omega) et ht hu (fun _ h3 g3 => ⟨by decide, fun y => absurd y (by decide), fun _ => k _ _ (by decide) (Rel_c (ag_sub (fun c k p => by omega) g3) rl)⟩) (fun x1 x2 => absurd ⟨x1, x2⟩ no)
  · obtain ⟨rl, ml2, et⟩ := cm h2 g2
    obtain ⟨v1, v2, v3, sr, s1, s2, s3⟩ := sv
    generalize hp : nP n lg a1 = p at *
    generalize hq : nP n lg (a1 + 1) = q at *
    generalize hL : Lk n lg fh a1 = L at *
    generalize hN1 : nmS (sS n lg a1) = N1 at *
    generalize hN2 : nmS (sS n lg (a1 + 1)) = N2 at *
    have inj : ∀ i j, i < j → j < p → N1 i ≠ N1 j := fun i j x y => by rw [← hN1]; exact nmS_ne x (by rw [show cS (sS n lg a1) 12 = p from hp]; exact y)
    have n2r : ∀ j, j < q → N2 j < 12 := fun j hj => by rw [← hN2]; exact (nmS_c (by rw [show cS (sS n lg (a1 + 1)) 12 = q from hq]; exact hj)).1
    rw [Int.toNat_natCast]
    by_cases ex : ∃ i, i < p ∧ N1 i = b
    · obtain ⟨i, i1, i2⟩ := ex
      have e70 : h2 70 b = cif (bC p q L i < q) (N2 (bC p q L i)) (-4) := by rw [← i2]; exact v2.1 i i1
      have pl : ∀ (h7 h11 : St) (K : Int → St → Prop), Mq h7 p q L → MN h7 p q N1 N2 → (∀ h11, ag (fun c _ => c ≠ 135 ∧ c ≠ 136) h7 h11 → mbc h11 p q L p → ((bC p q L i < q → (a3 ≠ 0 → ∀ h12, ag (fun c _ => c ≠ 135) h11 h12 → K (b2i (sureP p q L i)) h12) ∧ (¬ a3 ≠ 0 → K (N2 (bC p q L i)) h11)) ∧ (¬ bC p q L i < q → K (-4) h11))) → mwpI 39 m_M_placeOf [vR 109, vI (b : Int)] h7 (fun z10 h10 => (mwpV 39 m_M_pairs [vR 109] h10 (fun h11 => (inR z10) ∧ ((z10 < 0 → (K ((-4)) h11)) ∧ (¬ (z10 < 0) → (0 ≤ z10 ∧ z10 < 8) ∧ (inR (h11 136 z10.toNat)) ∧ ((0 ≤ (h11 136 z10.toNat) → ((a3 ≠ 0 → (mwpI 39 m_M_isSure [vR 109, vI z10] h11 (fun z18 h18 => (((inR z18))) ∧ (K (b2i (¬ (z18 = 0))) h18)))) ∧ (¬ (a3 ≠ 0) → (0 ≤ h11 136 z10.toNat ∧ h11 136 z10.toNat < 12) ∧ (K (h11 133 ((h11 136 z10.toNat).toNat)) h11)))) ∧ (¬ (0 ≤ (h11 136 z10.toNat)) → (K ((-4)) h11))))))))  := fun h7 _ K mq mn kk => by
        refine c_M_placeOf mq.1 p8 mn.1 ⟨by omega, by omega⟩ (fun z hz => ?_)
        refine c_M_pairs mq (fun h11 g11 mb => ?_)
        rcases hz with ⟨z1, z2⟩ | ⟨i', z1, z2, z3⟩
        · exact absurd (by omega) (z2 i i1)
        · have ei : i' = i := by
            by_cases y : i' < i
            · exact absurd (by omega) (inj i' i y i1)
            · by_cases w : i < i'
              · exact absurd (by omega) (inj i i' w z1)
              · omega
          subst ei
          subst z2
          have bl := bC_le (p := p) (q := q) (L := L) (i := i')
          rw [Int.toNat_natCast, mb i' z1]
          obtain ⟨k1, k2⟩ := kk h11 g11 mb
          refine ⟨⟨by omega, by omega⟩, fun y => by omega, fun _ => ⟨⟨by omega, by omega⟩, cif_R ⟨by omega, by omega⟩ (by decide), ?_⟩⟩
          by_cases y : bC p q L i' < q
          · have n3 := n2r _ y
            have mq2 := Mq_c (ag_sub (fun c k p => by omega) g11) mq
            have mn2 := MN_c (ag_sub (fun c k p => by omega) g11) mn
            rw [cif_t y, Int.toNat_natCast, (mn2.2 _ y).1]
            refine ⟨fun _ => ⟨fun w => c_M_isSure mq2 mb z1 y (fun h12 g12 => ⟨b2i_R, ?_⟩), fun w => ⟨⟨by omega, by omega⟩, (k1 y).2 w⟩⟩, fun w => by omega⟩
            rw [bb]; exact (k1 y).1 w h12 g12
          · rw [cif_f y]
            exact ⟨fun w => absurd w (by decide), fun _ => k2 y⟩
      rw [e70]
      have mm : ∀ (z : Int), inR z → ((bC p q L i < q → (a3 ≠ 0 → z = b2i (sureP p q L i)) ∧ (¬ a3 ≠ 0 → z = N2 (bC p q L i))) ∧ (¬ bC p q L i < q → z = -4)) → mwpI 40 m_M_follow [vR 109, vI a1, vI (b : Int), vI a3] h2 (fun z2 h2 => KK z z2 h2) := fun z rz hz => md h2 _ (by
        refine c_M_lays ml2 vl fb (by omega) et ht hu (fun no => absurd ⟨by rw [hp]; exact p8, by rw [hq]; exact q8⟩ no) (fun _ _ h3 g3 mq mn => ⟨by decide, fun _ => ?_, fun y => absurd (by decide) y⟩)
        rw [hp, hq, hL] at mq
        rw [hp, hq, hN1, hN2] at mn
        have rl3 : Rel h3 := Rel_c (ag_sub (fun c k p => by omega) g3) rl
        refine pl h3 h3 _ mq mn (fun h11 g11 _ => ?_)
        have rl4 : Rel h11 := Rel_c (ag_sub (fun c k p => by omega) g11) rl3
        refine ⟨fun y => ⟨fun w h12 g12 => ?_, fun w => ?_⟩, fun y => ?_⟩
        · rw [← (hz.1 y).1 w]; exact k _ _ rz (Rel_c (ag_sub (fun c k p => by omega) g12) rl4)
        · rw [← (hz.1 y).2 w]; exact k _ _ rz rl4
        · rw [← hz.2 y]; exact k _ _ rz rl4)
      by_cases y : bC p q L i < q
      · have n3 := n2r _ y
        rw [cif_t y]
        refine ⟨by decide, fun _ => ⟨⟨by omega, by omega⟩, ⟨by omega, by omega⟩, fun w => by omega, fun _ => ⟨fun w => ?_, fun w => ?_⟩⟩, fun y => absurd (by decide) y⟩
        · refine c_Pairing_isSure s1 s2 (by omega) ⟨b2i_R, ?_⟩
          rw [bb, ← i2, b2i_congr (sur_b (h := h2) (N2 := N2) i1 inj s3), i2]
          exact mm _ b2i_R ⟨fun _ => ⟨fun _ => rfl, fun x => absurd w x⟩, fun x => absurd y x⟩
        · exact mm _ ⟨by omega, by omega⟩ ⟨fun _ => ⟨fun x => absurd x w, fun _ => rfl⟩, fun x => absurd y x⟩
      · rw [cif_f y]
        exact ⟨by decide, fun _ => ⟨⟨by omega, by omega⟩, by decide, fun _ => mm _ (by decide) ⟨fun x => absurd x y, fun _ => rfl⟩, fun w => absurd rfl w⟩, fun y => absurd (by decide) y⟩
    · have e70 : h2 70 b = -4 := v2.2 b (by omega) (fun i hi e => ex ⟨i, hi, e⟩)
      rw [e70]
      refine ⟨by decide, fun _ => ⟨⟨by omega, by omega⟩, by decide, fun _ => md h2 _ ?_, fun w => absurd rfl w⟩, fun y => absurd (by decide) y⟩
      refine c_M_lays ml2 vl fb (by omega) et ht hu (fun no => absurd ⟨by rw [hp]; exact p8, by rw [hq]; exact q8⟩ no) (fun _ _ h3 g3 mq mn => ⟨by decide, fun _ => ?_, fun y => absurd (by decide) y⟩)
      rw [hp, hq, hL] at mq
      rw [hp, hq, hN1, hN2] at mn
      refine c_M_placeOf mq.1 p8 mn.1 ⟨by omega, by omega⟩ (fun z hz => ?_)
      refine c_M_pairs mq (fun h11 g11 mb => ?_)
      rcases hz with ⟨z1, z2⟩ | ⟨i', z1, z2, z3⟩
      · subst z1
        exact ⟨by decide, fun _ => k _ _ (by decide) (Rel_c (ag_sub (fun c k p => by omega) g11) (Rel_c (ag_sub (fun c k p => by omega) g3) rl)), fun y => absurd (by decide) y⟩
      · exact absurd ⟨i', z1, by omega⟩ ex
