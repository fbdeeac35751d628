theorem s_C_tree_0 {d : Nat}  (x1 x2 x3 x4 : Int) (h : St) (K : Int → St → Prop) (F : (inR x4) ∧ ((¬ (0 ≤ x4 ∧ x4 ≤ 2) → (K ((-1)) h)) ∧ (0 ≤ x4 ∧ x4 ≤ 2 → ((x4 = 2 → (inR x2) ∧ (inR x3) ∧ ((0 ≤ x2 ∧ x2 ≤ x3 ∧ x3 ≤ 19 → (mwpI (d + 4) m_CallLog_heardOn [vR 1, vI x2, vI x3] h (fun z7 h7 => (mwpI (d + 4) m_JI_bitCount [vI z7] h7 (fun z8 h8 => (inR z8) ∧ ((2 ≤ z8 ∧ z8 ≤ 6 → (mwpV (d + 4) m_Orders_weighSigns [vR 77, vR 1, vI x2, vI x3] h8 (fun h11 => (mwpV (d + 4) m_Tree_solve [vR 79, vI z7, vR 78] h11 (fun h12 => ((x4 ≠ 2 → ((x4 ≠ 0 → (mwpI (d + 4) m_Tree_sureness [vR 79, vI x1] h12 (fun z15 h15 => (K z15 h15)))) ∧ (¬ (x4 ≠ 0) → (mwpI (d + 4) m_Tree_nameAbove [vR 79, vI x1] h12 (fun z16 h16 => (K z16 h16)))))) ∧ (¬ (x4 ≠ 2) → (K (h12 79 0) h12)))))))) ∧ (¬ (2 ≤ z8 ∧ z8 ≤ 6) → (K ((-2)) h8)))))))) ∧ (¬ (0 ≤ x2 ∧ x2 ≤ x3 ∧ x3 ≤ 19) → (K ((-1)) h)))) ∧ (¬ (x4 = 2) → (inR x1) ∧ ((¬ (0 ≤ x1 ∧ x1 ≤ 11) → (K ((-1)) h)) ∧ (0 ≤ x1 ∧ x1 ≤ 11 → (inR x2) ∧ (inR x3) ∧ ((0 ≤ x2 ∧ x2 ≤ x3 ∧ x3 ≤ 19 → (mwpI (d + 4) m_CallLog_heardOn [vR 1, vI x2, vI x3] h (fun z22 h22 => (mwpI (d + 4) m_JI_bitCount [vI z22] h22 (fun z23 h23 => (inR z23) ∧ ((2 ≤ z23 ∧ z23 ≤ 6 → (mwpV (d + 4) m_Orders_weighSigns [vR 77, vR 1, vI x2, vI x3] h23 (fun h26 => (mwpV (d + 4) m_Tree_solve [vR 79, vI z22, vR 78] h26 (fun h27 => ((x4 ≠ 2 → ((x4 ≠ 0 → (mwpI (d + 4) m_Tree_sureness [vR 79, vI x1] h27 (fun z30 h30 => (K z30 h30)))) ∧ (¬ (x4 ≠ 0) → (mwpI (d + 4) m_Tree_nameAbove [vR 79, vI x1] h27 (fun z31 h31 => (K z31 h31)))))) ∧ (¬ (x4 ≠ 2) → (K (h27 79 0) h27)))))))) ∧ (¬ (2 ≤ z23 ∧ z23 ≤ 6) → (K ((-2)) h23)))))))) ∧ (¬ (0 ≤ x2 ∧ x2 ≤ x3 ∧ x3 ≤ 19) → (K ((-1)) h)))))))))) : wI (d + 4) m_C_tree 0 [(0, vR 0), (1, vI x1), (2, vI x2), (3, vI x3), (4, vI x4)] [] h K := by
  refine w_iload rfl rfl ?_
  refine w_iconst rfl ?_
  refine w_iconst rfl ?_
  obtain ⟨b1, F⟩ := F
  refine c_SI [vI x4, vI 0, vI 2] [] rfl b_C_isAmong k_C_103 rfl rfl rfl (c_C_isAmong b1 (r_lit rfl) (r_lit rfl) ?_)
  refine w_ifeq_b (tgt := 31) rfl (by decide) (fun q2 => ?_) (fun q2 => ?_)
  · replace F := F.1 q2
    refine w_iconst rfl ?_
    exact w_iret rfl rfl ⟨rfl, rfl, _, rfl, F⟩
  · replace F := F.2 q2
    refine w_iload rfl rfl ?_
    refine w_iconst rfl ?_
    refine w_icmp_eq (tgt := 23) rfl (by decide) ⟨b1, (r_lit rfl)⟩ (fun q3 => ?_) (fun q3 => ?_)
    · replace F := F.1 q3
      refine w_iload_n rfl rfl ?_
      refine w_iload_n rfl rfl ?_
      obtain ⟨b4, F⟩ := F
      obtain ⟨b5, F⟩ := F
      refine c_SI [vI x2, vI x3] [] rfl b_C_isSpan k_C_224 rfl rfl rfl (c_C_isSpan b4 b5 ?_)
      refine w_ifne_b (tgt := 33) rfl (by decide) (fun q6 => ?_) (fun q6 => ?_)
      · replace F := F.1 q6
        refine w_aload_n rfl rfl ?_
        refine w_getR rfl f_C_10 rfl rfl rfl rfl rfl ?_
        refine w_iload_n rfl rfl ?_
        refine w_iload_n rfl rfl ?_
        refine c_VI [vI x2, vI x3] [] rfl b_CallLog_heardOn k_C_235 rfl rfl rfl rfl rfl rfl (mwpI_mono (fun z7 h7 F => ?_) F)
        refine w_istore rfl rfl rfl rfl (w_ls (ls2 := [(0, vR 0), (1, vI x1), (2, vI x2), (3, vI x3), (4, vI x4), (5, vI z7)]) rfl ?_)
        refine w_iload rfl rfl ?_
        refine c_SI [vI z7] [] rfl b_JI_bitCount k_C_238 rfl rfl rfl (mwpI_mono (fun z8 h8 F => ?_) F)
        refine w_iconst rfl ?_
        refine w_bipush (by decide) (by decide) rfl ?_
        obtain ⟨b9, F⟩ := F
        refine c_SI [vI z8, vI 2, vI 6] [] rfl b_C_isAmong k_C_103 rfl rfl rfl (c_C_isAmong b9 (r_lit rfl) (r_lit rfl) ?_)
        refine w_ifne_b (tgt := 61) rfl (by decide) (fun q10 => ?_) (fun q10 => ?_)
        · replace F := F.1 q10
          refine w_aload_n rfl rfl ?_
          refine w_getR rfl f_C_47 rfl rfl rfl rfl rfl ?_
          refine w_aload_n rfl rfl ?_
          refine w_getR rfl f_C_10 rfl rfl rfl rfl rfl ?_
          refine w_iload_n rfl rfl ?_
          refine w_iload_n rfl rfl ?_
          refine c_VV [vR 1, vI x2, vI x3] [] rfl b_Orders_weighSigns k_C_228 rfl rfl rfl rfl rfl rfl (mwpV_mono (fun h11 F => ?_) F)
          refine w_aload_n rfl rfl ?_
          refine w_getR rfl f_C_54 rfl rfl rfl rfl rfl ?_
          refine w_iload rfl rfl ?_
          refine w_aload_n rfl rfl ?_
          refine w_getR rfl f_C_47 rfl rfl rfl rfl rfl ?_
          refine w_getR rfl f_C_232 rfl rfl rfl rfl rfl ?_
          refine c_VV [vI z7, vR 78] [] rfl b_Tree_solve k_C_243 rfl rfl rfl rfl rfl rfl (mwpV_mono (fun h12 F => ?_) F)
          refine w_iload rfl rfl ?_
          refine w_iconst rfl ?_
          refine w_icmp_ne (tgt := 104) rfl (by decide) ⟨b1, (r_lit rfl)⟩ (fun q13 => ?_) (fun q13 => ?_)
          · replace F := F.1 q13
            refine w_iload rfl rfl ?_
            refine w_if_ne (tgt := 120) rfl (by decide) b1 (fun q14 => ?_) (fun q14 => ?_)
            · replace F := F.1 q14
              refine w_aload_n rfl rfl ?_
              refine w_getR rfl f_C_54 rfl rfl rfl rfl rfl ?_
              refine w_iload_n rfl rfl ?_
              refine c_VI [vI x1] [] rfl b_Tree_sureness k_C_252 rfl rfl rfl rfl rfl rfl (mwpI_mono (fun z15 h15 F => ?_) F)
              exact w_iret rfl rfl ⟨rfl, rfl, _, rfl, F⟩
            · replace F := F.2 q14
              refine w_aload_n rfl rfl ?_
              refine w_getR rfl f_C_54 rfl rfl rfl rfl rfl ?_
              refine w_iload_n rfl rfl ?_
              refine c_VI [vI x1] [] rfl b_Tree_nameAbove k_C_249 rfl rfl rfl rfl rfl rfl (mwpI_mono (fun z16 h16 F => ?_) F)
              refine w_goto (tgt := 128) rfl (by decide) ?_
              exact w_iret rfl rfl ⟨rfl, rfl, _, rfl, F⟩
          · replace F := F.2 q13
            refine w_aload_n rfl rfl ?_
            refine w_getR rfl f_C_54 rfl rfl rfl rfl rfl ?_
            refine w_getI rfl f_C_246 rfl rfl rfl ?_
            exact w_iret rfl rfl ⟨rfl, rfl, _, rfl, F⟩
        · replace F := F.2 q10
          refine w_bipush (by decide) (by decide) rfl ?_
          exact w_iret rfl rfl ⟨rfl, rfl, _, rfl, F⟩
      · replace F := F.2 q6
        refine w_iconst rfl ?_
        exact w_iret rfl rfl ⟨rfl, rfl, _, rfl, F⟩
    · replace F := F.2 q3
      refine w_iload_n rfl rfl ?_
      obtain ⟨b17, F⟩ := F
      refine c_SI [vI x1] [] rfl b_C_isName k_C_96 rfl rfl rfl (c_C_isName b17 ?_)
      refine w_ifeq_b (tgt := 31) rfl (by decide) (fun q18 => ?_) (fun q18 => ?_)
      · replace F := F.1 q18
        refine w_iconst rfl ?_
        exact w_iret rfl rfl ⟨rfl, rfl, _, rfl, F⟩
      · replace F := F.2 q18
        refine w_iload_n rfl rfl ?_
        refine w_iload_n rfl rfl ?_
        obtain ⟨b19, F⟩ := F
        obtain ⟨b20, F⟩ := F
        refine c_SI [vI x2, vI x3] [] rfl b_C_isSpan k_C_224 rfl rfl rfl (c_C_isSpan b19 b20 ?_)
        refine w_ifne_b (tgt := 33) rfl (by decide) (fun q21 => ?_) (fun q21 => ?_)
        · replace F := F.1 q21
          refine w_aload_n rfl rfl ?_
          refine w_getR rfl f_C_10 rfl rfl rfl rfl rfl ?_
          refine w_iload_n rfl rfl ?_
          refine w_iload_n rfl rfl ?_
          refine c_VI [vI x2, vI x3] [] rfl b_CallLog_heardOn k_C_235 rfl rfl rfl rfl rfl rfl (mwpI_mono (fun z22 h22 F => ?_) F)
          refine w_istore rfl rfl rfl rfl (w_ls (ls2 := [(0, vR 0), (1, vI x1), (2, vI x2), (3, vI x3), (4, vI x4), (5, vI z22)]) rfl ?_)
          refine w_iload rfl rfl ?_
          refine c_SI [vI z22] [] rfl b_JI_bitCount k_C_238 rfl rfl rfl (mwpI_mono (fun z23 h23 F => ?_) F)
          refine w_iconst rfl ?_
          refine w_bipush (by decide) (by decide) rfl ?_
          obtain ⟨b24, F⟩ := F
          refine c_SI [vI z23, vI 2, vI 6] [] rfl b_C_isAmong k_C_103 rfl rfl rfl (c_C_isAmong b24 (r_lit rfl) (r_lit rfl) ?_)
          refine w_ifne_b (tgt := 61) rfl (by decide) (fun q25 => ?_) (fun q25 => ?_)
          · replace F := F.1 q25
            refine w_aload_n rfl rfl ?_
            refine w_getR rfl f_C_47 rfl rfl rfl rfl rfl ?_
            refine w_aload_n rfl rfl ?_
            refine w_getR rfl f_C_10 rfl rfl rfl rfl rfl ?_
            refine w_iload_n rfl rfl ?_
            refine w_iload_n rfl rfl ?_
            refine c_VV [vR 1, vI x2, vI x3] [] rfl b_Orders_weighSigns k_C_228 rfl rfl rfl rfl rfl rfl (mwpV_mono (fun h26 F => ?_) F)
            refine w_aload_n rfl rfl ?_
            refine w_getR rfl f_C_54 rfl rfl rfl rfl rfl ?_
            refine w_iload rfl rfl ?_
            refine w_aload_n rfl rfl ?_
            refine w_getR rfl f_C_47 rfl rfl rfl rfl rfl ?_
            refine w_getR rfl f_C_232 rfl rfl rfl rfl rfl ?_
            refine c_VV [vI z22, vR 78] [] rfl b_Tree_solve k_C_243 rfl rfl rfl rfl rfl rfl (mwpV_mono (fun h27 F => ?_) F)
            refine w_iload rfl rfl ?_
            refine w_iconst rfl ?_
            refine w_icmp_ne (tgt := 104) rfl (by decide) ⟨b1, (r_lit rfl)⟩ (fun q28 => ?_) (fun q28 => ?_)
            · replace F := F.1 q28
              refine w_iload rfl rfl ?_
              refine w_if_ne (tgt := 120) rfl (by decide) b1 (fun q29 => ?_) (fun q29 => ?_)
              · replace F := F.1 q29
                refine w_aload_n rfl rfl ?_
                refine w_getR rfl f_C_54 rfl rfl rfl rfl rfl ?_
                refine w_iload_n rfl rfl ?_
                refine c_VI [vI x1] [] rfl b_Tree_sureness k_C_252 rfl rfl rfl rfl rfl rfl (mwpI_mono (fun z30 h30 F => ?_) F)
                exact w_iret rfl rfl ⟨rfl, rfl, _, rfl, F⟩
              · replace F := F.2 q29
                refine w_aload_n rfl rfl ?_
                refine w_getR rfl f_C_54 rfl rfl rfl rfl rfl ?_
                refine w_iload_n rfl rfl ?_
                refine c_VI [vI x1] [] rfl b_Tree_nameAbove k_C_249 rfl rfl rfl rfl rfl rfl (mwpI_mono (fun z31 h31 F => ?_) F)
                refine w_goto (tgt := 128) rfl (by decide) ?_
                exact w_iret rfl rfl ⟨rfl, rfl, _, rfl, F⟩
            · replace F := F.2 q28
              refine w_aload_n rfl rfl ?_
              refine w_getR rfl f_C_54 rfl rfl rfl rfl rfl ?_
              refine w_getI rfl f_C_246 rfl rfl rfl ?_
              exact w_iret rfl rfl ⟨rfl, rfl, _, rfl, F⟩
          · replace F := F.2 q25
            refine w_bipush (by decide) (by decide) rfl ?_
            exact w_iret rfl rfl ⟨rfl, rfl, _, rfl, F⟩
        · replace F := F.2 q21
          refine w_iconst rfl ?_
          exact w_iret rfl rfl ⟨rfl, rfl, _, rfl, F⟩
theorem s_M_tree_0 {d : Nat}  (x1 x2 x3 x4 : Int) (h : St) (K : Int → St → Prop) (F : (inR x4) ∧ ((¬ (0 ≤ x4 ∧ x4 ≤ 2) → (K ((-1)) h)) ∧ (0 ≤ x4 ∧ x4 ≤ 2 → ((2 ≤ x4 → (inR x2) ∧ (inR x3) ∧ ((0 ≤ x2 ∧ x2 ≤ x3 ∧ x3 ≤ 19 → (mwpI (d + 6) m_M_trees [vR 109, vI x2, vI x3] h (fun z7 h7 => (inR z7) ∧ ((0 ≤ z7 → ((x4 ≠ 2 → (wI (d + 6) m_M_tree 62 [(0, vR 109), (1, vI x1), (2, vI x2), (3, vI x3), (4, vI x4), (5, vI 0)] [] h7 K)) ∧ (¬ (x4 ≠ 2) → (K (h7 109 42) h7)))) ∧ (¬ (0 ≤ z7) → (K ((-2)) h7)))))) ∧ (¬ (0 ≤ x2 ∧ x2 ≤ x3 ∧ x3 ≤ 19) → (K ((-1)) h)))) ∧ (¬ (2 ≤ x4) → (inR x1) ∧ ((¬ (0 ≤ x1 ∧ x1 ≤ 11) → (K ((-1)) h)) ∧ (0 ≤ x1 ∧ x1 ≤ 11 → (inR x2) ∧ (inR x3) ∧ ((0 ≤ x2 ∧ x2 ≤ x3 ∧ x3 ≤ 19 → (mwpI (d + 6) m_M_trees [vR 109, vI x2, vI x3] h (fun z16 h16 => (inR z16) ∧ ((0 ≤ z16 → ((x4 ≠ 2 → (wI (d + 6) m_M_tree 62 [(0, vR 109), (1, vI x1), (2, vI x2), (3, vI x3), (4, vI x4), (5, vI 0)] [] h16 K)) ∧ (¬ (x4 ≠ 2) → (K (h16 109 42) h16)))) ∧ (¬ (0 ≤ z16) → (K ((-2)) h16)))))) ∧ (¬ (0 ≤ x2 ∧ x2 ≤ x3 ∧ x3 ≤ 19) → (K ((-1)) h)))))))))) : wI (d + 6) m_M_tree 0 [(0, vR 109), (1, vI x1), (2, vI x2), (3, vI x3), (4, vI x4)] [] h K := by
  refine w_iload rfl rfl ?_
  obtain ⟨b1, F⟩ := F
  refine w_i2l b1 rfl ?_
  refine w_lconst rfl ?_
  refine w_ldc2 (z := 2) kc_M_264 (by decide) rfl ?_
  refine c_SI [vJ x4, vJ 0, vJ 2] [] rfl b_M_in k_M_130 rfl rfl rfl (c_M_in (inL_of b1) (by decide) (by decide) ?_)
  refine w_ifeq_b (tgt := 34) rfl (by decide) (fun q2 => ?_) (fun q2 => ?_)
  · replace F := F.1 q2
    refine w_iconst rfl ?_
    exact w_iret rfl rfl ⟨rfl, rfl, _, rfl, F⟩
  · replace F := F.2 q2
    refine w_iload rfl rfl ?_
    refine w_iconst rfl ?_
    refine w_icmp_ge (tgt := 26) rfl (by decide) ⟨b1, (r_lit rfl)⟩ (fun q3 => ?_) (fun q3 => ?_)
    · replace F := F.1 q3
      refine w_iload_n rfl rfl ?_
      refine w_iload_n rfl rfl ?_
      obtain ⟨b4, F⟩ := F
      obtain ⟨b5, F⟩ := F
      refine c_SI [vI x2, vI x3] [] rfl b_M_isSpan k_M_254 rfl rfl rfl (c_M_isSpan b4 b5 ?_)
      refine w_ifne_b (tgt := 36) rfl (by decide) (fun q6 => ?_) (fun q6 => ?_)
      · replace F := F.1 q6
        refine w_aload_n rfl rfl ?_
        refine w_iload_n rfl rfl ?_
        refine w_iload_n rfl rfl ?_
        refine c_VI [vI x2, vI x3] [] rfl b_M_trees k_M_274 rfl rfl rfl rfl rfl rfl (mwpI_mono (fun z7 h7 F => ?_) F)
        obtain ⟨b8, F⟩ := F
        refine w_if_ge (tgt := 48) rfl (by decide) b8 (fun q9 => ?_) (fun q9 => ?_)
        · replace F := F.1 q9
          refine w_iload rfl rfl ?_
          refine w_iconst rfl ?_
          refine w_icmp_ne (tgt := 59) rfl (by decide) ⟨b1, (r_lit rfl)⟩ (fun q10 => ?_) (fun q10 => ?_)
          · replace F := F.1 q10
            refine w_iconst rfl ?_
            refine w_istore rfl rfl rfl rfl (w_ls (ls2 := [(0, vR 109), (1, vI x1), (2, vI x2), (3, vI x3), (4, vI x4), (5, vI 0)]) rfl ?_)
            exact F
          · replace F := F.2 q10
            refine w_aload_n rfl rfl ?_
            refine w_getI rfl f_M_268 rfl rfl rfl ?_
            exact w_iret rfl rfl ⟨rfl, rfl, _, rfl, F⟩
        · replace F := F.2 q9
          refine w_bipush (by decide) (by decide) rfl ?_
          exact w_iret rfl rfl ⟨rfl, rfl, _, rfl, F⟩
      · replace F := F.2 q6
        refine w_iconst rfl ?_
        exact w_iret rfl rfl ⟨rfl, rfl, _, rfl, F⟩
    · replace F := F.2 q3
      refine w_iload_n rfl rfl ?_
      obtain ⟨b11, F⟩ := F
      refine c_SI [vI x1] [] rfl b_M_isName k_M_142 rfl rfl rfl (c_M_isName b11 ?_)
      refine w_ifeq_b (tgt := 34) rfl (by decide) (fun q12 => ?_) (fun q12 => ?_)
      · replace F := F.1 q12
        refine w_iconst rfl ?_
        exact w_iret rfl rfl ⟨rfl, rfl, _, rfl, F⟩
      · replace F := F.2 q12
        refine w_iload_n rfl rfl ?_
        refine w_iload_n rfl rfl ?_
        obtain ⟨b13, F⟩ := F
        obtain ⟨b14, F⟩ := F
        refine c_SI [vI x2, vI x3] [] rfl b_M_isSpan k_M_254 rfl rfl rfl (c_M_isSpan b13 b14 ?_)
        refine w_ifne_b (tgt := 36) rfl (by decide) (fun q15 => ?_) (fun q15 => ?_)
        · replace F := F.1 q15
          refine w_aload_n rfl rfl ?_
          refine w_iload_n rfl rfl ?_
          refine w_iload_n rfl rfl ?_
          refine c_VI [vI x2, vI x3] [] rfl b_M_trees k_M_274 rfl rfl rfl rfl rfl rfl (mwpI_mono (fun z16 h16 F => ?_) F)
          obtain ⟨b17, F⟩ := F
          refine w_if_ge (tgt := 48) rfl (by decide) b17 (fun q18 => ?_) (fun q18 => ?_)
          · replace F := F.1 q18
            refine w_iload rfl rfl ?_
            refine w_iconst rfl ?_
            refine w_icmp_ne (tgt := 59) rfl (by decide) ⟨b1, (r_lit rfl)⟩ (fun q19 => ?_) (fun q19 => ?_)
            · replace F := F.1 q19
              refine w_iconst rfl ?_
              refine w_istore rfl rfl rfl rfl (w_ls (ls2 := [(0, vR 109), (1, vI x1), (2, vI x2), (3, vI x3), (4, vI x4), (5, vI 0)]) rfl ?_)
              exact F
            · replace F := F.2 q19
              refine w_aload_n rfl rfl ?_
              refine w_getI rfl f_M_268 rfl rfl rfl ?_
              exact w_iret rfl rfl ⟨rfl, rfl, _, rfl, F⟩
          · replace F := F.2 q18
            refine w_bipush (by decide) (by decide) rfl ?_
            exact w_iret rfl rfl ⟨rfl, rfl, _, rfl, F⟩
        · replace F := F.2 q15
          refine w_iconst rfl ?_
          exact w_iret rfl rfl ⟨rfl, rfl, _, rfl, F⟩
theorem s_M_tree_62 {d : Nat}  (x1 x2 x3 x4 x5 : Int) (h : St) (K : Int → St → Prop) (F : (inR x5) ∧ (inR (h 109 36)) ∧ (((h 109 36) ≤ x5 → (K ((-4)) h)) ∧ (¬ ((h 109 36) ≤ x5) → (0 ≤ x5 ∧ x5 < 12) ∧ (inR (h 137 x5.toNat)) ∧ (inR x1) ∧ (((h 137 x5.toNat) ≠ x1 → (wI (d + 6) m_M_tree 62 [(0, vR 109), (1, vI x1), (2, vI x2), (3, vI x3), (4, vI x4), (5, vI (x5 + 1))] [] h K)) ∧ (¬ ((h 137 x5.toNat) ≠ x1) → (0 ≤ x5 ∧ x5 < 6) ∧ (inR (h 140 x5.toNat)) ∧ (((h 109 36) ≤ (h 140 x5.toNat) → (wI (d + 6) m_M_tree 62 [(0, vR 109), (1, vI x1), (2, vI x2), (3, vI x3), (4, vI x4), (5, vI (x5 + 1))] [] h K)) ∧ (¬ ((h 109 36) ≤ (h 140 x5.toNat)) → (((inR x4) ∧ (¬ (x4 ≠ 0) → ((0 ≤ h 140 x5.toNat ∧ h 140 x5.toNat < 12))))) ∧ (K (cif (x4 ≠ 0) (h 141 x5.toNat) (h 137 ((h 140 x5.toNat).toNat))) h)))))))) : wI (d + 6) m_M_tree 62 [(0, vR 109), (1, vI x1), (2, vI x2), (3, vI x3), (4, vI x4), (5, vI x5)] [] h K := by
  refine w_iload rfl rfl ?_
  refine w_aload_n rfl rfl ?_
  refine w_getI rfl f_M_261 rfl rfl rfl ?_
  obtain ⟨b1, F⟩ := F
  obtain ⟨b2, F⟩ := F
  refine w_icmp_ge (tgt := 130) rfl (by decide) ⟨b1, b2⟩ (fun q3 => ?_) (fun q3 => ?_)
  · replace F := F.1 q3
    refine w_bipush (by decide) (by decide) rfl ?_
    exact w_iret rfl rfl ⟨rfl, rfl, _, rfl, F⟩
  · replace F := F.2 q3
    refine w_aload_n rfl rfl ?_
    refine w_getR rfl f_M_99 rfl rfl rfl rfl rfl ?_
    refine w_iload rfl rfl ?_
    obtain ⟨b4, F⟩ := F
    refine w_iaload rfl rfl rfl b4 ?_
    refine w_iload_n rfl rfl ?_
    obtain ⟨b5, F⟩ := F
    obtain ⟨b6, F⟩ := F
    refine w_icmp_ne (tgt := 124) rfl (by decide) ⟨b5, b6⟩ (fun q7 => ?_) (fun q7 => ?_)
    · replace F := F.1 q7
      refine w_iinc rfl rfl rfl rfl rfl (w_ls (ls2 := [(0, vR 109), (1, vI x1), (2, vI x2), (3, vI x3), (4, vI x4), (5, vI (x5 + 1))]) rfl ?_)
      refine w_goto (tgt := 62) rfl (by decide) ?_
      exact F
    · replace F := F.2 q7
      refine w_aload_n rfl rfl ?_
      refine w_getR rfl f_M_108 rfl rfl rfl rfl rfl ?_
      refine w_iload rfl rfl ?_
      obtain ⟨b8, F⟩ := F
      refine w_iaload rfl rfl rfl b8 ?_
      refine w_aload_n rfl rfl ?_
      refine w_getI rfl f_M_261 rfl rfl rfl ?_
      obtain ⟨b9, F⟩ := F
      refine w_icmp_ge (tgt := 124) rfl (by decide) ⟨b9, b2⟩ (fun q10 => ?_) (fun q10 => ?_)
      · replace F := F.1 q10
        refine w_iinc rfl rfl rfl rfl rfl (w_ls (ls2 := [(0, vR 109), (1, vI x1), (2, vI x2), (3, vI x3), (4, vI x4), (5, vI (x5 + 1))]) rfl ?_)
        refine w_goto (tgt := 62) rfl (by decide) ?_
        exact F
      · replace F := F.2 q10
        refine w_iload rfl rfl ?_
        obtain ⟨G, F⟩ := F
        have J : ∀ (t14 : Int), t14 = cif (x4 ≠ 0) (h 141 x5.toNat) (h 137 ((h 140 x5.toNat).toNat)) → wI (d + 6) m_M_tree 123 [(0, vR 109), (1, vI x1), (2, vI x2), (3, vI x3), (4, vI x4), (5, vI x5)] [vI t14] h K := by
          intro t14 et14
          subst et14
          exact w_iret rfl rfl ⟨rfl, rfl, _, rfl, F⟩
        obtain ⟨b11, gb_⟩ := G
        refine w_if_ne (tgt := 116) rfl (by decide) b11 (fun q12 => ?_) (fun q12 => ?_)
        · refine w_aload_n rfl rfl ?_
          refine w_getR rfl f_M_111 rfl rfl rfl rfl rfl ?_
          refine w_iload rfl rfl ?_
          refine w_iaload rfl rfl rfl b8 ?_
          exact J _ (cif_t q12).symm
        · have G := gb_ q12
          have b13 := G
          refine w_aload_n rfl rfl ?_
          refine w_getR rfl f_M_99 rfl rfl rfl rfl rfl ?_
          refine w_aload_n rfl rfl ?_
          refine w_getR rfl f_M_108 rfl rfl rfl rfl rfl ?_
          refine w_iload rfl rfl ?_
          refine w_iaload rfl rfl rfl b8 ?_
          refine w_iaload rfl rfl rfl b13 ?_
          refine w_goto (tgt := 123) rfl (by decide) ?_
          exact J _ (cif_f q12).symm
theorem hS_s {i : Nat} {lg : Nat → Nat → Int} {d e : Int} {a : Nat} : hS (i + 1) lg d e a ↔ hS i lg d e a ∨ (onD lg i d e ∧ (lg 0 i = (a : Int) ∨ lg 1 i = (a : Int))) := by
  constructor
  · rintro ⟨j, j1, j2⟩
    by_cases q : j = i
    · subst q; exact Or.inr j2
    · exact Or.inl ⟨j, by omega, j2⟩
  · rintro (⟨j, j1, j2⟩ | z)
    · exact ⟨j, by omega, j2⟩
    · exact ⟨i, by omega, z⟩
theorem M_ts_19 {D : Nat} {h : St} {K : Int → St → Prop} {n : Nat} {lg : Nat → Nat → Int} {d e : Int} {a : Nat} (ml : MLog h n lg) (vl : VLog n lg) (rd : inR d) (re : inR e) (ha : a < 12) (h36 : 0 ≤ h 109 36 ∧ h 109 36 < 12) (k0 : ¬ hS n lg d e a → wI (D + 5) m_M_trees 7 [(0, vR 109), (1, vI d), (2, vI e), (3, vI ((a : Int) + 1))] [] h K) (k1 : hS n lg d e a → wI (D + 5) m_M_trees 7 [(0, vR 109), (1, vI d), (2, vI e), (3, vI ((a : Int) + 1))] [] (up (up h 137 ((h 109 36).toNat) a) 109 36 ((h 109 36) + 1)) K) : ∀ (r c : Nat), c + r = n → wI (D + 5) m_M_trees 19 [(0, vR 109), (1, vI d), (2, vI e), (3, vI a), (4, vI (b2i (hS c lg d e a))), (5, vI c)] [] h K := by
  have hn := ml.2.1
  have h0 := ml.1
  intro r
  induction r with
  | zero =>
    intro c hc
    have ec : c = n := by omega
    subst ec
    exact s_M_trees_19 _ _ _ _ _ h K ⟨⟨by omega, by omega⟩, ⟨by omega, by omega⟩, fun _ => ⟨b2i_R, fun z => k0 (b2i_eq0.mp z), fun z => ⟨⟨by omega, by omega⟩, k1 (b2i_ne0.mp z)⟩⟩, fun y => by omega⟩
  | succ r ih =>
    intro c hc
    have hc2 : c < n := by omega
    have nx := ih (c + 1) (by omega)
    have q1 := vl c hc2
    obtain ⟨a0, a1, _⟩ := ml.2.2 c hc2
    refine s_M_trees_19 _ _ _ _ _ h K ⟨⟨by omega, by omega⟩, ⟨by omega, by omega⟩, fun y => by omega, fun _ => ⟨b2i_R, fun z => ?_, fun z => c_M_isOn ml vl hc2 rd re ?_⟩⟩
    · rw [b2i_t (hS_s.mpr (Or.inl (b2i_ne0.mp z)))] at nx; exact nx
    · have no : ¬ hS c lg d e a := fun y => z (b2i_ne0.mpr y)
      rw [Int.toNat_natCast, a0, a1]
      refine ⟨⟨b2i_R, fun _ => ⟨⟨by omega, by omega⟩, ⟨by omega, by omega⟩, ⟨by omega, by omega⟩, fun _ => ⟨by omega, by omega⟩⟩⟩, ?_⟩
      have eb : b2i (¬ (b2i (onD lg c d e) = 0) ∧ ((lg 0 c = (a : Int)) ∨ (¬ (lg 1 c ≠ (a : Int))))) = b2i (hS (c + 1) lg d e a) := b2i_congr (Iff.trans ⟨fun y => ⟨b2i_ne0.mp y.1, by have := y.2; omega⟩, fun y => ⟨b2i_ne0.mpr y.1, by have := y.2; omega⟩⟩ (Iff.trans ⟨fun y => Or.inr y, fun y => y.elim (fun y => absurd y no) id⟩ hS_s.symm))
      rw [eb]; exact nx
def LI3 (h : St) (S : Nat → Prop) (c : Nat) : Prop := h 109 36 = (cS S c : Int) ∧ ∀ b, b < c → S b → h 137 (cS S b) = (b : Int)
theorem LI3_n {h : St} {S : Nat → Prop} {c : Nat} (no : ¬ S c) (a : LI3 h S c) : LI3 h S (c + 1) := by
  refine ⟨by rw [show cS S (c + 1) = cS S c from nif_f no]; exact a.1, fun b hb sb => ?_⟩
  by_cases e : b = c
  · subst e; exact absurd sb no
  · exact a.2 b (by omega) sb
theorem LI3_y {h : St} {S : Nat → Prop} {c : Nat} (y : S c) (a : LI3 h S c) : LI3 (up (up h 137 ((h 109 36).toNat) c) 109 36 ((h 109 36) + 1)) S (c + 1) := by
  have a1 := a.1
  refine ⟨by rw [up_same, a1, show cS S (c + 1) = cS S c + 1 from nif_t y]; rfl, fun b hb sb => ?_⟩
  rw [up_ne (by omega), a1, Int.toNat_natCast]
  by_cases e : b = c
  · subst e; rw [up_same]
  · have := cS_lt (show b < c by omega) sb
    rw [up_ne (by omega)]; exact a.2 b (by omega) sb
def agR (h h2 : St) : Prop := ag (fun c k => (c < 137 ∨ 141 < c) ∧ ¬ (c = 109 ∧ (k = 36 ∨ k = 42))) h h2
theorem M_ts_145 {D : Nat} {K : Int → St → Prop} {n : Nat} {lg : Nat → Nat → Int} {d e w : Int} {N i : Nat} {M : Nat → Nat} (vl : VLog n lg) (rd : inR d) (re : inR e) (rw1 : 1 ≤ w ∧ w ≤ 23) (hN : 2 ≤ N ∧ N ≤ 6) (hi : i < N) (hM : ∀ i, i < N → M i < 12) : ∀ (r j : Nat) (h : St), j + r = N → MLog h n lg → h 109 15 = w → h 109 36 = (N : Int) → (∀ i, i < N → h 137 i = (M i : Int)) → (∀ i2 j2, i2 < i → j2 < N → i2 ≠ j2 → h 138 (6 * i2 + j2) = sgA lg w n (M i2) (M j2) d e) → (∀ j2, j2 < j → i ≠ j2 → h 138 (6 * i + j2) = sgA lg w n (M i) (M j2) d e) → (∀ h2, ag (fun c _ => c ≠ 138) h h2 → (∀ i2 j2, i2 < i + 1 → j2 < N → i2 ≠ j2 → h2 138 (6 * i2 + j2) = sgA lg w n (M i2) (M j2) d e) → wI (D + 5) m_M_trees 134 [(0, vR 109), (1, vI d), (2, vI e), (3, vI ((i : Int) + 1))] [] h2 K) → wI (D + 5) m_M_trees 145 [(0, vR 109), (1, vI d), (2, vI e), (3, vI i), (4, vI j)] [] h K := by
  intro r
  induction r with
  | zero =>
    intro j h hj ml e15 e36 e137 w1 w2 k
    refine s_M_trees_145 _ _ _ _ h K ⟨⟨by omega, by omega⟩, ⟨by omega, by omega⟩, fun _ => k h ag_rfl (fun i2 j2 x1 x2 ne => ?_), fun y => by omega⟩
    by_cases q : i2 = i
    · subst q; exact w2 j2 (by omega) ne
    · exact w1 i2 j2 (by omega) x2 ne
  | succ r ih =>
    intro j h hj ml e15 e36 e137 w1 w2 k
    have m1 := hM i hi
    have m2 := hM j (by omega)
    have ei : (6 * (i : Int) + (j : Int)).toNat = 6 * i + j := by omega
    have nx : ∀ v, (i ≠ j → v = sgA lg w n (M i) (M j) d e) → wI (D + 5) m_M_trees 145 [(0, vR 109), (1, vI d), (2, vI e), (3, vI i), (4, vI ((j : Int) + 1))] [] (up h 138 (6 * i + j) v) K := fun v hv => by
      refine ih (j + 1) _ (by omega) (MLog_c (ag_up (by omega) ag_rfl) ml) (by rw [up_ne (by omega)]; exact e15) (by rw [up_ne (by omega)]; exact e36) (fun i hi => by rw [up_ne (by omega)]; exact e137 i hi) (fun i2 j2 x1 x2 ne => by rw [up_ne (by omega)]; exact w1 i2 j2 x1 x2 ne) (fun j2 x2 ne => ?_) (fun h2 g2 => k h2 (ag_trans (ag_up (by omega) ag_rfl) g2))
      by_cases q : j2 = j
      · subst q; rw [up_same]; exact hv ne
      · rw [up_ne (by omega)]; exact w2 j2 (by omega) ne
    refine s_M_trees_145 _ _ _ _ h K ⟨⟨by omega, by omega⟩, ⟨by omega, by omega⟩, fun y => by omega, fun _ => ⟨⟨by omega, by omega⟩, fun y => ⟨⟨by omega, by omega⟩, ⟨by omega, by omega⟩, ?_⟩, fun y => ⟨⟨by omega, by omega⟩, ?_⟩⟩⟩
    · rw [Int.toNat_natCast, Int.toNat_natCast, e137 i hi, e137 j (by omega)]
      refine c_M_signOf ml vl e15 rw1 ⟨by omega, by omega⟩ ⟨by omega, by omega⟩ rd re ⟨⟨by omega, by omega⟩, ?_⟩
      rw [ei]; exact nx _ (fun _ => rfl)
    · rw [ei]; exact nx _ (fun z => by omega)
theorem M_ts_134 {D : Nat} {K : Int → St → Prop} {n : Nat} {lg : Nat → Nat → Int} {d e w : Int} {N : Nat} {M : Nat → Nat} (vl : VLog n lg) (hn : n ≤ 60) (rd : inR d) (re : inR e) (rw1 : 1 ≤ w ∧ w ≤ 23) (hN : 2 ≤ N ∧ N ≤ 6) (hM : ∀ i, i < N → M i < 12) : ∀ (r i : Nat) (h : St), i + r = N → MLog h n lg → h 109 15 = w → h 109 36 = (N : Int) → (∀ i, i < N → h 137 i = (M i : Int)) → (∀ i2 j2, i2 < i → j2 < N → i2 ≠ j2 → h 138 (6 * i2 + j2) = sgA lg w n (M i2) (M j2) d e) → (∀ h2, ag (fun c k => (c < 138 ∨ 141 < c) ∧ ¬ (c = 109 ∧ k = 42)) h h2 → MR h2 N (tA N (fun i j => sgA lg w n (M i) (M j) d e) ((N + 1) ^ N)) → K 0 h2) → wI (D + 5) m_M_trees 134 [(0, vR 109), (1, vI d), (2, vI e), (3, vI i)] [] h K := by
  intro r
  induction r with
  | zero =>
    intro i h hi ml e15 e36 e137 w1 k
    refine s_M_trees_134 _ _ _ h K ⟨⟨by omega, by omega⟩, ⟨by omega, by omega⟩, fun _ => ?_, fun y => by omega⟩
    have := M_ts_212 (D := D) (K := K) (N := N) (S := fun i j => sgA lg w n (M i) (M j) d e) (x1 := d) (x2 := e) (h := h) ⟨e36, hN, fun i j => ⟨(sgA_R hn).1, Int.le_trans (sgA_R hn).2 (by decide)⟩, fun i2 j2 x1 x2 ne => w1 i2 j2 (by omega) x2 ne⟩ (fun h2 g2 mr => k h2 (ag_sub (fun c k p => by omega) g2) mr) N 0 (Nat.zero_add _)
    rw [Nat.pow_zero] at this
    exact this
  | succ r ih =>
    intro i h hi ml e15 e36 e137 w1 k
    refine s_M_trees_134 _ _ _ h K ⟨⟨by omega, by omega⟩, ⟨by omega, by omega⟩, fun y => by omega, fun _ => ?_⟩
    refine M_ts_145 vl rd re rw1 hN (by omega) hM N 0 h (Nat.zero_add _) ml e15 e36 e137 w1 (fun j2 x => absurd x (Nat.not_lt_zero _)) (fun h2 g2 w2 => ?_)
    exact ih (i + 1) h2 (by omega) (MLog_c (ag_sub (fun c k p => by omega) g2) ml) (by rw [g2 109 15 (by omega)]; exact e15) (by rw [g2 109 36 (by omega)]; exact e36) (fun i hi => by rw [g2 137 _ (by omega)]; exact e137 i hi) w2 (fun h3 g3 => k h3 (ag_trans (ag_sub (fun c k p => by omega) g2) g3))
theorem M_ts_7 {D : Nat} {K : Int → St → Prop} {n : Nat} {lg : Nat → Nat → Int} {d e w : Int} (vl : VLog n lg) (rd : inR d) (re : inR e) (rw1 : 1 ≤ w ∧ w ≤ 23) : ∀ (r c : Nat) (h : St), c + r = 12 → MLog h n lg → h 109 15 = w → LI3 h (hS n lg d e) c → (¬ (2 ≤ cS (hS n lg d e) 12 ∧ cS (hS n lg d e) 12 ≤ 6) → ∀ h2, agR h h2 → K (-2) h2) → (2 ≤ cS (hS n lg d e) 12 ∧ cS (hS n lg d e) 12 ≤ 6 → ∀ h2, agR h h2 → h2 109 36 = (cS (hS n lg d e) 12 : Int) → (∀ i, i < cS (hS n lg d e) 12 → h2 137 i = (nmS (hS n lg d e) i : Int)) → MR h2 (cS (hS n lg d e) 12) (tA (cS (hS n lg d e) 12) (fun i j => sgA lg w n (nmS (hS n lg d e) i) (nmS (hS n lg d e) j) d e) ((cS (hS n lg d e) 12 + 1) ^ cS (hS n lg d e) 12)) → K 0 h2) → wI (D + 5) m_M_trees 7 [(0, vR 109), (1, vI d), (2, vI e), (3, vI c)] [] h K := by
  intro r
  induction r with
  | zero =>
    intro c h hc ml e15 li k0 k1
    have ec : c = 12 := by omega
    subst ec
    have b := cS_le (S := hS n lg d e) 12
    have l1 := li.1
    refine s_M_trees_7 _ _ _ h K ⟨by decide, fun _ => ⟨⟨by omega, by omega⟩, fun y => ?_, fun y => k0 (by omega) h ag_rfl⟩, fun y => absurd (by decide) y⟩
    have e137 : ∀ i, i < cS (hS n lg d e) 12 → h 137 i = (nmS (hS n lg d e) i : Int) := fun i hi => by
      obtain ⟨x1, x2, x3⟩ := nmS_c hi
      have := li.2 _ x1 x2
      rw [← this]; exact congrArg (h 137) x3.symm
    exact M_ts_134 vl ml.2.1 rd re rw1 (by omega) (fun i hi => (nmS_c hi).1) _ 0 h (Nat.zero_add _) ml e15 l1 e137 (fun i2 j2 x => absurd x (Nat.not_lt_zero _)) (fun h2 g2 mr => k1 (by omega) h2 (ag_sub (fun c k p => by omega) g2) (by rw [g2 109 36 (by omega)]; exact l1) (fun i hi => by rw [g2 137 _ (by omega)]; exact e137 i hi) mr)
  | succ r ih =>
    intro c h hc ml e15 li k0 k1
    have b := cS_le (S := hS n lg d e) c
    have l1 := li.1
    refine s_M_trees_7 _ _ _ h K ⟨⟨by omega, by omega⟩, fun y => by omega, fun _ => ?_⟩
    have st := M_ts_19 (D := D) (K := K) (a := c) ml vl rd re (by omega) (by omega) (fun no => ih (c + 1) h (by omega) ml e15 (LI3_n no li) k0 k1) (fun yes => ?_) n 0 (Nat.zero_add _)
    · rw [b2i_f (fun ⟨i, hi, _⟩ => absurd hi (Nat.not_lt_zero _))] at st
      exact st
    · have g : agR h (up (up h 137 ((h 109 36).toNat) c) 109 36 ((h 109 36) + 1)) := ag_up (by omega) (ag_up (by omega) ag_rfl)
      exact ih (c + 1) _ (by omega) (MLog_c (ag_sub (fun c k p => by omega) g) ml) (by rw [g 109 15 (by omega)]; exact e15) (LI3_y yes li) (fun y h2 g2 => k0 y h2 (ag_trans g g2)) (fun y h2 g2 => k1 y h2 (ag_trans g g2))
theorem c_M_trees {D : Nat} {K : Int → St → Prop} {n : Nat} {lg : Nat → Nat → Int} {d e w : Int} {h : St} (ml : MLog h n lg) (vl : VLog n lg) (rd : inR d) (re : inR e) (e15 : h 109 15 = w) (rw1 : 1 ≤ w ∧ w ≤ 23) (k0 : ¬ (2 ≤ cS (hS n lg d e) 12 ∧ cS (hS n lg d e) 12 ≤ 6) → ∀ h2, agR h h2 → K (-2) h2) (k1 : 2 ≤ cS (hS n lg d e) 12 ∧ cS (hS n lg d e) 12 ≤ 6 → ∀ h2, agR h h2 → h2 109 36 = (cS (hS n lg d e) 12 : Int) → (∀ i, i < cS (hS n lg d e) 12 → h2 137 i = (nmS (hS n lg d e) i : Int)) → MR h2 (cS (hS n lg d e) 12) (tA (cS (hS n lg d e) 12) (fun i j => sgA lg w n (nmS (hS n lg d e) i) (nmS (hS n lg d e) j) d e) ((cS (hS n lg d e) 12 + 1) ^ cS (hS n lg d e) 12)) → K 0 h2) : mwpI (D + 6) m_M_trees [vR 109, vI d, vI e] h K := by
  have g : agR h (up h 109 36 0) := ag_up (by omega) ag_rfl
  refine mI_intro b_M_trees rfl (s_M_trees_0 (d := D) _ _ h K ?_)
  exact M_ts_7 vl rd re rw1 12 0 _ (by omega) (MLog_c (ag_sub (fun c k p => by omega) g) ml) (by rw [g 109 15 (by omega)]; exact e15) ⟨by rw [up_same]; rfl, fun b hb => absurd hb (Nat.not_lt_zero _)⟩ (fun y h2 g2 => k0 y h2 (ag_trans g g2)) (fun y h2 g2 => k1 y h2 (ag_trans g g2))
theorem M_tr_62 {D : Nat} {h : St} {K : Int → St → Prop} {N : Nat} {M : Nat → Nat} {st : Stt} {x1 x2 x3 x4 : Int} (r1 : inR x1) (r4 : inR x4) (hN : N ≤ 6) (e36 : h 109 36 = (N : Int)) (e137 : ∀ i, i < N → h 137 i = (M i : Int)) (hM : ∀ i, i < N → M i < 12) (mr : MR h N st) (ps : 0 ≤ st.1) (kN : (∀ i, i < N → ¬ ((M i : Int) = x1 ∧ st.2.1 i < N)) → K (-4) h) (kY : ∀ i, i < N → (M i : Int) = x1 → st.2.1 i < N → K (cif (x4 ≠ 0) (st.2.2 i) (M (st.2.1 i))) h) : ∀ (r c : Nat), c + r = N → (∀ i, i < c → ¬ ((M i : Int) = x1 ∧ st.2.1 i < N)) → wI (D + 6) m_M_tree 62 [(0, vR 109), (1, vI x1), (2, vI x2), (3, vI x3), (4, vI x4), (5, vI c)] [] h K := by
  intro r
  induction r with
  | zero =>
    intro c hc al
    exact s_M_tree_62 _ _ _ _ _ h K ⟨⟨by omega, by omega⟩, ⟨by omega, by omega⟩, fun _ => kN (fun i hi => al i (by omega)), fun y => by omega⟩
  | succ r ih =>
    intro c hc al
    have m := hM c (by omega)
    obtain ⟨b1, b2, b3⟩ := mr.2.2.1 ps c (by omega)
    have b4 := mr.2.2.2 c
    have nx : ¬ ((M c : Int) = x1 ∧ st.2.1 c < N) → wI (D + 6) m_M_tree 62 [(0, vR 109), (1, vI x1), (2, vI x2), (3, vI x3), (4, vI x4), (5, vI ((c : Int) + 1))] [] h K := fun no => ih (c + 1) (by omega) (fun i hi => by
      by_cases q : i = c
      · subst q; exact no
      · exact al i (by omega))
    refine s_M_tree_62 _ _ _ _ _ h K ⟨⟨by omega, by omega⟩, ⟨by omega, by omega⟩, fun y => by omega, fun _ => ⟨⟨by omega, by omega⟩, ?_⟩⟩
    rw [Int.toNat_natCast, e137 c (by omega), b1, e36, Int.toNat_natCast]
    refine ⟨⟨by omega, by omega⟩, r1, fun y => nx (fun z => y z.1), fun y => ⟨⟨by omega, by omega⟩, ⟨by omega, by omega⟩, fun z => nx (fun u => by omega), fun z => ⟨⟨r4, fun _ => ⟨by omega, by omega⟩⟩, ?_⟩⟩⟩
    have q : st.2.1 c < N := by omega
    rw [b2 q, e137 _ q]
    exact kY c (by omega) (by omega) q
theorem P_tree {KK : Int → Int → St → Prop} {h : St} (hr : Rel h) {a1 a2 a3 a4 : Int} (r1 : inR a1) (r2 : inR a2) (r3 : inR a3) (r4 : inR a4) (k : ∀ z h2, inR z → Rel h2 → KK z z h2) : mwpI 40 m_C_tree [vR 0, vI a1, vI a2, vI a3, vI a4] h (fun z h1 => mwpI 40 m_M_tree [vR 109, vI a1, vI a2, vI a3, vI a4] h1 (fun z2 h2 => KK z z2 h2)) := by
  obtain ⟨⟨n, lg, cl, ml, vl⟩, c2, c3, ⟨t1, t2, t3, t4⟩, c9⟩ := id hr
  have hn := cl.2.1
  have kb := k (-1) h (by decide) hr
  have bad : ¬ ((0 ≤ a4 ∧ a4 ≤ 2) ∧ (a4 ≠ 2 → 0 ≤ a1 ∧ a1 ≤ 11) ∧ (0 ≤ a2 ∧ a2 ≤ a3 ∧ a3 ≤ 19)) → mwpI 40 m_M_tree [vR 109, vI a1, vI a2, vI a3, vI a4] h (fun z2 h2 => KK (-1) z2 h2) := fun q =>
    mI_intro b_M_tree rfl (s_M_tree_0 (d := 33) a1 a2 a3 a4 _ _ ⟨r4, fun _ => kb, fun q4 => ⟨fun y => ⟨r2, r3, fun q2 => absurd ⟨q4, fun z => absurd (by omega) z, q2⟩ q, fun _ => kb⟩, fun y => ⟨r1, fun _ => kb, fun q1 => ⟨r2, r3, fun q2 => absurd ⟨q4, fun _ => q1, q2⟩ q, fun _ => kb⟩⟩⟩⟩)
  have md : ∀ (h2 : St) (K : Int → St → Prop), (0 ≤ a4 ∧ a4 ≤ 2) → (a4 ≠ 2 → 0 ≤ a1 ∧ a1 ≤ 11) → (0 ≤ a2 ∧ a2 ≤ a3 ∧ a3 ≤ 19) → mwpI 39 m_M_trees [vR 109, vI a2, vI a3] h2 (fun z7 h7 => (inR z7) ∧ ((0 ≤ z7 → ((a4 ≠ 2 → (wI 39 m_M_tree 62 [(0, vR 109), (1, vI a1), (2, vI a2), (3, vI a3), (4, vI a4), (5, vI 0)] [] h7 K)) ∧ (¬ (a4 ≠ 2) → (K (h7 109 42) h7)))) ∧ (¬ (0 ≤ z7) → (K ((-2)) h7)))) → mwpI 40 m_M_tree [vR 109, vI a1, vI a2, vI a3, vI a4] h2 K := fun h2 K q4 q1 q2 y =>
    mI_intro b_M_tree rfl (s_M_tree_0 (d := 33) a1 a2 a3 a4 _ _ ⟨r4, fun z => absurd q4 z, fun _ => ⟨fun z => ⟨r2, r3, fun _ => y, fun z => absurd q2 z⟩, fun z => ⟨r1, fun u => absurd (q1 (by omega)) u, fun _ => ⟨r2, r3, fun _ => y, fun z => absurd q2 z⟩⟩⟩⟩)
  have fl : (0 ≤ a4 ∧ a4 ≤ 2) → (a4 ≠ 2 → 0 ≤ a1 ∧ a1 ≤ 11) → (0 ≤ a2 ∧ a2 ≤ a3 ∧ a3 ≤ 19) → mwpI 39 m_CallLog_heardOn [vR 1, vI a2, vI a3] h (fun z7 h7 => (mwpI 39 m_JI_bitCount [vI z7] h7 (fun z8 h8 => (inR z8) ∧ ((2 ≤ z8 ∧ z8 ≤ 6 → (mwpV 39 m_Orders_weighSigns [vR 77, vR 1, vI a2, vI a3] h8 (fun h11 => (mwpV 39 m_Tree_solve [vR 79, vI z7, vR 78] h11 (fun h12 => ((a4 ≠ 2 → ((a4 ≠ 0 → (mwpI 39 m_Tree_sureness [vR 79, vI a1] h12 (fun z15 h15 => mwpI 40 m_M_tree [vR 109, vI a1, vI a2, vI a3, vI a4] h15 (fun z2 h2 => KK z15 z2 h2)))) ∧ (¬ (a4 ≠ 0) → (mwpI 39 m_Tree_nameAbove [vR 79, vI a1] h12 (fun z16 h16 => mwpI 40 m_M_tree [vR 109, vI a1, vI a2, vI a3, vI a4] h16 (fun z2 h2 => KK z16 z2 h2)))))) ∧ (¬ (a4 ≠ 2) → mwpI 40 m_M_tree [vR 109, vI a1, vI a2, vI a3, vI a4] h12 (fun z2 h2 => KK (h12 79 0) z2 h2)))))))) ∧ (¬ (2 ≤ z8 ∧ z8 ≤ 6) → mwpI 40 m_M_tree [vR 109, vI a1, vI a2, vI a3, vI a4] h8 (fun z2 h2 => KK (-2) z2 h2)))))) := fun q4 q1 q2 => by
    have hb := hB_lt (d := a2) (e := a3) vl n (Nat.le_refl _)
    have ht : ∀ j, (hB lg a2 a3 n).testBit j = true ↔ hS n lg a2 a3 j := fun j => hB_tb vl n (Nat.le_refl _)
    have pc := pb_cS hb ht
    have cl12 := cS_le (S := hS n lg a2 a3) 12
    refine c_CallLog_heardOn cl vl r2 r3 (c_JI_bitCount (by omega) ?_)
    rw [pc]
    refine ⟨⟨by omega, by omega⟩, fun y => ?_, fun y => ?_⟩
    · have hN : 2 ≤ cS (hS n lg a2 a3) 12 ∧ cS (hS n lg a2 a3) 12 ≤ 6 := by omega
      refine c_Orders_weighSigns cl vl rfl t4 r2 r3 (fun h1 g1 e78 => ?_)
      refine c_Tree_solve (D := 0) (S := hS n lg a2 a3) (G := fun a b => sgA lg (h 77 0) n a b a2 a3) hb ht hN (fun a b => ⟨(sgA_R hn).1, Int.le_trans (sgA_R hn).2 (by decide)⟩) e78 (fun h2 g2 e1 e80 tr => ?_)
      have gg : ag (fun c k => c ≠ 78 ∧ (c < 80 ∨ 84 < c) ∧ ¬ (c = 79 ∧ (k = 0 ∨ k = 1 ∨ k = 7))) h h2 := ag_trans (ag_sub (fun c k p => by omega) g1) (ag_sub (fun c k p => by omega) g2)
      have hr2 : Rel h2 := Rel_c (ag_sub (fun c k p => by omega) gg) hr
      have ml2 : MLog h2 n lg := MLog_c (ag_sub (fun c k p => by omega) gg) ml
      have e15 : h2 109 15 = h 77 0 := by rw [gg 109 15 (by omega)]; exact t3.symm
      have ps := tA_pos (S := fun i j => sgA lg (h 77 0) n (nmS (hS n lg a2 a3) i) (nmS (hS n lg a2 a3) j) a2 a3) hN (fun i j => ⟨(sgA_R hn).1, Int.le_trans (sgA_R hn).2 (by decide)⟩)
      have hM : ∀ i, i < cS (hS n lg a2 a3) 12 → nmS (hS n lg a2 a3) i < 12 := fun i hi => (nmS_c hi).1
      have inj : ∀ i j, i < cS (hS n lg a2 a3) 12 → j < cS (hS n lg a2 a3) 12 → (nmS (hS n lg a2 a3) i : Int) = a1 → (nmS (hS n lg a2 a3) j : Int) = a1 → i = j := fun i j hi hj ei ej => by
        by_cases u : i < j
        · exact absurd (by omega) (nmS_ne u hj)
        · by_cases v : j < i
          · exact absurd (by omega) (nmS_ne v hi)
          · omega
      have trees : ∀ K : Int → St → Prop, (∀ h3, agR h2 h3 → h3 109 36 = (cS (hS n lg a2 a3) 12 : Int) → (∀ i, i < cS (hS n lg a2 a3) 12 → h3 137 i = (nmS (hS n lg a2 a3) i : Int)) → MR h3 (cS (hS n lg a2 a3) 12) (tA (cS (hS n lg a2 a3) 12) (fun i j => sgA lg (h 77 0) n (nmS (hS n lg a2 a3) i) (nmS (hS n lg a2 a3) j) a2 a3) ((cS (hS n lg a2 a3) 12 + 1) ^ cS (hS n lg a2 a3) 12)) → K 0 h3) → mwpI 39 m_M_trees [vR 109, vI a2, vI a3] h2 K := fun K k1 => c_M_trees ml2 vl r2 r3 e15 t4 (fun no => absurd hN no) (fun _ => k1)
      generalize cS (hS n lg a2 a3) 12 = N at *
      generalize nmS (hS n lg a2 a3) = M at *
      generalize tA N (fun i j => sgA lg (h 77 0) n (M i) (M j) a2 a3) ((N + 1) ^ N) = st at *
      have fin : ∀ (h5 : St) (z : Int), h5 = h2 → inR z → a4 ≠ 2 → ((∃ i, i < N ∧ (M i : Int) = a1 ∧ st.2.1 i < N ∧ z = cif (a4 ≠ 0) (st.2.2 i) (M (st.2.1 i))) ∨ (z = -4 ∧ ∀ i, i < N → ¬ ((M i : Int) = a1 ∧ st.2.1 i < N))) → mwpI 40 m_M_tree [vR 109, vI a1, vI a2, vI a3, vI a4] h5 (fun z2 h2 => KK z z2 h2) := fun h5 z e5 rz n2 hz => by
        subst e5
        refine md h5 _ q4 q1 q2 (trees _ (fun h3 g3 e36 e137 mr => ⟨by decide, fun _ => ⟨fun _ => ?_, fun u => absurd n2 u⟩, fun u => absurd (by decide) u⟩))
        have hr3 : Rel h3 := Rel_c (ag_sub (fun c k p => by omega) g3) hr2
        refine M_tr_62 r1 r4 hN.2 e36 e137 hM mr ps (fun no => ?_) (fun i hi ei wi => ?_) N 0 (Nat.zero_add _) (fun i hi => absurd hi (Nat.not_lt_zero _))
        · rcases hz with ⟨i, i1, i2, i3, _⟩ | ⟨z4, _⟩
          · exact absurd ⟨i2, i3⟩ (no i i1)
          · rw [← z4]; exact k _ _ rz hr3
        · rcases hz with ⟨j, j1, j2, j3, j4⟩ | ⟨_, al⟩
          · rw [inj i j hi j1 ei j2, ← j4]; exact k _ _ rz hr3
          · exact absurd ⟨ei, wi⟩ (al i hi)
      refine ⟨fun n2 => ⟨fun n0 => ?_, fun n0 => ?_⟩, fun n2 => ?_⟩
      · refine c_Tree_sureness e1 hN.2 e80 hM r1 tr ps (fun no => fin _ _ rfl (by decide) n2 (Or.inr ⟨rfl, fun i hi u => no i hi u.1⟩)) (fun i hi ei => ?_)
        have a5 := tr.2.2.2.2.1 i
        by_cases u : st.2.1 i < N
        · rw [cif_t u]
          refine fin _ _ rfl ⟨by omega, by omega⟩ n2 (Or.inl ⟨i, hi, ei, u, (cif_t n0).symm⟩)
        · rw [cif_f u]
          refine fin _ _ rfl (by decide) n2 (Or.inr ⟨rfl, fun j hj v => ?_⟩)
          rw [inj j i hj hi v.1 ei] at v
          exact u v.2
      · refine c_Tree_nameAbove e1 hN.2 e80 hM r1 tr ps (fun no => fin _ _ rfl (by decide) n2 (Or.inr ⟨rfl, fun i hi u => no i hi u.1⟩)) (fun i hi ei => ?_)
        by_cases u : st.2.1 i < N
        · have mu := hM _ u
          rw [cif_t u]
          refine fin _ _ rfl ⟨by omega, by omega⟩ n2 (Or.inl ⟨i, hi, ei, u, (cif_f n0).symm⟩)
        · rw [cif_f u]
          refine fin _ _ rfl (by decide) n2 (Or.inr ⟨rfl, fun j hj v => ?_⟩)
          rw [inj j i hj hi v.1 ei] at v
          exact u v.2
      · rw [tr.1]
        refine md h2 _ q4 q1 q2 (trees _ (fun h3 g3 e36 e137 mr => ⟨by decide, fun _ => ⟨fun u => absurd u n2, fun _ => ?_⟩, fun u => absurd (by decide) u⟩))
        rw [mr.1]
        have b := mr.2.1
        exact k _ _ ⟨by omega, by omega⟩ (Rel_c (ag_sub (fun c k p => by omega) g3) hr2)
    · refine md h _ q4 q1 q2 (c_M_trees ml vl r2 r3 t3.symm t4 (fun _ h3 g3 => ⟨by decide, fun u => absurd u (by decide), fun _ => k _ _ (by decide) (Rel_c (ag_sub (fun c k p => by omega) g3) hr)⟩) (fun hN => absurd (by omega) y))
  refine mI_intro b_C_tree rfl (s_C_tree_0 (d := 35) a1 a2 a3 a4 h _ ⟨r4, fun q => bad (fun z => q z.1), fun q4 => ⟨fun y => ⟨r2, r3, fun q2 => fl q4 (fun z => absurd y z) q2, fun q => bad (fun z => q z.2.2)⟩, fun y => ⟨r1, fun q => bad (fun z => q (z.2.1 y)), fun q1 => ⟨r2, r3, fun q2 => fl q4 (fun _ => q1) q2, fun q => bad (fun z => q z.2.2)⟩⟩⟩⟩)
