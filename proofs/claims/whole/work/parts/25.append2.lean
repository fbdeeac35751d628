theorem s_CallLog_add_0 {d : Nat}  (x1 x2 x3 x4 x5 x6 : Int) (h : St) (K : Int → St → Prop) (F : (0 ≤ h 1 6 ∧ h 1 6 < 60) ∧ (K (h 1 6) (up (up (up (up (up (up (up h 2 ((h 1 6).toNat) x1) 3 ((h 1 6).toNat) x2) 4 ((h 1 6).toNat) x3) 5 ((h 1 6).toNat) x4) 6 ((h 1 6).toNat) x5) 7 ((h 1 6).toNat) x6) 1 6 ((h 1 6) + 1)))) : wI d m_CallLog_add 0 [(0, vR 1), (1, vI x1), (2, vI x2), (3, vI x3), (4, vI x4), (5, vI x5), (6, vI x6)] [] h K := by
  refine w_aload_n rfl rfl ?_
  refine w_getI rfl f_CallLog_30 rfl rfl rfl ?_
  refine w_istore rfl rfl rfl rfl (w_ls (ls2 := [(0, vR 1), (1, vI x1), (2, vI x2), (3, vI x3), (4, vI x4), (5, vI x5), (6, vI x6), (7, vI (h 1 6))]) rfl ?_)
  refine w_aload_n rfl rfl ?_
  refine w_getR rfl f_CallLog_11 rfl rfl rfl rfl rfl ?_
  refine w_iload rfl rfl ?_
  refine w_iload_n rfl rfl ?_
  obtain ⟨b1, F⟩ := F
  refine w_iastore rfl rfl rfl b1 ?_
  refine w_aload_n rfl rfl ?_
  refine w_getR rfl f_CallLog_15 rfl rfl rfl rfl rfl ?_
  refine w_iload rfl rfl ?_
  refine w_iload_n rfl rfl ?_
  refine w_iastore rfl rfl rfl b1 ?_
  refine w_aload_n rfl rfl ?_
  refine w_getR rfl f_CallLog_18 rfl rfl rfl rfl rfl ?_
  refine w_iload rfl rfl ?_
  refine w_iload_n rfl rfl ?_
  refine w_iastore rfl rfl rfl b1 ?_
  refine w_aload_n rfl rfl ?_
  refine w_getR rfl f_CallLog_21 rfl rfl rfl rfl rfl ?_
  refine w_iload rfl rfl ?_
  refine w_iload rfl rfl ?_
  refine w_iastore rfl rfl rfl b1 ?_
  refine w_aload_n rfl rfl ?_
  refine w_getR rfl f_CallLog_24 rfl rfl rfl rfl rfl ?_
  refine w_iload rfl rfl ?_
  refine w_iload rfl rfl ?_
  refine w_iastore rfl rfl rfl b1 ?_
  refine w_aload_n rfl rfl ?_
  refine w_getR rfl f_CallLog_27 rfl rfl rfl rfl rfl ?_
  refine w_iload rfl rfl ?_
  refine w_iload rfl rfl ?_
  refine w_iastore rfl rfl rfl b1 ?_
  refine w_aload_n rfl rfl ?_
  refine w_dup rfl rfl ?_
  refine w_getI rfl f_CallLog_30 rfl rfl rfl ?_
  refine w_iconst rfl ?_
  refine w_iadd rfl ?_
  refine w_putI rfl f_CallLog_30 fw_1_6 rfl rfl rfl ?_
  refine w_iload rfl rfl ?_
  exact w_iret rfl rfl ⟨rfl, rfl, _, rfl, F⟩
theorem s_C_call_0 {d : Nat}  (x1 x2 x3 x4 x5 x6 : Int) (h : St) (K : Int → St → Prop) (F : (inR x1) ∧ ((¬ (0 ≤ x1 ∧ x1 ≤ 11) → (K ((-1)) h)) ∧ (0 ≤ x1 ∧ x1 ≤ 11 → (inR x2) ∧ ((¬ (0 ≤ x2 ∧ x2 ≤ 11) → (K ((-1)) h)) ∧ (0 ≤ x2 ∧ x2 ≤ 11 → ((x1 = x2 → (K ((-1)) h)) ∧ (¬ (x1 = x2) → (inR x3) ∧ ((0 ≤ x3 ∧ x3 ≤ 479 → (inR x4) ∧ ((¬ (1 ≤ x4 ∧ x4 ≤ 99) → (K ((-1)) h)) ∧ (1 ≤ x4 ∧ x4 ≤ 99 → (inR x5) ∧ ((¬ (0 ≤ x5 ∧ x5 ≤ 7) → (K ((-1)) h)) ∧ (0 ≤ x5 ∧ x5 ≤ 7 → (inR x6) ∧ ((0 ≤ x6 ∧ x6 ≤ 99 → (inR (h 1 6)) ∧ (((h 1 6) < 60 → (mwpI (d + 2) m_CallLog_add [vR 1, vI x1, vI x2, vI x3, vI x4, vI x5, vI x6] h (fun z16 h16 => (K z16 h16)))) ∧ (¬ ((h 1 6) < 60) → (K ((-3)) h)))) ∧ (¬ (0 ≤ x6 ∧ x6 ≤ 99) → (K ((-1)) h)))))))) ∧ (¬ (0 ≤ x3 ∧ x3 ≤ 479) → (K ((-1)) h)))))))))) : wI (d + 2) m_C_call 0 [(0, vR 0), (1, vI x1), (2, vI x2), (3, vI x3), (4, vI x4), (5, vI x5), (6, vI x6)] [] h K := by
  refine w_iload_n rfl rfl ?_
  obtain ⟨b1, F⟩ := F
  refine c_SI [vI x1] [] rfl b_C_isName k_C_96 rfl rfl rfl (c_C_isName b1 ?_)
  refine w_ifeq_b (tgt := 26) rfl (by decide) (fun q2 => ?_) (fun q2 => ?_)
  · replace F := F.1 q2
    refine w_iconst rfl ?_
    exact w_iret rfl rfl ⟨rfl, rfl, _, rfl, F⟩
  · replace F := F.2 q2
    refine w_iload_n rfl rfl ?_
    obtain ⟨b3, F⟩ := F
    refine c_SI [vI x2] [] rfl b_C_isName k_C_96 rfl rfl rfl (c_C_isName b3 ?_)
    refine w_ifeq_b (tgt := 26) rfl (by decide) (fun q4 => ?_) (fun q4 => ?_)
    · replace F := F.1 q4
      refine w_iconst rfl ?_
      exact w_iret rfl rfl ⟨rfl, rfl, _, rfl, F⟩
    · replace F := F.2 q4
      refine w_iload_n rfl rfl ?_
      refine w_iload_n rfl rfl ?_
      refine w_icmp_eq (tgt := 26) rfl (by decide) ⟨b1, b3⟩ (fun q5 => ?_) (fun q5 => ?_)
      · replace F := F.1 q5
        refine w_iconst rfl ?_
        exact w_iret rfl rfl ⟨rfl, rfl, _, rfl, F⟩
      · replace F := F.2 q5
        refine w_iload_n rfl rfl ?_
        obtain ⟨b6, F⟩ := F
        refine c_SI [vI x3] [] rfl b_C_isHour k_C_100 rfl rfl rfl (c_C_isHour b6 ?_)
        refine w_ifne_b (tgt := 28) rfl (by decide) (fun q7 => ?_) (fun q7 => ?_)
        · replace F := F.1 q7
          refine w_iload rfl rfl ?_
          refine w_iconst rfl ?_
          refine w_bipush (by decide) (by decide) rfl ?_
          obtain ⟨b8, F⟩ := F
          refine c_SI [vI x4, vI 1, vI 99] [] rfl b_C_isAmong k_C_103 rfl rfl rfl (c_C_isAmong b8 (r_lit rfl) (r_lit rfl) ?_)
          refine w_ifeq_b (tgt := 58) rfl (by decide) (fun q9 => ?_) (fun q9 => ?_)
          · replace F := F.1 q9
            refine w_iconst rfl ?_
            exact w_iret rfl rfl ⟨rfl, rfl, _, rfl, F⟩
          · replace F := F.2 q9
            refine w_iload rfl rfl ?_
            obtain ⟨b10, F⟩ := F
            refine c_SI [vI x5] [] rfl b_C_isWave k_C_107 rfl rfl rfl (c_C_isWave b10 ?_)
            refine w_ifeq_b (tgt := 58) rfl (by decide) (fun q11 => ?_) (fun q11 => ?_)
            · replace F := F.1 q11
              refine w_iconst rfl ?_
              exact w_iret rfl rfl ⟨rfl, rfl, _, rfl, F⟩
            · replace F := F.2 q11
              refine w_iload rfl rfl ?_
              refine w_iconst rfl ?_
              refine w_bipush (by decide) (by decide) rfl ?_
              obtain ⟨b12, F⟩ := F
              refine c_SI [vI x6, vI 0, vI 99] [] rfl b_C_isAmong k_C_103 rfl rfl rfl (c_C_isAmong b12 (r_lit rfl) (r_lit rfl) ?_)
              refine w_ifne_b (tgt := 60) rfl (by decide) (fun q13 => ?_) (fun q13 => ?_)
              · replace F := F.1 q13
                refine w_aload_n rfl rfl ?_
                refine w_getR rfl f_C_10 rfl rfl rfl rfl rfl ?_
                refine w_getI rfl f_C_110 rfl rfl rfl ?_
                refine w_bipush (by decide) (by decide) rfl ?_
                obtain ⟨b14, F⟩ := F
                refine w_icmp_lt (tgt := 75) rfl (by decide) ⟨b14, (r_lit rfl)⟩ (fun q15 => ?_) (fun q15 => ?_)
                · replace F := F.1 q15
                  refine w_aload_n rfl rfl ?_
                  refine w_getR rfl f_C_10 rfl rfl rfl rfl rfl ?_
                  refine w_iload_n rfl rfl ?_
                  refine w_iload_n rfl rfl ?_
                  refine w_iload_n rfl rfl ?_
                  refine w_iload rfl rfl ?_
                  refine w_iload rfl rfl ?_
                  refine w_iload rfl rfl ?_
                  refine c_VI [vI x1, vI x2, vI x3, vI x4, vI x5, vI x6] [] rfl b_CallLog_add k_C_113 rfl rfl rfl rfl rfl rfl (mwpI_mono (fun z16 h16 F => ?_) F)
                  exact w_iret rfl rfl ⟨rfl, rfl, _, rfl, F⟩
                · replace F := F.2 q15
                  refine w_bipush (by decide) (by decide) rfl ?_
                  exact w_iret rfl rfl ⟨rfl, rfl, _, rfl, F⟩
              · replace F := F.2 q13
                refine w_iconst rfl ?_
                exact w_iret rfl rfl ⟨rfl, rfl, _, rfl, F⟩
        · replace F := F.2 q7
          refine w_iconst rfl ?_
          exact w_iret rfl rfl ⟨rfl, rfl, _, rfl, F⟩
theorem s_M_call_0 {d : Nat}  (x1 x2 x3 x4 x5 x6 : Int) (h : St) (K : Int → St → Prop) (F : (inR x1) ∧ ((¬ (0 ≤ x1 ∧ x1 ≤ 11) → (K ((-1)) h)) ∧ (0 ≤ x1 ∧ x1 ≤ 11 → (inR x2) ∧ ((¬ (0 ≤ x2 ∧ x2 ≤ 11) → (K ((-1)) h)) ∧ (0 ≤ x2 ∧ x2 ≤ 11 → ((x1 = x2 → (K ((-1)) h)) ∧ (¬ (x1 = x2) → (inR x3) ∧ ((¬ (0 ≤ x3 ∧ x3 ≤ 479) → (K ((-1)) h)) ∧ (0 ≤ x3 ∧ x3 ≤ 479 → (inR x4) ∧ ((¬ (1 ≤ x4 ∧ x4 ≤ 99) → (K ((-1)) h)) ∧ (1 ≤ x4 ∧ x4 ≤ 99 → (inR x5) ∧ ((¬ (0 ≤ x5 ∧ x5 ≤ 7) → (K ((-1)) h)) ∧ (0 ≤ x5 ∧ x5 ≤ 7 → (inR x6) ∧ ((0 ≤ x6 ∧ x6 ≤ 99 → (inR (h 110 0)) ∧ (((h 110 0) ≠ 60 → (0 ≤ h 110 0 ∧ h 110 0 < 180) ∧ (K (h 110 0) (up (up (up (up (up (up (up h 111 ((h 110 0).toNat) x1) 112 ((h 110 0).toNat) x2) 113 ((h 110 0).toNat) x3) 114 ((h 110 0).toNat) x4) 115 ((h 110 0).toNat) x5) 116 ((h 110 0).toNat) x6) 110 0 ((h 110 0) + 1)))) ∧ (¬ ((h 110 0) ≠ 60) → (K ((-3)) h)))) ∧ (¬ (0 ≤ x6 ∧ x6 ≤ 99) → (K ((-1)) h)))))))))))))))) : wI (d + 2) m_M_call 0 [(0, vR 109), (1, vI x1), (2, vI x2), (3, vI x3), (4, vI x4), (5, vI x5), (6, vI x6)] [] h K := by
  refine w_iload_n rfl rfl ?_
  obtain ⟨b1, F⟩ := F
  refine c_SI [vI x1] [] rfl b_M_isName k_M_142 rfl rfl rfl (c_M_isName b1 ?_)
  refine w_ifeq_b (tgt := 65) rfl (by decide) (fun q2 => ?_) (fun q2 => ?_)
  · replace F := F.1 q2
    refine w_iconst rfl ?_
    exact w_iret rfl rfl ⟨rfl, rfl, _, rfl, F⟩
  · replace F := F.2 q2
    refine w_iload_n rfl rfl ?_
    obtain ⟨b3, F⟩ := F
    refine c_SI [vI x2] [] rfl b_M_isName k_M_142 rfl rfl rfl (c_M_isName b3 ?_)
    refine w_ifeq_b (tgt := 65) rfl (by decide) (fun q4 => ?_) (fun q4 => ?_)
    · replace F := F.1 q4
      refine w_iconst rfl ?_
      exact w_iret rfl rfl ⟨rfl, rfl, _, rfl, F⟩
    · replace F := F.2 q4
      refine w_iload_n rfl rfl ?_
      refine w_iload_n rfl rfl ?_
      refine w_icmp_eq (tgt := 65) rfl (by decide) ⟨b1, b3⟩ (fun q5 => ?_) (fun q5 => ?_)
      · replace F := F.1 q5
        refine w_iconst rfl ?_
        exact w_iret rfl rfl ⟨rfl, rfl, _, rfl, F⟩
      · replace F := F.2 q5
        refine w_iload_n rfl rfl ?_
        obtain ⟨b6, F⟩ := F
        refine c_SI [vI x3] [] rfl b_M_isHour k_M_145 rfl rfl rfl (c_M_isHour b6 ?_)
        refine w_ifeq_b (tgt := 65) rfl (by decide) (fun q7 => ?_) (fun q7 => ?_)
        · replace F := F.1 q7
          refine w_iconst rfl ?_
          exact w_iret rfl rfl ⟨rfl, rfl, _, rfl, F⟩
        · replace F := F.2 q7
          refine w_iload rfl rfl ?_
          obtain ⟨b8, F⟩ := F
          refine w_i2l b8 rfl ?_
          refine w_lconst rfl ?_
          refine w_ldc2 (z := 99) kc_M_148 (by decide) rfl ?_
          refine c_SI [vJ x4, vJ 1, vJ 99] [] rfl b_M_in k_M_130 rfl rfl rfl (c_M_in (inL_of b8) (by decide) (by decide) ?_)
          refine w_ifeq_b (tgt := 65) rfl (by decide) (fun q9 => ?_) (fun q9 => ?_)
          · replace F := F.1 q9
            refine w_iconst rfl ?_
            exact w_iret rfl rfl ⟨rfl, rfl, _, rfl, F⟩
          · replace F := F.2 q9
            refine w_iload rfl rfl ?_
            obtain ⟨b10, F⟩ := F
            refine w_i2l b10 rfl ?_
            refine w_lconst rfl ?_
            refine w_ldc2 (z := 7) kc_M_150 (by decide) rfl ?_
            refine c_SI [vJ x5, vJ 0, vJ 7] [] rfl b_M_in k_M_130 rfl rfl rfl (c_M_in (inL_of b10) (by decide) (by decide) ?_)
            refine w_ifeq_b (tgt := 65) rfl (by decide) (fun q11 => ?_) (fun q11 => ?_)
            · replace F := F.1 q11
              refine w_iconst rfl ?_
              exact w_iret rfl rfl ⟨rfl, rfl, _, rfl, F⟩
            · replace F := F.2 q11
              refine w_iload rfl rfl ?_
              obtain ⟨b12, F⟩ := F
              refine w_i2l b12 rfl ?_
              refine w_lconst rfl ?_
              refine w_ldc2 (z := 99) kc_M_148 (by decide) rfl ?_
              refine c_SI [vJ x6, vJ 0, vJ 99] [] rfl b_M_in k_M_130 rfl rfl rfl (c_M_in (inL_of b12) (by decide) (by decide) ?_)
              refine w_ifne_b (tgt := 67) rfl (by decide) (fun q13 => ?_) (fun q13 => ?_)
              · replace F := F.1 q13
                refine w_aload_n rfl rfl ?_
                refine w_getR rfl f_M_7 rfl rfl rfl rfl rfl ?_
                refine w_iconst rfl ?_
                refine w_iaload rfl rfl rfl ⟨by decide, by decide⟩ ?_
                refine w_bipush (by decide) (by decide) rfl ?_
                obtain ⟨b14, F⟩ := F
                refine w_icmp_ne (tgt := 81) rfl (by decide) ⟨b14, (r_lit rfl)⟩ (fun q15 => ?_) (fun q15 => ?_)
                · replace F := F.1 q15
                  refine w_aload_n rfl rfl ?_
                  refine w_getR rfl f_M_7 rfl rfl rfl rfl rfl ?_
                  refine w_iconst rfl ?_
                  refine w_iaload rfl rfl rfl ⟨by decide, by decide⟩ ?_
                  refine w_istore rfl rfl rfl rfl (w_ls (ls2 := [(0, vR 109), (1, vI x1), (2, vI x2), (3, vI x3), (4, vI x4), (5, vI x5), (6, vI x6), (7, vI (h 110 0))]) rfl ?_)
                  refine w_aload_n rfl rfl ?_
                  refine w_getR rfl f_M_13 rfl rfl rfl rfl rfl ?_
                  refine w_iload rfl rfl ?_
                  refine w_iload_n rfl rfl ?_
                  obtain ⟨b16, F⟩ := F
                  refine w_iastore rfl rfl rfl b16 ?_
                  refine w_aload_n rfl rfl ?_
                  refine w_getR rfl f_M_16 rfl rfl rfl rfl rfl ?_
                  refine w_iload rfl rfl ?_
                  refine w_iload_n rfl rfl ?_
                  refine w_iastore rfl rfl rfl b16 ?_
                  refine w_aload_n rfl rfl ?_
                  refine w_getR rfl f_M_19 rfl rfl rfl rfl rfl ?_
                  refine w_iload rfl rfl ?_
                  refine w_iload_n rfl rfl ?_
                  refine w_iastore rfl rfl rfl b16 ?_
                  refine w_aload_n rfl rfl ?_
                  refine w_getR rfl f_M_22 rfl rfl rfl rfl rfl ?_
                  refine w_iload rfl rfl ?_
                  refine w_iload rfl rfl ?_
                  refine w_iastore rfl rfl rfl b16 ?_
                  refine w_aload_n rfl rfl ?_
                  refine w_getR rfl f_M_25 rfl rfl rfl rfl rfl ?_
                  refine w_iload rfl rfl ?_
                  refine w_iload rfl rfl ?_
                  refine w_iastore rfl rfl rfl b16 ?_
                  refine w_aload_n rfl rfl ?_
                  refine w_getR rfl f_M_28 rfl rfl rfl rfl rfl ?_
                  refine w_iload rfl rfl ?_
                  refine w_iload rfl rfl ?_
                  refine w_iastore rfl rfl rfl b16 ?_
                  refine w_aload_n rfl rfl ?_
                  refine w_getR rfl f_M_7 rfl rfl rfl rfl rfl ?_
                  refine w_iconst rfl ?_
                  refine w_dup2 rfl rfl rfl ?_
                  refine w_iaload rfl rfl rfl ⟨by decide, by decide⟩ ?_
                  refine w_iconst rfl ?_
                  refine w_iadd rfl ?_
                  refine w_iastore rfl rfl rfl ⟨by decide, by decide⟩ ?_
                  refine w_iload rfl rfl ?_
                  exact w_iret rfl rfl ⟨rfl, rfl, _, rfl, F⟩
                · replace F := F.2 q15
                  refine w_bipush (by decide) (by decide) rfl ?_
                  exact w_iret rfl rfl ⟨rfl, rfl, _, rfl, F⟩
              · replace F := F.2 q13
                refine w_iconst rfl ?_
                exact w_iret rfl rfl ⟨rfl, rfl, _, rfl, F⟩
theorem s_Places_add_0 {d : Nat}  (x1 x2 x3 x4 x5 x6 : Int) (h : St) (K : Int → St → Prop) (F : (0 ≤ h 85 8 ∧ h 85 8 < 40) ∧ (K ((h 85 8) + 1) (up (up (up (up (up (up (up h 88 ((h 85 8).toNat) x1) 89 ((h 85 8).toNat) x2) 90 ((h 85 8).toNat) x3) 91 ((h 85 8).toNat) x4) 92 ((h 85 8).toNat) x5) 93 ((h 85 8).toNat) x6) 85 8 ((h 85 8) + 1)))) : wI d m_Places_add 0 [(0, vR 85), (1, vI x1), (2, vI x2), (3, vI x3), (4, vI x4), (5, vI x5), (6, vI x6)] [] h K := by
  refine w_aload_n rfl rfl ?_
  refine w_getR rfl f_Places_18 rfl rfl rfl rfl rfl ?_
  refine w_aload_n rfl rfl ?_
  refine w_getI rfl f_Places_36 rfl rfl rfl ?_
  refine w_iload_n rfl rfl ?_
  obtain ⟨b1, F⟩ := F
  refine w_iastore rfl rfl rfl b1 ?_
  refine w_aload_n rfl rfl ?_
  refine w_getR rfl f_Places_21 rfl rfl rfl rfl rfl ?_
  refine w_aload_n rfl rfl ?_
  refine w_getI rfl f_Places_36 rfl rfl rfl ?_
  refine w_iload_n rfl rfl ?_
  refine w_iastore rfl rfl rfl b1 ?_
  refine w_aload_n rfl rfl ?_
  refine w_getR rfl f_Places_24 rfl rfl rfl rfl rfl ?_
  refine w_aload_n rfl rfl ?_
  refine w_getI rfl f_Places_36 rfl rfl rfl ?_
  refine w_iload_n rfl rfl ?_
  refine w_iastore rfl rfl rfl b1 ?_
  refine w_aload_n rfl rfl ?_
  refine w_getR rfl f_Places_27 rfl rfl rfl rfl rfl ?_
  refine w_aload_n rfl rfl ?_
  refine w_getI rfl f_Places_36 rfl rfl rfl ?_
  refine w_iload rfl rfl ?_
  refine w_iastore rfl rfl rfl b1 ?_
  refine w_aload_n rfl rfl ?_
  refine w_getR rfl f_Places_30 rfl rfl rfl rfl rfl ?_
  refine w_aload_n rfl rfl ?_
  refine w_getI rfl f_Places_36 rfl rfl rfl ?_
  refine w_iload rfl rfl ?_
  refine w_iastore rfl rfl rfl b1 ?_
  refine w_aload_n rfl rfl ?_
  refine w_getR rfl f_Places_33 rfl rfl rfl rfl rfl ?_
  refine w_aload_n rfl rfl ?_
  refine w_getI rfl f_Places_36 rfl rfl rfl ?_
  refine w_iload rfl rfl ?_
  refine w_iastore rfl rfl rfl b1 ?_
  refine w_aload_n rfl rfl ?_
  refine w_dup rfl rfl ?_
  refine w_getI rfl f_Places_36 rfl rfl rfl ?_
  refine w_iconst rfl ?_
  refine w_iadd rfl ?_
  refine w_putI rfl f_Places_36 fw_6_8 rfl rfl rfl ?_
  refine w_aload_n rfl rfl ?_
  refine w_getI rfl f_Places_36 rfl rfl rfl ?_
  exact w_iret rfl rfl ⟨rfl, rfl, _, rfl, F⟩
theorem s_C_bearing_0 {d : Nat}  (x1 x2 x3 x4 x5 x6 : Int) (h : St) (K : Int → St → Prop) (F : (inR x1) ∧ ((¬ (0 ≤ x1 ∧ x1 ≤ 3) → (K ((-1)) h)) ∧ (0 ≤ x1 ∧ x1 ≤ 3 → (inR x2) ∧ ((¬ (0 ≤ x2 ∧ x2 ≤ 11) → (K ((-1)) h)) ∧ (0 ≤ x2 ∧ x2 ≤ 11 → (inR x3) ∧ ((0 ≤ x3 ∧ x3 ≤ 19 → (inR x4) ∧ (inR x5) ∧ ((¬ ((-9 ≤ x4 ∧ x4 ≤ 9) ∧ (-9 ≤ x5 ∧ x5 ≤ 9) ∧ (x4 ≠ 0 ∨ x5 ≠ 0)) → (K ((-1)) h)) ∧ ((-9 ≤ x4 ∧ x4 ≤ 9) ∧ (-9 ≤ x5 ∧ x5 ≤ 9) ∧ (x4 ≠ 0 ∨ x5 ≠ 0) → (inR x6) ∧ ((1 ≤ x6 ∧ x6 ≤ 20 → (inR (h 85 8)) ∧ (((h 85 8) < 40 → (mwpI (d + 2) m_Places_add [vR 85, vI x1, vI x2, vI x3, vI x4, vI x5, vI x6] h (fun z14 h14 => (K z14 h14)))) ∧ (¬ ((h 85 8) < 40) → (K ((-3)) h)))) ∧ (¬ (1 ≤ x6 ∧ x6 ≤ 20) → (K ((-1)) h)))))) ∧ (¬ (0 ≤ x3 ∧ x3 ≤ 19) → (K ((-1)) h)))))))) : wI (d + 2) m_C_bearing 0 [(0, vR 0), (1, vI x1), (2, vI x2), (3, vI x3), (4, vI x4), (5, vI x5), (6, vI x6)] [] h K := by
  refine w_iload_n rfl rfl ?_
  obtain ⟨b1, F⟩ := F
  refine c_SI [vI x1] [] rfl b_C_isHearer k_C_259 rfl rfl rfl (c_C_isHearer b1 ?_)
  refine w_ifeq_b (tgt := 21) rfl (by decide) (fun q2 => ?_) (fun q2 => ?_)
  · replace F := F.1 q2
    refine w_iconst rfl ?_
    exact w_iret rfl rfl ⟨rfl, rfl, _, rfl, F⟩
  · replace F := F.2 q2
    refine w_iload_n rfl rfl ?_
    obtain ⟨b3, F⟩ := F
    refine c_SI [vI x2] [] rfl b_C_isName k_C_96 rfl rfl rfl (c_C_isName b3 ?_)
    refine w_ifeq_b (tgt := 21) rfl (by decide) (fun q4 => ?_) (fun q4 => ?_)
    · replace F := F.1 q4
      refine w_iconst rfl ?_
      exact w_iret rfl rfl ⟨rfl, rfl, _, rfl, F⟩
    · replace F := F.2 q4
      refine w_iload_n rfl rfl ?_
      obtain ⟨b5, F⟩ := F
      refine c_SI [vI x3] [] rfl b_C_isDay k_C_131 rfl rfl rfl (c_C_isDay b5 ?_)
      refine w_ifne_b (tgt := 23) rfl (by decide) (fun q6 => ?_) (fun q6 => ?_)
      · replace F := F.1 q6
        refine w_iload rfl rfl ?_
        refine w_iload rfl rfl ?_
        obtain ⟨b7, F⟩ := F
        obtain ⟨b8, F⟩ := F
        refine c_SI [vI x4, vI x5] [] rfl b_C_isDirection k_C_269 rfl rfl rfl (c_C_isDirection b7 b8 ?_)
        refine w_ifeq_b (tgt := 44) rfl (by decide) (fun q9 => ?_) (fun q9 => ?_)
        · replace F := F.1 q9
          refine w_iconst rfl ?_
          exact w_iret rfl rfl ⟨rfl, rfl, _, rfl, F⟩
        · replace F := F.2 q9
          refine w_iload rfl rfl ?_
          refine w_iconst rfl ?_
          refine w_bipush (by decide) (by decide) rfl ?_
          obtain ⟨b10, F⟩ := F
          refine c_SI [vI x6, vI 1, vI 20] [] rfl b_C_isAmong k_C_103 rfl rfl rfl (c_C_isAmong b10 (r_lit rfl) (r_lit rfl) ?_)
          refine w_ifne_b (tgt := 46) rfl (by decide) (fun q11 => ?_) (fun q11 => ?_)
          · replace F := F.1 q11
            refine w_aload_n rfl rfl ?_
            refine w_getR rfl f_C_61 rfl rfl rfl rfl rfl ?_
            refine w_getI rfl f_C_272 rfl rfl rfl ?_
            refine w_bipush (by decide) (by decide) rfl ?_
            obtain ⟨b12, F⟩ := F
            refine w_icmp_lt (tgt := 61) rfl (by decide) ⟨b12, (r_lit rfl)⟩ (fun q13 => ?_) (fun q13 => ?_)
            · replace F := F.1 q13
              refine w_aload_n rfl rfl ?_
              refine w_getR rfl f_C_61 rfl rfl rfl rfl rfl ?_
              refine w_iload_n rfl rfl ?_
              refine w_iload_n rfl rfl ?_
              refine w_iload_n rfl rfl ?_
              refine w_iload rfl rfl ?_
              refine w_iload rfl rfl ?_
              refine w_iload rfl rfl ?_
              refine c_VI [vI x1, vI x2, vI x3, vI x4, vI x5, vI x6] [] rfl b_Places_add k_C_273 rfl rfl rfl rfl rfl rfl (mwpI_mono (fun z14 h14 F => ?_) F)
              exact w_iret rfl rfl ⟨rfl, rfl, _, rfl, F⟩
            · replace F := F.2 q13
              refine w_bipush (by decide) (by decide) rfl ?_
              exact w_iret rfl rfl ⟨rfl, rfl, _, rfl, F⟩
          · replace F := F.2 q11
            refine w_iconst rfl ?_
            exact w_iret rfl rfl ⟨rfl, rfl, _, rfl, F⟩
      · replace F := F.2 q6
        refine w_iconst rfl ?_
        exact w_iret rfl rfl ⟨rfl, rfl, _, rfl, F⟩
theorem s_M_bearing_0 {d : Nat}  (x1 x2 x3 x4 x5 x6 : Int) (h : St) (K : Int → St → Prop) (F : (inR x1) ∧ ((¬ (0 ≤ x1 ∧ x1 ≤ 3) → (K ((-1)) h)) ∧ (0 ≤ x1 ∧ x1 ≤ 3 → (inR x2) ∧ ((¬ (0 ≤ x2 ∧ x2 ≤ 11) → (K ((-1)) h)) ∧ (0 ≤ x2 ∧ x2 ≤ 11 → (inR x3) ∧ ((¬ (0 ≤ x3 ∧ x3 ≤ 19) → (K ((-1)) h)) ∧ (0 ≤ x3 ∧ x3 ≤ 19 → (inR x4) ∧ ((¬ (((-9)) ≤ x4 ∧ x4 ≤ 9) → (K ((-1)) h)) ∧ (((-9)) ≤ x4 ∧ x4 ≤ 9 → (inR x5) ∧ ((¬ (((-9)) ≤ x5 ∧ x5 ≤ 9) → (K ((-1)) h)) ∧ (((-9)) ≤ x5 ∧ x5 ≤ 9 → ((x4 ≠ 0 → (inR x6) ∧ ((1 ≤ x6 ∧ x6 ≤ 20 → (inR (h 117 0)) ∧ (((h 117 0) ≠ 40 → (0 ≤ 6 * (h 117 0) ∧ 6 * (h 117 0) < 720) ∧ (0 ≤ (6 * (h 117 0)) + 1 ∧ (6 * (h 117 0)) + 1 < 720) ∧ (0 ≤ (6 * (h 117 0)) + 2 ∧ (6 * (h 117 0)) + 2 < 720) ∧ (0 ≤ (6 * (h 117 0)) + 3 ∧ (6 * (h 117 0)) + 3 < 720) ∧ (0 ≤ (6 * (h 117 0)) + 4 ∧ (6 * (h 117 0)) + 4 < 720) ∧ (0 ≤ (6 * (h 117 0)) + 5 ∧ (6 * (h 117 0)) + 5 < 720) ∧ (K ((h 117 0) + 1) (up (up (up (up (up (up (up h 118 ((6 * (h 117 0)).toNat) x1) 118 (((6 * (h 117 0)) + 1).toNat) x2) 118 (((6 * (h 117 0)) + 2).toNat) x3) 118 (((6 * (h 117 0)) + 3).toNat) x4) 118 (((6 * (h 117 0)) + 4).toNat) x5) 118 (((6 * (h 117 0)) + 5).toNat) x6) 117 0 ((h 117 0) + 1)))) ∧ (¬ ((h 117 0) ≠ 40) → (K ((-3)) h)))) ∧ (¬ (1 ≤ x6 ∧ x6 ≤ 20) → (K ((-1)) h)))) ∧ (¬ (x4 ≠ 0) → ((x5 = 0 → (K ((-1)) h)) ∧ (¬ (x5 = 0) → (inR x6) ∧ ((1 ≤ x6 ∧ x6 ≤ 20 → (inR (h 117 0)) ∧ (((h 117 0) ≠ 40 → (0 ≤ 6 * (h 117 0) ∧ 6 * (h 117 0) < 720) ∧ (0 ≤ (6 * (h 117 0)) + 1 ∧ (6 * (h 117 0)) + 1 < 720) ∧ (0 ≤ (6 * (h 117 0)) + 2 ∧ (6 * (h 117 0)) + 2 < 720) ∧ (0 ≤ (6 * (h 117 0)) + 3 ∧ (6 * (h 117 0)) + 3 < 720) ∧ (0 ≤ (6 * (h 117 0)) + 4 ∧ (6 * (h 117 0)) + 4 < 720) ∧ (0 ≤ (6 * (h 117 0)) + 5 ∧ (6 * (h 117 0)) + 5 < 720) ∧ (K ((h 117 0) + 1) (up (up (up (up (up (up (up h 118 ((6 * (h 117 0)).toNat) x1) 118 (((6 * (h 117 0)) + 1).toNat) x2) 118 (((6 * (h 117 0)) + 2).toNat) x3) 118 (((6 * (h 117 0)) + 3).toNat) x4) 118 (((6 * (h 117 0)) + 4).toNat) x5) 118 (((6 * (h 117 0)) + 5).toNat) x6) 117 0 ((h 117 0) + 1)))) ∧ (¬ ((h 117 0) ≠ 40) → (K ((-3)) h)))) ∧ (¬ (1 ≤ x6 ∧ x6 ≤ 20) → (K ((-1)) h)))))))))))))))))) : wI (d + 2) m_M_bearing 0 [(0, vR 109), (1, vI x1), (2, vI x2), (3, vI x3), (4, vI x4), (5, vI x5), (6, vI x6)] [] h K := by
  refine w_iload_n rfl rfl ?_
  obtain ⟨b1, F⟩ := F
  refine w_i2l b1 rfl ?_
  refine w_lconst rfl ?_
  refine w_ldc2 (z := 3) kc_M_164 (by decide) rfl ?_
  refine c_SI [vJ x1, vJ 0, vJ 3] [] rfl b_M_in k_M_130 rfl rfl rfl (c_M_in (inL_of b1) (by decide) (by decide) ?_)
  refine w_ifeq_b (tgt := 79) rfl (by decide) (fun q2 => ?_) (fun q2 => ?_)
  · replace F := F.1 q2
    refine w_iconst rfl ?_
    exact w_iret rfl rfl ⟨rfl, rfl, _, rfl, F⟩
  · replace F := F.2 q2
    refine w_iload_n rfl rfl ?_
    obtain ⟨b3, F⟩ := F
    refine c_SI [vI x2] [] rfl b_M_isName k_M_142 rfl rfl rfl (c_M_isName b3 ?_)
    refine w_ifeq_b (tgt := 79) rfl (by decide) (fun q4 => ?_) (fun q4 => ?_)
    · replace F := F.1 q4
      refine w_iconst rfl ?_
      exact w_iret rfl rfl ⟨rfl, rfl, _, rfl, F⟩
    · replace F := F.2 q4
      refine w_iload_n rfl rfl ?_
      obtain ⟨b5, F⟩ := F
      refine c_SI [vI x3] [] rfl b_M_isDay k_M_138 rfl rfl rfl (c_M_isDay b5 ?_)
      refine w_ifeq_b (tgt := 79) rfl (by decide) (fun q6 => ?_) (fun q6 => ?_)
      · replace F := F.1 q6
        refine w_iconst rfl ?_
        exact w_iret rfl rfl ⟨rfl, rfl, _, rfl, F⟩
      · replace F := F.2 q6
        refine w_iload rfl rfl ?_
        obtain ⟨b7, F⟩ := F
        refine w_i2l b7 rfl ?_
        refine w_ldc2 (z := (-9)) kc_M_288 (by decide) rfl ?_
        refine w_ldc2 (z := 9) kc_M_290 (by decide) rfl ?_
        refine c_SI [vJ x4, vJ ((-9)), vJ 9] [] rfl b_M_in k_M_130 rfl rfl rfl (c_M_in (inL_of b7) (by decide) (by decide) ?_)
        refine w_ifeq_b (tgt := 79) rfl (by decide) (fun q8 => ?_) (fun q8 => ?_)
        · replace F := F.1 q8
          refine w_iconst rfl ?_
          exact w_iret rfl rfl ⟨rfl, rfl, _, rfl, F⟩
        · replace F := F.2 q8
          refine w_iload rfl rfl ?_
          obtain ⟨b9, F⟩ := F
          refine w_i2l b9 rfl ?_
          refine w_ldc2 (z := (-9)) kc_M_288 (by decide) rfl ?_
          refine w_ldc2 (z := 9) kc_M_290 (by decide) rfl ?_
          refine c_SI [vJ x5, vJ ((-9)), vJ 9] [] rfl b_M_in k_M_130 rfl rfl rfl (c_M_in (inL_of b9) (by decide) (by decide) ?_)
          refine w_ifeq_b (tgt := 79) rfl (by decide) (fun q10 => ?_) (fun q10 => ?_)
          · replace F := F.1 q10
            refine w_iconst rfl ?_
            exact w_iret rfl rfl ⟨rfl, rfl, _, rfl, F⟩
          · replace F := F.2 q10
            refine w_iload rfl rfl ?_
            refine w_if_ne (tgt := 66) rfl (by decide) b7 (fun q11 => ?_) (fun q11 => ?_)
            · replace F := F.1 q11
              refine w_iload rfl rfl ?_
              obtain ⟨b12, F⟩ := F
              refine w_i2l b12 rfl ?_
              refine w_lconst rfl ?_
              refine w_ldc2 (z := 20) kc_M_292 (by decide) rfl ?_
              refine c_SI [vJ x6, vJ 1, vJ 20] [] rfl b_M_in k_M_130 rfl rfl rfl (c_M_in (inL_of b12) (by decide) (by decide) ?_)
              refine w_ifne_b (tgt := 81) rfl (by decide) (fun q13 => ?_) (fun q13 => ?_)
              · replace F := F.1 q13
                refine w_aload_n rfl rfl ?_
                refine w_getR rfl f_M_31 rfl rfl rfl rfl rfl ?_
                refine w_iconst rfl ?_
                refine w_iaload rfl rfl rfl ⟨by decide, by decide⟩ ?_
                refine w_bipush (by decide) (by decide) rfl ?_
                obtain ⟨b14, F⟩ := F
                refine w_icmp_ne (tgt := 95) rfl (by decide) ⟨b14, (r_lit rfl)⟩ (fun q15 => ?_) (fun q15 => ?_)
                · replace F := F.1 q15
                  refine w_bipush (by decide) (by decide) rfl ?_
                  refine w_aload_n rfl rfl ?_
                  refine w_getR rfl f_M_31 rfl rfl rfl rfl rfl ?_
                  refine w_iconst rfl ?_
                  refine w_iaload rfl rfl rfl ⟨by decide, by decide⟩ ?_
                  refine w_imul rfl ?_
                  refine w_istore rfl rfl rfl rfl (w_ls (ls2 := [(0, vR 109), (1, vI x1), (2, vI x2), (3, vI x3), (4, vI x4), (5, vI x5), (6, vI x6), (7, vI (6 * (h 117 0)))]) rfl ?_)
                  refine w_aload_n rfl rfl ?_
                  refine w_getR rfl f_M_34 rfl rfl rfl rfl rfl ?_
                  refine w_iload rfl rfl ?_
                  refine w_iload_n rfl rfl ?_
                  obtain ⟨b16, F⟩ := F
                  refine w_iastore rfl rfl rfl b16 ?_
                  refine w_aload_n rfl rfl ?_
                  refine w_getR rfl f_M_34 rfl rfl rfl rfl rfl ?_
                  refine w_iload rfl rfl ?_
                  refine w_iconst rfl ?_
                  refine w_iadd rfl ?_
                  refine w_iload_n rfl rfl ?_
                  obtain ⟨b17, F⟩ := F
                  refine w_iastore rfl rfl rfl b17 ?_
                  refine w_aload_n rfl rfl ?_
                  refine w_getR rfl f_M_34 rfl rfl rfl rfl rfl ?_
                  refine w_iload rfl rfl ?_
                  refine w_iconst rfl ?_
                  refine w_iadd rfl ?_
                  refine w_iload_n rfl rfl ?_
                  obtain ⟨b18, F⟩ := F
                  refine w_iastore rfl rfl rfl b18 ?_
                  refine w_aload_n rfl rfl ?_
                  refine w_getR rfl f_M_34 rfl rfl rfl rfl rfl ?_
                  refine w_iload rfl rfl ?_
                  refine w_iconst rfl ?_
                  refine w_iadd rfl ?_
                  refine w_iload rfl rfl ?_
                  obtain ⟨b19, F⟩ := F
                  refine w_iastore rfl rfl rfl b19 ?_
                  refine w_aload_n rfl rfl ?_
                  refine w_getR rfl f_M_34 rfl rfl rfl rfl rfl ?_
                  refine w_iload rfl rfl ?_
                  refine w_iconst rfl ?_
                  refine w_iadd rfl ?_
                  refine w_iload rfl rfl ?_
                  obtain ⟨b20, F⟩ := F
                  refine w_iastore rfl rfl rfl b20 ?_
                  refine w_aload_n rfl rfl ?_
                  refine w_getR rfl f_M_34 rfl rfl rfl rfl rfl ?_
                  refine w_iload rfl rfl ?_
                  refine w_iconst rfl ?_
                  refine w_iadd rfl ?_
                  refine w_iload rfl rfl ?_
                  obtain ⟨b21, F⟩ := F
                  refine w_iastore rfl rfl rfl b21 ?_
                  refine w_aload_n rfl rfl ?_
                  refine w_getR rfl f_M_31 rfl rfl rfl rfl rfl ?_
                  refine w_iconst rfl ?_
                  refine w_dup2 rfl rfl rfl ?_
                  refine w_iaload rfl rfl rfl ⟨by decide, by decide⟩ ?_
                  refine w_iconst rfl ?_
                  refine w_iadd rfl ?_
                  refine w_iastore rfl rfl rfl ⟨by decide, by decide⟩ ?_
                  refine w_aload_n rfl rfl ?_
                  refine w_getR rfl f_M_31 rfl rfl rfl rfl rfl ?_
                  refine w_iconst rfl ?_
                  refine w_iaload rfl rfl rfl ⟨by decide, by decide⟩ ?_
                  exact w_iret rfl rfl ⟨rfl, rfl, _, rfl, F⟩
                · replace F := F.2 q15
                  refine w_bipush (by decide) (by decide) rfl ?_
                  exact w_iret rfl rfl ⟨rfl, rfl, _, rfl, F⟩
              · replace F := F.2 q13
                refine w_iconst rfl ?_
                exact w_iret rfl rfl ⟨rfl, rfl, _, rfl, F⟩
            · replace F := F.2 q11
              refine w_iload rfl rfl ?_
              refine w_if_eq (tgt := 79) rfl (by decide) b9 (fun q22 => ?_) (fun q22 => ?_)
              · replace F := F.1 q22
                refine w_iconst rfl ?_
                exact w_iret rfl rfl ⟨rfl, rfl, _, rfl, F⟩
              · replace F := F.2 q22
                refine w_iload rfl rfl ?_
                obtain ⟨b23, F⟩ := F
                refine w_i2l b23 rfl ?_
                refine w_lconst rfl ?_
                refine w_ldc2 (z := 20) kc_M_292 (by decide) rfl ?_
                refine c_SI [vJ x6, vJ 1, vJ 20] [] rfl b_M_in k_M_130 rfl rfl rfl (c_M_in (inL_of b23) (by decide) (by decide) ?_)
                refine w_ifne_b (tgt := 81) rfl (by decide) (fun q24 => ?_) (fun q24 => ?_)
                · replace F := F.1 q24
                  refine w_aload_n rfl rfl ?_
                  refine w_getR rfl f_M_31 rfl rfl rfl rfl rfl ?_
                  refine w_iconst rfl ?_
                  refine w_iaload rfl rfl rfl ⟨by decide, by decide⟩ ?_
                  refine w_bipush (by decide) (by decide) rfl ?_
                  obtain ⟨b25, F⟩ := F
                  refine w_icmp_ne (tgt := 95) rfl (by decide) ⟨b25, (r_lit rfl)⟩ (fun q26 => ?_) (fun q26 => ?_)
                  · replace F := F.1 q26
                    refine w_bipush (by decide) (by decide) rfl ?_
                    refine w_aload_n rfl rfl ?_
                    refine w_getR rfl f_M_31 rfl rfl rfl rfl rfl ?_
                    refine w_iconst rfl ?_
                    refine w_iaload rfl rfl rfl ⟨by decide, by decide⟩ ?_
                    refine w_imul rfl ?_
                    refine w_istore rfl rfl rfl rfl (w_ls (ls2 := [(0, vR 109), (1, vI x1), (2, vI x2), (3, vI x3), (4, vI x4), (5, vI x5), (6, vI x6), (7, vI (6 * (h 117 0)))]) rfl ?_)
                    refine w_aload_n rfl rfl ?_
                    refine w_getR rfl f_M_34 rfl rfl rfl rfl rfl ?_
                    refine w_iload rfl rfl ?_
                    refine w_iload_n rfl rfl ?_
                    obtain ⟨b27, F⟩ := F
                    refine w_iastore rfl rfl rfl b27 ?_
                    refine w_aload_n rfl rfl ?_
                    refine w_getR rfl f_M_34 rfl rfl rfl rfl rfl ?_
                    refine w_iload rfl rfl ?_
                    refine w_iconst rfl ?_
                    refine w_iadd rfl ?_
                    refine w_iload_n rfl rfl ?_
                    obtain ⟨b28, F⟩ := F
                    refine w_iastore rfl rfl rfl b28 ?_
                    refine w_aload_n rfl rfl ?_
                    refine w_getR rfl f_M_34 rfl rfl rfl rfl rfl ?_
                    refine w_iload rfl rfl ?_
                    refine w_iconst rfl ?_
                    refine w_iadd rfl ?_
                    refine w_iload_n rfl rfl ?_
                    obtain ⟨b29, F⟩ := F
                    refine w_iastore rfl rfl rfl b29 ?_
                    refine w_aload_n rfl rfl ?_
                    refine w_getR rfl f_M_34 rfl rfl rfl rfl rfl ?_
                    refine w_iload rfl rfl ?_
                    refine w_iconst rfl ?_
                    refine w_iadd rfl ?_
                    refine w_iload rfl rfl ?_
                    obtain ⟨b30, F⟩ := F
                    refine w_iastore rfl rfl rfl b30 ?_
                    refine w_aload_n rfl rfl ?_
                    refine w_getR rfl f_M_34 rfl rfl rfl rfl rfl ?_
                    refine w_iload rfl rfl ?_
                    refine w_iconst rfl ?_
                    refine w_iadd rfl ?_
                    refine w_iload rfl rfl ?_
                    obtain ⟨b31, F⟩ := F
                    refine w_iastore rfl rfl rfl b31 ?_
                    refine w_aload_n rfl rfl ?_
                    refine w_getR rfl f_M_34 rfl rfl rfl rfl rfl ?_
                    refine w_iload rfl rfl ?_
                    refine w_iconst rfl ?_
                    refine w_iadd rfl ?_
                    refine w_iload rfl rfl ?_
                    obtain ⟨b32, F⟩ := F
                    refine w_iastore rfl rfl rfl b32 ?_
                    refine w_aload_n rfl rfl ?_
                    refine w_getR rfl f_M_31 rfl rfl rfl rfl rfl ?_
                    refine w_iconst rfl ?_
                    refine w_dup2 rfl rfl rfl ?_
                    refine w_iaload rfl rfl rfl ⟨by decide, by decide⟩ ?_
                    refine w_iconst rfl ?_
                    refine w_iadd rfl ?_
                    refine w_iastore rfl rfl rfl ⟨by decide, by decide⟩ ?_
                    refine w_aload_n rfl rfl ?_
                    refine w_getR rfl f_M_31 rfl rfl rfl rfl rfl ?_
                    refine w_iconst rfl ?_
                    refine w_iaload rfl rfl rfl ⟨by decide, by decide⟩ ?_
                    exact w_iret rfl rfl ⟨rfl, rfl, _, rfl, F⟩
                  · replace F := F.2 q26
                    refine w_bipush (by decide) (by decide) rfl ?_
                    exact w_iret rfl rfl ⟨rfl, rfl, _, rfl, F⟩
                · replace F := F.2 q24
                  refine w_iconst rfl ?_
                  exact w_iret rfl rfl ⟨rfl, rfl, _, rfl, F⟩
theorem P_listen {KK : Int → Int → St → Prop} {h : St} (hr : Rel h) {a1 a2 a3 : Int} (r1 : inR a1) (r2 : inR a2) (r3 : inR a3) (k : ∀ z h2, inR z → Rel h2 → KK z z h2) : mwpI 40 m_C_listen [vR 0, vI a1, vI a2, vI a3] h (fun z h1 => mwpI 40 m_M_listen [vR 109, vI a1, vI a2, vI a3] h1 (fun z2 h2 => KK z z2 h2)) := by
  obtain ⟨c1, c2, c3, c4, c5, c6, ⟨n, ls, v1, v2, v3⟩, c8, c9⟩ := id hr
  have w1 := v1.1
  have w2 := v2.1
  have w3 := v1.2.1
  have en : ((n : Int)).toNat = n := by omega
  have bad : ¬ ((0 ≤ a1 ∧ a1 ≤ 7) ∧ 0 ≤ a2 ∧ a2 ≤ a3 ∧ a3 ≤ 479) → mwpI 40 m_M_listen [vR 109, vI a1, vI a2, vI a3] h (fun z2 h2 => KK (-1) z2 h2) := by
    intro q
    refine mI_intro b_M_listen rfl (s_M_listen_0 (d := 37) a1 a2 a3 _ _ ⟨r1, fun _ => k _ _ (by decide) hr, fun q1 => ⟨r2, fun _ => k _ _ (by decide) hr, fun q2 => ⟨r3, fun q3 => absurd (by omega) q, fun _ => k _ _ (by decide) hr⟩⟩⟩)
  refine mI_intro b_C_listen rfl (s_C_listen_0 (d := 37) a1 a2 a3 h _ ⟨r1, fun q => bad (by omega), fun q1 => ⟨r2, fun q => bad (by omega), fun q2 => ⟨r3, fun q => bad (by omega), fun q3 => ⟨fun q4 => ⟨⟨by omega, by omega⟩, fun q5 => ?_, fun q5 => ?_⟩, fun q4 => bad (by omega)⟩⟩⟩⟩)
  · refine mI_intro b_Silence_addListened rfl (s_Silence_addListened_0 (d := 38) a1 a2 a3 h _ ⟨by omega, ?_⟩)
    rw [w1, en]
    have e1 : up (up (up (up h 97 n a1) 98 n a2) 99 n a3) 96 0 (n + 1) 119 0 = n := by rw [up_ne (by omega), up_ne (by omega), up_ne (by omega), up_ne (by omega)]; exact w2
    refine mI_intro b_M_listen rfl (s_M_listen_0 (d := 37) a1 a2 a3 _ _ ⟨r1, fun z => absurd q1 z, fun _ => ⟨r2, fun z => absurd q2 z, fun _ => ⟨r3, fun _ => ?_, fun z => absurd (by omega) z⟩⟩⟩)
    rw [e1]
    have t0 : (3 * (n : Int)).toNat = 3 * n := by omega
    have t1 : (3 * (n : Int) + 1).toNat = 3 * n + 1 := by omega
    have t2 : (3 * (n : Int) + 2).toNat = 3 * n + 2 := by omega
    rw [t0, t1, t2]
    refine ⟨⟨by omega, by omega⟩, fun _ => ⟨by omega, by omega, by omega, ?_⟩, fun z => absurd (by omega) z⟩
    have ag9 : ag (fun c k => ¬ dLs c k) h (up (up (up (up (up (up (up (up h 97 n a1) 98 n a2) 99 n a3) 96 0 (n + 1)) 120 (3 * n) a1) 120 (3 * n + 1) a2) 120 (3 * n + 2) a3) 119 0 (n + 1)) := ag_up (by omega) (ag_up (by omega) (ag_up (by omega) (ag_up (by omega) (ag_up (by omega) (ag_up (by omega) (ag_up (by omega) (ag_up (by omega) ag_rfl)))))))
    refine k _ _ ⟨by omega, by omega⟩ (Rel_of hr (RLog_c (ag_sub (fun c k p => by omega) ag9) c1) (RBr_c (ag_sub (fun c k p => by omega) ag9) c6) ⟨n + 1, fun j i => if i = n then (if j = 0 then a1 else if j = 1 then a2 else a3) else ls j i, ⟨?_, by omega, fun i hi => ?_⟩, ⟨?_, by omega, fun i hi => ?_⟩, fun i hi => ?_⟩ (REv_c (ag_sub (fun c k p => by omega) ag9) c8) ?_ (ag_sub (fun c k p => by omega) ag9))
    · simp [up]
    · by_cases e : i = n
      · subst e; simp [up]
      · have := v1.2.2 i (by omega)
        simp [up, e, this]
    · simp [up]
    · by_cases e : i = n
      · subst e; simp [up]
      · have g := v2.2.2 i (by omega)
        simp only [if_neg e]
        rw [up_ne (by omega), up_ne (by omega), up_ne (by omega), up_ne (by omega), up_ne (by omega), up_ne (by omega), up_ne (by omega), up_ne (by omega), up_ne (by omega), up_ne (by omega), up_ne (by omega), up_ne (by omega), up_ne (by omega), up_ne (by omega), up_ne (by omega), up_ne (by omega), up_ne (by omega), up_ne (by omega), up_ne (by omega), up_ne (by omega), up_ne (by omega), up_ne (by omega), up_ne (by omega), up_ne (by omega)]
        exact g
    · by_cases e : i = n
      · subst e; simp; omega
      · have := v3 i (by omega)
        simp [e]
        omega
    · refine RKp_app c9 (ag9 _ _ (by omega)) (ag9 _ _ (by omega)) (fun c j g1 g2 => ag9 _ _ (by omega)) (fun j => ag9 _ _ (by omega)) (fun j => ag9 _ _ (by omega)) (fun j => ?_) (fun j => ag9 _ _ (by omega)) (Int.le_of_eq (ag9 _ _ (by omega)).symm) (Int.le_of_eq (ag9 _ _ (by omega)).symm) ?_ (Int.le_of_eq (ag9 _ _ (by omega)).symm) (fun c i g1 g2 _ => ag9 _ _ (by omega)) (fun i _ => ag9 _ _ (by omega)) (fun i g => ?_) (fun i _ => ag9 _ _ (by omega))
      · rw [up_ne (by omega), up_ne (by omega), up_ne (by omega), up_ne (by omega), up_ne (by omega), up_ne (by omega), up_ne (by omega), up_ne (by omega)]
      · simp [up]; omega
      · rw [up_ne (by omega), up_ne (by omega), up_ne (by omega), up_ne (by omega), up_ne (by omega), up_ne (by omega), up_ne (by omega), up_ne (by omega)]
  · refine mI_intro b_M_listen rfl (s_M_listen_0 (d := 37) a1 a2 a3 _ _ ⟨r1, fun z => absurd q1 z, fun _ => ⟨r2, fun z => absurd q2 z, fun _ => ⟨r3, fun _ => ⟨⟨by omega, by omega⟩, fun z => absurd (by omega) z, fun _ => k _ _ (by decide) hr⟩, fun z => absurd (by omega) z⟩⟩⟩)
theorem M_bearing_v {K : Int → St → Prop} {h : St} {a1 a2 a3 a4 a5 a6 : Int} {n : Nat} (r1 : inR a1) (r2 : inR a2) (r3 : inR a3) (r4 : inR a4) (r5 : inR a5) (r6 : inR a6) (q1 : 0 ≤ a1 ∧ a1 ≤ 3) (q2 : 0 ≤ a2 ∧ a2 ≤ 11) (q3 : 0 ≤ a3 ∧ a3 ≤ 19) (q4 : (-9 ≤ a4 ∧ a4 ≤ 9) ∧ (-9 ≤ a5 ∧ a5 ≤ 9) ∧ (a4 ≠ 0 ∨ a5 ≠ 0)) (q6 : 1 ≤ a6 ∧ a6 ≤ 20) (hn : h 117 0 = n) (hn2 : n ≤ 40) (k1 : n ≠ 40 → K (n + 1) (up (up (up (up (up (up (up h 118 (6 * n) a1) 118 (6 * n + 1) a2) 118 (6 * n + 2) a3) 118 (6 * n + 3) a4) 118 (6 * n + 4) a5) 118 (6 * n + 5) a6) 117 0 (n + 1))) (k2 : n = 40 → K (-3) h) : mwpI 40 m_M_bearing [vR 109, vI a1, vI a2, vI a3, vI a4, vI a5, vI a6] h K := by
  have t0 : (6 * (n : Int)).toNat = 6 * n := by omega
  have t1 : (6 * (n : Int) + 1).toNat = 6 * n + 1 := by omega
  have t2 : (6 * (n : Int) + 2).toNat = 6 * n + 2 := by omega
  have t3 : (6 * (n : Int) + 3).toNat = 6 * n + 3 := by omega
  have t4 : (6 * (n : Int) + 4).toNat = 6 * n + 4 := by omega
  have t5 : (6 * (n : Int) + 5).toNat = 6 * n + 5 := by omega
  refine mI_intro b_M_bearing rfl (s_M_bearing_0 (d := 37) a1 a2 a3 a4 a5 a6 _ _ ⟨r1, fun z => absurd q1 z, fun _ => ⟨r2, fun z => absurd q2 z, fun _ => ⟨r3, fun z => absurd q3 z, fun _ => ⟨r4, fun z => absurd q4.1 z, fun _ => ⟨r5, fun z => absurd q4.2.1 z, fun _ => ⟨fun _ => ⟨r6, fun _ => ?_, fun z => absurd q6 z⟩, fun z => ⟨fun y => absurd q4.2.2 (by omega), fun _ => ⟨r6, fun _ => ?_, fun z => absurd q6 z⟩⟩⟩⟩⟩⟩⟩⟩)
  · rw [hn, t0, t1, t2, t3, t4, t5]
    exact ⟨⟨by omega, by omega⟩, fun z => ⟨by omega, by omega, by omega, by omega, by omega, by omega, k1 (by omega)⟩, fun z => k2 (by omega)⟩
  · rw [hn, t0, t1, t2, t3, t4, t5]
    exact ⟨⟨by omega, by omega⟩, fun z => ⟨by omega, by omega, by omega, by omega, by omega, by omega, k1 (by omega)⟩, fun z => k2 (by omega)⟩
theorem P_bearing {KK : Int → Int → St → Prop} {h : St} (hr : Rel h) {a1 a2 a3 a4 a5 a6 : Int} (r1 : inR a1) (r2 : inR a2) (r3 : inR a3) (r4 : inR a4) (r5 : inR a5) (r6 : inR a6) (k : ∀ z h2, inR z → Rel h2 → KK z z h2) : mwpI 40 m_C_bearing [vR 0, vI a1, vI a2, vI a3, vI a4, vI a5, vI a6] h (fun z h1 => mwpI 40 m_M_bearing [vR 109, vI a1, vI a2, vI a3, vI a4, vI a5, vI a6] h1 (fun z2 h2 => KK z z2 h2)) := by
  obtain ⟨c1, c2, c3, c4, c5, ⟨n, bg, v1, v2, v3⟩, c7, c8, c9⟩ := id hr
  have w1 := v1.1
  have w2 := v2.1
  have w3 := v1.2.1
  have en : ((n : Int)).toNat = n := by omega
  have bad : ¬ ((0 ≤ a1 ∧ a1 ≤ 3) ∧ (0 ≤ a2 ∧ a2 ≤ 11) ∧ (0 ≤ a3 ∧ a3 ≤ 19) ∧ ((-9 ≤ a4 ∧ a4 ≤ 9) ∧ (-9 ≤ a5 ∧ a5 ≤ 9) ∧ (a4 ≠ 0 ∨ a5 ≠ 0)) ∧ (1 ≤ a6 ∧ a6 ≤ 20)) → mwpI 40 m_M_bearing [vR 109, vI a1, vI a2, vI a3, vI a4, vI a5, vI a6] h (fun z2 h2 => KK (-1) z2 h2) := by
    intro q
    have kb := k (-1) h (by decide) hr
    refine mI_intro b_M_bearing rfl (s_M_bearing_0 (d := 37) a1 a2 a3 a4 a5 a6 _ _ ⟨r1, fun _ => kb, fun q1 => ⟨r2, fun _ => kb, fun q2 => ⟨r3, fun _ => kb, fun q3 => ⟨r4, fun _ => kb, fun q4 => ⟨r5, fun _ => kb, fun q5 => ⟨fun y => ⟨r6, fun q6 => absurd ⟨q1, q2, q3, ⟨q4, q5, Or.inl y⟩, q6⟩ q, fun _ => kb⟩, fun y => ⟨fun _ => kb, fun x => ⟨r6, fun q6 => absurd ⟨q1, q2, q3, ⟨q4, q5, Or.inr x⟩, q6⟩ q, fun _ => kb⟩⟩⟩⟩⟩⟩⟩⟩)
  refine mI_intro b_C_bearing rfl (s_C_bearing_0 (d := 37) a1 a2 a3 a4 a5 a6 h _ ⟨r1, fun q => bad (fun y => q y.1), fun q1 => ⟨r2, fun q => bad (fun y => q y.2.1), fun q2 => ⟨r3, fun q3 => ⟨r4, r5, fun q => bad (fun y => q y.2.2.2.1), fun q4 => ⟨r6, fun q6 => ⟨⟨by omega, by omega⟩, fun q7 => ?_, fun q7 => ?_⟩, fun q => bad (fun y => q y.2.2.2.2)⟩⟩, fun q => bad (fun y => q y.2.2.1)⟩⟩⟩)
  · refine mI_intro b_Places_add rfl (s_Places_add_0 (d := 38) a1 a2 a3 a4 a5 a6 h _ ⟨by omega, ?_⟩)
    rw [w1, en]
    refine M_bearing_v (n := n) r1 r2 r3 r4 r5 r6 q1 q2 q3 q4 q6 (by rw [up_ne (by omega), up_ne (by omega), up_ne (by omega), up_ne (by omega), up_ne (by omega), up_ne (by omega), up_ne (by omega)]; exact w2) (by omega) (fun _ => ?_) (fun z => absurd z (by omega))
    have ag9 : ag (fun c k => ¬ dBr c k) h (up (up (up (up (up (up (up (up (up (up (up (up (up (up h 88 n a1) 89 n a2) 90 n a3) 91 n a4) 92 n a5) 93 n a6) 85 8 (n + 1)) 118 (6 * n) a1) 118 (6 * n + 1) a2) 118 (6 * n + 2) a3) 118 (6 * n + 3) a4) 118 (6 * n + 4) a5) 118 (6 * n + 5) a6) 117 0 (n + 1)) := by
      repeat (refine ag_up (by omega) ?_)
      exact ag_rfl
    refine k _ _ ⟨by omega, by omega⟩ (Rel_of hr (RLog_c (ag_sub (fun c k p => by omega) ag9) c1) ⟨n + 1, fun j i => if i = n then (if j = 0 then a1 else if j = 1 then a2 else if j = 2 then a3 else if j = 3 then a4 else if j = 4 then a5 else a6) else bg j i, ⟨?_, by omega, fun i hi => ?_⟩, ⟨?_, by omega, fun i hi => ?_⟩, fun i hi => ?_⟩ (RLs_c (ag_sub (fun c k p => by omega) ag9) c7) (REv_c (ag_sub (fun c k p => by omega) ag9) c8) ?_ (ag_sub (fun c k p => by omega) ag9))
    · simp [up]
    · by_cases e : i = n
      · subst e; simp [up]
      · have := v1.2.2 i (by omega)
        simp [up, e, this]
    · simp [up]
    · by_cases e : i = n
      · subst e; simp [up]
      · have g := v2.2.2 i (by omega)
        simp only [if_neg e]
        refine ⟨?_, ?_, ?_, ?_, ?_, ?_⟩
        · repeat rw [up_ne (by omega)]
          exact g.1
        · repeat rw [up_ne (by omega)]
          exact g.2.1
        · repeat rw [up_ne (by omega)]
          exact g.2.2.1
        · repeat rw [up_ne (by omega)]
          exact g.2.2.2.1
        · repeat rw [up_ne (by omega)]
          exact g.2.2.2.2.1
        · repeat rw [up_ne (by omega)]
          exact g.2.2.2.2.2
    · by_cases e : i = n
      · subst e; simp; omega
      · have := v3 i (by omega)
        simp [e]
        omega
    · refine RKp_app c9 (ag9 _ _ (by omega)) (ag9 _ _ (by omega)) (fun c j g1 g2 => ag9 _ _ (by omega)) (fun j => ag9 _ _ (by omega)) (fun j => ?_) (fun j => ag9 _ _ (by omega)) (fun j => ag9 _ _ (by omega)) (Int.le_of_eq (ag9 _ _ (by omega)).symm) ?_ (Int.le_of_eq (ag9 _ _ (by omega)).symm) (Int.le_of_eq (ag9 _ _ (by omega)).symm) (fun c i g1 g2 _ => ag9 _ _ (by omega)) (fun i g => ?_) (fun i _ => ag9 _ _ (by omega)) (fun i _ => ag9 _ _ (by omega))
      · repeat rw [up_ne (by omega)]
      · simp [up]; omega
      · repeat rw [up_ne (by omega)]
  · exact M_bearing_v (n := n) r1 r2 r3 r4 r5 r6 q1 q2 q3 q4 q6 w2 (by omega) (fun z => absurd z (by omega)) (fun _ => k _ _ (by decide) hr)
theorem P_call {KK : Int → Int → St → Prop} {h : St} (hr : Rel h) {a1 a2 a3 a4 a5 a6 : Int} (r1 : inR a1) (r2 : inR a2) (r3 : inR a3) (r4 : inR a4) (r5 : inR a5) (r6 : inR a6) (k : ∀ z h2, inR z → Rel h2 → KK z z h2) : mwpI 40 m_C_call [vR 0, vI a1, vI a2, vI a3, vI a4, vI a5, vI a6] h (fun z h1 => mwpI 40 m_M_call [vR 109, vI a1, vI a2, vI a3, vI a4, vI a5, vI a6] h1 (fun z2 h2 => KK z z2 h2)) := by
  obtain ⟨⟨n, lg, v1, v2, v3⟩, c2, c3, c4, c5, c6, c7, c8, c9⟩ := id hr
  have w1 := v1.1
  have w2 := v2.1
  have w3 := v1.2.1
  have en : ((n : Int)).toNat = n := by omega
  have bad : ¬ ((0 ≤ a1 ∧ a1 ≤ 11) ∧ (0 ≤ a2 ∧ a2 ≤ 11) ∧ (¬ a1 = a2) ∧ (0 ≤ a3 ∧ a3 ≤ 479) ∧ (1 ≤ a4 ∧ a4 ≤ 99) ∧ (0 ≤ a5 ∧ a5 ≤ 7) ∧ (0 ≤ a6 ∧ a6 ≤ 99)) → mwpI 40 m_M_call [vR 109, vI a1, vI a2, vI a3, vI a4, vI a5, vI a6] h (fun z2 h2 => KK (-1) z2 h2) := by
    intro q
    have kb := k (-1) h (by decide) hr
    refine mI_intro b_M_call rfl (s_M_call_0 (d := 37) a1 a2 a3 a4 a5 a6 _ _ ⟨r1, fun _ => kb, fun q1 => ⟨r2, fun _ => kb, fun q2 => ⟨fun _ => kb, fun q3 => ⟨r3, fun _ => kb, fun q4 => ⟨r4, fun _ => kb, fun q5 => ⟨r5, fun _ => kb, fun q6 => ⟨r6, fun q7 => absurd ⟨q1, q2, q3, q4, q5, q6, q7⟩ q, fun _ => kb⟩⟩⟩⟩⟩⟩⟩)
  refine mI_intro b_C_call rfl (s_C_call_0 (d := 37) a1 a2 a3 a4 a5 a6 h _ ⟨r1, fun q => bad (fun y => q y.1), fun q1 => ⟨r2, fun q => bad (fun y => q y.2.1), fun q2 => ⟨fun q => bad (fun y => y.2.2.1 q), fun q3 => ⟨r3, fun q4 => ⟨r4, fun q => bad (fun y => q y.2.2.2.2.1), fun q5 => ⟨r5, fun q => bad (fun y => q y.2.2.2.2.2.1), fun q6 => ⟨r6, fun q7 => ⟨⟨by omega, by omega⟩, fun q8 => ?_, fun q8 => ?_⟩, fun q => bad (fun y => q y.2.2.2.2.2.2)⟩⟩⟩, fun q => bad (fun y => q y.2.2.2.1)⟩⟩⟩⟩)
  · refine mI_intro b_CallLog_add rfl (s_CallLog_add_0 (d := 38) a1 a2 a3 a4 a5 a6 h _ ⟨by omega, ?_⟩)
    rw [w1, en]
    refine mI_intro b_M_call rfl (s_M_call_0 (d := 37) a1 a2 a3 a4 a5 a6 _ _ ⟨r1, fun z => absurd q1 z, fun _ => ⟨r2, fun z => absurd q2 z, fun _ => ⟨fun z => absurd z q3, fun _ => ⟨r3, fun z => absurd q4 z, fun _ => ⟨r4, fun z => absurd q5 z, fun _ => ⟨r5, fun z => absurd q6 z, fun _ => ⟨r6, fun _ => ?_, fun z => absurd q7 z⟩⟩⟩⟩⟩⟩⟩)
    have e1 : (up (up (up (up (up (up (up h 2 n a1) 3 n a2) 4 n a3) 5 n a4) 6 n a5) 7 n a6) 1 6 (n + 1)) 110 0 = n := by rw [up_ne (by omega), up_ne (by omega), up_ne (by omega), up_ne (by omega), up_ne (by omega), up_ne (by omega), up_ne (by omega)]; exact w2
    rw [e1, en]
    refine ⟨⟨by omega, by omega⟩, fun _ => ⟨by omega, ?_⟩, fun z => absurd (by omega) z⟩
    have ag9 : ag (fun c k => ¬ dLog c k) h (up (up (up (up (up (up (up (up (up (up (up (up (up (up h 2 n a1) 3 n a2) 4 n a3) 5 n a4) 6 n a5) 7 n a6) 1 6 (n + 1)) 111 n a1) 112 n a2) 113 n a3) 114 n a4) 115 n a5) 116 n a6) 110 0 (n + 1)) := by
      repeat (refine ag_up (by omega) ?_)
      exact ag_rfl
    refine k _ _ ⟨by omega, by omega⟩ (Rel_of hr ⟨n + 1, fun j i => if i = n then (if j = 0 then a1 else if j = 1 then a2 else if j = 2 then a3 else if j = 3 then a4 else if j = 4 then a5 else a6) else lg j i, ⟨?_, by omega, fun i hi => ?_⟩, ⟨?_, by omega, fun i hi => ?_⟩, fun i hi => ?_⟩ (RBr_c (ag_sub (fun c k p => by omega) ag9) c6) (RLs_c (ag_sub (fun c k p => by omega) ag9) c7) (REv_c (ag_sub (fun c k p => by omega) ag9) c8) ?_ (ag_sub (fun c k p => by omega) ag9))
    · simp [up]
    · by_cases e : i = n
      · subst e; simp [up]
      · have := v1.2.2 i (by omega)
        simp [up, e, this]
    · simp [up]
    · by_cases e : i = n
      · subst e; simp [up]
      · have := v2.2.2 i (by omega)
        simp [up, e, this]
    · by_cases e : i = n
      · subst e; simp; omega
      · have := v3 i (by omega)
        simp only [if_neg e]
        exact this
    · refine RKp_app c9 (ag9 _ _ (by omega)) (ag9 _ _ (by omega)) (fun c j g1 g2 => ag9 _ _ (by omega)) (fun j => ?_) (fun j => ag9 _ _ (by omega)) (fun j => ag9 _ _ (by omega)) (fun j => ag9 _ _ (by omega)) ?_ (Int.le_of_eq (ag9 _ _ (by omega)).symm) (Int.le_of_eq (ag9 _ _ (by omega)).symm) (Int.le_of_eq (ag9 _ _ (by omega)).symm) (fun c i g1 g2 g => ?_) (fun i _ => ag9 _ _ (by omega)) (fun i _ => ag9 _ _ (by omega)) (fun i _ => ag9 _ _ (by omega))
      · repeat rw [up_ne (by omega)]
      · simp [up]; omega
      · repeat rw [up_ne (by omega)]
  · refine mI_intro b_M_call rfl (s_M_call_0 (d := 37) a1 a2 a3 a4 a5 a6 _ _ ⟨r1, fun z => absurd q1 z, fun _ => ⟨r2, fun z => absurd q2 z, fun _ => ⟨fun z => absurd z q3, fun _ => ⟨r3, fun z => absurd q4 z, fun _ => ⟨r4, fun z => absurd q5 z, fun _ => ⟨r5, fun z => absurd q6 z, fun _ => ⟨r6, fun _ => ⟨⟨by omega, by omega⟩, fun z => absurd (by omega) z, fun _ => k _ _ (by decide) hr⟩, fun z => absurd q7 z⟩⟩⟩⟩⟩⟩⟩)
