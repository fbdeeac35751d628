theorem s_Silence_silentEvents_0 {d : Nat}  (x1 : Int) (h : St) (K : Int → St → Prop) (F : (wI (d + 1) m_Silence_silentEvents 4 [(0, vR 96), (1, vI x1), (2, vI 0), (3, vI 0)] [] h K)) : wI (d + 1) m_Silence_silentEvents 0 [(0, vR 96), (1, vI x1)] [] h K := by
  refine w_iconst rfl ?_
  refine w_istore_n rfl rfl rfl rfl (w_ls (ls2 := [(0, vR 96), (1, vI x1), (2, vI 0)]) rfl ?_)
  refine w_iconst rfl ?_
  refine w_istore_n rfl rfl rfl rfl (w_ls (ls2 := [(0, vR 96), (1, vI x1), (2, vI 0), (3, vI 0)]) rfl ?_)
  exact F
theorem s_Silence_silentEvents_4 {d : Nat}  (x1 x2 x3 : Int) (h : St) (K : Int → St → Prop) (F : (inR x3) ∧ (inR (h 96 1)) ∧ (((h 96 1) ≤ x3 → (K x2 h)) ∧ (¬ ((h 96 1) ≤ x3) → (0 ≤ x3 ∧ x3 < 10) ∧ (mwpI (d + 1) m_Silence_isSilent [vR 96, vI (h 100 x3.toNat), vI x1] h (fun z5 h5 => (((inR z5))) ∧ (wI (d + 1) m_Silence_silentEvents 4 [(0, vR 96), (1, vI x1), (2, vI (x2 + (b2i (¬ (z5 = 0))))), (3, vI (x3 + 1))] [] h5 K)))))) : wI (d + 1) m_Silence_silentEvents 4 [(0, vR 96), (1, vI x1), (2, vI x2), (3, vI x3)] [] h K := by
  refine w_iload_n rfl rfl ?_
  refine w_aload_n rfl rfl ?_
  refine w_getI rfl f_Silence_15 rfl rfl rfl ?_
  obtain ⟨b1, F⟩ := F
  obtain ⟨b2, F⟩ := F
  refine w_icmp_ge (tgt := 40) rfl (by decide) ⟨b1, b2⟩ (fun q3 => ?_) (fun q3 => ?_)
  · replace F := F.1 q3
    refine w_iload_n rfl rfl ?_
    exact w_iret rfl rfl ⟨rfl, rfl, _, rfl, F⟩
  · replace F := F.2 q3
    refine w_iload_n rfl rfl ?_
    refine w_aload_n rfl rfl ?_
    refine w_aload_n rfl rfl ?_
    refine w_getR rfl f_Silence_28 rfl rfl rfl rfl rfl ?_
    refine w_iload_n rfl rfl ?_
    obtain ⟨b4, F⟩ := F
    refine w_iaload rfl rfl rfl b4 ?_
    refine w_iload_n rfl rfl ?_
    refine c_VI [vI (h 100 x3.toNat), vI x1] [vI x2] rfl b_Silence_isSilent k_Silence_60 rfl rfl rfl rfl rfl rfl (mwpI_mono (fun z5 h5 F => ?_) F)
    obtain ⟨G, F⟩ := F
    have J : ∀ (t8 : Int), t8 = b2i (¬ (z5 = 0)) → wI (d + 1) m_Silence_silentEvents 32 [(0, vR 96), (1, vI x1), (2, vI x2), (3, vI x3)] [vI t8, vI x2] h5 K := by
      intro t8 et8
      subst et8
      refine w_iadd rfl ?_
      refine w_istore_n rfl rfl rfl rfl (w_ls (ls2 := [(0, vR 96), (1, vI x1), (2, vI (x2 + (b2i (¬ (z5 = 0))))), (3, vI x3)]) rfl ?_)
      refine w_iinc rfl rfl rfl rfl rfl (w_ls (ls2 := [(0, vR 96), (1, vI x1), (2, vI (x2 + (b2i (¬ (z5 = 0))))), (3, vI (x3 + 1))]) rfl ?_)
      refine w_goto (tgt := 4) rfl (by decide) ?_
      exact F
    have b6 := G
    refine w_if_eq (tgt := 31) rfl (by decide) b6 (fun q7 => ?_) (fun q7 => ?_)
    · refine w_iconst rfl ?_
      exact J _ (b2i_f (fun z => z q7)).symm
    · refine w_iconst rfl ?_
      refine w_goto (tgt := 32) rfl (by decide) ?_
      exact J _ (b2i_t q7).symm
theorem s_Silence_eventsFrom_0 {d : Nat}  (x1 : Int) (h : St) (K : Int → St → Prop) (F : (wI d m_Silence_eventsFrom 4 [(0, vR 96), (1, vI x1), (2, vI 0), (3, vI 0)] [] h K)) : wI d m_Silence_eventsFrom 0 [(0, vR 96), (1, vI x1)] [] h K := by
  refine w_iconst rfl ?_
  refine w_istore_n rfl rfl rfl rfl (w_ls (ls2 := [(0, vR 96), (1, vI x1), (2, vI 0)]) rfl ?_)
  refine w_iconst rfl ?_
  refine w_istore_n rfl rfl rfl rfl (w_ls (ls2 := [(0, vR 96), (1, vI x1), (2, vI 0), (3, vI 0)]) rfl ?_)
  exact F
theorem s_Silence_eventsFrom_4 {d : Nat}  (x1 x2 x3 : Int) (h : St) (K : Int → St → Prop) (F : (inR x3) ∧ (inR (h 96 1)) ∧ (((h 96 1) ≤ x3 → (K x2 h)) ∧ (¬ ((h 96 1) ≤ x3) → (0 ≤ x3 ∧ x3 < 10) ∧ (((inR (h 100 x3.toNat)) ∧ (inR x1))) ∧ (wI d m_Silence_eventsFrom 4 [(0, vR 96), (1, vI x1), (2, vI (x2 + (b2i (¬ ((h 100 x3.toNat) < x1))))), (3, vI (x3 + 1))] [] h K)))) : wI d m_Silence_eventsFrom 4 [(0, vR 96), (1, vI x1), (2, vI x2), (3, vI x3)] [] h K := by
  refine w_iload_n rfl rfl ?_
  refine w_aload_n rfl rfl ?_
  refine w_getI rfl f_Silence_15 rfl rfl rfl ?_
  obtain ⟨b1, F⟩ := F
  obtain ⟨b2, F⟩ := F
  refine w_icmp_ge (tgt := 36) rfl (by decide) ⟨b1, b2⟩ (fun q3 => ?_) (fun q3 => ?_)
  · replace F := F.1 q3
    refine w_iload_n rfl rfl ?_
    exact w_iret rfl rfl ⟨rfl, rfl, _, rfl, F⟩
  · replace F := F.2 q3
    refine w_iload_n rfl rfl ?_
    refine w_aload_n rfl rfl ?_
    refine w_getR rfl f_Silence_28 rfl rfl rfl rfl rfl ?_
    refine w_iload_n rfl rfl ?_
    obtain ⟨b4, F⟩ := F
    refine w_iaload rfl rfl rfl b4 ?_
    refine w_iload_n rfl rfl ?_
    obtain ⟨G, F⟩ := F
    have J : ∀ (t8 : Int), t8 = b2i (¬ ((h 100 x3.toNat) < x1)) → wI d m_Silence_eventsFrom 28 [(0, vR 96), (1, vI x1), (2, vI x2), (3, vI x3)] [vI t8, vI x2] h K := by
      intro t8 et8
      subst et8
      refine w_iadd rfl ?_
      refine w_istore_n rfl rfl rfl rfl (w_ls (ls2 := [(0, vR 96), (1, vI x1), (2, vI (x2 + (b2i (¬ ((h 100 x3.toNat) < x1))))), (3, vI x3)]) rfl ?_)
      refine w_iinc rfl rfl rfl rfl rfl (w_ls (ls2 := [(0, vR 96), (1, vI x1), (2, vI (x2 + (b2i (¬ ((h 100 x3.toNat) < x1))))), (3, vI (x3 + 1))]) rfl ?_)
      refine w_goto (tgt := 4) rfl (by decide) ?_
      exact F
    obtain ⟨b5, b6⟩ := G
    refine w_icmp_lt (tgt := 27) rfl (by decide) ⟨b5, b6⟩ (fun q7 => ?_) (fun q7 => ?_)
    · refine w_iconst rfl ?_
      exact J _ (b2i_f (fun z => z q7)).symm
    · refine w_iconst rfl ?_
      refine w_goto (tgt := 28) rfl (by decide) ?_
      exact J _ (b2i_t q7).symm
theorem s_Silence_silentHours_0 {d : Nat}  (x1 : Int) (h : St) (K : Int → St → Prop) (F : (wI (d + 1) m_Silence_silentHours 4 [(0, vR 96), (1, vI x1), (2, vI 0), (3, vI x1)] [] h K)) : wI (d + 1) m_Silence_silentHours 0 [(0, vR 96), (1, vI x1)] [] h K := by
  refine w_iconst rfl ?_
  refine w_istore_n rfl rfl rfl rfl (w_ls (ls2 := [(0, vR 96), (1, vI x1), (2, vI 0)]) rfl ?_)
  refine w_iload_n rfl rfl ?_
  refine w_istore_n rfl rfl rfl rfl (w_ls (ls2 := [(0, vR 96), (1, vI x1), (2, vI 0), (3, vI x1)]) rfl ?_)
  exact F
theorem s_Silence_silentHours_4 {d : Nat}  (x1 x2 x3 : Int) (h : St) (K : Int → St → Prop) (F : (inR x3) ∧ ((480 ≤ x3 → (K x2 h)) ∧ (¬ (480 ≤ x3) → (mwpI (d + 1) m_Silence_isSilent [vR 96, vI x3, vI x1] h (fun z3 h3 => (((inR z3))) ∧ (wI (d + 1) m_Silence_silentHours 4 [(0, vR 96), (1, vI x1), (2, vI (x2 + (b2i (¬ (z3 = 0))))), (3, vI (x3 + 1))] [] h3 K)))))) : wI (d + 1) m_Silence_silentHours 4 [(0, vR 96), (1, vI x1), (2, vI x2), (3, vI x3)] [] h K := by
  refine w_iload_n rfl rfl ?_
  refine w_sipush (by decide) (by decide) rfl ?_
  obtain ⟨b1, F⟩ := F
  refine w_icmp_ge (tgt := 34) rfl (by decide) ⟨b1, (r_lit rfl)⟩ (fun q2 => ?_) (fun q2 => ?_)
  · replace F := F.1 q2
    refine w_iload_n rfl rfl ?_
    exact w_iret rfl rfl ⟨rfl, rfl, _, rfl, F⟩
  · replace F := F.2 q2
    refine w_iload_n rfl rfl ?_
    refine w_aload_n rfl rfl ?_
    refine w_iload_n rfl rfl ?_
    refine w_iload_n rfl rfl ?_
    refine c_VI [vI x3, vI x1] [vI x2] rfl b_Silence_isSilent k_Silence_60 rfl rfl rfl rfl rfl rfl (mwpI_mono (fun z3 h3 F => ?_) F)
    obtain ⟨G, F⟩ := F
    have J : ∀ (t6 : Int), t6 = b2i (¬ (z3 = 0)) → wI (d + 1) m_Silence_silentHours 26 [(0, vR 96), (1, vI x1), (2, vI x2), (3, vI x3)] [vI t6, vI x2] h3 K := by
      intro t6 et6
      subst et6
      refine w_iadd rfl ?_
      refine w_istore_n rfl rfl rfl rfl (w_ls (ls2 := [(0, vR 96), (1, vI x1), (2, vI (x2 + (b2i (¬ (z3 = 0))))), (3, vI x3)]) rfl ?_)
      refine w_iinc rfl rfl rfl rfl rfl (w_ls (ls2 := [(0, vR 96), (1, vI x1), (2, vI (x2 + (b2i (¬ (z3 = 0))))), (3, vI (x3 + 1))]) rfl ?_)
      refine w_goto (tgt := 4) rfl (by decide) ?_
      exact F
    have b4 := G
    refine w_if_eq (tgt := 25) rfl (by decide) b4 (fun q5 => ?_) (fun q5 => ?_)
    · refine w_iconst rfl ?_
      exact J _ (b2i_f (fun z => z q5)).symm
    · refine w_iconst rfl ?_
      refine w_goto (tgt := 26) rfl (by decide) ?_
      exact J _ (b2i_t q5).symm
theorem s_C_ahead_0 {d : Nat}  (x1 x2 x3 : Int) (h : St) (K : Int → St → Prop) (F : (inR x1) ∧ ((¬ (0 ≤ x1 ∧ x1 ≤ 11) → (K ((-1)) h)) ∧ (0 ≤ x1 ∧ x1 ≤ 11 → (inR x2) ∧ ((¬ (1 ≤ x2 ∧ x2 ≤ 48) → (K ((-1)) h)) ∧ (1 ≤ x2 ∧ x2 ≤ 48 → (inR x3) ∧ ((0 ≤ x3 ∧ x3 ≤ 3 → (mwpV (d + 3) m_Silence_measure [vR 96, vR 1, vI x1] h (fun h7 => ((x3 = 0 → (mwpI (d + 3) m_Silence_silentEvents [vR 96, vI x2] h7 (fun z9 h9 => (K z9 h9)))) ∧ (x3 = 1 → (mwpI (d + 3) m_Silence_eventsFrom [vR 96, vI x2] h7 (fun z11 h11 => (K z11 h11)))) ∧ (x3 = 2 → (mwpI (d + 3) m_Silence_silentHours [vR 96, vI x2] h7 (fun z13 h13 => (K z13 h13)))) ∧ ((x3 ≠ 0 ∧ x3 ≠ 1 ∧ x3 ≠ 2) → (K (480 - x2) h7)))))) ∧ (¬ (0 ≤ x3 ∧ x3 ≤ 3) → (K ((-1)) h)))))))) : wI (d + 3) m_C_ahead 0 [(0, vR 0), (1, vI x1), (2, vI x2), (3, vI x3)] [] h K := by
  refine w_iload_n rfl rfl ?_
  obtain ⟨b1, F⟩ := F
  refine c_SI [vI x1] [] rfl b_C_isName k_C_96 rfl rfl rfl (c_C_isName b1 ?_)
  refine w_ifeq_b (tgt := 23) rfl (by decide) (fun q2 => ?_) (fun q2 => ?_)
  · replace F := F.1 q2
    refine w_iconst rfl ?_
    exact w_iret rfl rfl ⟨rfl, rfl, _, rfl, F⟩
  · replace F := F.2 q2
    refine w_iload_n rfl rfl ?_
    obtain ⟨b3, F⟩ := F
    refine c_SI [vI x2] [] rfl b_C_isSilence k_C_301 rfl rfl rfl (c_C_isSilence b3 ?_)
    refine w_ifeq_b (tgt := 23) rfl (by decide) (fun q4 => ?_) (fun q4 => ?_)
    · replace F := F.1 q4
      refine w_iconst rfl ?_
      exact w_iret rfl rfl ⟨rfl, rfl, _, rfl, F⟩
    · replace F := F.2 q4
      refine w_iload_n rfl rfl ?_
      refine w_iconst rfl ?_
      refine w_iconst rfl ?_
      obtain ⟨b5, F⟩ := F
      refine c_SI [vI x3, vI 0, vI 3] [] rfl b_C_isAmong k_C_103 rfl rfl rfl (c_C_isAmong b5 (r_lit rfl) (r_lit rfl) ?_)
      refine w_ifne_b (tgt := 25) rfl (by decide) (fun q6 => ?_) (fun q6 => ?_)
      · replace F := F.1 q6
        refine w_aload_n rfl rfl ?_
        refine w_getR rfl f_C_68 rfl rfl rfl rfl rfl ?_
        refine w_aload_n rfl rfl ?_
        refine w_getR rfl f_C_10 rfl rfl rfl rfl rfl ?_
        refine w_iload_n rfl rfl ?_
        refine c_VV [vR 1, vI x1] [] rfl b_Silence_measure k_C_304 rfl rfl rfl rfl rfl rfl (mwpV_mono (fun h7 F => ?_) F)
        refine w_iload_n rfl rfl ?_
        obtain ⟨F0, F1, F2, Fd⟩ := F
        by_cases q8 : x3 = 0
        · have F := F0 q8
          refine w_tabIn (a := x3) (tgt := 64) (off := 26) rfl b5 (by omega) (by omega) (by rw [q8]; rfl) (by decide) ?_
          refine w_aload_n rfl rfl ?_
          refine w_getR rfl f_C_68 rfl rfl rfl rfl rfl ?_
          refine w_iload_n rfl rfl ?_
          refine c_VI [vI x2] [] rfl b_Silence_silentEvents k_C_317 rfl rfl rfl rfl rfl rfl (mwpI_mono (fun z9 h9 F => ?_) F)
          exact w_iret rfl rfl ⟨rfl, rfl, _, rfl, F⟩
        by_cases q10 : x3 = 1
        · have F := F1 q10
          refine w_tabIn (a := x3) (tgt := 73) (off := 35) rfl b5 (by omega) (by omega) (by rw [q10]; rfl) (by decide) ?_
          refine w_aload_n rfl rfl ?_
          refine w_getR rfl f_C_68 rfl rfl rfl rfl rfl ?_
          refine w_iload_n rfl rfl ?_
          refine c_VI [vI x2] [] rfl b_Silence_eventsFrom k_C_320 rfl rfl rfl rfl rfl rfl (mwpI_mono (fun z11 h11 F => ?_) F)
          exact w_iret rfl rfl ⟨rfl, rfl, _, rfl, F⟩
        by_cases q12 : x3 = 2
        · have F := F2 q12
          refine w_tabIn (a := x3) (tgt := 82) (off := 44) rfl b5 (by omega) (by omega) (by rw [q12]; rfl) (by decide) ?_
          refine w_aload_n rfl rfl ?_
          refine w_getR rfl f_C_68 rfl rfl rfl rfl rfl ?_
          refine w_iload_n rfl rfl ?_
          refine c_VI [vI x2] [] rfl b_Silence_silentHours k_C_323 rfl rfl rfl rfl rfl rfl (mwpI_mono (fun z13 h13 F => ?_) F)
          exact w_iret rfl rfl ⟨rfl, rfl, _, rfl, F⟩
        have F := Fd ⟨q8, q10, q12⟩
        refine w_tabOut (a := x3) (tgt := 91) rfl (by decide) b5 (by omega) ?_
        refine w_sipush (by decide) (by decide) rfl ?_
        refine w_iload_n rfl rfl ?_
        refine w_isub rfl ?_
        exact w_iret rfl rfl ⟨rfl, rfl, _, rfl, F⟩
      · replace F := F.2 q6
        refine w_iconst rfl ?_
        exact w_iret rfl rfl ⟨rfl, rfl, _, rfl, F⟩
theorem s_M_ahead_0 {d : Nat}  (x1 x2 x3 : Int) (h : St) (K : Int → St → Prop) (F : (inR x1) ∧ ((¬ (0 ≤ x1 ∧ x1 ≤ 11) → (K ((-1)) h)) ∧ (0 ≤ x1 ∧ x1 ≤ 11 → (inR x2) ∧ ((¬ (1 ≤ x2 ∧ x2 ≤ 48) → (K ((-1)) h)) ∧ (1 ≤ x2 ∧ x2 ≤ 48 → (inR x3) ∧ ((0 ≤ x3 ∧ x3 ≤ 3 → (wI (d + 3) m_M_ahead 42 [(0, vR 109), (1, vI x1), (2, vI x2), (3, vI x3), (4, vI 0), (5, vI 0), (6, vI 0)] [] h K)) ∧ (¬ (0 ≤ x3 ∧ x3 ≤ 3) → (K ((-1)) h)))))))) : wI (d + 3) m_M_ahead 0 [(0, vR 109), (1, vI x1), (2, vI x2), (3, vI x3)] [] h K := by
  refine w_iload_n rfl rfl ?_
  obtain ⟨b1, F⟩ := F
  refine c_SI [vI x1] [] rfl b_M_isName k_M_142 rfl rfl rfl (c_M_isName b1 ?_)
  refine w_ifeq_b (tgt := 31) rfl (by decide) (fun q2 => ?_) (fun q2 => ?_)
  · replace F := F.1 q2
    refine w_iconst rfl ?_
    exact w_iret rfl rfl ⟨rfl, rfl, _, rfl, F⟩
  · replace F := F.2 q2
    refine w_iload_n rfl rfl ?_
    obtain ⟨b3, F⟩ := F
    refine w_i2l b3 rfl ?_
    refine w_lconst rfl ?_
    refine w_ldc2 (z := 48) kc_M_160 (by decide) rfl ?_
    refine c_SI [vJ x2, vJ 1, vJ 48] [] rfl b_M_in k_M_130 rfl rfl rfl (c_M_in (inL_of b3) (by decide) (by decide) ?_)
    refine w_ifeq_b (tgt := 31) rfl (by decide) (fun q4 => ?_) (fun q4 => ?_)
    · replace F := F.1 q4
      refine w_iconst rfl ?_
      exact w_iret rfl rfl ⟨rfl, rfl, _, rfl, F⟩
    · replace F := F.2 q4
      refine w_iload_n rfl rfl ?_
      obtain ⟨b5, F⟩ := F
      refine w_i2l b5 rfl ?_
      refine w_lconst rfl ?_
      refine w_ldc2 (z := 3) kc_M_164 (by decide) rfl ?_
      refine c_SI [vJ x3, vJ 0, vJ 3] [] rfl b_M_in k_M_130 rfl rfl rfl (c_M_in (inL_of b5) (by decide) (by decide) ?_)
      refine w_ifne_b (tgt := 33) rfl (by decide) (fun q6 => ?_) (fun q6 => ?_)
      · replace F := F.1 q6
        refine w_iconst rfl ?_
        refine w_istore rfl rfl rfl rfl (w_ls (ls2 := [(0, vR 109), (1, vI x1), (2, vI x2), (3, vI x3), (4, vI 0)]) rfl ?_)
        refine w_iconst rfl ?_
        refine w_istore rfl rfl rfl rfl (w_ls (ls2 := [(0, vR 109), (1, vI x1), (2, vI x2), (3, vI x3), (4, vI 0), (5, vI 0)]) rfl ?_)
        refine w_iconst rfl ?_
        refine w_istore rfl rfl rfl rfl (w_ls (ls2 := [(0, vR 109), (1, vI x1), (2, vI x2), (3, vI x3), (4, vI 0), (5, vI 0), (6, vI 0)]) rfl ?_)
        exact F
      · replace F := F.2 q6
        refine w_iconst rfl ?_
        exact w_iret rfl rfl ⟨rfl, rfl, _, rfl, F⟩
theorem s_M_ahead_42 {d : Nat}  (x1 x2 x3 x4 x5 x6 : Int) (h : St) (K : Int → St → Prop) (F : (inR x6) ∧ (inR (h 121 0)) ∧ (((h 121 0) ≤ x6 → (wI (d + 3) m_M_ahead 125 [(0, vR 109), (1, vI x1), (2, vI x2), (3, vI x3), (4, vI x4), (5, vI x5), (6, vI x2)] [] h K)) ∧ (¬ ((h 121 0) ≤ x6) → (inR x3) ∧ ((2 ≤ x3 → (wI (d + 3) m_M_ahead 125 [(0, vR 109), (1, vI x1), (2, vI x2), (3, vI x3), (4, vI x4), (5, vI x5), (6, vI x2)] [] h K)) ∧ (¬ (2 ≤ x3) → (0 ≤ x6 ∧ x6 < 30) ∧ (((inR (h 122 x6.toNat)) ∧ (inR x2))) ∧ (inR (h 122 x6.toNat)) ∧ (inR x2) ∧ (((h 122 x6.toNat) < x2 → (wI (d + 3) m_M_ahead 42 [(0, vR 109), (1, vI x1), (2, vI x2), (3, vI x3), (4, vI (x4 + 0)), (5, vI (x5 + (b2i (¬ ((h 122 x6.toNat) < x2))))), (6, vI (x6 + 1))] [] h K)) ∧ (¬ ((h 122 x6.toNat) < x2) → (mwpI (d + 3) m_M_isSilent [vR 109, vI x1, vI (h 122 x6.toNat), vI x2] h (fun z14 h14 => (((inR z14))) ∧ (wI (d + 3) m_M_ahead 42 [(0, vR 109), (1, vI x1), (2, vI x2), (3, vI x3), (4, vI (x4 + (b2i (¬ (z14 = 0))))), (5, vI (x5 + (b2i (¬ ((h 122 x6.toNat) < x2))))), (6, vI (x6 + 1))] [] h14 K)))))))))) : wI (d + 3) m_M_ahead 42 [(0, vR 109), (1, vI x1), (2, vI x2), (3, vI x3), (4, vI x4), (5, vI x5), (6, vI x6)] [] h K := by
  refine w_iload rfl rfl ?_
  refine w_aload_n rfl rfl ?_
  refine w_getR rfl f_M_43 rfl rfl rfl rfl rfl ?_
  refine w_iconst rfl ?_
  refine w_iaload rfl rfl rfl ⟨by decide, by decide⟩ ?_
  obtain ⟨b1, F⟩ := F
  obtain ⟨b2, F⟩ := F
  refine w_icmp_ge (tgt := 122) rfl (by decide) ⟨b1, b2⟩ (fun q3 => ?_) (fun q3 => ?_)
  · replace F := F.1 q3
    refine w_iload_n rfl rfl ?_
    refine w_istore rfl rfl rfl rfl (w_ls (ls2 := [(0, vR 109), (1, vI x1), (2, vI x2), (3, vI x3), (4, vI x4), (5, vI x5), (6, vI x2)]) rfl ?_)
    exact F
  · replace F := F.2 q3
    refine w_iload_n rfl rfl ?_
    refine w_iconst rfl ?_
    obtain ⟨b4, F⟩ := F
    refine w_icmp_ge (tgt := 122) rfl (by decide) ⟨b4, (r_lit rfl)⟩ (fun q5 => ?_) (fun q5 => ?_)
    · replace F := F.1 q5
      refine w_iload_n rfl rfl ?_
      refine w_istore rfl rfl rfl rfl (w_ls (ls2 := [(0, vR 109), (1, vI x1), (2, vI x2), (3, vI x3), (4, vI x4), (5, vI x5), (6, vI x2)]) rfl ?_)
      exact F
    · replace F := F.2 q5
      refine w_iload rfl rfl ?_
      refine w_aload_n rfl rfl ?_
      refine w_getR rfl f_M_46 rfl rfl rfl rfl rfl ?_
      refine w_iload rfl rfl ?_
      obtain ⟨b6, F⟩ := F
      refine w_iaload rfl rfl rfl b6 ?_
      refine w_iload_n rfl rfl ?_
      obtain ⟨G, F⟩ := F
      have J : ∀ (t10 : Int), t10 = b2i (¬ ((h 122 x6.toNat) < x2)) → wI (d + 3) m_M_ahead 76 [(0, vR 109), (1, vI x1), (2, vI x2), (3, vI x3), (4, vI x4), (5, vI x5), (6, vI x6)] [vI t10, vI x5] h K := by
        intro t10 et10
        subst et10
        refine w_iadd rfl ?_
        refine w_istore rfl rfl rfl rfl (w_ls (ls2 := [(0, vR 109), (1, vI x1), (2, vI x2), (3, vI x3), (4, vI x4), (5, vI (x5 + (b2i (¬ ((h 122 x6.toNat) < x2))))), (6, vI x6)]) rfl ?_)
        refine w_iload rfl rfl ?_
        refine w_aload_n rfl rfl ?_
        refine w_getR rfl f_M_46 rfl rfl rfl rfl rfl ?_
        refine w_iload rfl rfl ?_
        refine w_iaload rfl rfl rfl b6 ?_
        refine w_iload_n rfl rfl ?_
        obtain ⟨b11, F⟩ := F
        obtain ⟨b12, F⟩ := F
        refine w_icmp_lt (tgt := 112) rfl (by decide) ⟨b11, b12⟩ (fun q13 => ?_) (fun q13 => ?_)
        · replace F := F.1 q13
          refine w_iconst rfl ?_
          refine w_iadd rfl ?_
          refine w_istore rfl rfl rfl rfl (w_ls (ls2 := [(0, vR 109), (1, vI x1), (2, vI x2), (3, vI x3), (4, vI (x4 + 0)), (5, vI (x5 + (b2i (¬ ((h 122 x6.toNat) < x2))))), (6, vI x6)]) rfl ?_)
          refine w_iinc rfl rfl rfl rfl rfl (w_ls (ls2 := [(0, vR 109), (1, vI x1), (2, vI x2), (3, vI x3), (4, vI (x4 + 0)), (5, vI (x5 + (b2i (¬ ((h 122 x6.toNat) < x2))))), (6, vI (x6 + 1))]) rfl ?_)
          refine w_goto (tgt := 42) rfl (by decide) ?_
          exact F
        · replace F := F.2 q13
          refine w_aload_n rfl rfl ?_
          refine w_iload_n rfl rfl ?_
          refine w_aload_n rfl rfl ?_
          refine w_getR rfl f_M_46 rfl rfl rfl rfl rfl ?_
          refine w_iload rfl rfl ?_
          refine w_iaload rfl rfl rfl b6 ?_
          refine w_iload_n rfl rfl ?_
          refine c_VI [vI x1, vI (h 122 x6.toNat), vI x2] [vI x4] rfl b_M_isSilent k_M_301 rfl rfl rfl rfl rfl rfl (mwpI_mono (fun z14 h14 F => ?_) F)
          obtain ⟨G, F⟩ := F
          have J : ∀ (t17 : Int), t17 = b2i (¬ (z14 = 0)) → wI (d + 3) m_M_ahead 113 [(0, vR 109), (1, vI x1), (2, vI x2), (3, vI x3), (4, vI x4), (5, vI (x5 + (b2i (¬ ((h 122 x6.toNat) < x2))))), (6, vI x6)] [vI t17, vI x4] h14 K := by
            intro t17 et17
            subst et17
            refine w_iadd rfl ?_
            refine w_istore rfl rfl rfl rfl (w_ls (ls2 := [(0, vR 109), (1, vI x1), (2, vI x2), (3, vI x3), (4, vI (x4 + (b2i (¬ (z14 = 0))))), (5, vI (x5 + (b2i (¬ ((h 122 x6.toNat) < x2))))), (6, vI x6)]) rfl ?_)
            refine w_iinc rfl rfl rfl rfl rfl (w_ls (ls2 := [(0, vR 109), (1, vI x1), (2, vI x2), (3, vI x3), (4, vI (x4 + (b2i (¬ (z14 = 0))))), (5, vI (x5 + (b2i (¬ ((h 122 x6.toNat) < x2))))), (6, vI (x6 + 1))]) rfl ?_)
            refine w_goto (tgt := 42) rfl (by decide) ?_
            exact F
          have b15 := G
          refine w_if_eq (tgt := 112) rfl (by decide) b15 (fun q16 => ?_) (fun q16 => ?_)
          · refine w_iconst rfl ?_
            exact J _ (b2i_f (fun z => z q16)).symm
          · refine w_iconst rfl ?_
            refine w_goto (tgt := 113) rfl (by decide) ?_
            exact J _ (b2i_t q16).symm
      obtain ⟨b7, b8⟩ := G
      refine w_icmp_lt (tgt := 75) rfl (by decide) ⟨b7, b8⟩ (fun q9 => ?_) (fun q9 => ?_)
      · refine w_iconst rfl ?_
        exact J _ (b2i_f (fun z => z q9)).symm
      · refine w_iconst rfl ?_
        refine w_goto (tgt := 76) rfl (by decide) ?_
        exact J _ (b2i_t q9).symm
theorem s_M_ahead_125 {d : Nat}  (x1 x2 x3 x4 x5 x6 : Int) (h : St) (K : Int → St → Prop) (F : (inR x6) ∧ ((480 ≤ x6 → (inR x3) ∧ (((inR (x3.tmod 2)))) ∧ (K (cif ((x3.tmod 2) ≠ 0) x5 x4) h)) ∧ (¬ (480 ≤ x6) → (inR x3) ∧ ((x3 ≤ 1 → (((inR (x3.tmod 2)))) ∧ (K (cif ((x3.tmod 2) ≠ 0) x5 x4) h)) ∧ (¬ (x3 ≤ 1) → (mwpI (d + 3) m_M_isSilent [vR 109, vI x1, vI x6, vI x2] h (fun z12 h12 => (((inR z12))) ∧ (wI (d + 3) m_M_ahead 125 [(0, vR 109), (1, vI x1), (2, vI x2), (3, vI x3), (4, vI (x4 + (b2i (¬ (z12 = 0))))), (5, vI (x5 + 1)), (6, vI (x6 + 1))] [] h12 K)))))))) : wI (d + 3) m_M_ahead 125 [(0, vR 109), (1, vI x1), (2, vI x2), (3, vI x3), (4, vI x4), (5, vI x5), (6, vI x6)] [] h K := by
  refine w_iload rfl rfl ?_
  refine w_sipush (by decide) (by decide) rfl ?_
  obtain ⟨b1, F⟩ := F
  refine w_icmp_ge (tgt := 168) rfl (by decide) ⟨b1, (r_lit rfl)⟩ (fun q2 => ?_) (fun q2 => ?_)
  · replace F := F.1 q2
    refine w_iload_n rfl rfl ?_
    refine w_iconst rfl ?_
    obtain ⟨b3, F⟩ := F
    refine w_irem ⟨b3, (r_lit rfl), (by decide)⟩ rfl ?_
    obtain ⟨G, F⟩ := F
    have J : ∀ (t6 : Int), t6 = cif ((x3.tmod 2) ≠ 0) x5 x4 → wI (d + 3) m_M_ahead 181 [(0, vR 109), (1, vI x1), (2, vI x2), (3, vI x3), (4, vI x4), (5, vI x5), (6, vI x6)] [vI t6] h K := by
      intro t6 et6
      subst et6
      exact w_iret rfl rfl ⟨rfl, rfl, _, rfl, F⟩
    have b4 := G
    refine w_if_ne (tgt := 179) rfl (by decide) b4 (fun q5 => ?_) (fun q5 => ?_)
    · refine w_iload rfl rfl ?_
      exact J _ (cif_t q5).symm
    · refine w_iload rfl rfl ?_
      refine w_goto (tgt := 181) rfl (by decide) ?_
      exact J _ (cif_f q5).symm
  · replace F := F.2 q2
    refine w_iload_n rfl rfl ?_
    refine w_iconst rfl ?_
    obtain ⟨b7, F⟩ := F
    refine w_icmp_le (tgt := 168) rfl (by decide) ⟨b7, (r_lit rfl)⟩ (fun q8 => ?_) (fun q8 => ?_)
    · replace F := F.1 q8
      refine w_iload_n rfl rfl ?_
      refine w_iconst rfl ?_
      refine w_irem ⟨b7, (r_lit rfl), (by decide)⟩ rfl ?_
      obtain ⟨G, F⟩ := F
      have J : ∀ (t11 : Int), t11 = cif ((x3.tmod 2) ≠ 0) x5 x4 → wI (d + 3) m_M_ahead 181 [(0, vR 109), (1, vI x1), (2, vI x2), (3, vI x3), (4, vI x4), (5, vI x5), (6, vI x6)] [vI t11] h K := by
        intro t11 et11
        subst et11
        exact w_iret rfl rfl ⟨rfl, rfl, _, rfl, F⟩
      have b9 := G
      refine w_if_ne (tgt := 179) rfl (by decide) b9 (fun q10 => ?_) (fun q10 => ?_)
      · refine w_iload rfl rfl ?_
        exact J _ (cif_t q10).symm
      · refine w_iload rfl rfl ?_
        refine w_goto (tgt := 181) rfl (by decide) ?_
        exact J _ (cif_f q10).symm
    · replace F := F.2 q8
      refine w_iinc rfl rfl rfl rfl rfl (w_ls (ls2 := [(0, vR 109), (1, vI x1), (2, vI x2), (3, vI x3), (4, vI x4), (5, vI (x5 + 1)), (6, vI x6)]) rfl ?_)
      refine w_iload rfl rfl ?_
      refine w_aload_n rfl rfl ?_
      refine w_iload_n rfl rfl ?_
      refine w_iload rfl rfl ?_
      refine w_iload_n rfl rfl ?_
      refine c_VI [vI x1, vI x6, vI x2] [vI x4] rfl b_M_isSilent k_M_301 rfl rfl rfl rfl rfl rfl (mwpI_mono (fun z12 h12 F => ?_) F)
      obtain ⟨G, F⟩ := F
      have J : ∀ (t15 : Int), t15 = b2i (¬ (z12 = 0)) → wI (d + 3) m_M_ahead 159 [(0, vR 109), (1, vI x1), (2, vI x2), (3, vI x3), (4, vI x4), (5, vI (x5 + 1)), (6, vI x6)] [vI t15, vI x4] h12 K := by
        intro t15 et15
        subst et15
        refine w_iadd rfl ?_
        refine w_istore rfl rfl rfl rfl (w_ls (ls2 := [(0, vR 109), (1, vI x1), (2, vI x2), (3, vI x3), (4, vI (x4 + (b2i (¬ (z12 = 0))))), (5, vI (x5 + 1)), (6, vI x6)]) rfl ?_)
        refine w_iinc rfl rfl rfl rfl rfl (w_ls (ls2 := [(0, vR 109), (1, vI x1), (2, vI x2), (3, vI x3), (4, vI (x4 + (b2i (¬ (z12 = 0))))), (5, vI (x5 + 1)), (6, vI (x6 + 1))]) rfl ?_)
        refine w_goto (tgt := 125) rfl (by decide) ?_
        exact F
      have b13 := G
      refine w_if_eq (tgt := 158) rfl (by decide) b13 (fun q14 => ?_) (fun q14 => ?_)
      · refine w_iconst rfl ?_
        exact J _ (b2i_f (fun z => z q14)).symm
      · refine w_iconst rfl ?_
        refine w_goto (tgt := 159) rfl (by decide) ?_
        exact J _ (b2i_t q14).symm
section S36
variable {D : Nat} {K : Int → St → Prop} {lg ls : Nat → Nat → Int} {nm : Int} {n m : Nat} {h : St} {t s : Nat}
theorem M_sl_86 (vl : VLog n lg) (ms : MLs h m ls) (vs : VLs m ls) {x : Nat} (hx : x < 480) (kn : ¬ (∀ w : Nat, w < 8 → (ndA lg nm n).testBit w = true → hdA ls m w x) → K 0 h) (k : (∀ w : Nat, w < 8 → (ndA lg nm n).testBit w = true → hdA ls m w x) → wI (D + 2) m_M_isSilent 77 [(0, vR 109), (1, vI nm), (2, vI t), (3, vI s), (4, vI ((ndA lg nm n : Nat) : Int)), (5, vI ((x : Int) + 1))] [] h K) : ∀ (r w : Nat), w + r = 8 → (∀ u : Nat, u < w → (ndA lg nm n).testBit u = true → hdA ls m u x) → wI (D + 2) m_M_isSilent 86 [(0, vR 109), (1, vI nm), (2, vI t), (3, vI s), (4, vI ((ndA lg nm n : Nat) : Int)), (5, vI (x : Int)), (6, vI (w : Int))] [] h K := by
  have nb := ndA_lt vl (nm := nm) n (Nat.le_refl _)
  intro r
  induction r with
  | zero =>
    intro w hw f
    have e : w = 8 := by omega
    subst e
    exact s_M_isSilent_86 _ _ _ _ _ _ h K ⟨⟨by omega, by omega⟩, fun _ => k f, fun z => absurd (by omega) z⟩
  | succ r ih =>
    intro w hw f
    refine s_M_isSilent_86 _ _ _ _ _ _ h K ⟨⟨by omega, by omega⟩, fun z => by omega, fun _ => c_M_has (by omega) (by omega) ⟨b2i_R, fun z => ih (w + 1) (by omega) (fun u hu tb => ?_), fun z => c_M_isHeard ms vs ⟨by omega, by omega⟩ ⟨by omega, by omega⟩ ⟨b2i_R, fun z2 => ih (w + 1) (by omega) (fun u hu tb => ?_), fun z2 => kn (fun q => z2 (b2i_ne0.mpr (q w (by omega) (b2i_ne0.mp z))))⟩⟩⟩
    · by_cases q : u = w
      · subst q; exact absurd tb (b2i_eq0.mp z)
      · exact f u (by omega) tb
    · by_cases q : u = w
      · subst q; exact b2i_ne0.mp z2
      · exact f u (by omega) tb
theorem c_M_isSilent (ml : MLog h n lg) (vl : VLog n lg) (ms : MLs h m ls) (vs : VLs m ls) (r1 : inR nm) (hs : 1 ≤ s) (hst : s ≤ t) (ht : t < 480) (k : K (b2i ((s : Int) ≤ stA (qtA lg ls nm n m) t)) h) : mwpI (D + 3) m_M_isSilent [vR 109, vI nm, vI t, vI s] h K := by
  have hn := ml.2.1
  have h8 := ml.1
  have nb := ndA_lt vl (nm := nm) n (Nat.le_refl _)
  have no : ¬ ((s : Int) ≤ stA (qtA lg ls nm n m) t) → K 0 h := fun q => by rw [b2i_f q] at k; exact k
  have hours : (∀ c, c < n → lg 0 c = nm → ¬ ((t : Int) - s ≤ lg 2 c ∧ lg 2 c ≤ (t : Int) - 1)) → ∀ (r x : Nat), x + r = t → t ≤ x + s → (∀ y : Nat, t ≤ y + s → y < x → ∀ w : Nat, w < 8 → (ndA lg nm n).testBit w = true → hdA ls m w y) → wI (D + 2) m_M_isSilent 77 [(0, vR 109), (1, vI nm), (2, vI t), (3, vI s), (4, vI ((ndA lg nm n : Nat) : Int)), (5, vI (x : Int))] [] h K := by
    intro nc r
    induction r with
    | zero =>
      intro x hx hx2 f
      have e : x = t := by omega
      subst e
      refine s_M_isSilent_77 _ _ _ _ _ h K ⟨⟨by omega, by omega⟩, ⟨by omega, by omega⟩, fun _ => ⟨⟨by omega, by omega⟩, ?_⟩, fun z => absurd (by omega) z⟩
      rw [b2i_congr (q := (s : Int) ≤ stA (qtA lg ls nm n m) x) ?_]
      · exact k
      · rw [stA_iff]
        constructor
        · intro q
          exact ⟨hst, fun y h1 h2 => (qtA_iff vl vs).mpr ⟨by omega, fun c hc e1 e2 => nc c hc e1 (by omega), f y h1 h2⟩⟩
        · rintro ⟨_, q⟩
          have := ((qtA_iff vl vs).mp (q (x - 1) (by omega) (by omega))).1
          omega
    | succ r ih =>
      intro x hx hx2 f
      refine s_M_isSilent_77 _ _ _ _ _ h K ⟨⟨by omega, by omega⟩, ⟨by omega, by omega⟩, fun z => by omega, fun _ => ?_⟩
      refine M_sl_86 vl ms vs (by omega) (fun q => no (fun z => ?_)) (fun q => ih (x + 1) (by omega) (by omega) (fun y h1 h2 => ?_)) 8 0 (by omega) (fun u hu => absurd hu (Nat.not_lt_zero u))
      · exact q ((qtA_iff vl vs).mp (((stA_iff t s).mp z).2 x (by omega) (by omega))).2.2
      · by_cases e : y = x
        · subst e; exact q
        · exact f y h1 (by omega)
  have calls : ∀ (r c : Nat), c + r = n → (∀ b, b < c → lg 0 b = nm → ¬ ((t : Int) - s ≤ lg 2 b ∧ lg 2 b ≤ (t : Int) - 1)) → wI (D + 2) m_M_isSilent 6 [(0, vR 109), (1, vI nm), (2, vI t), (3, vI s), (4, vI ((ndA lg nm c : Nat) : Int)), (5, vI (c : Int))] [] h K := by
    intro r
    induction r with
    | zero =>
      intro c hc f
      have e : c = n := by omega
      subst e
      refine s_M_isSilent_6 _ _ _ _ _ h K ⟨⟨by omega, by omega⟩, ⟨by omega, by omega⟩, fun _ => ?_, fun z => absurd (by omega) z⟩
      rw [show (t : Int) - (s : Int) = ((t - s : Nat) : Int) by omega]
      exact hours f s (t - s) (by omega) (by omega) (fun y h1 h2 => by omega)
    | succ r ih =>
      intro c hc f
      have hc2 : c < n := by omega
      obtain ⟨a0, a1, a2, a3, a4, a5⟩ := ml.2.2 c hc2
      have q1 := vl c hc2
      have nb2 := ndA_lt vl (nm := nm) c (by omega)
      have ih2 := ih (c + 1) (by omega)
      refine s_M_isSilent_6 _ _ _ _ _ h K ?_
      rw [Int.toNat_natCast, a0, a2, a4]
      refine ⟨⟨by omega, by omega⟩, ⟨by omega, by omega⟩, fun z => by omega, fun _ => ⟨by omega, ⟨by omega, by omega⟩, r1, fun z => ?_, fun z => ⟨⟨by omega, by omega⟩, ⟨by omega, by omega⟩, ⟨by omega, by omega⟩, fun z2 => ?_, fun z2 => ?_⟩⟩⟩
      · rw [show ndA lg nm (c + 1) = ndA lg nm c from nif_f z] at ih2
        refine ih2 (fun b hb e => ?_)
        by_cases q : b = c
        · subst q; exact absurd e z
        · exact f b (by omega) e
      · have z3 : lg 0 c = nm := by omega
        rw [show ndA lg nm (c + 1) = (ndA lg nm c ||| 2 ^ (lg 4 c).toNat) from nif_t z3] at ih2
        rw [show lg 4 c = (((lg 4 c).toNat : Nat) : Int) by omega, shl_1 (by omega), or3_nat (by omega) (by have := p2_8 (lg 4 c).toNat (by omega); omega)]
        refine ih2 (fun b hb e => ?_)
        by_cases q : b = c
        · subst q; exact z2
        · exact f b (by omega) e
      · refine no (fun z3 => ?_)
        exact ((qtA_iff vl vs).mp (((stA_iff t s).mp z3).2 (lg 2 c).toNat (by omega) (by omega))).2.1 c hc2 (by omega) (by omega)
  exact mI_intro b_M_isSilent rfl (s_M_isSilent_0 (d := D) _ _ _ h K (calls n 0 (by omega) (fun b hb => absurd hb (Nat.not_lt_zero b))))
end S36
theorem P_silent {KK : Int → Int → St → Prop} {h : St} (hr : Rel h) {a1 a2 a3 : Int} (r1 : inR a1) (r2 : inR a2) (r3 : inR a3) (k : ∀ z h2, inR z → Rel h2 → KK z z h2) : mwpI 40 m_C_silent [vR 0, vI a1, vI a2, vI a3] h (fun z h1 => mwpI 40 m_M_silent [vR 109, vI a1, vI a2, vI a3] h1 (fun z2 h2 => KK z z2 h2)) := by
  obtain ⟨⟨n, lg, cl, ml, vl⟩, c2, c3, c4, c5, c6, ⟨m, ls, cs, ms, vs⟩, c9⟩ := id hr
  have kb := k (-1) h (by decide) hr
  have bad : ¬ ((0 ≤ a1 ∧ a1 ≤ 11) ∧ (0 ≤ a2 ∧ a2 ≤ 479) ∧ (1 ≤ a3 ∧ a3 ≤ 48) ∧ a3 ≤ a2) → mwpI 40 m_M_silent [vR 109, vI a1, vI a2, vI a3] h (fun z2 h2 => KK (-1) z2 h2) := fun q =>
    mI_intro b_M_silent rfl (s_M_silent_0 (d := 36) a1 a2 a3 _ _ ⟨r1, fun _ => kb, fun q1 => ⟨r2, fun _ => kb, fun q2 => ⟨r3, fun _ => kb, fun q3 => ⟨fun q4 => absurd ⟨q1, q2, q3, q4⟩ q, fun _ => kb⟩⟩⟩⟩)
  refine mI_intro b_C_silent rfl (s_C_silent_0 (d := 36) a1 a2 a3 h _ ⟨r1, fun q => bad (fun z => q z.1), fun q1 => ⟨r2, fun q => bad (fun z => q z.2.1), fun q2 => ⟨r3, fun q => bad (fun z => q z.2.2.1), fun q3 => ⟨fun q4 => ?_, fun q => bad (fun z => q z.2.2.2)⟩⟩⟩⟩)
  refine c_Silence_measure cl cs vl vs r1 (fun h1 g1 g2 => ?_)
  have hr1 : Rel h1 := Rel_c (ag_sub (fun c k p => by omega) g1) hr
  have e2 : a2 = ((a2.toNat : Nat) : Int) := by omega
  have e3 : a3 = ((a3.toNat : Nat) : Int) := by omega
  rw [e2, e3]
  refine c_Silence_isSilent g2 (by omega) (by omega) ⟨b2i_R, ?_⟩
  refine mI_intro b_M_silent rfl (s_M_silent_0 (d := 36) a1 _ _ _ _ ⟨r1, fun q => absurd q1 q, fun _ => ⟨⟨by omega, by omega⟩, fun q => absurd (by omega) q, fun _ => ⟨⟨by omega, by omega⟩, fun q => absurd (by omega) q, fun _ => ⟨fun _ => ?_, fun q => absurd (by omega) q⟩⟩⟩⟩)
  refine c_M_isSilent (MLog_c (ag_sub (fun c k p => by omega) g1) ml) vl (MLs_c (ag_sub (fun c k p => by omega) g1) ms) vs r1 (by omega) (by omega) (by omega) ⟨b2i_R, k _ _ b2i_R hr1⟩
section A36
variable {D : Nat} {K : Int → St → Prop} {h : St} {Q : Int → Prop} {s ne : Nat} {ev : Nat → Int}
noncomputable def evS (Q : Int → Prop) (s : Nat) (ev : Nat → Int) (i : Nat) : Int := b2i ((s : Int) ≤ stA Q (ev i).toNat)
noncomputable def evF (s : Nat) (ev : Nat → Int) (i : Nat) : Int := b2i ((s : Int) ≤ ev i)
theorem c_Silence_silentEvents (ce : CEv h ne ev) (ve : VEv ne ev) (f : ∀ y : Nat, y < 480 → h 102 y = stA Q y) (hs : s < 480) (k : K (sm (evS Q s ev) ne) h) : mwpI (D + 2) m_Silence_silentEvents [vR 96, vI s] h K := by
  have hm := ce.2.1
  have h0 := ce.1
  have lp : ∀ (r i : Nat), i + r = ne → wI (D + 1) m_Silence_silentEvents 4 [(0, vR 96), (1, vI (s : Int)), (2, vI (sm (evS Q s ev) i)), (3, vI (i : Int))] [] h K := by
    intro r
    induction r with
    | zero =>
      intro i hi
      have e : i = ne := by omega
      subst e
      exact s_Silence_silentEvents_4 _ _ _ h K ⟨⟨by omega, by omega⟩, ⟨by omega, by omega⟩, fun _ => k, fun z => absurd (by omega) z⟩
    | succ r ih =>
      intro i hi
      have q := ve i (by omega)
      refine s_Silence_silentEvents_4 _ _ _ h K ⟨⟨by omega, by omega⟩, ⟨by omega, by omega⟩, fun z => by omega, fun _ => ⟨by omega, ?_⟩⟩
      rw [Int.toNat_natCast, ce.2.2 i (by omega), show ev i = (((ev i).toNat : Nat) : Int) by omega]
      refine c_Silence_isSilent f (by omega) hs ⟨b2i_R, ?_⟩
      rw [bb]
      exact ih (i + 1) (by omega)
  exact mI_intro b_Silence_silentEvents rfl (s_Silence_silentEvents_0 (d := D) _ h K (lp ne 0 (by omega)))
theorem c_Silence_eventsFrom (ce : CEv h ne ev) (ve : VEv ne ev) (hs : s < 480) (k : K (sm (evF s ev) ne) h) : mwpI (D + 1) m_Silence_eventsFrom [vR 96, vI s] h K := by
  have hm := ce.2.1
  have h0 := ce.1
  have lp : ∀ (r i : Nat), i + r = ne → wI D m_Silence_eventsFrom 4 [(0, vR 96), (1, vI (s : Int)), (2, vI (sm (evF s ev) i)), (3, vI (i : Int))] [] h K := by
    intro r
    induction r with
    | zero =>
      intro i hi
      have e : i = ne := by omega
      subst e
      exact s_Silence_eventsFrom_4 _ _ _ h K ⟨⟨by omega, by omega⟩, ⟨by omega, by omega⟩, fun _ => k, fun z => absurd (by omega) z⟩
    | succ r ih =>
      intro i hi
      have q := ve i (by omega)
      refine s_Silence_eventsFrom_4 _ _ _ h K ?_
      rw [Int.toNat_natCast, ce.2.2 i (by omega)]
      refine ⟨⟨by omega, by omega⟩, ⟨by omega, by omega⟩, fun z => by omega, fun _ => ⟨by omega, ⟨⟨by omega, by omega⟩, ⟨by omega, by omega⟩⟩, ?_⟩⟩
      rw [b2i_congr (q := (s : Int) ≤ ev i) (by omega)]
      exact ih (i + 1) (by omega)
  exact mI_intro b_Silence_eventsFrom rfl (s_Silence_eventsFrom_0 (d := D) _ h K (lp ne 0 (by omega)))
noncomputable def hrS (Q : Int → Prop) (s : Nat) (i : Nat) : Int := b2i ((s : Int) ≤ stA Q (s + i))
theorem c_Silence_silentHours (f : ∀ y : Nat, y < 480 → h 102 y = stA Q y) (hs : s < 480) (k : K (sm (hrS Q s) (480 - s)) h) : mwpI (D + 2) m_Silence_silentHours [vR 96, vI s] h K := by
  have lp : ∀ (r i : Nat), s + i + r = 480 → wI (D + 1) m_Silence_silentHours 4 [(0, vR 96), (1, vI (s : Int)), (2, vI (sm (hrS Q s) i)), (3, vI ((s + i : Nat) : Int))] [] h K := by
    intro r
    induction r with
    | zero =>
      intro i hi
      have e : i = 480 - s := by omega
      subst e
      exact s_Silence_silentHours_4 _ _ _ h K ⟨⟨by omega, by omega⟩, fun _ => k, fun z => absurd (by omega) z⟩
    | succ r ih =>
      intro i hi
      refine s_Silence_silentHours_4 _ _ _ h K ⟨⟨by omega, by omega⟩, fun z => by omega, fun _ => c_Silence_isSilent f (by omega) hs ⟨b2i_R, ?_⟩⟩
      rw [bb]
      exact ih (i + 1) (by omega)
  exact mI_intro b_Silence_silentHours rfl (s_Silence_silentHours_0 (d := D) _ h K (lp (480 - s) 0 (by omega)))
end A36
section B36
variable {D : Nat} {K : Int → St → Prop} {h : St} {lg ls : Nat → Nat → Int} {nm : Int} {n m s ne : Nat} {ev : Nat → Int}
theorem M_ah_125 (ml : MLog h n lg) (vl : VLog n lg) (ms : MLs h m ls) (vs : VLs m ls) (r1 : inR nm) (hs : 1 ≤ s) (hs2 : s ≤ 48) {w : Int} (hw : 2 ≤ w ∧ w ≤ 3) (k : K (cif (w.tmod 2 ≠ 0) ((480 - s : Nat) : Int) (sm (hrS (qtA lg ls nm n m) s) (480 - s))) h) : ∀ (r i : Nat), s + i + r = 480 → wI (D + 3) m_M_ahead 125 [(0, vR 109), (1, vI nm), (2, vI (s : Int)), (3, vI w), (4, vI (sm (hrS (qtA lg ls nm n m) s) i)), (5, vI (i : Int)), (6, vI ((s + i : Nat) : Int))] [] h K := by
  have w2 : inR (w.tmod 2) := by rw [Int.tmod_eq_emod_of_nonneg (by omega)]; exact ⟨by omega, by omega⟩
  intro r
  induction r with
  | zero =>
    intro i hi
    have e : i = 480 - s := by omega
    subst e
    exact s_M_ahead_125 _ _ _ _ _ _ h K ⟨⟨by omega, by omega⟩, fun _ => ⟨⟨by omega, by omega⟩, w2, k⟩, fun z => absurd (by omega) z⟩
  | succ r ih =>
    intro i hi
    refine s_M_ahead_125 _ _ _ _ _ _ h K ⟨⟨by omega, by omega⟩, fun z => by omega, fun _ => ⟨⟨by omega, by omega⟩, fun z => by omega, fun _ => c_M_isSilent ml vl ms vs r1 hs (by omega) (by omega) ⟨b2i_R, ?_⟩⟩⟩
    rw [bb]
    exact ih (i + 1) (by omega)
theorem M_ah_42 (ml : MLog h n lg) (vl : VLog n lg) (ms : MLs h m ls) (vs : VLs m ls) (me : MEv h ne ev) (ve : VEv ne ev) (r1 : inR nm) (hs : 1 ≤ s) (hs2 : s ≤ 48) {w : Int} (hw : 0 ≤ w ∧ w ≤ 1) (k : K (cif (w.tmod 2 ≠ 0) (sm (evF s ev) ne) (sm (evS (qtA lg ls nm n m) s ev) ne)) h) : ∀ (r i : Nat), i + r = ne → wI (D + 3) m_M_ahead 42 [(0, vR 109), (1, vI nm), (2, vI (s : Int)), (3, vI w), (4, vI (sm (evS (qtA lg ls nm n m) s ev) i)), (5, vI (sm (evF s ev) i)), (6, vI (i : Int))] [] h K := by
  have w2 : inR (w.tmod 2) := by rw [Int.tmod_eq_emod_of_nonneg (by omega)]; exact ⟨by omega, by omega⟩
  have hm := me.2.1
  have h0 := me.1
  intro r
  induction r with
  | zero =>
    intro i hi
    have e : i = ne := by omega
    subst e
    refine s_M_ahead_42 _ _ _ _ _ _ h K ⟨⟨by omega, by omega⟩, ⟨by omega, by omega⟩, fun _ => ?_, fun z => absurd (by omega) z⟩
    exact s_M_ahead_125 _ _ _ _ _ _ h K ⟨⟨by omega, by omega⟩, fun z => by omega, fun _ => ⟨⟨by omega, by omega⟩, fun _ => ⟨w2, k⟩, fun z => absurd (by omega) z⟩⟩
  | succ r ih =>
    intro i hi
    have q := ve i (by omega)
    have ih2 := ih (i + 1) (by omega)
    refine s_M_ahead_42 _ _ _ _ _ _ h K ?_
    rw [Int.toNat_natCast, me.2.2 i (by omega)]
    rw [sm_succ, sm_succ] at ih2
    have eF : b2i (¬ (ev i < (s : Int))) = evF s ev i := b2i_congr (by omega)
    rw [eF]
    refine ⟨⟨by omega, by omega⟩, ⟨by omega, by omega⟩, fun z => by omega, fun _ => ⟨⟨by omega, by omega⟩, fun z => by omega, fun _ => ⟨by omega, ⟨⟨by omega, by omega⟩, ⟨by omega, by omega⟩⟩, ⟨by omega, by omega⟩, ⟨by omega, by omega⟩, fun z => ?_, fun z => ?_⟩⟩⟩
    · have e0 : evS (qtA lg ls nm n m) s ev i = 0 := b2i_f (fun q2 => by have := stA_R (Q := qtA lg ls nm n m) (ev i).toNat; omega)
      rw [e0] at ih2
      exact ih2
    · rw [show ev i = (((ev i).toNat : Nat) : Int) by omega]
      refine c_M_isSilent ml vl ms vs r1 hs (by omega) (by omega) ⟨b2i_R, ?_⟩
      rw [bb]
      exact ih2
end B36
theorem P_ahead {KK : Int → Int → St → Prop} {h : St} (hr : Rel h) {a1 a2 a3 : Int} (r1 : inR a1) (r2 : inR a2) (r3 : inR a3) (k : ∀ z h2, inR z → Rel h2 → KK z z h2) : mwpI 40 m_C_ahead [vR 0, vI a1, vI a2, vI a3] h (fun z h1 => mwpI 40 m_M_ahead [vR 109, vI a1, vI a2, vI a3] h1 (fun z2 h2 => KK z z2 h2)) := by
  obtain ⟨⟨n, lg, cl, ml, vl⟩, c2, c3, c4, c5, c6, ⟨m, ls, cs, ms, vs⟩, ⟨ne, ev, ce, me, ve⟩, c9⟩ := id hr
  have kb := k (-1) h (by decide) hr
  have bad : ¬ ((0 ≤ a1 ∧ a1 ≤ 11) ∧ (1 ≤ a2 ∧ a2 ≤ 48) ∧ (0 ≤ a3 ∧ a3 ≤ 3)) → mwpI 40 m_M_ahead [vR 109, vI a1, vI a2, vI a3] h (fun z2 h2 => KK (-1) z2 h2) := fun q =>
    mI_intro b_M_ahead rfl (s_M_ahead_0 (d := 36) a1 a2 a3 _ _ ⟨r1, fun _ => kb, fun q1 => ⟨r2, fun _ => kb, fun q2 => ⟨r3, fun q3 => absurd ⟨q1, q2, q3⟩ q, fun _ => kb⟩⟩⟩)
  refine mI_intro b_C_ahead rfl (s_C_ahead_0 (d := 36) a1 a2 a3 h _ ⟨r1, fun q => bad (fun z => q z.1), fun q1 => ⟨r2, fun q => bad (fun z => q z.2.1), fun q2 => ⟨r3, fun q3 => ?_, fun q => bad (fun z => q z.2.2)⟩⟩⟩)
  refine c_Silence_measure cl cs vl vs r1 (fun h1 g1 g2 => ?_)
  have hr1 : Rel h1 := Rel_c (ag_sub (fun c k p => by omega) g1) hr
  have ml1 : MLog h1 n lg := MLog_c (ag_sub (fun c k p => by omega) g1) ml
  have ms1 : MLs h1 m ls := MLs_c (ag_sub (fun c k p => by omega) g1) ms
  have me1 : MEv h1 ne ev := MEv_c (ag_sub (fun c k p => by omega) g1) me
  have ce1 : CEv h1 ne ev := CEv_c (ag_sub (fun c k p => by omega) g1) ce
  have hm := me1.2.1
  have h0 := me1.1
  obtain ⟨s, rfl⟩ : ∃ s : Nat, a2 = (s : Int) := ⟨a2.toNat, by omega⟩
  have m1 : ∀ K : Int → St → Prop, a3 ≤ 1 → K (cif (a3.tmod 2 ≠ 0) (sm (evF s ev) ne) (sm (evS (qtA lg ls a1 n m) s ev) ne)) h1 → mwpI 40 m_M_ahead [vR 109, vI a1, vI s, vI a3] h1 K := fun K q kk =>
    mI_intro b_M_ahead rfl (s_M_ahead_0 (d := 36) a1 _ a3 _ _ ⟨r1, fun q => absurd q1 q, fun _ => ⟨r2, fun q => absurd q2 q, fun _ => ⟨r3, fun _ => M_ah_42 ml1 vl ms1 vs me1 ve r1 (by omega) (by omega) ⟨by omega, by omega⟩ kk ne 0 (by omega), fun q => absurd q3 q⟩⟩⟩)
  have m2 : ∀ K : Int → St → Prop, 2 ≤ a3 → K (cif (a3.tmod 2 ≠ 0) ((480 - s : Nat) : Int) (sm (hrS (qtA lg ls a1 n m) s) (480 - s))) h1 → mwpI 40 m_M_ahead [vR 109, vI a1, vI s, vI a3] h1 K := fun K q kk => by
    have q9 := M_ah_125 (D := 36) ml1 vl ms1 vs r1 (s := s) (by omega) (by omega) (w := a3) ⟨by omega, by omega⟩ kk (480 - s) 0 (by omega)
    refine mI_intro b_M_ahead rfl (s_M_ahead_0 (d := 36) a1 _ a3 _ _ ⟨r1, fun q => absurd q1 q, fun _ => ⟨r2, fun q => absurd q2 q, fun _ => ⟨r3, fun _ => ?_, fun q => absurd q3 q⟩⟩⟩)
    exact s_M_ahead_42 _ _ _ _ _ _ h1 K ⟨⟨by omega, by omega⟩, ⟨by omega, by omega⟩, fun _ => q9, fun _ => ⟨r3, fun _ => q9, fun z => absurd (by omega) z⟩⟩
  have bS := sm_bnd (f := evS (qtA lg ls a1 n m) s ev) (u := 1) (by omega) ne (fun i _ => b2i_B)
  have bF := sm_bnd (f := evF s ev) (u := 1) (by omega) ne (fun i _ => b2i_B)
  have bH := sm_bnd (f := hrS (qtA lg ls a1 n m) s) (u := 1) (by omega) (480 - s) (fun i _ => b2i_B)
  refine ⟨fun q => ?_, fun q => ?_, fun q => ?_, fun q => ?_⟩
  · refine c_Silence_silentEvents ce1 ve g2 (by omega) (m1 _ (by omega) ?_)
    rw [q, cif_f (by decide)]
    exact k _ _ ⟨by omega, by omega⟩ hr1
  · refine c_Silence_eventsFrom ce1 ve (by omega) (m1 _ (by omega) ?_)
    rw [q, cif_t (by decide)]
    exact k _ _ ⟨by omega, by omega⟩ hr1
  · refine c_Silence_silentHours g2 (by omega) (m2 _ (by omega) ?_)
    rw [q, cif_f (by decide)]
    exact k _ _ ⟨by omega, by omega⟩ hr1
  · have q4 : a3 = 3 := by omega
    refine m2 _ (by omega) ?_
    rw [q4, cif_t (by decide), show (480 : Int) - (s : Int) = ((480 - s : Nat) : Int) by omega]
    exact k _ _ ⟨by omega, by omega⟩ hr1
