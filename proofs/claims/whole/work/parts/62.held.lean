theorem s_C_held_0 {d : Nat}  (x1 x2 : Int) (h : St) (K : Int → St → Prop) (F : (inR x1) ∧ ((¬ (0 ≤ x1 ∧ x1 ≤ 19) → (K ((-1)) h)) ∧ (0 ≤ x1 ∧ x1 ≤ 19 → (inR x2) ∧ ((0 ≤ x2 ∧ x2 ≤ 1 → (mwpV (d + 6) m_Hands_group [vR 57, vR 1] h (fun h5 => (mwpV (d + 6) m_Trail_walk [vR 75, vR 1, vR 57, vR 59, vI x1] h5 (fun h6 => (mwpI (d + 6) m_Trail_meetsNo [vR 75] h6 (fun z7 h7 => (inR z7) ∧ ((z7 = 0 → (mwpI (d + 6) m_C_countHeld [vR 0, vI x1, vI (b2i (¬ (x2 ≠ 1)))] h7 (fun z12 h12 => (K z12 h12)))) ∧ (¬ (z7 = 0) → (K ((-2)) h7)))))))))) ∧ (¬ (0 ≤ x2 ∧ x2 ≤ 1) → (K ((-1)) h)))))) : wI (d + 6) m_C_held 0 [(0, vR 0), (1, vI x1), (2, vI x2)] [] h K := by
  refine w_iload_n rfl rfl ?_
  obtain ⟨b1, F⟩ := F
  refine c_SI [vI x1] [] rfl b_C_isDay k_C_131 rfl rfl rfl (c_C_isDay b1 ?_)
  refine w_ifeq_b (tgt := 16) rfl (by decide) (fun q2 => ?_) (fun q2 => ?_)
  · replace F := F.1 q2
    refine w_iconst rfl ?_
    exact w_iret rfl rfl ⟨rfl, rfl, _, rfl, F⟩
  · replace F := F.2 q2
    refine w_iload_n rfl rfl ?_
    refine w_iconst rfl ?_
    refine w_iconst rfl ?_
    obtain ⟨b3, F⟩ := F
    refine c_SI [vI x2, vI 0, vI 1] [] rfl b_C_isAmong k_C_103 rfl rfl rfl (c_C_isAmong b3 (r_lit rfl) (r_lit rfl) ?_)
    refine w_ifne_b (tgt := 18) rfl (by decide) (fun q4 => ?_) (fun q4 => ?_)
    · replace F := F.1 q4
      refine w_aload_n rfl rfl ?_
      refine w_getR rfl f_C_26 rfl rfl rfl rfl rfl ?_
      refine w_aload_n rfl rfl ?_
      refine w_getR rfl f_C_10 rfl rfl rfl rfl rfl ?_
      refine c_VV [vR 1] [] rfl b_Hands_group k_C_147 rfl rfl rfl rfl rfl rfl (mwpV_mono (fun h5 F => ?_) F)
      refine w_aload_n rfl rfl ?_
      refine w_getR rfl f_C_40 rfl rfl rfl rfl rfl ?_
      refine w_aload_n rfl rfl ?_
      refine w_getR rfl f_C_10 rfl rfl rfl rfl rfl ?_
      refine w_aload_n rfl rfl ?_
      refine w_getR rfl f_C_26 rfl rfl rfl rfl rfl ?_
      refine w_aload_n rfl rfl ?_
      refine w_getR rfl f_C_33 rfl rfl rfl rfl rfl ?_
      refine w_iload_n rfl rfl ?_
      refine c_VV [vR 1, vR 57, vR 59, vI x1] [] rfl b_Trail_walk k_C_203 rfl rfl rfl rfl rfl rfl (mwpV_mono (fun h6 F => ?_) F)
      refine w_aload_n rfl rfl ?_
      refine w_getR rfl f_C_40 rfl rfl rfl rfl rfl ?_
      refine c_VI [] [] rfl b_Trail_meetsNo k_C_210 rfl rfl rfl rfl rfl rfl (mwpI_mono (fun z7 h7 F => ?_) F)
      obtain ⟨b8, F⟩ := F
      refine w_if_eq (tgt := 62) rfl (by decide) b8 (fun q9 => ?_) (fun q9 => ?_)
      · replace F := F.1 q9
        refine w_aload_n rfl rfl ?_
        refine w_iload_n rfl rfl ?_
        refine w_iload_n rfl rfl ?_
        refine w_iconst rfl ?_
        have J : ∀ (t11 : Int), t11 = b2i (¬ (x2 ≠ 1)) → wI (d + 6) m_C_held 74 [(0, vR 0), (1, vI x1), (2, vI x2)] [vI t11, vI x1, vR 0] h7 K := by
          intro t11 et11
          subst et11
          refine c_VI [vI x1, vI (b2i (¬ (x2 ≠ 1)))] [] rfl b_C_countHeld k_C_214 rfl rfl rfl rfl rfl rfl (mwpI_mono (fun z12 h12 F => ?_) F)
          exact w_iret rfl rfl ⟨rfl, rfl, _, rfl, F⟩
        refine w_icmp_ne (tgt := 73) rfl (by decide) ⟨b3, (r_lit rfl)⟩ (fun q10 => ?_) (fun q10 => ?_)
        · refine w_iconst rfl ?_
          exact J _ (b2i_f (fun z => z q10)).symm
        · refine w_iconst rfl ?_
          refine w_goto (tgt := 74) rfl (by decide) ?_
          exact J _ (b2i_t q10).symm
      · replace F := F.2 q9
        refine w_bipush (by decide) (by decide) rfl ?_
        exact w_iret rfl rfl ⟨rfl, rfl, _, rfl, F⟩
    · replace F := F.2 q4
      refine w_iconst rfl ?_
      exact w_iret rfl rfl ⟨rfl, rfl, _, rfl, F⟩
theorem s_C_countHeld_0 {d : Nat}  (x1 x2 : Int) (h : St) (K : Int → St → Prop) (F : (wI d m_C_countHeld 5 [(0, vR 0), (1, vI x1), (2, vI x2), (3, vI 0), (4, vI 0)] [] h K)) : wI d m_C_countHeld 0 [(0, vR 0), (1, vI x1), (2, vI x2)] [] h K := by
  refine w_iconst rfl ?_
  refine w_istore_n rfl rfl rfl rfl (w_ls (ls2 := [(0, vR 0), (1, vI x1), (2, vI x2), (3, vI 0)]) rfl ?_)
  refine w_iconst rfl ?_
  refine w_istore rfl rfl rfl rfl (w_ls (ls2 := [(0, vR 0), (1, vI x1), (2, vI x2), (3, vI 0), (4, vI 0)]) rfl ?_)
  exact F
theorem s_C_countHeld_5 {d : Nat}  (x1 x2 x3 x4 : Int) (h : St) (K : Int → St → Prop) (F : (inR x4) ∧ ((12 ≤ x4 → (K x3 h)) ∧ (¬ (12 ≤ x4) → (0 ≤ x4 ∧ x4 < 12) ∧ (inR (h 76 x4.toNat)) ∧ ((0 ≤ (h 76 x4.toNat) → (0 ≤ x1 ∧ x1 < 20) ∧ (0 ≤ h 76 x4.toNat ∧ h 76 x4.toNat < 12) ∧ (inR (h (37 + x1.toNat) x4.toNat)) ∧ (((h (37 + x1.toNat) x4.toNat) = ((-4)) → (wI d m_C_countHeld 5 [(0, vR 0), (1, vI x1), (2, vI x2), (3, vI x3), (4, vI (x4 + 1))] [] h K)) ∧ (¬ ((h (37 + x1.toNat) x4.toNat) = ((-4))) → (inR (h 37 ((h 76 x4.toNat).toNat))) ∧ (((h 37 ((h 76 x4.toNat).toNat)) = ((-4)) → (wI d m_C_countHeld 5 [(0, vR 0), (1, vI x1), (2, vI x2), (3, vI x3), (4, vI (x4 + 1))] [] h K)) ∧ (¬ ((h 37 ((h 76 x4.toNat).toNat)) = ((-4))) → (inR x2) ∧ ((x2 = 0 → (wI d m_C_countHeld 5 [(0, vR 0), (1, vI x1), (2, vI x2), (3, vI (x3 + 1)), (4, vI (x4 + 1))] [] h K)) ∧ (¬ (x2 = 0) → (((h (37 + x1.toNat) x4.toNat) ≠ (h 37 ((h 76 x4.toNat).toNat)) → (wI d m_C_countHeld 5 [(0, vR 0), (1, vI x1), (2, vI x2), (3, vI x3), (4, vI (x4 + 1))] [] h K)) ∧ (¬ ((h (37 + x1.toNat) x4.toNat) ≠ (h 37 ((h 76 x4.toNat).toNat))) → (wI d m_C_countHeld 5 [(0, vR 0), (1, vI x1), (2, vI x2), (3, vI (x3 + 1)), (4, vI (x4 + 1))] [] h K)))))))))) ∧ (¬ (0 ≤ (h 76 x4.toNat)) → (wI d m_C_countHeld 5 [(0, vR 0), (1, vI x1), (2, vI x2), (3, vI x3), (4, vI (x4 + 1))] [] h K)))))) : wI d m_C_countHeld 5 [(0, vR 0), (1, vI x1), (2, vI x2), (3, vI x3), (4, vI x4)] [] h K := by
  refine w_iload rfl rfl ?_
  refine w_bipush (by decide) (by decide) rfl ?_
  obtain ⟨b1, F⟩ := F
  refine w_icmp_ge (tgt := 94) rfl (by decide) ⟨b1, (r_lit rfl)⟩ (fun q2 => ?_) (fun q2 => ?_)
  · replace F := F.1 q2
    refine w_iload_n rfl rfl ?_
    exact w_iret rfl rfl ⟨rfl, rfl, _, rfl, F⟩
  · replace F := F.2 q2
    refine w_aload_n rfl rfl ?_
    refine w_getR rfl f_C_40 rfl rfl rfl rfl rfl ?_
    refine w_getR rfl f_C_207 rfl rfl rfl rfl rfl ?_
    refine w_iload rfl rfl ?_
    obtain ⟨b3, F⟩ := F
    refine w_iaload rfl rfl rfl b3 ?_
    refine w_istore rfl rfl rfl rfl (w_ls (ls2 := [(0, vR 0), (1, vI x1), (2, vI x2), (3, vI x3), (4, vI x4), (5, vI (h 76 x4.toNat))]) rfl ?_)
    refine w_iload rfl rfl ?_
    obtain ⟨b4, F⟩ := F
    refine w_if_ge (tgt := 32) rfl (by decide) b4 (fun q5 => ?_) (fun q5 => ?_)
    · replace F := F.1 q5
      refine w_aload_n rfl rfl ?_
      refine w_getR rfl f_C_19 rfl rfl rfl rfl rfl ?_
      refine w_getR rfl f_C_138 rfl rfl rfl rfl rfl ?_
      refine w_iload_n rfl rfl ?_
      obtain ⟨b6, F⟩ := F
      refine w_aaload rfl rfl rfl b6 rfl ?_
      refine w_iload rfl rfl ?_
      refine w_iaload rfl (rw_37 b6).1 (rw_37 b6).2 b3 ?_
      refine w_istore rfl rfl rfl rfl (w_ls (ls2 := [(0, vR 0), (1, vI x1), (2, vI x2), (3, vI x3), (4, vI x4), (5, vI (h 76 x4.toNat)), (6, vI (h (37 + x1.toNat) x4.toNat))]) rfl ?_)
      refine w_aload_n rfl rfl ?_
      refine w_getR rfl f_C_19 rfl rfl rfl rfl rfl ?_
      refine w_getR rfl f_C_138 rfl rfl rfl rfl rfl ?_
      refine w_iconst rfl ?_
      refine w_aaload rfl rfl rfl ⟨by decide, by decide⟩ rfl ?_
      refine w_iload rfl rfl ?_
      obtain ⟨b7, F⟩ := F
      refine w_iaload rfl rfl rfl b7 ?_
      refine w_istore rfl rfl rfl rfl (w_ls (ls2 := [(0, vR 0), (1, vI x1), (2, vI x2), (3, vI x3), (4, vI x4), (5, vI (h 76 x4.toNat)), (6, vI (h (37 + x1.toNat) x4.toNat)), (7, vI (h 37 ((h 76 x4.toNat).toNat)))]) rfl ?_)
      refine w_iload rfl rfl ?_
      refine w_bipush (by decide) (by decide) rfl ?_
      obtain ⟨b8, F⟩ := F
      refine w_icmp_eq (tgt := 88) rfl (by decide) ⟨b8, (r_lit rfl)⟩ (fun q9 => ?_) (fun q9 => ?_)
      · replace F := F.1 q9
        refine w_iinc rfl rfl rfl rfl rfl (w_ls (ls2 := [(0, vR 0), (1, vI x1), (2, vI x2), (3, vI x3), (4, vI (x4 + 1)), (5, vI (h 76 x4.toNat)), (6, vI (h (37 + x1.toNat) x4.toNat)), (7, vI (h 37 ((h 76 x4.toNat).toNat)))]) rfl ?_)
        refine w_goto (tgt := 5) rfl (by decide) ?_
        exact w_kp [0, 1, 2, 3, 4] F
      · replace F := F.2 q9
        refine w_iload rfl rfl ?_
        refine w_bipush (by decide) (by decide) rfl ?_
        obtain ⟨b10, F⟩ := F
        refine w_icmp_eq (tgt := 88) rfl (by decide) ⟨b10, (r_lit rfl)⟩ (fun q11 => ?_) (fun q11 => ?_)
        · replace F := F.1 q11
          refine w_iinc rfl rfl rfl rfl rfl (w_ls (ls2 := [(0, vR 0), (1, vI x1), (2, vI x2), (3, vI x3), (4, vI (x4 + 1)), (5, vI (h 76 x4.toNat)), (6, vI (h (37 + x1.toNat) x4.toNat)), (7, vI (h 37 ((h 76 x4.toNat).toNat)))]) rfl ?_)
          refine w_goto (tgt := 5) rfl (by decide) ?_
          exact w_kp [0, 1, 2, 3, 4] F
        · replace F := F.2 q11
          refine w_iload_n rfl rfl ?_
          obtain ⟨b12, F⟩ := F
          refine w_if_eq (tgt := 85) rfl (by decide) b12 (fun q13 => ?_) (fun q13 => ?_)
          · replace F := F.1 q13
            refine w_iinc rfl rfl rfl rfl rfl (w_ls (ls2 := [(0, vR 0), (1, vI x1), (2, vI x2), (3, vI (x3 + 1)), (4, vI x4), (5, vI (h 76 x4.toNat)), (6, vI (h (37 + x1.toNat) x4.toNat)), (7, vI (h 37 ((h 76 x4.toNat).toNat)))]) rfl ?_)
            refine w_iinc rfl rfl rfl rfl rfl (w_ls (ls2 := [(0, vR 0), (1, vI x1), (2, vI x2), (3, vI (x3 + 1)), (4, vI (x4 + 1)), (5, vI (h 76 x4.toNat)), (6, vI (h (37 + x1.toNat) x4.toNat)), (7, vI (h 37 ((h 76 x4.toNat).toNat)))]) rfl ?_)
            refine w_goto (tgt := 5) rfl (by decide) ?_
            exact w_kp [0, 1, 2, 3, 4] F
          · replace F := F.2 q13
            refine w_iload rfl rfl ?_
            refine w_iload rfl rfl ?_
            refine w_icmp_ne (tgt := 88) rfl (by decide) ⟨b8, b10⟩ (fun q14 => ?_) (fun q14 => ?_)
            · replace F := F.1 q14
              refine w_iinc rfl rfl rfl rfl rfl (w_ls (ls2 := [(0, vR 0), (1, vI x1), (2, vI x2), (3, vI x3), (4, vI (x4 + 1)), (5, vI (h 76 x4.toNat)), (6, vI (h (37 + x1.toNat) x4.toNat)), (7, vI (h 37 ((h 76 x4.toNat).toNat)))]) rfl ?_)
              refine w_goto (tgt := 5) rfl (by decide) ?_
              exact w_kp [0, 1, 2, 3, 4] F
            · replace F := F.2 q14
              refine w_iinc rfl rfl rfl rfl rfl (w_ls (ls2 := [(0, vR 0), (1, vI x1), (2, vI x2), (3, vI (x3 + 1)), (4, vI x4), (5, vI (h 76 x4.toNat)), (6, vI (h (37 + x1.toNat) x4.toNat)), (7, vI (h 37 ((h 76 x4.toNat).toNat)))]) rfl ?_)
              refine w_iinc rfl rfl rfl rfl rfl (w_ls (ls2 := [(0, vR 0), (1, vI x1), (2, vI x2), (3, vI (x3 + 1)), (4, vI (x4 + 1)), (5, vI (h 76 x4.toNat)), (6, vI (h (37 + x1.toNat) x4.toNat)), (7, vI (h 37 ((h 76 x4.toNat).toNat)))]) rfl ?_)
              refine w_goto (tgt := 5) rfl (by decide) ?_
              exact w_kp [0, 1, 2, 3, 4] F
    · replace F := F.2 q5
      refine w_goto (tgt := 88) rfl (by decide) ?_
      refine w_iinc rfl rfl rfl rfl rfl (w_ls (ls2 := [(0, vR 0), (1, vI x1), (2, vI x2), (3, vI x3), (4, vI (x4 + 1)), (5, vI (h 76 x4.toNat))]) rfl ?_)
      refine w_goto (tgt := 5) rfl (by decide) ?_
      exact w_kp [0, 1, 2, 3, 4] F
theorem s_M_held_0 {d : Nat}  (x1 x2 : Int) (h : St) (K : Int → St → Prop) (F : (inR x1) ∧ ((¬ (0 ≤ x1 ∧ x1 ≤ 19) → (K ((-1)) h)) ∧ (0 ≤ x1 ∧ x1 ≤ 19 → (inR x2) ∧ ((0 ≤ x2 ∧ x2 ≤ 1 → (wI (d + 4) m_M_held 27 [(0, vR 109), (1, vI x1), (2, vI x2), (3, vI 0), (4, vI 0), (5, vI 0)] [] h K)) ∧ (¬ (0 ≤ x2 ∧ x2 ≤ 1) → (K ((-1)) h)))))) : wI (d + 4) m_M_held 0 [(0, vR 109), (1, vI x1), (2, vI x2)] [] h K := by
  refine w_iload_n rfl rfl ?_
  obtain ⟨b1, F⟩ := F
  refine c_SI [vI x1] [] rfl b_M_isDay k_M_138 rfl rfl rfl (c_M_isDay b1 ?_)
  refine w_ifeq_b (tgt := 17) rfl (by decide) (fun q2 => ?_) (fun q2 => ?_)
  · replace F := F.1 q2
    refine w_iconst rfl ?_
    exact w_iret rfl rfl ⟨rfl, rfl, _, rfl, F⟩
  · replace F := F.2 q2
    refine w_iload_n rfl rfl ?_
    obtain ⟨b3, F⟩ := F
    refine w_i2l b3 rfl ?_
    refine w_lconst rfl ?_
    refine w_lconst rfl ?_
    refine c_SI [vJ x2, vJ 0, vJ 1] [] rfl b_M_in k_M_130 rfl rfl rfl (c_M_in (inL_of b3) (by decide) (by decide) ?_)
    refine w_ifne_b (tgt := 19) rfl (by decide) (fun q4 => ?_) (fun q4 => ?_)
    · replace F := F.1 q4
      refine w_iconst rfl ?_
      refine w_istore_n rfl rfl rfl rfl (w_ls (ls2 := [(0, vR 109), (1, vI x1), (2, vI x2), (3, vI 0)]) rfl ?_)
      refine w_iconst rfl ?_
      refine w_istore rfl rfl rfl rfl (w_ls (ls2 := [(0, vR 109), (1, vI x1), (2, vI x2), (3, vI 0), (4, vI 0)]) rfl ?_)
      refine w_iconst rfl ?_
      refine w_istore rfl rfl rfl rfl (w_ls (ls2 := [(0, vR 109), (1, vI x1), (2, vI x2), (3, vI 0), (4, vI 0), (5, vI 0)]) rfl ?_)
      exact F
    · replace F := F.2 q4
      refine w_iconst rfl ?_
      exact w_iret rfl rfl ⟨rfl, rfl, _, rfl, F⟩
theorem s_M_held_27 {d : Nat}  (x1 x2 x3 x4 x5 : Int) (h : St) (K : Int → St → Prop) (F : (inR x5) ∧ ((12 ≤ x5 → (((inR x2))) ∧ (K (cif (x2 ≠ 0) x4 x3) h)) ∧ (¬ (12 ≤ x5) → (mwpI (d + 4) m_M_traced [vR 109, vI x1, vI x5] h (fun z6 h6 => (inR z6) ∧ ((z6 ≠ ((-2)) → (mwpI (d + 4) m_M_postOf [vR 109, vI x5, vI x1] h6 (fun z9 h9 => ((0 ≤ z6 → (mwpI (d + 4) m_M_postOf [vR 109, vI z6, vI 0] h9 (fun z11 h11 => (((inR z9) ∧ (¬ (z9 < 0) → ((inR z11))))) ∧ (((inR z9) ∧ (¬ (z9 < 0) → ((inR z11))))) ∧ (wI (d + 4) m_M_held 27 [(0, vR 109), (1, vI x1), (2, vI x2), (3, vI (x3 + (b2i (¬ (z9 < 0) ∧ (¬ (z11 < 0)))))), (4, vI (x4 + (b2i (¬ (z9 < 0) ∧ (¬ (z9 ≠ z11)))))), (5, vI (x5 + 1))] [] h11 K)))) ∧ (¬ (0 ≤ z6) → (((inR z9))) ∧ (((inR z9))) ∧ (wI (d + 4) m_M_held 27 [(0, vR 109), (1, vI x1), (2, vI x2), (3, vI (x3 + (b2i (¬ (z9 < 0) ∧ (¬ (((-4)) < 0)))))), (4, vI (x4 + (b2i (¬ (z9 < 0) ∧ (¬ (z9 ≠ ((-4)))))))), (5, vI (x5 + 1))] [] h9 K)))))) ∧ (¬ (z6 ≠ ((-2))) → (K ((-2)) h6)))))))) : wI (d + 4) m_M_held 27 [(0, vR 109), (1, vI x1), (2, vI x2), (3, vI x3), (4, vI x4), (5, vI x5)] [] h K := by
  refine w_iload rfl rfl ?_
  refine w_bipush (by decide) (by decide) rfl ?_
  obtain ⟨b1, F⟩ := F
  refine w_icmp_ge (tgt := 127) rfl (by decide) ⟨b1, (r_lit rfl)⟩ (fun q2 => ?_) (fun q2 => ?_)
  · replace F := F.1 q2
    refine w_iload_n rfl rfl ?_
    obtain ⟨G, F⟩ := F
    have J : ∀ (t5 : Int), t5 = cif (x2 ≠ 0) x4 x3 → wI (d + 4) m_M_held 137 [(0, vR 109), (1, vI x1), (2, vI x2), (3, vI x3), (4, vI x4), (5, vI x5)] [vI t5] h K := by
      intro t5 et5
      subst et5
      exact w_iret rfl rfl ⟨rfl, rfl, _, rfl, F⟩
    have b3 := G
    refine w_if_ne (tgt := 135) rfl (by decide) b3 (fun q4 => ?_) (fun q4 => ?_)
    · refine w_iload rfl rfl ?_
      exact J _ (cif_t q4).symm
    · refine w_iload_n rfl rfl ?_
      refine w_goto (tgt := 137) rfl (by decide) ?_
      exact J _ (cif_f q4).symm
  · replace F := F.2 q2
    refine w_aload_n rfl rfl ?_
    refine w_iload_n rfl rfl ?_
    refine w_iload rfl rfl ?_
    refine c_VI [vI x1, vI x5] [] rfl b_M_traced k_M_237 rfl rfl rfl rfl rfl rfl (mwpI_mono (fun z6 h6 F => ?_) F)
    refine w_istore rfl rfl rfl rfl (w_ls (ls2 := [(0, vR 109), (1, vI x1), (2, vI x2), (3, vI x3), (4, vI x4), (5, vI x5), (6, vI z6)]) rfl ?_)
    refine w_iload rfl rfl ?_
    refine w_bipush (by decide) (by decide) rfl ?_
    obtain ⟨b7, F⟩ := F
    refine w_icmp_ne (tgt := 53) rfl (by decide) ⟨b7, (r_lit rfl)⟩ (fun q8 => ?_) (fun q8 => ?_)
    · replace F := F.1 q8
      refine w_aload_n rfl rfl ?_
      refine w_iload rfl rfl ?_
      refine w_iload_n rfl rfl ?_
      refine c_VI [vI x5, vI x1] [] rfl b_M_postOf k_M_190 rfl rfl rfl rfl rfl rfl (mwpI_mono (fun z9 h9 F => ?_) F)
      refine w_istore rfl rfl rfl rfl (w_ls (ls2 := [(0, vR 109), (1, vI x1), (2, vI x2), (3, vI x3), (4, vI x4), (5, vI x5), (6, vI z6), (7, vI z9)]) rfl ?_)
      refine w_iload rfl rfl ?_
      refine w_if_ge (tgt := 72) rfl (by decide) b7 (fun q10 => ?_) (fun q10 => ?_)
      · replace F := F.1 q10
        refine w_aload_n rfl rfl ?_
        refine w_iload rfl rfl ?_
        refine w_iconst rfl ?_
        refine c_VI [vI z6, vI 0] [] rfl b_M_postOf k_M_190 rfl rfl rfl rfl rfl rfl (mwpI_mono (fun z11 h11 F => ?_) F)
        refine w_istore rfl rfl rfl rfl (w_ls (ls2 := [(0, vR 109), (1, vI x1), (2, vI x2), (3, vI x3), (4, vI x4), (5, vI x5), (6, vI z6), (7, vI z9), (8, vI z11)]) rfl ?_)
        refine w_iload_n rfl rfl ?_
        refine w_iload rfl rfl ?_
        obtain ⟨G, F⟩ := F
        have J : ∀ (t16 : Int), t16 = b2i (¬ (z9 < 0) ∧ (¬ (z11 < 0))) → wI (d + 4) m_M_held 97 [(0, vR 109), (1, vI x1), (2, vI x2), (3, vI x3), (4, vI x4), (5, vI x5), (6, vI z6), (7, vI z9), (8, vI z11)] [vI t16, vI x3] h11 K := by
          intro t16 et16
          subst et16
          refine w_iadd rfl ?_
          refine w_istore_n rfl rfl rfl rfl (w_ls (ls2 := [(0, vR 109), (1, vI x1), (2, vI x2), (3, vI (x3 + (b2i (¬ (z9 < 0) ∧ (¬ (z11 < 0)))))), (4, vI x4), (5, vI x5), (6, vI z6), (7, vI z9), (8, vI z11)]) rfl ?_)
          refine w_iload rfl rfl ?_
          refine w_iload rfl rfl ?_
          obtain ⟨G, F⟩ := F
          have J : ∀ (t21 : Int), t21 = b2i (¬ (z9 < 0) ∧ (¬ (z9 ≠ z11))) → wI (d + 4) m_M_held 118 [(0, vR 109), (1, vI x1), (2, vI x2), (3, vI (x3 + (b2i (¬ (z9 < 0) ∧ (¬ (z11 < 0)))))), (4, vI x4), (5, vI x5), (6, vI z6), (7, vI z9), (8, vI z11)] [vI t21, vI x4] h11 K := by
            intro t21 et21
            subst et21
            refine w_iadd rfl ?_
            refine w_istore rfl rfl rfl rfl (w_ls (ls2 := [(0, vR 109), (1, vI x1), (2, vI x2), (3, vI (x3 + (b2i (¬ (z9 < 0) ∧ (¬ (z11 < 0)))))), (4, vI (x4 + (b2i (¬ (z9 < 0) ∧ (¬ (z9 ≠ z11)))))), (5, vI x5), (6, vI z6), (7, vI z9), (8, vI z11)]) rfl ?_)
            refine w_iinc rfl rfl rfl rfl rfl (w_ls (ls2 := [(0, vR 109), (1, vI x1), (2, vI x2), (3, vI (x3 + (b2i (¬ (z9 < 0) ∧ (¬ (z11 < 0)))))), (4, vI (x4 + (b2i (¬ (z9 < 0) ∧ (¬ (z9 ≠ z11)))))), (5, vI (x5 + 1)), (6, vI z6), (7, vI z9), (8, vI z11)]) rfl ?_)
            refine w_goto (tgt := 27) rfl (by decide) ?_
            exact w_kp [0, 1, 2, 3, 4, 5] F
          obtain ⟨b17, gb_⟩ := G
          refine w_if_lt (tgt := 117) rfl (by decide) b17 (fun q18 => ?_) (fun q18 => ?_)
          · refine w_iconst rfl ?_
            exact J _ (b2i_f (fun z => z.1 q18)).symm
          · have G := gb_ q18
            have b19 := G
            refine w_iload rfl rfl ?_
            refine w_iload rfl rfl ?_
            refine w_icmp_ne (tgt := 117) rfl (by decide) ⟨b17, b19⟩ (fun q20 => ?_) (fun q20 => ?_)
            · refine w_iconst rfl ?_
              exact J _ (b2i_f (fun z => (fun z => z q20) z.2)).symm
            · refine w_iconst rfl ?_
              refine w_goto (tgt := 118) rfl (by decide) ?_
              exact J _ (b2i_t ⟨q18, q20⟩).symm
        obtain ⟨b12, gb_⟩ := G
        refine w_if_lt (tgt := 96) rfl (by decide) b12 (fun q13 => ?_) (fun q13 => ?_)
        · refine w_iconst rfl ?_
          exact J _ (b2i_f (fun z => z.1 q13)).symm
        · have G := gb_ q13
          have b14 := G
          refine w_iload rfl rfl ?_
          refine w_if_lt (tgt := 96) rfl (by decide) b14 (fun q15 => ?_) (fun q15 => ?_)
          · refine w_iconst rfl ?_
            exact J _ (b2i_f (fun z => (fun z => z q15) z.2)).symm
          · refine w_iconst rfl ?_
            refine w_goto (tgt := 97) rfl (by decide) ?_
            exact J _ (b2i_t ⟨q13, q15⟩).symm
      · replace F := F.2 q10
        refine w_bipush (by decide) (by decide) rfl ?_
        refine w_goto (tgt := 79) rfl (by decide) ?_
        refine w_istore rfl rfl rfl rfl (w_ls (ls2 := [(0, vR 109), (1, vI x1), (2, vI x2), (3, vI x3), (4, vI x4), (5, vI x5), (6, vI z6), (7, vI z9), (8, vI ((-4)))]) rfl ?_)
        refine w_iload_n rfl rfl ?_
        refine w_iload rfl rfl ?_
        obtain ⟨G, F⟩ := F
        have J : ∀ (t25 : Int), t25 = b2i (¬ (z9 < 0) ∧ (¬ (((-4)) < 0))) → wI (d + 4) m_M_held 97 [(0, vR 109), (1, vI x1), (2, vI x2), (3, vI x3), (4, vI x4), (5, vI x5), (6, vI z6), (7, vI z9), (8, vI ((-4)))] [vI t25, vI x3] h9 K := by
          intro t25 et25
          subst et25
          refine w_iadd rfl ?_
          refine w_istore_n rfl rfl rfl rfl (w_ls (ls2 := [(0, vR 109), (1, vI x1), (2, vI x2), (3, vI (x3 + (b2i (¬ (z9 < 0) ∧ (¬ (((-4)) < 0)))))), (4, vI x4), (5, vI x5), (6, vI z6), (7, vI z9), (8, vI ((-4)))]) rfl ?_)
          refine w_iload rfl rfl ?_
          refine w_iload rfl rfl ?_
          obtain ⟨G, F⟩ := F
          have J : ∀ (t29 : Int), t29 = b2i (¬ (z9 < 0) ∧ (¬ (z9 ≠ ((-4))))) → wI (d + 4) m_M_held 118 [(0, vR 109), (1, vI x1), (2, vI x2), (3, vI (x3 + (b2i (¬ (z9 < 0) ∧ (¬ (((-4)) < 0)))))), (4, vI x4), (5, vI x5), (6, vI z6), (7, vI z9), (8, vI ((-4)))] [vI t29, vI x4] h9 K := by
            intro t29 et29
            subst et29
            refine w_iadd rfl ?_
            refine w_istore rfl rfl rfl rfl (w_ls (ls2 := [(0, vR 109), (1, vI x1), (2, vI x2), (3, vI (x3 + (b2i (¬ (z9 < 0) ∧ (¬ (((-4)) < 0)))))), (4, vI (x4 + (b2i (¬ (z9 < 0) ∧ (¬ (z9 ≠ ((-4)))))))), (5, vI x5), (6, vI z6), (7, vI z9), (8, vI ((-4)))]) rfl ?_)
            refine w_iinc rfl rfl rfl rfl rfl (w_ls (ls2 := [(0, vR 109), (1, vI x1), (2, vI x2), (3, vI (x3 + (b2i (¬ (z9 < 0) ∧ (¬ (((-4)) < 0)))))), (4, vI (x4 + (b2i (¬ (z9 < 0) ∧ (¬ (z9 ≠ ((-4)))))))), (5, vI (x5 + 1)), (6, vI z6), (7, vI z9), (8, vI ((-4)))]) rfl ?_)
            refine w_goto (tgt := 27) rfl (by decide) ?_
            exact w_kp [0, 1, 2, 3, 4, 5] F
          have b26 := G
          refine w_if_lt (tgt := 117) rfl (by decide) b26 (fun q27 => ?_) (fun q27 => ?_)
          · refine w_iconst rfl ?_
            exact J _ (b2i_f (fun z => z.1 q27)).symm
          · refine w_iload rfl rfl ?_
            refine w_iload rfl rfl ?_
            refine w_icmp_ne (tgt := 117) rfl (by decide) ⟨b26, (r_lit rfl)⟩ (fun q28 => ?_) (fun q28 => ?_)
            · refine w_iconst rfl ?_
              exact J _ (b2i_f (fun z => (fun z => z q28) z.2)).symm
            · refine w_iconst rfl ?_
              refine w_goto (tgt := 118) rfl (by decide) ?_
              exact J _ (b2i_t ⟨q27, q28⟩).symm
        have b22 := G
        refine w_if_lt (tgt := 96) rfl (by decide) b22 (fun q23 => ?_) (fun q23 => ?_)
        · refine w_iconst rfl ?_
          exact J _ (b2i_f (fun z => z.1 q23)).symm
        · refine w_iload rfl rfl ?_
          refine w_if_lt (tgt := 96) rfl (by decide) (r_lit rfl) (fun q24 => ?_) (fun q24 => ?_)
          · refine w_iconst rfl ?_
            exact J _ (b2i_f (fun z => (fun z => z q24) z.2)).symm
          · refine w_iconst rfl ?_
            refine w_goto (tgt := 97) rfl (by decide) ?_
            exact J _ (b2i_t ⟨q23, q24⟩).symm
    · replace F := F.2 q8
      refine w_bipush (by decide) (by decide) rfl ?_
      exact w_iret rfl rfl ⟨rfl, rfl, _, rfl, F⟩
theorem lastP_or {f : Nat → Int} {v : Int} : ∀ n, lastP f v n = -4 ∨ (0 ≤ lastP f v n ∧ lastP f v n < n)
  | 0 => Or.inl rfl
  | n + 1 => by
    have ih := lastP_or (f := f) (v := v) n
    unfold lastP
    by_cases e : f n = v
    · rw [if_pos e]; right; omega
    · rw [if_neg e]; omega
def hOK (bk : Nat → Nat → Int) (T : Nat → Int) (m : Nat) (w : Prop) (b : Nat) : Prop := 0 ≤ T b ∧ 0 ≤ lastP (bk m) b 12 ∧ 0 ≤ lastP (bk 0) (T b) 12 ∧ (w → lastP (bk m) b 12 = lastP (bk 0) (T b) 12)
theorem C_ch_5 {D : Nat} {h : St} {K : Int → St → Prop} {bk : Nat → Nat → Int} {T : Nat → Int} {m : Nat} {w : Prop} (hm : m < 20) (hT : ∀ b, b < 12 → h 76 b = T b) (hR : ∀ b, b < 12 → -4 ≤ T b ∧ T b < 12) (hb : ∀ d, d < 20 → ∀ m, m < 12 → h (37 + d) m = lastP (bk d) m 12) (k : K (sm (fun b => b2i (hOK bk T m w b)) 12) h) : ∀ (r c : Nat), c + r = 12 → wI D m_C_countHeld 5 [(0, vR 0), (1, vI m), (2, vI (b2i w)), (3, vI (sm (fun b => b2i (hOK bk T m w b)) c)), (4, vI c)] [] h K := by
  intro r
  induction r with
  | zero =>
    intro c hc
    have e : c = 12 := by omega
    subst e
    exact s_C_countHeld_5 _ _ _ _ h K ⟨⟨by omega, by omega⟩, fun _ => k, fun y => by omega⟩
  | succ r ih =>
    intro c hc
    have hc2 : c < 12 := by omega
    have rT := hR c hc2
    have nx := ih (c + 1) (by omega)
    rw [sm_succ] at nx
    have no : ¬ hOK bk T m w c → wI D m_C_countHeld 5 [(0, vR 0), (1, vI m), (2, vI (b2i w)), (3, vI (sm (fun b => b2i (hOK bk T m w b)) c)), (4, vI ((c : Int) + 1))] [] h K := fun y => by
      rw [b2i_f y, Int.add_zero] at nx; exact nx
    have yes : hOK bk T m w c → wI D m_C_countHeld 5 [(0, vR 0), (1, vI m), (2, vI (b2i w)), (3, vI (sm (fun b => b2i (hOK bk T m w b)) c + 1)), (4, vI ((c : Int) + 1))] [] h K := fun y => by
      rw [b2i_t y] at nx; exact nx
    refine s_C_countHeld_5 _ _ _ _ h K ⟨⟨by omega, by omega⟩, fun y => by omega, fun _ => ⟨⟨by omega, by omega⟩, ?_⟩⟩
    rw [Int.toNat_natCast, Int.toNat_natCast, hT c hc2, hb m hm c hc2]
    refine ⟨⟨by omega, by omega⟩, fun y => ?_, fun y => no (fun z => y z.1)⟩
    have e0 : h 37 (T c).toNat = lastP (bk 0) (T c) 12 := by
      have := hb 0 (by omega) (T c).toNat (by omega)
      rw [show (((T c).toNat : Nat) : Int) = T c by omega] at this
      exact this
    have l1 := lastP_or (f := bk m) (v := c) 12
    have l2 := lastP_or (f := bk 0) (v := T c) 12
    rw [e0]
    refine ⟨⟨by omega, by omega⟩, ⟨by omega, by omega⟩, ⟨by omega, by omega⟩, fun z => no (fun u => by have := u.2.1; omega), fun z => ⟨⟨by omega, by omega⟩, fun z2 => no (fun u => by have := u.2.2.1; omega), fun z2 => ⟨b2i_R, fun z3 => ?_, fun z3 => ⟨fun z4 => ?_, fun z4 => ?_⟩⟩⟩⟩
    · exact yes ⟨y, by omega, by omega, fun u => absurd u (b2i_eq0.mp z3)⟩
    · exact no (fun u => z4 (u.2.2.2 (b2i_ne0.mp z3)))
    · exact yes ⟨y, by omega, by omega, fun _ => by omega⟩
theorem M_hd_27 {D : Nat} {K : Int → St → Prop} {n : Nat} {lg : Nat → Nat → Int} {fh : Nat → Nat} {t : Int} {bk : Nat → Nat → Int} {m : Nat} {x2 : Int} (r2 : inR x2) (vl : VLog n lg) (fb : ∀ c, c < n → fh c < 60) (rt : 0 ≤ t ∧ t ≤ 99) (hu : ∀ f, isHand lg n t f → ∀ c, c < n → f c = ((fh c : Nat) : Int)) (hv : ∀ d, d < 20 → ∀ p, p < 12 → bk d p = -4 ∨ (0 ≤ bk d p ∧ bk d p ≤ 11)) (hm : m ≤ 19) : ∀ (r c : Nat) (h : St), c + r = 12 → MLog h n lg → h 109 14 = t → (∀ d, d < 20 → ∀ p, p < 12 → h 126 (12 * d + p) = bk d p) → (∀ b, b < c → trv n lg fh m (orA n lg m b) ≠ -2) → (∀ h2, agT h h2 → (∃ b, b < 12 ∧ trv n lg fh m (orA n lg m b) = -2) → K (-2) h2) → (∀ h2, agT h h2 → (∀ b, b < 12 → trv n lg fh m (orA n lg m b) ≠ -2) → K (cif (x2 ≠ 0) (sm (fun b => b2i (hOK bk (fun b => trv n lg fh m (orA n lg m b)) m True b)) 12) (sm (fun b => b2i (hOK bk (fun b => trv n lg fh m (orA n lg m b)) m False b)) 12)) h2) → wI (D + 4) m_M_held 27 [(0, vR 109), (1, vI m), (2, vI x2), (3, vI (sm (fun b => b2i (hOK bk (fun b => trv n lg fh m (orA n lg m b)) m False b)) c)), (4, vI (sm (fun b => b2i (hOK bk (fun b => trv n lg fh m (orA n lg m b)) m True b)) c)), (5, vI c)] [] h K := by
  intro r
  induction r with
  | zero =>
    intro c h hc ml et hb w k0 k1
    have e : c = 12 := by omega
    subst e
    exact s_M_held_27 _ _ _ _ _ h K ⟨⟨by omega, by omega⟩, fun _ => ⟨r2, k1 h ag_rfl w⟩, fun y => by omega⟩
  | succ r ih =>
    intro c h hc ml et hb w k0 k1
    have hc2 : c < 12 := by omega
    refine s_M_held_27 _ _ _ _ _ h K ⟨⟨by omega, by omega⟩, fun y => by omega, fun _ => c_M_traced vl fb rt hu ml et hm hc2 (fun h2 g2 => ?_)⟩
    have tr := trv_R (n := n) (lg := lg) (fh := fh) m _ (orA_R (n := n) (lg := lg) (d := m) hc2)
    refine ⟨⟨by omega, by omega⟩, fun z => ?_, fun z => k0 h2 g2 ⟨c, hc2, by omega⟩⟩
    have hb2 : ∀ d, d < 20 → ∀ p, p < 12 → h2 126 (12 * d + p) = bk d p := fun d hd p hp => by rw [g2 126 _ (by omega)]; exact hb d hd p hp
    have nx := ih (c + 1) h2 (by omega) (MLog_c (ag_sub (fun c k p => by omega) g2) ml) (by rw [g2 109 14 (by omega)]; exact et) hb2 (fun b hb => by
      by_cases e : b = c
      · subst e; exact z
      · exact w b (by omega)) (fun h3 g3 => k0 h3 (ag_trans g2 g3)) (fun h3 g3 => k1 h3 (ag_trans g2 g3))
    have l1 := lastP_or (f := bk m) (v := c) 12
    rw [sm_succ, sm_succ] at nx
    refine c_M_postOf (bk := bk) ⟨by omega, by omega⟩ (by omega) hb2 hv ?_
    rw [Int.toNat_natCast]
    refine ⟨fun y => c_M_postOf (bk := bk) ⟨by omega, by omega⟩ (by omega) hb2 hv ?_, fun y => ⟨⟨by omega, by omega⟩, ⟨by omega, by omega⟩, ?_⟩⟩
    · have l2 := lastP_or (f := bk 0) (v := trv n lg fh m (orA n lg m c)) 12
      rw [show (0 : Int).toNat = 0 from rfl]
      refine ⟨⟨⟨by omega, by omega⟩, fun _ => ⟨by omega, by omega⟩⟩, ⟨⟨by omega, by omega⟩, fun _ => ⟨by omega, by omega⟩⟩, ?_⟩
      have hT : ∀ w : Prop, hOK bk (fun b => trv n lg fh m (orA n lg m b)) m w c ↔ (0 ≤ trv n lg fh m (orA n lg m c) ∧ 0 ≤ lastP (bk m) c 12 ∧ 0 ≤ lastP (bk 0) (trv n lg fh m (orA n lg m c)) 12 ∧ (w → lastP (bk m) c 12 = lastP (bk 0) (trv n lg fh m (orA n lg m c)) 12)) := fun w => Iff.rfl
      have e1 : b2i (¬ (lastP (bk m) c 12 < 0) ∧ ¬ (lastP (bk 0) (trv n lg fh m (orA n lg m c)) 12 < 0)) = b2i (hOK bk (fun b => trv n lg fh m (orA n lg m b)) m False c) := b2i_congr (Iff.trans ⟨fun u => ⟨y, by omega, by omega, fun v => v.elim⟩, fun u => ⟨by have := u.2.1; omega, by have := u.2.2.1; omega⟩⟩ (hT False).symm)
      have e2 : b2i (¬ (lastP (bk m) c 12 < 0) ∧ ¬ (lastP (bk m) c 12 ≠ lastP (bk 0) (trv n lg fh m (orA n lg m c)) 12)) = b2i (hOK bk (fun b => trv n lg fh m (orA n lg m b)) m True c) := b2i_congr (Iff.trans ⟨fun u => ⟨y, by omega, by omega, fun _ => by omega⟩, fun u => ⟨by have := u.2.1; omega, fun v => v (u.2.2.2 trivial)⟩⟩ (hT True).symm)
      rw [e1, e2]; exact nx
    · have e1 : b2i (¬ (lastP (bk m) c 12 < 0) ∧ ¬ ((-4 : Int) < 0)) = b2i (hOK bk (fun b => trv n lg fh m (orA n lg m b)) m False c) := b2i_congr ⟨fun u => absurd (by decide) u.2, fun u => absurd u.1 y⟩
      have e2 : b2i (¬ (lastP (bk m) c 12 < 0) ∧ ¬ (lastP (bk m) c 12 ≠ -4)) = b2i (hOK bk (fun b => trv n lg fh m (orA n lg m b)) m True c) := b2i_congr ⟨fun u => by omega, fun u => absurd u.1 y⟩
      rw [e1, e2]; exact nx
theorem P_held {KK : Int → Int → St → Prop} {h : St} (hr : Rel h) {a1 a2 : Int} (r1 : inR a1) (r2 : inR a2) (k : ∀ z h2, inR z → Rel h2 → KK z z h2) : mwpI 40 m_C_held [vR 0, vI a1, vI a2] h (fun z h1 => mwpI 40 m_M_held [vR 109, vI a1, vI a2] h1 (fun z2 h2 => KK z z2 h2)) := by
  have kb := k (-1) h (by decide) hr
  refine mI_intro b_C_held rfl (s_C_held_0 (d := 33) a1 a2 h _ ⟨r1, fun q => mI_intro b_M_held rfl (s_M_held_0 (d := 35) a1 a2 _ _ ⟨r1, fun _ => kb, fun y => absurd y q⟩), fun q1 => ⟨r2, fun q2 => ?_, fun q => mI_intro b_M_held rfl (s_M_held_0 (d := 35) a1 a2 _ _ ⟨r1, fun _ => kb, fun _ => ⟨r2, fun y => absurd y q, fun _ => kb⟩⟩)⟩⟩)
  obtain ⟨m, rfl⟩ : ∃ m : Nat, a1 = (m : Int) := ⟨a1.toNat, by omega⟩
  refine C_grR hr (fun n lg fh h1 g1 cl ml vl hf fb hu ht hr1 => ?_)
  refine c_Trail_walk cl vl fb hf (by omega) (fun h2 g2 w2 => ?_)
  have hr2 : Rel h2 := Rel_c (ag_sub (fun c k p => by omega) g2) hr1
  obtain ⟨_, _, ⟨ni, bk, ⟨_, _, cb⟩, ⟨_, mb⟩, vb⟩, _⟩ := id hr2
  have tR : ∀ b, b < 12 → -4 ≤ trv n lg fh m (orA n lg m b) ∧ trv n lg fh m (orA n lg m b) < 12 := fun b hb => trv_R m _ (orA_R hb)
  have md : ∀ K : Int → St → Prop, (∀ h3, agT h2 h3 → (∃ b, b < 12 ∧ trv n lg fh m (orA n lg m b) = -2) → K (-2) h3) → (∀ h3, agT h2 h3 → (∀ b, b < 12 → trv n lg fh m (orA n lg m b) ≠ -2) → K (cif (a2 ≠ 0) (sm (fun b => b2i (hOK bk (fun b => trv n lg fh m (orA n lg m b)) m True b)) 12) (sm (fun b => b2i (hOK bk (fun b => trv n lg fh m (orA n lg m b)) m False b)) 12)) h3) → mwpI 40 m_M_held [vR 109, vI m, vI a2] h2 K := fun K k0 k1 =>
    mI_intro b_M_held rfl (s_M_held_0 (d := 35) _ _ _ _ ⟨r1, fun y => absurd q1 y, fun _ => ⟨r2, fun _ => M_hd_27 r2 vl fb ht hu vb.2 (by omega) 12 0 h2 (by omega) (MLog_c (ag_sub (fun c k p => by omega) g2) ml) (by rw [g2 109 14 (by omega), g1 109 14 (by omega)]) mb (fun b hb => absurd hb (Nat.not_lt_zero _)) k0 k1, fun y => absurd q2 y⟩⟩)
  refine c_Trail_meetsNo (fun b hb => by rw [w2 b hb]; exact tR b hb) (fun al => ⟨by decide, fun _ => ?_, fun y => absurd rfl y⟩) (fun ex => ⟨by decide, fun y => absurd y (by decide), fun _ => md _ (fun h3 g3 _ => k _ _ (by decide) (Rel_c (ag_sub (fun c k p => by omega) g3) hr2)) (fun h3 g3 w => ?_)⟩)
  · refine mI_intro b_C_countHeld rfl (s_C_countHeld_0 (d := 38) _ _ _ _ (C_ch_5 (bk := bk) (T := fun b => trv n lg fh m (orA n lg m b)) (by omega) w2 tR cb ?_ 12 0 (by omega)))
    refine md _ (fun h3 g3 ⟨b, b1, b2⟩ => absurd (show h2 76 b = -2 by rw [w2 b b1]; exact b2) (al b b1)) (fun h3 g3 w => ?_)
    have rl := Rel_c (ag_sub (fun c k p => by omega) g3) hr2
    have sb : ∀ w : Prop, inR (sm (fun b => b2i (hOK bk (fun b => trv n lg fh m (orA n lg m b)) m w b)) 12) := fun w => by
      have := sm_bnd (f := fun b => b2i (hOK bk (fun b => trv n lg fh m (orA n lg m b)) m w b)) (u := 1) (by decide) 12 (fun i _ => b2i_B)
      exact ⟨by omega, by omega⟩
    by_cases y : a2 = 0
    · rw [cif_f (fun z => z y), sm_congr (f := fun b => b2i (hOK bk (fun b => trv n lg fh m (orA n lg m b)) m (¬ (a2 ≠ 1)) b)) (g := fun b => b2i (hOK bk (fun b => trv n lg fh m (orA n lg m b)) m False b)) 12 (fun i _ => b2i_congr ⟨fun u => ⟨u.1, u.2.1, u.2.2.1, fun v => v.elim⟩, fun u => ⟨u.1, u.2.1, u.2.2.1, fun v => by omega⟩⟩)]
      exact k _ _ (sb _) rl
    · rw [cif_t y, sm_congr (f := fun b => b2i (hOK bk (fun b => trv n lg fh m (orA n lg m b)) m (¬ (a2 ≠ 1)) b)) (g := fun b => b2i (hOK bk (fun b => trv n lg fh m (orA n lg m b)) m True b)) 12 (fun i _ => b2i_congr ⟨fun u => ⟨u.1, u.2.1, u.2.2.1, fun _ => u.2.2.2 (by omega)⟩, fun u => ⟨u.1, u.2.1, u.2.2.1, fun _ => u.2.2.2 trivial⟩⟩)]
      exact k _ _ (sb _) rl
  · obtain ⟨b, b1, b2⟩ := ex
    rw [w2 b b1] at b2
    exact absurd b2 (w b b1)
