theorem s_Silence_measure_0 {d : Nat}  (x2 : Int) (h : St) (K : St → Prop) (F : (wV (d + 2) m_Silence_measure 5 [(0, vR 96), (1, vR 1), (2, vI x2), (3, vI 0), (4, vI 0)] [] h K)) : wV (d + 2) m_Silence_measure 0 [(0, vR 96), (1, vR 1), (2, vI x2)] [] h K := by
  refine w_iconst rfl ?_
  refine w_istore_n rfl rfl rfl rfl (w_ls (ls2 := [(0, vR 96), (1, vR 1), (2, vI x2), (3, vI 0)]) rfl ?_)
  refine w_iconst rfl ?_
  refine w_istore rfl rfl rfl rfl (w_ls (ls2 := [(0, vR 96), (1, vR 1), (2, vI x2), (3, vI 0), (4, vI 0)]) rfl ?_)
  exact F
theorem s_Silence_measure_5 {d : Nat}  (x2 x3 x4 : Int) (h : St) (K : St → Prop) (F : (inR x4) ∧ (inR (h 1 6)) ∧ (((h 1 6) ≤ x4 → (mwpV (d + 2) m_Silence_gatherHeard [vR 96] h (fun h4 => (wV (d + 2) m_Silence_measure 54 [(0, vR 96), (1, vR 1), (2, vI x2), (3, vI x3), (4, vI 0)] [] h4 K)))) ∧ (¬ ((h 1 6) ≤ x4) → (0 ≤ x4 ∧ x4 < 60) ∧ (((inR (h 2 x4.toNat)) ∧ (inR x2))) ∧ (wV (d + 2) m_Silence_measure 5 [(0, vR 96), (1, vR 1), (2, vI x2), (3, vI (or3 x3 (cif ((h 2 x4.toNat) ≠ x2) 0 (shl3 1 (h 6 x4.toNat))))), (4, vI (x4 + 1))] [] h K)))) : wV (d + 2) m_Silence_measure 5 [(0, vR 96), (1, vR 1), (2, vI x2), (3, vI x3), (4, vI x4)] [] h K := by
  refine w_iload rfl rfl ?_
  refine w_aload_n rfl rfl ?_
  refine w_getI rfl f_Silence_37 rfl rfl rfl ?_
  obtain ⟨b1, F⟩ := F
  obtain ⟨b2, F⟩ := F
  refine w_icmp_ge (tgt := 47) rfl (by decide) ⟨b1, b2⟩ (fun q3 => ?_) (fun q3 => ?_)
  · replace F := F.1 q3
    refine w_aload_n rfl rfl ?_
    refine c_VV [] [] rfl b_Silence_gatherHeard k_Silence_48 rfl rfl rfl rfl rfl rfl (mwpV_mono (fun h4 F => ?_) F)
    refine w_iconst rfl ?_
    refine w_istore rfl rfl rfl rfl (w_ls (ls2 := [(0, vR 96), (1, vR 1), (2, vI x2), (3, vI x3), (4, vI 0)]) rfl ?_)
    exact F
  · replace F := F.2 q3
    refine w_iload_n rfl rfl ?_
    refine w_aload_n rfl rfl ?_
    refine w_getR rfl f_Silence_42 rfl rfl rfl rfl rfl ?_
    refine w_iload rfl rfl ?_
    obtain ⟨b5, F⟩ := F
    refine w_iaload rfl rfl rfl b5 ?_
    refine w_iload_n rfl rfl ?_
    obtain ⟨G, F⟩ := F
    have J : ∀ (t9 : Int), t9 = cif ((h 2 x4.toNat) ≠ x2) 0 (shl3 1 (h 6 x4.toNat)) → wV (d + 2) m_Silence_measure 39 [(0, vR 96), (1, vR 1), (2, vI x2), (3, vI x3), (4, vI x4)] [vI t9, vI x3] h K := by
      intro t9 et9
      subst et9
      refine w_ior rfl ?_
      refine w_istore_n rfl rfl rfl rfl (w_ls (ls2 := [(0, vR 96), (1, vR 1), (2, vI x2), (3, vI (or3 x3 (cif ((h 2 x4.toNat) ≠ x2) 0 (shl3 1 (h 6 x4.toNat))))), (4, vI x4)]) rfl ?_)
      refine w_iinc rfl rfl rfl rfl rfl (w_ls (ls2 := [(0, vR 96), (1, vR 1), (2, vI x2), (3, vI (or3 x3 (cif ((h 2 x4.toNat) ≠ x2) 0 (shl3 1 (h 6 x4.toNat))))), (4, vI (x4 + 1))]) rfl ?_)
      refine w_goto (tgt := 5) rfl (by decide) ?_
      exact F
    obtain ⟨b6, b7⟩ := G
    refine w_icmp_ne (tgt := 38) rfl (by decide) ⟨b6, b7⟩ (fun q8 => ?_) (fun q8 => ?_)
    · refine w_iconst rfl ?_
      exact J _ (cif_t q8).symm
    · refine w_iconst rfl ?_
      refine w_aload_n rfl rfl ?_
      refine w_getR rfl f_Silence_45 rfl rfl rfl rfl rfl ?_
      refine w_iload rfl rfl ?_
      refine w_iaload rfl rfl rfl b5 ?_
      refine w_ishl rfl ?_
      refine w_goto (tgt := 39) rfl (by decide) ?_
      exact J _ (cif_f q8).symm
theorem s_Silence_measure_54 {d : Nat}  (x2 x3 x4 : Int) (h : St) (K : St → Prop) (F : (inR x4) ∧ (inR (h 1 6)) ∧ (((h 1 6) ≤ x4 → (wV (d + 2) m_Silence_measure 103 [(0, vR 96), (1, vR 1), (2, vI x2), (3, vI x3), (4, vI 1)] [] (up h 102 0 0) K)) ∧ (¬ ((h 1 6) ≤ x4) → (0 ≤ x4 ∧ x4 < 60) ∧ (inR (h 2 x4.toNat)) ∧ (inR x2) ∧ (((h 2 x4.toNat) ≠ x2 → (wV (d + 2) m_Silence_measure 54 [(0, vR 96), (1, vR 1), (2, vI x2), (3, vI x3), (4, vI (x4 + 1))] [] h K)) ∧ (¬ ((h 2 x4.toNat) ≠ x2) → (0 ≤ h 4 x4.toNat ∧ h 4 x4.toNat < 480) ∧ (wV (d + 2) m_Silence_measure 54 [(0, vR 96), (1, vR 1), (2, vI x2), (3, vI x3), (4, vI (x4 + 1))] [] (up h 101 ((h 4 x4.toNat).toNat) 0) K)))))) : wV (d + 2) m_Silence_measure 54 [(0, vR 96), (1, vR 1), (2, vI x2), (3, vI x3), (4, vI x4)] [] h K := by
  refine w_iload rfl rfl ?_
  refine w_aload_n rfl rfl ?_
  refine w_getI rfl f_Silence_37 rfl rfl rfl ?_
  obtain ⟨b1, F⟩ := F
  obtain ⟨b2, F⟩ := F
  refine w_icmp_ge (tgt := 93) rfl (by decide) ⟨b1, b2⟩ (fun q3 => ?_) (fun q3 => ?_)
  · replace F := F.1 q3
    refine w_aload_n rfl rfl ?_
    refine w_getR rfl f_Silence_34 rfl rfl rfl rfl rfl ?_
    refine w_iconst rfl ?_
    refine w_iconst rfl ?_
    refine w_iastore rfl rfl rfl ⟨by decide, by decide⟩ ?_
    refine w_iconst rfl ?_
    refine w_istore rfl rfl rfl rfl (w_ls (ls2 := [(0, vR 96), (1, vR 1), (2, vI x2), (3, vI x3), (4, vI 1)]) rfl ?_)
    exact F
  · replace F := F.2 q3
    refine w_aload_n rfl rfl ?_
    refine w_getR rfl f_Silence_42 rfl rfl rfl rfl rfl ?_
    refine w_iload rfl rfl ?_
    obtain ⟨b4, F⟩ := F
    refine w_iaload rfl rfl rfl b4 ?_
    refine w_iload_n rfl rfl ?_
    obtain ⟨b5, F⟩ := F
    obtain ⟨b6, F⟩ := F
    refine w_icmp_ne (tgt := 87) rfl (by decide) ⟨b5, b6⟩ (fun q7 => ?_) (fun q7 => ?_)
    · replace F := F.1 q7
      refine w_iinc rfl rfl rfl rfl rfl (w_ls (ls2 := [(0, vR 96), (1, vR 1), (2, vI x2), (3, vI x3), (4, vI (x4 + 1))]) rfl ?_)
      refine w_goto (tgt := 54) rfl (by decide) ?_
      exact F
    · replace F := F.2 q7
      refine w_aload_n rfl rfl ?_
      refine w_getR rfl f_Silence_31 rfl rfl rfl rfl rfl ?_
      refine w_aload_n rfl rfl ?_
      refine w_getR rfl f_Silence_51 rfl rfl rfl rfl rfl ?_
      refine w_iload rfl rfl ?_
      refine w_iaload rfl rfl rfl b4 ?_
      refine w_iconst rfl ?_
      obtain ⟨b8, F⟩ := F
      refine w_iastore rfl rfl rfl b8 ?_
      refine w_iinc rfl rfl rfl rfl rfl (w_ls (ls2 := [(0, vR 96), (1, vR 1), (2, vI x2), (3, vI x3), (4, vI (x4 + 1))]) rfl ?_)
      refine w_goto (tgt := 54) rfl (by decide) ?_
      exact F
theorem s_Silence_measure_103 {d : Nat}  (x2 x3 x4 : Int) (h : St) (K : St → Prop) (F : (inR x4) ∧ ((480 ≤ x4 → (K h)) ∧ (¬ (480 ≤ x4) → (((inR x3) ∧ (¬ (x3 = 0) → ((0 ≤ x4 - 1 ∧ x4 - 1 < 480) ∧ (inR (and3 (h 101 ((x4 - 1).toNat)) x3)))))) ∧ (((¬ (x3 = 0) ∧ (¬ ((and3 (h 101 ((x4 - 1).toNat)) x3) ≠ x3)) → ((0 ≤ x4 - 1 ∧ x4 - 1 < 480))))) ∧ (0 ≤ x4 ∧ x4 < 480) ∧ (wV (d + 2) m_Silence_measure 103 [(0, vR 96), (1, vR 1), (2, vI x2), (3, vI x3), (4, vI (x4 + 1))] [] (up h 102 x4.toNat (cif (¬ (x3 = 0) ∧ (¬ ((and3 (h 101 ((x4 - 1).toNat)) x3) ≠ x3))) ((h 102 ((x4 - 1).toNat)) + 1) 0)) K)))) : wV (d + 2) m_Silence_measure 103 [(0, vR 96), (1, vR 1), (2, vI x2), (3, vI x3), (4, vI x4)] [] h K := by
  refine w_iload rfl rfl ?_
  refine w_sipush (by decide) (by decide) rfl ?_
  obtain ⟨b1, F⟩ := F
  refine w_icmp_ge (tgt := 170) rfl (by decide) ⟨b1, (r_lit rfl)⟩ (fun q2 => ?_) (fun q2 => ?_)
  · replace F := F.1 q2
    exact w_vret rfl rfl ⟨rfl, rfl, rfl, F⟩
  · replace F := F.2 q2
    refine w_iload_n rfl rfl ?_
    obtain ⟨G, F⟩ := F
    have J : ∀ (t8 : Int), t8 = b2i (¬ (x3 = 0) ∧ (¬ ((and3 (h 101 ((x4 - 1).toNat)) x3) ≠ x3))) → wV (d + 2) m_Silence_measure 135 [(0, vR 96), (1, vR 1), (2, vI x2), (3, vI x3), (4, vI x4)] [vI t8] h K := by
      intro t8 et8
      subst et8
      refine w_istore rfl rfl rfl rfl (w_ls (ls2 := [(0, vR 96), (1, vR 1), (2, vI x2), (3, vI x3), (4, vI x4), (5, vI (b2i (¬ (x3 = 0) ∧ (¬ ((and3 (h 101 ((x4 - 1).toNat)) x3) ≠ x3)))))]) rfl ?_)
      refine w_aload_n rfl rfl ?_
      refine w_getR rfl f_Silence_34 rfl rfl rfl rfl rfl ?_
      refine w_iload rfl rfl ?_
      refine w_iload rfl rfl ?_
      obtain ⟨G, F⟩ := F
      have J : ∀ (t11 : Int), t11 = cif (¬ (x3 = 0) ∧ (¬ ((and3 (h 101 ((x4 - 1).toNat)) x3) ≠ x3))) ((h 102 ((x4 - 1).toNat)) + 1) 0 → wV (d + 2) m_Silence_measure 163 [(0, vR 96), (1, vR 1), (2, vI x2), (3, vI x3), (4, vI x4), (5, vI (b2i (¬ (x3 = 0) ∧ (¬ ((and3 (h 101 ((x4 - 1).toNat)) x3) ≠ x3)))))] [vI t11, vI x4, vR 102] h K := by
        intro t11 et11
        subst et11
        obtain ⟨b12, F⟩ := F
        refine w_iastore rfl rfl rfl b12 ?_
        refine w_iinc rfl rfl rfl rfl rfl (w_ls (ls2 := [(0, vR 96), (1, vR 1), (2, vI x2), (3, vI x3), (4, vI (x4 + 1)), (5, vI (b2i (¬ (x3 = 0) ∧ (¬ ((and3 (h 101 ((x4 - 1).toNat)) x3) ≠ x3)))))]) rfl ?_)
        refine w_goto (tgt := 103) rfl (by decide) ?_
        exact w_kp [0, 1, 2, 3, 4] F
      have ga_ := G
      refine w_ifeq_b (tgt := 162) rfl (by decide) (fun q9 => ?_) (fun q9 => ?_)
      · refine w_iconst rfl ?_
        exact J _ (cif_f q9).symm
      · have G := ga_ q9
        have b10 := G
        refine w_aload_n rfl rfl ?_
        refine w_getR rfl f_Silence_34 rfl rfl rfl rfl rfl ?_
        refine w_iload rfl rfl ?_
        refine w_iconst rfl ?_
        refine w_isub rfl ?_
        refine w_iaload rfl rfl rfl b10 ?_
        refine w_iconst rfl ?_
        refine w_iadd rfl ?_
        refine w_goto (tgt := 163) rfl (by decide) ?_
        exact J _ (cif_t q9).symm
    obtain ⟨b3, gb_⟩ := G
    refine w_if_eq (tgt := 134) rfl (by decide) b3 (fun q4 => ?_) (fun q4 => ?_)
    · refine w_iconst rfl ?_
      exact J _ (b2i_f (fun z => z.1 q4)).symm
    · have G := gb_ q4
      obtain ⟨b5, b6⟩ := G
      refine w_aload_n rfl rfl ?_
      refine w_getR rfl f_Silence_31 rfl rfl rfl rfl rfl ?_
      refine w_iload rfl rfl ?_
      refine w_iconst rfl ?_
      refine w_isub rfl ?_
      refine w_iaload rfl rfl rfl b5 ?_
      refine w_iload_n rfl rfl ?_
      refine w_iand rfl ?_
      refine w_iload_n rfl rfl ?_
      refine w_icmp_ne (tgt := 134) rfl (by decide) ⟨b6, b3⟩ (fun q7 => ?_) (fun q7 => ?_)
      · refine w_iconst rfl ?_
        exact J _ (b2i_f (fun z => (fun z => z q7) z.2)).symm
      · refine w_iconst rfl ?_
        refine w_goto (tgt := 135) rfl (by decide) ?_
        exact J _ (b2i_t ⟨q4, q7⟩).symm
theorem s_Silence_gatherHeard_0 {d : Nat}  (h : St) (K : St → Prop) (F : (mwpV (d + 1) m_JA_fill [vR 101, vI 0] h (fun h1 => (wV (d + 1) m_Silence_gatherHeard 10 [(0, vR 96), (1, vI 0)] [] h1 K)))) : wV (d + 1) m_Silence_gatherHeard 0 [(0, vR 96)] [] h K := by
  refine w_aload_n rfl rfl ?_
  refine w_getR rfl f_Silence_31 rfl rfl rfl rfl rfl ?_
  refine w_iconst rfl ?_
  refine c_SV [vR 101, vI 0] [] rfl b_JA_fill k_Silence_54 rfl rfl rfl (mwpV_mono (fun h1 F => ?_) F)
  refine w_iconst rfl ?_
  refine w_istore_n rfl rfl rfl rfl (w_ls (ls2 := [(0, vR 96), (1, vI 0)]) rfl ?_)
  exact F
theorem s_Silence_gatherHeard_10 {d : Nat}  (x1 : Int) (h : St) (K : St → Prop) (F : (inR x1) ∧ (inR (h 96 0)) ∧ (((h 96 0) ≤ x1 → (K h)) ∧ (¬ ((h 96 0) ≤ x1) → (0 ≤ x1 ∧ x1 < 20) ∧ (wV (d + 1) m_Silence_gatherHeard 25 [(0, vR 96), (1, vI x1), (2, vI (h 98 x1.toNat))] [] h K)))) : wV (d + 1) m_Silence_gatherHeard 10 [(0, vR 96), (1, vI x1)] [] h K := by
  refine w_iload_n rfl rfl ?_
  refine w_aload_n rfl rfl ?_
  refine w_getI rfl f_Silence_9 rfl rfl rfl ?_
  obtain ⟨b1, F⟩ := F
  obtain ⟨b2, F⟩ := F
  refine w_icmp_ge (tgt := 64) rfl (by decide) ⟨b1, b2⟩ (fun q3 => ?_) (fun q3 => ?_)
  · replace F := F.1 q3
    exact w_vret rfl rfl ⟨rfl, rfl, rfl, F⟩
  · replace F := F.2 q3
    refine w_aload_n rfl rfl ?_
    refine w_getR rfl f_Silence_22 rfl rfl rfl rfl rfl ?_
    refine w_iload_n rfl rfl ?_
    obtain ⟨b4, F⟩ := F
    refine w_iaload rfl rfl rfl b4 ?_
    refine w_istore_n rfl rfl rfl rfl (w_ls (ls2 := [(0, vR 96), (1, vI x1), (2, vI (h 98 x1.toNat))]) rfl ?_)
    exact F
theorem s_Silence_gatherHeard_25 {d : Nat}  (x1 x2 : Int) (h : St) (K : St → Prop) (F : (0 ≤ x1 ∧ x1 < 20) ∧ (inR x2) ∧ (inR (h 99 x1.toNat)) ∧ (((h 99 x1.toNat) < x2 → (wV (d + 1) m_Silence_gatherHeard 10 [(0, vR 96), (1, vI (x1 + 1))] [] h K)) ∧ (¬ ((h 99 x1.toNat) < x2) → (0 ≤ x2 ∧ x2 < 480) ∧ (wV (d + 1) m_Silence_gatherHeard 25 [(0, vR 96), (1, vI x1), (2, vI (x2 + 1))] [] (up h 101 x2.toNat (or3 (h 101 x2.toNat) (shl3 1 (h 97 x1.toNat)))) K)))) : wV (d + 1) m_Silence_gatherHeard 25 [(0, vR 96), (1, vI x1), (2, vI x2)] [] h K := by
  refine w_iload_n rfl rfl ?_
  refine w_aload_n rfl rfl ?_
  refine w_getR rfl f_Silence_25 rfl rfl rfl rfl rfl ?_
  refine w_iload_n rfl rfl ?_
  obtain ⟨b1, F⟩ := F
  refine w_iaload rfl rfl rfl b1 ?_
  obtain ⟨b2, F⟩ := F
  obtain ⟨b3, F⟩ := F
  refine w_icmp_gt (tgt := 58) rfl (by decide) ⟨b2, b3⟩ (fun q4 => ?_) (fun q4 => ?_)
  · replace F := F.1 q4
    refine w_iinc rfl rfl rfl rfl rfl (w_ls (ls2 := [(0, vR 96), (1, vI (x1 + 1)), (2, vI x2)]) rfl ?_)
    refine w_goto (tgt := 10) rfl (by decide) ?_
    exact w_kp [0, 1] F
  · replace F := F.2 q4
    refine w_aload_n rfl rfl ?_
    refine w_getR rfl f_Silence_31 rfl rfl rfl rfl rfl ?_
    refine w_iload_n rfl rfl ?_
    refine w_dup2 rfl rfl rfl ?_
    obtain ⟨b5, F⟩ := F
    refine w_iaload rfl rfl rfl b5 ?_
    refine w_iconst rfl ?_
    refine w_aload_n rfl rfl ?_
    refine w_getR rfl f_Silence_18 rfl rfl rfl rfl rfl ?_
    refine w_iload_n rfl rfl ?_
    refine w_iaload rfl rfl rfl b1 ?_
    refine w_ishl rfl ?_
    refine w_ior rfl ?_
    refine w_iastore rfl rfl rfl b5 ?_
    refine w_iinc rfl rfl rfl rfl rfl (w_ls (ls2 := [(0, vR 96), (1, vI x1), (2, vI (x2 + 1))]) rfl ?_)
    refine w_goto (tgt := 25) rfl (by decide) ?_
    exact F
theorem s_Silence_isSilent_0 {d : Nat}  (x1 x2 : Int) (h : St) (K : Int → St → Prop) (F : (0 ≤ x1 ∧ x1 < 480) ∧ (((inR (h 102 x1.toNat)) ∧ (inR x2))) ∧ (K (b2i (¬ ((h 102 x1.toNat) < x2))) h)) : wI d m_Silence_isSilent 0 [(0, vR 96), (1, vI x1), (2, vI x2)] [] h K := by
  refine w_aload_n rfl rfl ?_
  refine w_getR rfl f_Silence_34 rfl rfl rfl rfl rfl ?_
  refine w_iload_n rfl rfl ?_
  obtain ⟨b1, F⟩ := F
  refine w_iaload rfl rfl rfl b1 ?_
  refine w_iload_n rfl rfl ?_
  obtain ⟨G, F⟩ := F
  have J : ∀ (t5 : Int), t5 = b2i (¬ ((h 102 x1.toNat) < x2)) → wI d m_Silence_isSilent 15 [(0, vR 96), (1, vI x1), (2, vI x2)] [vI t5] h K := by
    intro t5 et5
    subst et5
    exact w_zret rfl rfl b2i_01 ⟨rfl, rfl, _, rfl, F⟩
  obtain ⟨b2, b3⟩ := G
  refine w_icmp_lt (tgt := 14) rfl (by decide) ⟨b2, b3⟩ (fun q4 => ?_) (fun q4 => ?_)
  · refine w_iconst rfl ?_
    exact J _ (b2i_f (fun z => z q4)).symm
  · refine w_iconst rfl ?_
    refine w_goto (tgt := 15) rfl (by decide) ?_
    exact J _ (b2i_t q4).symm
theorem s_C_silent_0 {d : Nat}  (x1 x2 x3 : Int) (h : St) (K : Int → St → Prop) (F : (inR x1) ∧ ((¬ (0 ≤ x1 ∧ x1 ≤ 11) → (K ((-1)) h)) ∧ (0 ≤ x1 ∧ x1 ≤ 11 → (inR x2) ∧ ((¬ (0 ≤ x2 ∧ x2 ≤ 479) → (K ((-1)) h)) ∧ (0 ≤ x2 ∧ x2 ≤ 479 → (inR x3) ∧ ((¬ (1 ≤ x3 ∧ x3 ≤ 48) → (K ((-1)) h)) ∧ (1 ≤ x3 ∧ x3 ≤ 48 → ((x3 ≤ x2 → (mwpV (d + 3) m_Silence_measure [vR 96, vR 1, vI x1] h (fun h8 => (mwpI (d + 3) m_Silence_isSilent [vR 96, vI x2, vI x3] h8 (fun z9 h9 => (((inR z9))) ∧ (K (b2i (¬ (z9 = 0))) h9)))))) ∧ (¬ (x3 ≤ x2) → (K ((-1)) h)))))))))) : wI (d + 3) m_C_silent 0 [(0, vR 0), (1, vI x1), (2, vI x2), (3, vI x3)] [] h K := by
  refine w_iload_n rfl rfl ?_
  obtain ⟨b1, F⟩ := F
  refine c_SI [vI x1] [] rfl b_C_isName k_C_96 rfl rfl rfl (c_C_isName b1 ?_)
  refine w_ifeq_b (tgt := 26) rfl (by decide) (fun q2 => ?_) (fun q2 => ?_)
  · replace F := F.1 q2
    refine w_iconst rfl ?_
    exact w_iret rfl rfl ⟨rfl, rfl, _, rfl, F⟩
  · replace F := F.2 q2
    refine w_iload_n rfl rfl ?_
    obtain ⟨b3, F⟩ := F
    refine c_SI [vI x2] [] rfl b_C_isHour k_C_100 rfl rfl rfl (c_C_isHour b3 ?_)
    refine w_ifeq_b (tgt := 26) rfl (by decide) (fun q4 => ?_) (fun q4 => ?_)
    · replace F := F.1 q4
      refine w_iconst rfl ?_
      exact w_iret rfl rfl ⟨rfl, rfl, _, rfl, F⟩
    · replace F := F.2 q4
      refine w_iload_n rfl rfl ?_
      obtain ⟨b5, F⟩ := F
      refine c_SI [vI x3] [] rfl b_C_isSilence k_C_301 rfl rfl rfl (c_C_isSilence b5 ?_)
      refine w_ifeq_b (tgt := 26) rfl (by decide) (fun q6 => ?_) (fun q6 => ?_)
      · replace F := F.1 q6
        refine w_iconst rfl ?_
        exact w_iret rfl rfl ⟨rfl, rfl, _, rfl, F⟩
      · replace F := F.2 q6
        refine w_iload_n rfl rfl ?_
        refine w_iload_n rfl rfl ?_
        refine w_icmp_ge (tgt := 28) rfl (by decide) ⟨b3, b5⟩ (fun q7 => ?_) (fun q7 => ?_)
        · replace F := F.1 q7
          refine w_aload_n rfl rfl ?_
          refine w_getR rfl f_C_68 rfl rfl rfl rfl rfl ?_
          refine w_aload_n rfl rfl ?_
          refine w_getR rfl f_C_10 rfl rfl rfl rfl rfl ?_
          refine w_iload_n rfl rfl ?_
          refine c_VV [vR 1, vI x1] [] rfl b_Silence_measure k_C_304 rfl rfl rfl rfl rfl rfl (mwpV_mono (fun h8 F => ?_) F)
          refine w_aload_n rfl rfl ?_
          refine w_getR rfl f_C_68 rfl rfl rfl rfl rfl ?_
          refine w_iload_n rfl rfl ?_
          refine w_iload_n rfl rfl ?_
          refine c_VI [vI x2, vI x3] [] rfl b_Silence_isSilent k_C_308 rfl rfl rfl rfl rfl rfl (mwpI_mono (fun z9 h9 F => ?_) F)
          obtain ⟨G, F⟩ := F
          have J : ∀ (t12 : Int), t12 = b2i (¬ (z9 = 0)) → wI (d + 3) m_C_silent 57 [(0, vR 0), (1, vI x1), (2, vI x2), (3, vI x3)] [vI t12] h9 K := by
            intro t12 et12
            subst et12
            exact w_iret rfl rfl ⟨rfl, rfl, _, rfl, F⟩
          have b10 := G
          refine w_if_eq (tgt := 56) rfl (by decide) b10 (fun q11 => ?_) (fun q11 => ?_)
          · refine w_iconst rfl ?_
            exact J _ (b2i_f (fun z => z q11)).symm
          · refine w_iconst rfl ?_
            refine w_goto (tgt := 57) rfl (by decide) ?_
            exact J _ (b2i_t q11).symm
        · replace F := F.2 q7
          refine w_iconst rfl ?_
          exact w_iret rfl rfl ⟨rfl, rfl, _, rfl, F⟩
theorem s_M_isHeard_0 {d : Nat}  (x1 x2 : Int) (h : St) (K : Int → St → Prop) (F : (wI (d + 1) m_M_isHeard 5 [(0, vR 109), (1, vI x1), (2, vI x2), (3, vI 0), (4, vI 0)] [] h K)) : wI (d + 1) m_M_isHeard 0 [(0, vR 109), (1, vI x1), (2, vI x2)] [] h K := by
  refine w_iconst rfl ?_
  refine w_istore_n rfl rfl rfl rfl (w_ls (ls2 := [(0, vR 109), (1, vI x1), (2, vI x2), (3, vI 0)]) rfl ?_)
  refine w_iconst rfl ?_
  refine w_istore rfl rfl rfl rfl (w_ls (ls2 := [(0, vR 109), (1, vI x1), (2, vI x2), (3, vI 0), (4, vI 0)]) rfl ?_)
  exact F
theorem s_M_isHeard_5 {d : Nat}  (x1 x2 x3 x4 : Int) (h : St) (K : Int → St → Prop) (F : (inR x4) ∧ (inR (h 119 0)) ∧ (((h 119 0) ≤ x4 → (x3 = 0 ∨ x3 = 1) ∧ (K x3 h)) ∧ (¬ ((h 119 0) ≤ x4) → (((inR x3) ∧ (¬ (x3 ≠ 0) → ((0 ≤ 3 * x4 ∧ 3 * x4 < 180) ∧ (inR (h 120 ((3 * x4).toNat))) ∧ (inR x1) ∧ (¬ ((h 120 ((3 * x4).toNat)) ≠ x1) → ((inR x2) ∧ (0 ≤ (3 * x4) + 1 ∧ (3 * x4) + 1 < 180) ∧ (inR (h 120 (((3 * x4) + 1).toNat))) ∧ (0 ≤ (3 * x4) + 2 ∧ (3 * x4) + 2 < 180) ∧ (inR (h 120 (((3 * x4) + 2).toNat))))))))) ∧ (wI (d + 1) m_M_isHeard 5 [(0, vR 109), (1, vI x1), (2, vI x2), (3, vI (b2i ((x3 ≠ 0) ∨ (¬ ((h 120 ((3 * x4).toNat)) ≠ x1) ∧ ((h 120 (((3 * x4) + 1).toNat)) ≤ x2 ∧ x2 ≤ (h 120 (((3 * x4) + 2).toNat))))))), (4, vI (x4 + 1))] [] h K)))) : wI (d + 1) m_M_isHeard 5 [(0, vR 109), (1, vI x1), (2, vI x2), (3, vI x3), (4, vI x4)] [] h K := by
  refine w_iload rfl rfl ?_
  refine w_aload_n rfl rfl ?_
  refine w_getR rfl f_M_37 rfl rfl rfl rfl rfl ?_
  refine w_iconst rfl ?_
  refine w_iaload rfl rfl rfl ⟨by decide, by decide⟩ ?_
  obtain ⟨b1, F⟩ := F
  obtain ⟨b2, F⟩ := F
  refine w_icmp_ge (tgt := 77) rfl (by decide) ⟨b1, b2⟩ (fun q3 => ?_) (fun q3 => ?_)
  · replace F := F.1 q3
    refine w_iload_n rfl rfl ?_
    obtain ⟨b4, F⟩ := F
    exact w_zret rfl rfl b4 ⟨rfl, rfl, _, rfl, F⟩
  · replace F := F.2 q3
    refine w_iload_n rfl rfl ?_
    obtain ⟨G, F⟩ := F
    have J : ∀ (t17 : Int), t17 = b2i ((x3 ≠ 0) ∨ (¬ ((h 120 ((3 * x4).toNat)) ≠ x1) ∧ ((h 120 (((3 * x4) + 1).toNat)) ≤ x2 ∧ x2 ≤ (h 120 (((3 * x4) + 2).toNat))))) → wI (d + 1) m_M_isHeard 70 [(0, vR 109), (1, vI x1), (2, vI x2), (3, vI x3), (4, vI x4)] [vI t17] h K := by
      intro t17 et17
      subst et17
      refine w_istore_n rfl rfl rfl rfl (w_ls (ls2 := [(0, vR 109), (1, vI x1), (2, vI x2), (3, vI (b2i ((x3 ≠ 0) ∨ (¬ ((h 120 ((3 * x4).toNat)) ≠ x1) ∧ ((h 120 (((3 * x4) + 1).toNat)) ≤ x2 ∧ x2 ≤ (h 120 (((3 * x4) + 2).toNat))))))), (4, vI x4)]) rfl ?_)
      refine w_iinc rfl rfl rfl rfl rfl (w_ls (ls2 := [(0, vR 109), (1, vI x1), (2, vI x2), (3, vI (b2i ((x3 ≠ 0) ∨ (¬ ((h 120 ((3 * x4).toNat)) ≠ x1) ∧ ((h 120 (((3 * x4) + 1).toNat)) ≤ x2 ∧ x2 ≤ (h 120 (((3 * x4) + 2).toNat))))))), (4, vI (x4 + 1))]) rfl ?_)
      refine w_goto (tgt := 5) rfl (by decide) ?_
      exact F
    obtain ⟨b5, gb_⟩ := G
    refine w_if_ne (tgt := 65) rfl (by decide) b5 (fun q6 => ?_) (fun q6 => ?_)
    · refine w_iconst rfl ?_
      refine w_goto (tgt := 70) rfl (by decide) ?_
      exact J _ (b2i_t (Or.inl q6)).symm
    · have G := gb_ q6
      obtain ⟨b7, b8, b9, gb_⟩ := G
      refine w_aload_n rfl rfl ?_
      refine w_getR rfl f_M_40 rfl rfl rfl rfl rfl ?_
      refine w_iconst rfl ?_
      refine w_iload rfl rfl ?_
      refine w_imul rfl ?_
      refine w_iaload rfl rfl rfl b7 ?_
      refine w_iload_n rfl rfl ?_
      refine w_icmp_ne (tgt := 69) rfl (by decide) ⟨b8, b9⟩ (fun q10 => ?_) (fun q10 => ?_)
      · refine w_iconst rfl ?_
        exact J _ (b2i_f (fun z => z.elim q6 (fun z => z.1 q10))).symm
      · have G := gb_ q10
        obtain ⟨b11, b12, b13, b14, b15⟩ := G
        refine w_iload_n rfl rfl ?_
        refine w_i2l b11 rfl ?_
        refine w_aload_n rfl rfl ?_
        refine w_getR rfl f_M_40 rfl rfl rfl rfl rfl ?_
        refine w_iconst rfl ?_
        refine w_iload rfl rfl ?_
        refine w_imul rfl ?_
        refine w_iconst rfl ?_
        refine w_iadd rfl ?_
        refine w_iaload rfl rfl rfl b12 ?_
        refine w_i2l b13 rfl ?_
        refine w_aload_n rfl rfl ?_
        refine w_getR rfl f_M_40 rfl rfl rfl rfl rfl ?_
        refine w_iconst rfl ?_
        refine w_iload rfl rfl ?_
        refine w_imul rfl ?_
        refine w_iconst rfl ?_
        refine w_iadd rfl ?_
        refine w_iaload rfl rfl rfl b14 ?_
        refine w_i2l b15 rfl ?_
        refine c_SI [vJ x2, vJ (h 120 (((3 * x4) + 1).toNat)), vJ (h 120 (((3 * x4) + 2).toNat))] [] rfl b_M_in k_M_130 rfl rfl rfl (c_M_in (inL_of b11) (inL_of b13) (inL_of b15) ?_)
        refine w_ifeq_b (tgt := 69) rfl (by decide) (fun q16 => ?_) (fun q16 => ?_)
        · refine w_iconst rfl ?_
          exact J _ (b2i_f (fun z => z.elim q6 (fun z => q16 z.2))).symm
        · refine w_iconst rfl ?_
          refine w_goto (tgt := 70) rfl (by decide) ?_
          exact J _ (b2i_t (Or.inr ⟨q10, q16⟩)).symm
theorem s_M_isSilent_0 {d : Nat}  (x1 x2 x3 : Int) (h : St) (K : Int → St → Prop) (F : (wI (d + 2) m_M_isSilent 6 [(0, vR 109), (1, vI x1), (2, vI x2), (3, vI x3), (4, vI 0), (5, vI 0)] [] h K)) : wI (d + 2) m_M_isSilent 0 [(0, vR 109), (1, vI x1), (2, vI x2), (3, vI x3)] [] h K := by
  refine w_iconst rfl ?_
  refine w_istore rfl rfl rfl rfl (w_ls (ls2 := [(0, vR 109), (1, vI x1), (2, vI x2), (3, vI x3), (4, vI 0)]) rfl ?_)
  refine w_iconst rfl ?_
  refine w_istore rfl rfl rfl rfl (w_ls (ls2 := [(0, vR 109), (1, vI x1), (2, vI x2), (3, vI x3), (4, vI 0), (5, vI 0)]) rfl ?_)
  exact F
theorem s_M_isSilent_6 {d : Nat}  (x1 x2 x3 x4 x5 : Int) (h : St) (K : Int → St → Prop) (F : (inR x5) ∧ (inR (h 110 0)) ∧ (((h 110 0) ≤ x5 → (wI (d + 2) m_M_isSilent 77 [(0, vR 109), (1, vI x1), (2, vI x2), (3, vI x3), (4, vI x4), (5, vI (x2 - x3))] [] h K)) ∧ (¬ ((h 110 0) ≤ x5) → (0 ≤ x5 ∧ x5 < 180) ∧ (inR (h 111 x5.toNat)) ∧ (inR x1) ∧ (((h 111 x5.toNat) ≠ x1 → (wI (d + 2) m_M_isSilent 6 [(0, vR 109), (1, vI x1), (2, vI x2), (3, vI x3), (4, vI x4), (5, vI (x5 + 1))] [] h K)) ∧ (¬ ((h 111 x5.toNat) ≠ x1) → (inR (h 113 x5.toNat)) ∧ (inR (x2 - x3)) ∧ (inR (x2 - 1)) ∧ ((¬ ((x2 - x3) ≤ (h 113 x5.toNat) ∧ (h 113 x5.toNat) ≤ (x2 - 1)) → (wI (d + 2) m_M_isSilent 6 [(0, vR 109), (1, vI x1), (2, vI x2), (3, vI x3), (4, vI (or3 x4 (shl3 1 (h 115 x5.toNat)))), (5, vI (x5 + 1))] [] h K)) ∧ ((x2 - x3) ≤ (h 113 x5.toNat) ∧ (h 113 x5.toNat) ≤ (x2 - 1) → (K 0 h)))))))) : wI (d + 2) m_M_isSilent 6 [(0, vR 109), (1, vI x1), (2, vI x2), (3, vI x3), (4, vI x4), (5, vI x5)] [] h K := by
  refine w_iload rfl rfl ?_
  refine w_aload_n rfl rfl ?_
  refine w_getR rfl f_M_7 rfl rfl rfl rfl rfl ?_
  refine w_iconst rfl ?_
  refine w_iaload rfl rfl rfl ⟨by decide, by decide⟩ ?_
  obtain ⟨b1, F⟩ := F
  obtain ⟨b2, F⟩ := F
  refine w_icmp_ge (tgt := 72) rfl (by decide) ⟨b1, b2⟩ (fun q3 => ?_) (fun q3 => ?_)
  · replace F := F.1 q3
    refine w_iload_n rfl rfl ?_
    refine w_iload_n rfl rfl ?_
    refine w_isub rfl ?_
    refine w_istore rfl rfl rfl rfl (w_ls (ls2 := [(0, vR 109), (1, vI x1), (2, vI x2), (3, vI x3), (4, vI x4), (5, vI (x2 - x3))]) rfl ?_)
    exact F
  · replace F := F.2 q3
    refine w_aload_n rfl rfl ?_
    refine w_getR rfl f_M_13 rfl rfl rfl rfl rfl ?_
    refine w_iload rfl rfl ?_
    obtain ⟨b4, F⟩ := F
    refine w_iaload rfl rfl rfl b4 ?_
    refine w_iload_n rfl rfl ?_
    obtain ⟨b5, F⟩ := F
    obtain ⟨b6, F⟩ := F
    refine w_icmp_ne (tgt := 66) rfl (by decide) ⟨b5, b6⟩ (fun q7 => ?_) (fun q7 => ?_)
    · replace F := F.1 q7
      refine w_iinc rfl rfl rfl rfl rfl (w_ls (ls2 := [(0, vR 109), (1, vI x1), (2, vI x2), (3, vI x3), (4, vI x4), (5, vI (x5 + 1))]) rfl ?_)
      refine w_goto (tgt := 6) rfl (by decide) ?_
      exact F
    · replace F := F.2 q7
      refine w_iload rfl rfl ?_
      refine w_iconst rfl ?_
      refine w_aload_n rfl rfl ?_
      refine w_getR rfl f_M_25 rfl rfl rfl rfl rfl ?_
      refine w_iload rfl rfl ?_
      refine w_iaload rfl rfl rfl b4 ?_
      refine w_ishl rfl ?_
      refine w_ior rfl ?_
      refine w_istore rfl rfl rfl rfl (w_ls (ls2 := [(0, vR 109), (1, vI x1), (2, vI x2), (3, vI x3), (4, vI (or3 x4 (shl3 1 (h 115 x5.toNat)))), (5, vI x5)]) rfl ?_)
      refine w_aload_n rfl rfl ?_
      refine w_getR rfl f_M_19 rfl rfl rfl rfl rfl ?_
      refine w_iload rfl rfl ?_
      refine w_iaload rfl rfl rfl b4 ?_
      obtain ⟨b8, F⟩ := F
      refine w_i2l b8 rfl ?_
      refine w_iload_n rfl rfl ?_
      refine w_iload_n rfl rfl ?_
      refine w_isub rfl ?_
      obtain ⟨b9, F⟩ := F
      refine w_i2l b9 rfl ?_
      refine w_iload_n rfl rfl ?_
      refine w_iconst rfl ?_
      refine w_isub rfl ?_
      obtain ⟨b10, F⟩ := F
      refine w_i2l b10 rfl ?_
      refine c_SI [vJ (h 113 x5.toNat), vJ (x2 - x3), vJ (x2 - 1)] [] rfl b_M_in k_M_130 rfl rfl rfl (c_M_in (inL_of b8) (inL_of b9) (inL_of b10) ?_)
      refine w_ifeq_b (tgt := 66) rfl (by decide) (fun q11 => ?_) (fun q11 => ?_)
      · replace F := F.1 q11
        refine w_iinc rfl rfl rfl rfl rfl (w_ls (ls2 := [(0, vR 109), (1, vI x1), (2, vI x2), (3, vI x3), (4, vI (or3 x4 (shl3 1 (h 115 x5.toNat)))), (5, vI (x5 + 1))]) rfl ?_)
        refine w_goto (tgt := 6) rfl (by decide) ?_
        exact F
      · replace F := F.2 q11
        refine w_iconst rfl ?_
        exact w_zret rfl rfl (by decide) ⟨rfl, rfl, _, rfl, F⟩
theorem s_M_isSilent_77 {d : Nat}  (x1 x2 x3 x4 x5 : Int) (h : St) (K : Int → St → Prop) (F : (inR x5) ∧ (inR x2) ∧ ((x2 ≤ x5 → (((inR x4))) ∧ (K (b2i (¬ (x4 = 0))) h)) ∧ (¬ (x2 ≤ x5) → (wI (d + 2) m_M_isSilent 86 [(0, vR 109), (1, vI x1), (2, vI x2), (3, vI x3), (4, vI x4), (5, vI x5), (6, vI 0)] [] h K)))) : wI (d + 2) m_M_isSilent 77 [(0, vR 109), (1, vI x1), (2, vI x2), (3, vI x3), (4, vI x4), (5, vI x5)] [] h K := by
  refine w_iload rfl rfl ?_
  refine w_iload_n rfl rfl ?_
  obtain ⟨b1, F⟩ := F
  obtain ⟨b2, F⟩ := F
  refine w_icmp_ge (tgt := 128) rfl (by decide) ⟨b1, b2⟩ (fun q3 => ?_) (fun q3 => ?_)
  · replace F := F.1 q3
    refine w_iload rfl rfl ?_
    obtain ⟨G, F⟩ := F
    have J : ∀ (t6 : Int), t6 = b2i (¬ (x4 = 0)) → wI (d + 2) m_M_isSilent 138 [(0, vR 109), (1, vI x1), (2, vI x2), (3, vI x3), (4, vI x4), (5, vI x5)] [vI t6] h K := by
      intro t6 et6
      subst et6
      exact w_zret rfl rfl b2i_01 ⟨rfl, rfl, _, rfl, F⟩
    have b4 := G
    refine w_if_eq (tgt := 137) rfl (by decide) b4 (fun q5 => ?_) (fun q5 => ?_)
    · refine w_iconst rfl ?_
      exact J _ (b2i_f (fun z => z q5)).symm
    · refine w_iconst rfl ?_
      refine w_goto (tgt := 138) rfl (by decide) ?_
      exact J _ (b2i_t q5).symm
  · replace F := F.2 q3
    refine w_iconst rfl ?_
    refine w_istore rfl rfl rfl rfl (w_ls (ls2 := [(0, vR 109), (1, vI x1), (2, vI x2), (3, vI x3), (4, vI x4), (5, vI x5), (6, vI 0)]) rfl ?_)
    exact F
theorem s_M_isSilent_86 {d : Nat}  (x1 x2 x3 x4 x5 x6 : Int) (h : St) (K : Int → St → Prop) (F : (inR x6) ∧ ((8 ≤ x6 → (wI (d + 2) m_M_isSilent 77 [(0, vR 109), (1, vI x1), (2, vI x2), (3, vI x3), (4, vI x4), (5, vI (x5 + 1))] [] h K)) ∧ (¬ (8 ≤ x6) → (mwpI (d + 2) m_M_has [vI x4, vI x6] h (fun z3 h3 => (inR z3) ∧ ((z3 = 0 → (wI (d + 2) m_M_isSilent 86 [(0, vR 109), (1, vI x1), (2, vI x2), (3, vI x3), (4, vI x4), (5, vI x5), (6, vI (x6 + 1))] [] h3 K)) ∧ (¬ (z3 = 0) → (mwpI (d + 2) m_M_isHeard [vR 109, vI x6, vI x5] h3 (fun z6 h6 => (inR z6) ∧ ((z6 ≠ 0 → (wI (d + 2) m_M_isSilent 86 [(0, vR 109), (1, vI x1), (2, vI x2), (3, vI x3), (4, vI x4), (5, vI x5), (6, vI (x6 + 1))] [] h6 K)) ∧ (¬ (z6 ≠ 0) → (K 0 h6)))))))))))) : wI (d + 2) m_M_isSilent 86 [(0, vR 109), (1, vI x1), (2, vI x2), (3, vI x3), (4, vI x4), (5, vI x5), (6, vI x6)] [] h K := by
  refine w_iload rfl rfl ?_
  refine w_bipush (by decide) (by decide) rfl ?_
  obtain ⟨b1, F⟩ := F
  refine w_icmp_ge (tgt := 122) rfl (by decide) ⟨b1, (r_lit rfl)⟩ (fun q2 => ?_) (fun q2 => ?_)
  · replace F := F.1 q2
    refine w_iinc rfl rfl rfl rfl rfl (w_ls (ls2 := [(0, vR 109), (1, vI x1), (2, vI x2), (3, vI x3), (4, vI x4), (5, vI (x5 + 1)), (6, vI x6)]) rfl ?_)
    refine w_goto (tgt := 77) rfl (by decide) ?_
    exact w_kp [0, 1, 2, 3, 4, 5] F
  · replace F := F.2 q2
    refine w_iload rfl rfl ?_
    refine w_iload rfl rfl ?_
    refine c_SI [vI x4, vI x6] [] rfl b_M_has k_M_124 rfl rfl rfl (mwpI_mono (fun z3 h3 F => ?_) F)
    obtain ⟨b4, F⟩ := F
    refine w_if_eq (tgt := 116) rfl (by decide) b4 (fun q5 => ?_) (fun q5 => ?_)
    · replace F := F.1 q5
      refine w_iinc rfl rfl rfl rfl rfl (w_ls (ls2 := [(0, vR 109), (1, vI x1), (2, vI x2), (3, vI x3), (4, vI x4), (5, vI x5), (6, vI (x6 + 1))]) rfl ?_)
      refine w_goto (tgt := 86) rfl (by decide) ?_
      exact F
    · replace F := F.2 q5
      refine w_aload_n rfl rfl ?_
      refine w_iload rfl rfl ?_
      refine w_iload rfl rfl ?_
      refine c_VI [vI x6, vI x5] [] rfl b_M_isHeard k_M_298 rfl rfl rfl rfl rfl rfl (mwpI_mono (fun z6 h6 F => ?_) F)
      obtain ⟨b7, F⟩ := F
      refine w_if_ne (tgt := 116) rfl (by decide) b7 (fun q8 => ?_) (fun q8 => ?_)
      · replace F := F.1 q8
        refine w_iinc rfl rfl rfl rfl rfl (w_ls (ls2 := [(0, vR 109), (1, vI x1), (2, vI x2), (3, vI x3), (4, vI x4), (5, vI x5), (6, vI (x6 + 1))]) rfl ?_)
        refine w_goto (tgt := 86) rfl (by decide) ?_
        exact F
      · replace F := F.2 q8
        refine w_iconst rfl ?_
        exact w_zret rfl rfl (by decide) ⟨rfl, rfl, _, rfl, F⟩
theorem s_M_silent_0 {d : Nat}  (x1 x2 x3 : Int) (h : St) (K : Int → St → Prop) (F : (inR x1) ∧ ((¬ (0 ≤ x1 ∧ x1 ≤ 11) → (K ((-1)) h)) ∧ (0 ≤ x1 ∧ x1 ≤ 11 → (inR x2) ∧ ((¬ (0 ≤ x2 ∧ x2 ≤ 479) → (K ((-1)) h)) ∧ (0 ≤ x2 ∧ x2 ≤ 479 → (inR x3) ∧ ((¬ (1 ≤ x3 ∧ x3 ≤ 48) → (K ((-1)) h)) ∧ (1 ≤ x3 ∧ x3 ≤ 48 → ((x3 ≤ x2 → (mwpI (d + 3) m_M_isSilent [vR 109, vI x1, vI x2, vI x3] h (fun z8 h8 => (((inR z8))) ∧ (K (b2i (¬ (z8 = 0))) h8)))) ∧ (¬ (x3 ≤ x2) → (K ((-1)) h)))))))))) : wI (d + 3) m_M_silent 0 [(0, vR 109), (1, vI x1), (2, vI x2), (3, vI x3)] [] h K := by
  refine w_iload_n rfl rfl ?_
  obtain ⟨b1, F⟩ := F
  refine c_SI [vI x1] [] rfl b_M_isName k_M_142 rfl rfl rfl (c_M_isName b1 ?_)
  refine w_ifeq_b (tgt := 31) rfl (by decide) (fun q2 => ?_) (fun q2 => ?_)
  · replace F := F.1 q2
    refine w_iconst rfl ?_
    exact w_iret rfl rfl ⟨rfl, rfl, _, rfl, F⟩
  · replace F := F.2 q2
    refine w_iload_n rfl rfl ?_
    obtain ⟨b3, F⟩ := F
    refine c_SI [vI x2] [] rfl b_M_isHour k_M_145 rfl rfl rfl (c_M_isHour b3 ?_)
    refine w_ifeq_b (tgt := 31) rfl (by decide) (fun q4 => ?_) (fun q4 => ?_)
    · replace F := F.1 q4
      refine w_iconst rfl ?_
      exact w_iret rfl rfl ⟨rfl, rfl, _, rfl, F⟩
    · replace F := F.2 q4
      refine w_iload_n rfl rfl ?_
      obtain ⟨b5, F⟩ := F
      refine w_i2l b5 rfl ?_
      refine w_lconst rfl ?_
      refine w_ldc2 (z := 48) kc_M_160 (by decide) rfl ?_
      refine c_SI [vJ x3, vJ 1, vJ 48] [] rfl b_M_in k_M_130 rfl rfl rfl (c_M_in (inL_of b5) (by decide) (by decide) ?_)
      refine w_ifeq_b (tgt := 31) rfl (by decide) (fun q6 => ?_) (fun q6 => ?_)
      · replace F := F.1 q6
        refine w_iconst rfl ?_
        exact w_iret rfl rfl ⟨rfl, rfl, _, rfl, F⟩
      · replace F := F.2 q6
        refine w_iload_n rfl rfl ?_
        refine w_iload_n rfl rfl ?_
        refine w_icmp_ge (tgt := 33) rfl (by decide) ⟨b3, b5⟩ (fun q7 => ?_) (fun q7 => ?_)
        · replace F := F.1 q7
          refine w_aload_n rfl rfl ?_
          refine w_iload_n rfl rfl ?_
          refine w_iload_n rfl rfl ?_
          refine w_iload_n rfl rfl ?_
          refine c_VI [vI x1, vI x2, vI x3] [] rfl b_M_isSilent k_M_301 rfl rfl rfl rfl rfl rfl (mwpI_mono (fun z8 h8 F => ?_) F)
          obtain ⟨G, F⟩ := F
          have J : ∀ (t11 : Int), t11 = b2i (¬ (z8 = 0)) → wI (d + 3) m_M_silent 48 [(0, vR 109), (1, vI x1), (2, vI x2), (3, vI x3)] [vI t11] h8 K := by
            intro t11 et11
            subst et11
            exact w_iret rfl rfl ⟨rfl, rfl, _, rfl, F⟩
          have b9 := G
          refine w_if_eq (tgt := 47) rfl (by decide) b9 (fun q10 => ?_) (fun q10 => ?_)
          · refine w_iconst rfl ?_
            exact J _ (b2i_f (fun z => z q10)).symm
          · refine w_iconst rfl ?_
            refine w_goto (tgt := 48) rfl (by decide) ?_
            exact J _ (b2i_t q10).symm
        · replace F := F.2 q7
          refine w_iconst rfl ?_
          exact w_iret rfl rfl ⟨rfl, rfl, _, rfl, F⟩
noncomputable def ndA (lg : Nat → Nat → Int) (nm : Int) : Nat → Nat
  | 0 => 0
  | c + 1 => nif (lg 0 c = nm) (ndA lg nm c ||| 2 ^ (lg 4 c).toNat) (ndA lg nm c)
theorem ndA_lt {n : Nat} {lg : Nat → Nat → Int} (vl : VLog n lg) {nm : Int} : ∀ c : Nat, c ≤ n → ndA lg nm c < 256
  | 0, _ => by simp [ndA]
  | c + 1, hc => by
    have ih := ndA_lt vl (nm := nm) c (by omega)
    have q := (vl c (by omega)).2.2.2.2.2.1
    unfold ndA
    by_cases z : lg 0 c = nm
    · rw [nif_t z]
      exact Nat.or_lt_two_pow (n := 8) ih (p2_8 (lg 4 c).toNat (by omega))
    · rw [nif_f z]; exact ih
def hdA (ls : Nat → Nat → Int) (m : Nat) (w hr : Int) : Prop := exA m (fun i => ls 0 i = w ∧ ls 1 i ≤ hr ∧ hr ≤ ls 2 i)
noncomputable def hvA (ls : Nat → Nat → Int) (hr : Int) : Nat → Nat
  | 0 => 0
  | i + 1 => nif (ls 1 i ≤ hr ∧ hr ≤ ls 2 i) (hvA ls hr i ||| 2 ^ (ls 0 i).toNat) (hvA ls hr i)
theorem hvA_lt {m : Nat} {ls : Nat → Nat → Int} (vl : VLs m ls) {hr : Int} : ∀ c : Nat, c ≤ m → hvA ls hr c < 256
  | 0, _ => by simp [hvA]
  | c + 1, hc => by
    have ih := hvA_lt vl (hr := hr) c (by omega)
    have q := (vl c (by omega)).1
    unfold hvA
    by_cases z : ls 1 c ≤ hr ∧ hr ≤ ls 2 c
    · rw [nif_t z]
      exact Nat.or_lt_two_pow (n := 8) ih (p2_8 (ls 0 c).toNat (by omega))
    · rw [nif_f z]; exact ih
theorem hvA_tb {m : Nat} {ls : Nat → Nat → Int} (vl : VLs m ls) {hr : Int} {w : Nat} : ∀ c : Nat, c ≤ m → ((hvA ls hr c).testBit w = true ↔ hdA ls c (w : Int) hr)
  | 0, _ => by
    constructor
    · intro q; simp [hvA] at q
    · intro q; exact absurd q exA_0
  | c + 1, hc => by
    have ih := hvA_tb vl (hr := hr) (w := w) c (by omega)
    have q := (vl c (by omega)).1
    unfold hdA at *
    rw [exA_s, ← ih, show hvA ls hr (c + 1) = nif (ls 1 c ≤ hr ∧ hr ≤ ls 2 c) (hvA ls hr c ||| 2 ^ (ls 0 c).toNat) (hvA ls hr c) from rfl]
    by_cases z : ls 1 c ≤ hr ∧ hr ≤ ls 2 c
    · rw [nif_t z, Nat.testBit_or, Bool.or_eq_true, Nat.testBit_two_pow]
      constructor
      · rintro (a | a)
        · exact Or.inl a
        · exact Or.inr ⟨by have := of_decide_eq_true a; omega, z⟩
      · rintro (a | a)
        · exact Or.inl a
        · exact Or.inr (decide_eq_true (by omega))
    · rw [nif_f z]
      exact ⟨Or.inl, fun a => a.elim id (fun a => absurd a.2 z)⟩
noncomputable def zvA (lg ls : Nat → Nat → Int) (nm : Int) (m : Nat) (hr : Int) (c : Nat) : Nat := nif (exA c (fun c => lg 0 c = nm ∧ lg 2 c = hr)) 0 (hvA ls hr m)
theorem zvA_lt {m : Nat} {lg ls : Nat → Nat → Int} (vl : VLs m ls) {nm hr : Int} {c : Nat} : zvA lg ls nm m hr c < 256 := by
  unfold zvA
  by_cases z : exA c (fun c => lg 0 c = nm ∧ lg 2 c = hr)
  · rw [nif_t z]; omega
  · rw [nif_f z]; exact hvA_lt vl m (Nat.le_refl _)
def qtA (lg ls : Nat → Nat → Int) (nm : Int) (n m : Nat) (hr : Int) : Prop := ndA lg nm n ≠ 0 ∧ zvA lg ls nm m hr n &&& ndA lg nm n = ndA lg nm n
theorem and_sub {a b : Nat} : a &&& b = b ↔ ∀ w, b.testBit w = true → a.testBit w = true := by
  constructor
  · intro q w hw
    rw [← q, Nat.testBit_and, Bool.and_eq_true] at hw
    exact hw.1
  · intro q
    apply Nat.eq_of_testBit_eq
    intro w
    rw [Nat.testBit_and]
    cases e : b.testBit w
    · simp
    · simp [q w e]
theorem tb_8 {a w : Nat} (ha : a < 256) (hw : a.testBit w = true) : w < 8 := by
  by_cases q : w < 8
  · exact q
  · have : 2 ^ 8 ≤ 2 ^ w := Nat.pow_le_pow_right (by omega) (by omega)
    rw [Nat.testBit_lt_two_pow (by omega)] at hw
    exact absurd hw (by decide)
theorem qtA_iff {n m : Nat} {lg ls : Nat → Nat → Int} (vl : VLog n lg) (vs : VLs m ls) {nm hr : Int} : qtA lg ls nm n m hr ↔ ndA lg nm n ≠ 0 ∧ (∀ c, c < n → lg 0 c = nm → lg 2 c ≠ hr) ∧ ∀ w : Nat, w < 8 → (ndA lg nm n).testBit w = true → hdA ls m w hr := by
  unfold qtA
  constructor
  · rintro ⟨q1, q2⟩
    unfold zvA at q2
    by_cases z : exA n (fun c => lg 0 c = nm ∧ lg 2 c = hr)
    · rw [nif_t z, Nat.zero_and] at q2
      exact absurd q2.symm q1
    · rw [nif_f z, and_sub] at q2
      exact ⟨q1, fun c hc e1 e2 => z ⟨c, hc, e1, e2⟩, fun w _ t => (hvA_tb vs m (Nat.le_refl _)).mp (q2 w t)⟩
  · rintro ⟨q1, q2, q3⟩
    refine ⟨q1, ?_⟩
    unfold zvA
    rw [nif_f (fun ⟨c, hc, e1, e2⟩ => q2 c hc e1 e2), and_sub]
    exact fun w t => (hvA_tb vs m (Nat.le_refl _)).mpr (q3 w (tb_8 (ndA_lt vl n (Nat.le_refl _)) t) t)
noncomputable def stA (Q : Int → Prop) : Nat → Int
  | 0 => 0
  | t + 1 => cif (Q (t : Int)) (stA Q t + 1) 0
theorem stA_R {Q : Int → Prop} : ∀ t : Nat, 0 ≤ stA Q t ∧ stA Q t ≤ t
  | 0 => by simp [stA]
  | t + 1 => by
    have ih := stA_R (Q := Q) t
    unfold stA
    by_cases z : Q (t : Int)
    · rw [cif_t z]; omega
    · rw [cif_f z]; omega
theorem stA_iff {Q : Int → Prop} : ∀ t s : Nat, ((s : Int) ≤ stA Q t ↔ (s ≤ t ∧ ∀ x : Nat, t ≤ x + s → x < t → Q (x : Int)))
  | 0, s => by
    constructor
    · intro q; exact ⟨by simp [stA] at q; omega, fun x _ hx => absurd hx (Nat.not_lt_zero x)⟩
    · intro q; simp [stA]; omega
  | t + 1, s => by
    unfold stA
    by_cases z : Q (t : Int)
    · rw [cif_t z]
      cases s with
      | zero =>
        have := (stA_R (Q := Q) t).1
        exact ⟨fun _ => ⟨by omega, fun x h1 h2 => by omega⟩, fun _ => by omega⟩
      | succ s =>
        have ih := stA_iff (Q := Q) t s
        rw [show (((s + 1 : Nat) : Int) ≤ stA Q t + 1) ↔ ((s : Int) ≤ stA Q t) by omega, ih]
        constructor
        · rintro ⟨a, b⟩
          refine ⟨by omega, fun x h1 h2 => ?_⟩
          by_cases e : x = t
          · subst e; exact z
          · exact b x (by omega) (by omega)
        · rintro ⟨a, b⟩
          exact ⟨by omega, fun x h1 h2 => b x (by omega) (by omega)⟩
    · rw [cif_f z]
      constructor
      · intro q; exact ⟨by omega, fun x h1 h2 => by omega⟩
      · rintro ⟨a, b⟩
        by_cases e : s = 0
        · omega
        · exact absurd (b t (by omega) (by omega)) z
theorem C_gh_in {D : Nat} {K : St → Prop} {m : Nat} {ls : Nat → Nat → Int} (vs : VLs m ls) {i : Nat} (hi : i < m) : ∀ (r x : Nat) (h : St), (x : Int) + r = ls 2 i + 1 → ls 1 i ≤ x → CLs h m ls → (∀ y : Nat, y < x → h 101 y = ((hvA ls y (i + 1) : Nat) : Int)) → (∀ y : Nat, x ≤ y → y < 480 → h 101 y = ((hvA ls y i : Nat) : Int)) → (∀ h2, ag (fun c _ => c ≠ 101) h h2 → (∀ y : Nat, y < 480 → h2 101 y = ((hvA ls y (i + 1) : Nat) : Int)) → wV (D + 1) m_Silence_gatherHeard 10 [(0, vR 96), (1, vI ((i : Int) + 1))] [] h2 K) → wV (D + 1) m_Silence_gatherHeard 25 [(0, vR 96), (1, vI (i : Int)), (2, vI (x : Int))] [] h K := by
  obtain ⟨v1, v2, v3, v4⟩ := vs i hi
  intro r
  induction r with
  | zero =>
    intro x h hx hs cs f1 f2 k
    obtain ⟨c0, c1, c2⟩ := cs.2.2 i hi
    have hm := cs.2.1
    refine s_Silence_gatherHeard_25 _ _ h K ?_
    rw [Int.toNat_natCast, c2]
    refine ⟨by omega, ⟨by omega, by omega⟩, ⟨by omega, by omega⟩, fun _ => k h ag_rfl (fun y hy => ?_), fun z => absurd (by omega) z⟩
    by_cases q : y < x
    · exact f1 y q
    · rw [f2 y (by omega) hy]
      show _ = ((nif _ _ _ : Nat) : Int)
      rw [nif_f (by omega)]
  | succ r ih =>
    intro x h hx hs cs f1 f2 k
    obtain ⟨c0, c1, c2⟩ := cs.2.2 i hi
    have hm := cs.2.1
    refine s_Silence_gatherHeard_25 _ _ h K ?_
    rw [Int.toNat_natCast, Int.toNat_natCast, c2, c0, f2 x (by omega) (by omega), show ls 0 i = (((ls 0 i).toNat : Nat) : Int) by omega, shl_1 (by omega), or3_nat (by have := hvA_lt vs (hr := x) i (by omega); omega) (by have := p2_8 (ls 0 i).toNat (by omega); omega)]
    refine ⟨by omega, ⟨by omega, by omega⟩, ⟨by omega, by omega⟩, fun z => by omega, fun _ => ⟨by omega, ?_⟩⟩
    refine ih (x + 1) _ (by omega) (by omega) (CLs_c (ag_up (by omega) ag_rfl) cs) (fun y hy => ?_) (fun y h1 h2 => ?_) (fun h2 g1 g2 => k h2 (ag_trans (ag_up (by omega) ag_rfl) g1) g2)
    · by_cases q : y = x
      · subst q
        rw [up_same]
        show _ = ((nif _ _ _ : Nat) : Int)
        rw [nif_t (by omega)]
      · rw [up_ne (by omega)]; exact f1 y (by omega)
    · rw [up_ne (by omega)]; exact f2 y (by omega) h2
theorem C_gh {D : Nat} {K : St → Prop} {m : Nat} {ls : Nat → Nat → Int} (vs : VLs m ls) : ∀ (r i : Nat) (h : St), i + r = m → CLs h m ls → (∀ y : Nat, y < 480 → h 101 y = ((hvA ls y i : Nat) : Int)) → (∀ h2, ag (fun c _ => c ≠ 101) h h2 → (∀ y : Nat, y < 480 → h2 101 y = ((hvA ls y m : Nat) : Int)) → K h2) → wV (D + 1) m_Silence_gatherHeard 10 [(0, vR 96), (1, vI (i : Int))] [] h K := by
  intro r
  induction r with
  | zero =>
    intro i h hi cs f k
    have hm := cs.2.1
    have h0 := cs.1
    have e : i = m := by omega
    subst e
    exact s_Silence_gatherHeard_10 _ h K ⟨⟨by omega, by omega⟩, ⟨by omega, by omega⟩, fun _ => k h ag_rfl f, fun z => absurd (by omega) z⟩
  | succ r ih =>
    intro i h hi cs f k
    have hm := cs.2.1
    have h0 := cs.1
    have hi2 : i < m := by omega
    obtain ⟨v1, v2, v3, v4⟩ := vs i hi2
    obtain ⟨c0, c1, c2⟩ := cs.2.2 i hi2
    refine s_Silence_gatherHeard_10 _ h K ⟨⟨by omega, by omega⟩, ⟨by omega, by omega⟩, fun z => by omega, fun _ => ⟨by omega, ?_⟩⟩
    rw [Int.toNat_natCast, c1, show ls 1 i = (((ls 1 i).toNat : Nat) : Int) by omega]
    refine C_gh_in vs hi2 (ls 2 i + 1 - ls 1 i).toNat _ h (by omega) (by omega) cs (fun y hy => ?_) (fun y h1 h2 => f y h2) (fun h2 g1 g2 => ih (i + 1) h2 (by omega) (CLs_c (ag_sub (fun c k p => by omega) g1) cs) g2 (fun h3 g3 g4 => k h3 (ag_trans g1 g3) g4))
    rw [f y (by omega)]
    show _ = ((nif _ _ _ : Nat) : Int)
    rw [nif_f (by omega)]
theorem c_Silence_gatherHeard {D : Nat} {h : St} {K : St → Prop} {m : Nat} {ls : Nat → Nat → Int} (cs : CLs h m ls) (vs : VLs m ls) (k : ∀ h2, ag (fun c _ => c ≠ 101) h h2 → (∀ y : Nat, y < 480 → h2 101 y = ((hvA ls y m : Nat) : Int)) → K h2) : mwpV (D + 2) m_Silence_gatherHeard [vR 96] h K := by
  refine mV_intro b_Silence_gatherHeard rfl (s_Silence_gatherHeard_0 (d := D) h K (c_JA_fill (len := 480) rfl (by decide) ?_))
  exact C_gh vs m 0 _ (by omega) (CLs_c (ag_fill (by omega) ag_rfl) cs) (fun y hy => by rw [fillC_in hy]; rfl) (fun h2 g1 g2 => k h2 (ag_trans (ag_fill (by omega) ag_rfl) g1) g2)
theorem C_ms_103 {D : Nat} {K : St → Prop} {lg ls : Nat → Nat → Int} {nm : Int} {n m : Nat} (vl : VLog n lg) (vs : VLs m ls) : ∀ (r t : Nat) (h : St), t + r = 480 → 1 ≤ t → (∀ y : Nat, y < 480 → h 101 y = ((zvA lg ls nm m y n : Nat) : Int)) → (∀ y : Nat, y < t → h 102 y = stA (qtA lg ls nm n m) y) → (∀ h2, ag (fun c _ => c ≠ 102) h h2 → (∀ y : Nat, y < 480 → h2 102 y = stA (qtA lg ls nm n m) y) → K h2) → wV (D + 2) m_Silence_measure 103 [(0, vR 96), (1, vR 1), (2, vI nm), (3, vI ((ndA lg nm n : Nat) : Int)), (4, vI (t : Int))] [] h K := by
  have nb := ndA_lt vl (nm := nm) n (Nat.le_refl _)
  intro r
  induction r with
  | zero =>
    intro t h ht h1 f1 f2 k
    have e : t = 480 := by omega
    subst e
    exact s_Silence_measure_103 _ _ _ h K ⟨⟨by omega, by omega⟩, fun _ => k h ag_rfl f2, fun z => absurd (by omega) z⟩
  | succ r ih =>
    intro t h ht h1 f1 f2 k
    obtain ⟨u, rfl⟩ : ∃ u, t = u + 1 := ⟨t - 1, by omega⟩
    have zb := zvA_lt vs (lg := lg) (nm := nm) (hr := u) (c := n)
    have ab : zvA lg ls nm m u n &&& ndA lg nm n ≤ ndA lg nm n := Nat.and_le_right
    refine s_Silence_measure_103 _ _ _ h K ?_
    rw [show (((u + 1 : Nat) : Int) - 1).toNat = u by omega, f1 u (by omega), f2 u (by omega), and3_nat (by omega) (by omega), show ((u + 1 : Nat) : Int).toNat = u + 1 by omega]
    refine ⟨⟨by omega, by omega⟩, fun z => by omega, fun _ => ⟨⟨⟨by omega, by omega⟩, fun _ => ⟨by omega, ⟨by omega, by omega⟩⟩⟩, fun _ => by omega, by omega, ?_⟩⟩
    have ec : cif (¬ ((ndA lg nm n : Nat) : Int) = 0 ∧ ¬ (((zvA lg ls nm m u n &&& ndA lg nm n : Nat) : Int) ≠ ((ndA lg nm n : Nat) : Int))) (stA (qtA lg ls nm n m) u + 1) 0 = stA (qtA lg ls nm n m) (u + 1) := by
      by_cases q : qtA lg ls nm n m u
      · rw [show stA (qtA lg ls nm n m) (u + 1) = stA (qtA lg ls nm n m) u + 1 from cif_t q]
        exact cif_t (by have q1 := q.1; have q2 := q.2; omega)
      · rw [show stA (qtA lg ls nm n m) (u + 1) = 0 from cif_f q]
        exact cif_f (fun z => q ⟨by omega, by omega⟩)
    rw [ec]
    refine ih (u + 1 + 1) _ (by omega) (by omega) (fun y hy => by rw [up_ne (by omega)]; exact f1 y hy) (fun y hy => ?_) (fun h2 g1 g2 => k h2 (ag_trans (ag_up (by omega) ag_rfl) g1) g2)
    by_cases q : y = u + 1
    · subst q; rw [up_same]
    · rw [up_ne (by omega)]; exact f2 y (by omega)
theorem C_ms_54 {D : Nat} {K : St → Prop} {lg ls : Nat → Nat → Int} {nm : Int} {n m : Nat} (vl : VLog n lg) (vs : VLs m ls) (r1 : inR nm) : ∀ (r c : Nat) (h : St), c + r = n → CLog h n lg → (∀ y : Nat, y < 480 → h 101 y = ((zvA lg ls nm m y c : Nat) : Int)) → (∀ h2, ag (fun c _ => c ≠ 101 ∧ c ≠ 102) h h2 → (∀ y : Nat, y < 480 → h2 102 y = stA (qtA lg ls nm n m) y) → K h2) → wV (D + 2) m_Silence_measure 54 [(0, vR 96), (1, vR 1), (2, vI nm), (3, vI ((ndA lg nm n : Nat) : Int)), (4, vI (c : Int))] [] h K := by
  intro r
  induction r with
  | zero =>
    intro c h hc cl f1 k
    have hn := cl.2.1
    have h8 := cl.1
    have e : c = n := by omega
    subst e
    refine s_Silence_measure_54 _ _ _ h K ⟨⟨by omega, by omega⟩, ⟨by omega, by omega⟩, fun _ => ?_, fun z => absurd (by omega) z⟩
    refine C_ms_103 vl vs 479 1 _ (by omega) (by omega) (fun y hy => by rw [up_ne (by omega)]; exact f1 y hy) (fun y hy => ?_) (fun h2 g1 g2 => k h2 (ag_trans (ag_up (by omega) ag_rfl) (ag_sub (fun c k p => by omega) g1)) g2)
    have e : y = 0 := by omega
    subst e
    rw [up_same]; rfl
  | succ r ih =>
    intro c h hc cl f1 k
    have hn := cl.2.1
    have h8 := cl.1
    have hc2 : c < n := by omega
    obtain ⟨a0, a1, a2, a3, a4, a5⟩ := CLog_at cl hc2
    have q1 := vl c hc2
    refine s_Silence_measure_54 _ _ _ h K ?_
    rw [Int.toNat_natCast, a0, a2]
    refine ⟨⟨by omega, by omega⟩, ⟨by omega, by omega⟩, fun z => by omega, fun _ => ⟨by omega, ⟨by omega, by omega⟩, r1, fun z => ?_, fun z => ⟨by omega, ?_⟩⟩⟩
    · refine ih (c + 1) h (by omega) cl (fun y hy => ?_) k
      rw [f1 y hy]
      unfold zvA
      by_cases q : exA c (fun c => lg 0 c = nm ∧ lg 2 c = y)
      · rw [nif_t q, nif_t (exA_s.mpr (Or.inl q))]
      · rw [nif_f q, nif_f (fun q2 => (exA_s.mp q2).elim q (fun q3 => z q3.1))]
    · refine ih (c + 1) _ (by omega) (CLog_c (ag_up (by omega) ag_rfl) cl) (fun y hy => ?_) (fun h2 g1 g2 => k h2 (ag_trans (ag_up (by omega) ag_rfl) g1) g2)
      by_cases q : y = (lg 2 c).toNat
      · subst q
        rw [up_same]
        unfold zvA
        rw [nif_t (exA_s.mpr (Or.inr ⟨by omega, by omega⟩))]
        rfl
      · rw [up_ne (by omega), f1 y hy]
        unfold zvA
        by_cases q2 : exA c (fun c => lg 0 c = nm ∧ lg 2 c = y)
        · rw [nif_t q2, nif_t (exA_s.mpr (Or.inl q2))]
        · rw [nif_f q2, nif_f (fun q3 => (exA_s.mp q3).elim q2 (fun q4 => q (by have := q4.2; omega)))]
theorem c_Silence_measure {D : Nat} {K : St → Prop} {lg ls : Nat → Nat → Int} {nm : Int} {n m : Nat} {h : St} (cl : CLog h n lg) (cs : CLs h m ls) (vl : VLog n lg) (vs : VLs m ls) (r1 : inR nm) (k : ∀ h2, ag (fun c _ => c ≠ 101 ∧ c ≠ 102) h h2 → (∀ y : Nat, y < 480 → h2 102 y = stA (qtA lg ls nm n m) y) → K h2) : mwpV (D + 3) m_Silence_measure [vR 96, vR 1, vI nm] h K := by
  have hn := cl.2.1
  have h8 := cl.1
  have lp : ∀ (r c : Nat), c + r = n → wV (D + 2) m_Silence_measure 5 [(0, vR 96), (1, vR 1), (2, vI nm), (3, vI ((ndA lg nm c : Nat) : Int)), (4, vI (c : Int))] [] h K := by
    intro r
    induction r with
    | zero =>
      intro c hc
      have e : c = n := by omega
      subst e
      refine s_Silence_measure_5 _ _ _ h K ⟨⟨by omega, by omega⟩, ⟨by omega, by omega⟩, fun _ => c_Silence_gatherHeard cs vs (fun h2 g1 g2 => ?_), fun z => absurd (by omega) z⟩
      refine C_ms_54 vl vs r1 c 0 h2 (by omega) (CLog_c (ag_sub (fun c k p => by omega) g1) cl) (fun y hy => ?_) (fun h3 g3 g4 => k h3 (ag_trans (ag_sub (fun c k p => by omega) g1) g3) g4)
      rw [g2 y hy]
      unfold zvA
      rw [nif_f exA_0]
    | succ r ih =>
      intro c hc
      have hc2 : c < n := by omega
      obtain ⟨a0, a1, a2, a3, a4, a5⟩ := CLog_at cl hc2
      have q1 := vl c hc2
      have nb := ndA_lt vl (nm := nm) c (by omega)
      refine s_Silence_measure_5 _ _ _ h K ?_
      rw [Int.toNat_natCast, a0, a4]
      refine ⟨⟨by omega, by omega⟩, ⟨by omega, by omega⟩, fun z => by omega, fun _ => ⟨by omega, ⟨⟨by omega, by omega⟩, r1⟩, ?_⟩⟩
      have eo : or3 ((ndA lg nm c : Nat) : Int) (cif (lg 0 c ≠ nm) 0 (shl3 1 (lg 4 c))) = ((ndA lg nm (c + 1) : Nat) : Int) := by
        by_cases q : lg 0 c = nm
        · rw [cif_f (fun z => z q), show ndA lg nm (c + 1) = (ndA lg nm c ||| 2 ^ (lg 4 c).toNat) from nif_t q, show lg 4 c = (((lg 4 c).toNat : Nat) : Int) by omega, shl_1 (by omega), or3_nat (by omega) (by have := p2_8 (lg 4 c).toNat (by omega); omega), Int.toNat_natCast]
        · rw [cif_t q, show ndA lg nm (c + 1) = ndA lg nm c from nif_f q]
          have := or3_nat (a := ndA lg nm c) (b := 0) (by omega) (by omega)
          rw [Nat.or_zero] at this
          exact this
      rw [eo]
      exact ih (c + 1) (by omega)
  exact mV_intro b_Silence_measure rfl (s_Silence_measure_0 (d := D) _ h K (lp n 0 (by omega)))
theorem c_Silence_isSilent {D : Nat} {K : Int → St → Prop} {h : St} {Q : Int → Prop} {t s : Nat} (f : ∀ y : Nat, y < 480 → h 102 y = stA Q y) (ht : t < 480) (hs : s < 480) (k : K (b2i ((s : Int) ≤ stA Q t)) h) : mwpI (D + 1) m_Silence_isSilent [vR 96, vI t, vI s] h K := by
  have q := stA_R (Q := Q) t
  refine mI_intro b_Silence_isSilent rfl (s_Silence_isSilent_0 (d := D) _ _ h K ?_)
  rw [Int.toNat_natCast, f t ht]
  refine ⟨by omega, ⟨⟨by omega, by omega⟩, ⟨by omega, by omega⟩⟩, ?_⟩
  rw [b2i_congr (q := (s : Int) ≤ stA Q t) (by omega)]
  exact k
theorem c_M_isHeard {D : Nat} {K : Int → St → Prop} {h : St} {m : Nat} {ls : Nat → Nat → Int} (ms : MLs h m ls) (vs : VLs m ls) {w hr : Int} (rw_ : inR w) (rh : inR hr) (k : K (b2i (hdA ls m w hr)) h) : mwpI (D + 2) m_M_isHeard [vR 109, vI w, vI hr] h K := by
  have hm := ms.2.1
  have h0 := ms.1
  have lp : ∀ (r i : Nat), i + r = m → wI (D + 1) m_M_isHeard 5 [(0, vR 109), (1, vI w), (2, vI hr), (3, vI (b2i (hdA ls i w hr))), (4, vI (i : Int))] [] h K := by
    intro r
    induction r with
    | zero =>
      intro i hi
      have e : i = m := by omega
      subst e
      exact s_M_isHeard_5 _ _ _ _ h K ⟨⟨by omega, by omega⟩, ⟨by omega, by omega⟩, fun _ => ⟨b2i_01, k⟩, fun z => absurd (by omega) z⟩
    | succ r ih =>
      intro i hi
      have hi2 : i < m := by omega
      obtain ⟨v1, v2, v3, v4⟩ := vs i hi2
      obtain ⟨c0, c1, c2⟩ := ms.2.2 i hi2
      refine s_M_isHeard_5 _ _ _ _ h K ?_
      rw [show (3 * (i : Int)).toNat = 3 * i by omega, show (3 * (i : Int) + 1).toNat = 3 * i + 1 by omega, show (3 * (i : Int) + 2).toNat = 3 * i + 2 by omega, c0, c1, c2]
      refine ⟨⟨by omega, by omega⟩, ⟨by omega, by omega⟩, fun z => by omega, fun _ => ⟨⟨b2i_R, fun _ => ⟨by omega, ⟨by omega, by omega⟩, rw_, fun _ => ⟨rh, by omega, ⟨by omega, by omega⟩, by omega, ⟨by omega, by omega⟩⟩⟩⟩, ?_⟩⟩
      have e : b2i (b2i (hdA ls i w hr) ≠ 0 ∨ ¬ ls 0 i ≠ w ∧ ls 1 i ≤ hr ∧ hr ≤ ls 2 i) = b2i (hdA ls (i + 1) w hr) := b2i_congr (by
        rw [b2i_ne0, Classical.not_not]
        exact exA_s.symm)
      rw [e]
      exact ih (i + 1) (by omega)
  have q := lp m 0 (by omega)
  rw [b2i_f (p := hdA ls 0 w hr) exA_0] at q
  exact mI_intro b_M_isHeard rfl (s_M_isHeard_0 (d := D) _ _ h K q)
