theorem s_C_take_0 {d : Nat}  (h : St) (K : Int → St → Prop) (F : (mwpI (d + 5) m_Book_read [vR 8] h (fun z1 h1 => (inR z1) ∧ ((z1 = ((-4)) → (mwpI (d + 5) m_Book_adopt [vR 8] h1 (fun z4 h4 => (K z4 h4)))) ∧ (¬ (z1 = ((-4))) → (K ((-2)) h1)))))) : wI (d + 5) m_C_take 0 [(0, vR 0)] [] h K := by
  refine w_aload_n rfl rfl ?_
  refine w_getR rfl f_C_19 rfl rfl rfl rfl rfl ?_
  refine c_VI [] [] rfl b_Book_read k_C_124 rfl rfl rfl rfl rfl rfl (mwpI_mono (fun z1 h1 F => ?_) F)
  refine w_bipush (by decide) (by decide) rfl ?_
  obtain ⟨b2, F⟩ := F
  refine w_icmp_eq (tgt := 15) rfl (by decide) ⟨b2, (r_lit rfl)⟩ (fun q3 => ?_) (fun q3 => ?_)
  · replace F := F.1 q3
    refine w_aload_n rfl rfl ?_
    refine w_getR rfl f_C_19 rfl rfl rfl rfl rfl ?_
    refine c_VI [] [] rfl b_Book_adopt k_C_128 rfl rfl rfl rfl rfl rfl (mwpI_mono (fun z4 h4 F => ?_) F)
    exact w_iret rfl rfl ⟨rfl, rfl, _, rfl, F⟩
  · replace F := F.2 q3
    refine w_bipush (by decide) (by decide) rfl ?_
    exact w_iret rfl rfl ⟨rfl, rfl, _, rfl, F⟩
theorem s_M_take_0 {d : Nat}  (h : St) (K : Int → St → Prop) (F : (mwpI (d + 5) m_M_fault [vR 109] h (fun z1 h1 => (inR z1) ∧ ((z1 = ((-4)) → (wI (d + 5) m_M_take 22 [(0, vR 109), (1, vI 0)] [] (up h1 109 20 (h1 109 22)) K)) ∧ (¬ (z1 = ((-4))) → (K ((-2)) h1)))))) : wI (d + 5) m_M_take 0 [(0, vR 109)] [] h K := by
  refine w_aload_n rfl rfl ?_
  refine c_VI [] [] rfl b_M_fault k_M_180 rfl rfl rfl rfl rfl rfl (mwpI_mono (fun z1 h1 F => ?_) F)
  refine w_bipush (by decide) (by decide) rfl ?_
  obtain ⟨b2, F⟩ := F
  refine w_icmp_eq (tgt := 12) rfl (by decide) ⟨b2, (r_lit rfl)⟩ (fun q3 => ?_) (fun q3 => ?_)
  · replace F := F.1 q3
    refine w_aload_n rfl rfl ?_
    refine w_aload_n rfl rfl ?_
    refine w_getI rfl f_M_173 rfl rfl rfl ?_
    refine w_putI rfl f_M_183 fw_12_20 rfl rfl rfl ?_
    refine w_iconst rfl ?_
    refine w_istore_n rfl rfl rfl rfl (w_ls (ls2 := [(0, vR 109), (1, vI 0)]) rfl ?_)
    exact F
  · replace F := F.2 q3
    refine w_bipush (by decide) (by decide) rfl ?_
    exact w_iret rfl rfl ⟨rfl, rfl, _, rfl, F⟩
theorem s_M_take_22 {d : Nat}  (x1 : Int) (h : St) (K : Int → St → Prop) (F : (inR x1) ∧ ((12 ≤ x1 → (K (h 109 20) h)) ∧ (¬ (12 ≤ x1) → (wI (d + 5) m_M_take 33 [(0, vR 109), (1, vI x1), (2, vI ((-4))), (3, vI 0)] [] h K)))) : wI (d + 5) m_M_take 22 [(0, vR 109), (1, vI x1)] [] h K := by
  refine w_iload_n rfl rfl ?_
  refine w_bipush (by decide) (by decide) rfl ?_
  obtain ⟨b1, F⟩ := F
  refine w_icmp_ge (tgt := 133) rfl (by decide) ⟨b1, (r_lit rfl)⟩ (fun q2 => ?_) (fun q2 => ?_)
  · replace F := F.1 q2
    refine w_aload_n rfl rfl ?_
    refine w_getI rfl f_M_183 rfl rfl rfl ?_
    exact w_iret rfl rfl ⟨rfl, rfl, _, rfl, F⟩
  · replace F := F.2 q2
    refine w_bipush (by decide) (by decide) rfl ?_
    refine w_istore_n rfl rfl rfl rfl (w_ls (ls2 := [(0, vR 109), (1, vI x1), (2, vI ((-4)))]) rfl ?_)
    refine w_iconst rfl ?_
    refine w_istore_n rfl rfl rfl rfl (w_ls (ls2 := [(0, vR 109), (1, vI x1), (2, vI ((-4))), (3, vI 0)]) rfl ?_)
    exact F
theorem s_M_take_33 {d : Nat}  (x1 x2 x3 : Int) (h : St) (K : Int → St → Prop) (F : (inR x3) ∧ (inR (h 109 20)) ∧ (((h 109 20) ≤ x3 → (0 ≤ x1 ∧ x1 < 240) ∧ (wI (d + 5) m_M_take 88 [(0, vR 109), (1, vI x1), (2, vI x2), (3, vI 1)] [] (up h 126 x1.toNat x2) K)) ∧ (¬ ((h 109 20) ≤ x3) → (0 ≤ x3 ∧ x3 < 50) ∧ (((inR (h 127 x3.toNat)) ∧ (¬ ((h 127 x3.toNat) ≠ 112) → ((inR (h 128 x3.toNat)) ∧ (inR x1))))) ∧ (wI (d + 5) m_M_take 33 [(0, vR 109), (1, vI x1), (2, vI (cif ((h 127 x3.toNat) ≠ 112) x2 (cif ((h 128 x3.toNat) ≠ x1) x2 (h 129 x3.toNat)))), (3, vI (x3 + 1))] [] h K)))) : wI (d + 5) m_M_take 33 [(0, vR 109), (1, vI x1), (2, vI x2), (3, vI x3)] [] h K := by
  refine w_iload_n rfl rfl ?_
  refine w_aload_n rfl rfl ?_
  refine w_getI rfl f_M_183 rfl rfl rfl ?_
  obtain ⟨b1, F⟩ := F
  obtain ⟨b2, F⟩ := F
  refine w_icmp_ge (tgt := 79) rfl (by decide) ⟨b1, b2⟩ (fun q3 => ?_) (fun q3 => ?_)
  · replace F := F.1 q3
    refine w_aload_n rfl rfl ?_
    refine w_getR rfl f_M_66 rfl rfl rfl rfl rfl ?_
    refine w_iload_n rfl rfl ?_
    refine w_iload_n rfl rfl ?_
    obtain ⟨b4, F⟩ := F
    refine w_iastore rfl rfl rfl b4 ?_
    refine w_iconst rfl ?_
    refine w_istore_n rfl rfl rfl rfl (w_ls (ls2 := [(0, vR 109), (1, vI x1), (2, vI x2), (3, vI 1)]) rfl ?_)
    exact F
  · replace F := F.2 q3
    refine w_aload_n rfl rfl ?_
    refine w_getR rfl f_M_69 rfl rfl rfl rfl rfl ?_
    refine w_iload_n rfl rfl ?_
    obtain ⟨b5, F⟩ := F
    refine w_iaload rfl rfl rfl b5 ?_
    refine w_bipush (by decide) (by decide) rfl ?_
    obtain ⟨G, F⟩ := F
    have J : ∀ (t11 : Int), t11 = cif ((h 127 x3.toNat) ≠ 112) x2 (cif ((h 128 x3.toNat) ≠ x1) x2 (h 129 x3.toNat)) → wI (d + 5) m_M_take 72 [(0, vR 109), (1, vI x1), (2, vI x2), (3, vI x3)] [vI t11] h K := by
      intro t11 et11
      subst et11
      refine w_istore_n rfl rfl rfl rfl (w_ls (ls2 := [(0, vR 109), (1, vI x1), (2, vI (cif ((h 127 x3.toNat) ≠ 112) x2 (cif ((h 128 x3.toNat) ≠ x1) x2 (h 129 x3.toNat)))), (3, vI x3)]) rfl ?_)
      refine w_iinc rfl rfl rfl rfl rfl (w_ls (ls2 := [(0, vR 109), (1, vI x1), (2, vI (cif ((h 127 x3.toNat) ≠ 112) x2 (cif ((h 128 x3.toNat) ≠ x1) x2 (h 129 x3.toNat)))), (3, vI (x3 + 1))]) rfl ?_)
      refine w_goto (tgt := 33) rfl (by decide) ?_
      exact F
    obtain ⟨b6, gb_⟩ := G
    refine w_icmp_ne (tgt := 71) rfl (by decide) ⟨b6, (r_lit rfl)⟩ (fun q7 => ?_) (fun q7 => ?_)
    · refine w_iload_n rfl rfl ?_
      exact J _ (cif_t q7).symm
    · have G := gb_ q7
      obtain ⟨b8, b9⟩ := G
      refine w_aload_n rfl rfl ?_
      refine w_getR rfl f_M_72 rfl rfl rfl rfl rfl ?_
      refine w_iload_n rfl rfl ?_
      refine w_iaload rfl rfl rfl b5 ?_
      refine w_iload_n rfl rfl ?_
      refine w_icmp_ne (tgt := 71) rfl (by decide) ⟨b8, b9⟩ (fun q10 => ?_) (fun q10 => ?_)
      · refine w_iload_n rfl rfl ?_
        exact J _ ((cif_f q7).trans (cif_t q10)).symm
      · refine w_aload_n rfl rfl ?_
        refine w_getR rfl f_M_75 rfl rfl rfl rfl rfl ?_
        refine w_iload_n rfl rfl ?_
        refine w_iaload rfl rfl rfl b5 ?_
        refine w_goto (tgt := 72) rfl (by decide) ?_
        exact J _ ((cif_f q7).trans (cif_f q10)).symm
theorem s_M_take_88 {d : Nat}  (x1 x2 x3 : Int) (h : St) (K : Int → St → Prop) (F : (inR x3) ∧ ((20 ≤ x3 → (wI (d + 5) m_M_take 22 [(0, vR 109), (1, vI (x1 + 1))] [] h K)) ∧ (¬ (20 ≤ x3) → (inR x2) ∧ ((0 ≤ x2 → (mwpI (d + 5) m_M_behind [vR 109, vI x2, vI x3] h (fun z5 h5 => (0 ≤ (12 * x3) + x1 ∧ (12 * x3) + x1 < 240) ∧ (wI (d + 5) m_M_take 88 [(0, vR 109), (1, vI x1), (2, vI z5), (3, vI (x3 + 1))] [] (up h5 126 (((12 * x3) + x1).toNat) z5) K)))) ∧ (¬ (0 ≤ x2) → (0 ≤ (12 * x3) + x1 ∧ (12 * x3) + x1 < 240) ∧ (wI (d + 5) m_M_take 88 [(0, vR 109), (1, vI x1), (2, vI x2), (3, vI (x3 + 1))] [] (up h 126 (((12 * x3) + x1).toNat) x2) K)))))) : wI (d + 5) m_M_take 88 [(0, vR 109), (1, vI x1), (2, vI x2), (3, vI x3)] [] h K := by
  refine w_iload_n rfl rfl ?_
  refine w_bipush (by decide) (by decide) rfl ?_
  obtain ⟨b1, F⟩ := F
  refine w_icmp_ge (tgt := 127) rfl (by decide) ⟨b1, (r_lit rfl)⟩ (fun q2 => ?_) (fun q2 => ?_)
  · replace F := F.1 q2
    refine w_iinc rfl rfl rfl rfl rfl (w_ls (ls2 := [(0, vR 109), (1, vI (x1 + 1)), (2, vI x2), (3, vI x3)]) rfl ?_)
    refine w_goto (tgt := 22) rfl (by decide) ?_
    exact w_kp [0, 1] F
  · replace F := F.2 q2
    refine w_iload_n rfl rfl ?_
    obtain ⟨b3, F⟩ := F
    refine w_if_ge (tgt := 102) rfl (by decide) b3 (fun q4 => ?_) (fun q4 => ?_)
    · replace F := F.1 q4
      refine w_aload_n rfl rfl ?_
      refine w_iload_n rfl rfl ?_
      refine w_iload_n rfl rfl ?_
      refine c_VI [vI x2, vI x3] [] rfl b_M_behind k_M_186 rfl rfl rfl rfl rfl rfl (mwpI_mono (fun z5 h5 F => ?_) F)
      refine w_istore_n rfl rfl rfl rfl (w_ls (ls2 := [(0, vR 109), (1, vI x1), (2, vI z5), (3, vI x3)]) rfl ?_)
      refine w_aload_n rfl rfl ?_
      refine w_getR rfl f_M_66 rfl rfl rfl rfl rfl ?_
      refine w_bipush (by decide) (by decide) rfl ?_
      refine w_iload_n rfl rfl ?_
      refine w_imul rfl ?_
      refine w_iload_n rfl rfl ?_
      refine w_iadd rfl ?_
      refine w_iload_n rfl rfl ?_
      obtain ⟨b6, F⟩ := F
      refine w_iastore rfl rfl rfl b6 ?_
      refine w_iinc rfl rfl rfl rfl rfl (w_ls (ls2 := [(0, vR 109), (1, vI x1), (2, vI z5), (3, vI (x3 + 1))]) rfl ?_)
      refine w_goto (tgt := 88) rfl (by decide) ?_
      exact F
    · replace F := F.2 q4
      refine w_iload_n rfl rfl ?_
      refine w_goto (tgt := 108) rfl (by decide) ?_
      refine w_istore_n rfl rfl rfl rfl (w_ls (ls2 := [(0, vR 109), (1, vI x1), (2, vI x2), (3, vI x3)]) rfl ?_)
      refine w_aload_n rfl rfl ?_
      refine w_getR rfl f_M_66 rfl rfl rfl rfl rfl ?_
      refine w_bipush (by decide) (by decide) rfl ?_
      refine w_iload_n rfl rfl ?_
      refine w_imul rfl ?_
      refine w_iload_n rfl rfl ?_
      refine w_iadd rfl ?_
      refine w_iload_n rfl rfl ?_
      obtain ⟨b7, F⟩ := F
      refine w_iastore rfl rfl rfl b7 ?_
      refine w_iinc rfl rfl rfl rfl rfl (w_ls (ls2 := [(0, vR 109), (1, vI x1), (2, vI x2), (3, vI (x3 + 1))]) rfl ?_)
      refine w_goto (tgt := 88) rfl (by decide) ?_
      exact F
theorem s_M_behind_0 {d : Nat}  (x1 x2 : Int) (h : St) (K : Int → St → Prop) (F : (wI d m_M_behind 5 [(0, vR 109), (1, vI x1), (2, vI x2), (3, vI 0), (4, vI 0)] [] h K)) : wI d m_M_behind 0 [(0, vR 109), (1, vI x1), (2, vI x2)] [] h K := by
  refine w_iconst rfl ?_
  refine w_istore_n rfl rfl rfl rfl (w_ls (ls2 := [(0, vR 109), (1, vI x1), (2, vI x2), (3, vI 0)]) rfl ?_)
  refine w_iconst rfl ?_
  refine w_istore rfl rfl rfl rfl (w_ls (ls2 := [(0, vR 109), (1, vI x1), (2, vI x2), (3, vI 0), (4, vI 0)]) rfl ?_)
  exact F
theorem s_M_behind_5 {d : Nat}  (x1 x2 x3 x4 : Int) (h : St) (K : Int → St → Prop) (F : (inR x4) ∧ (inR (h 109 20)) ∧ (((h 109 20) ≤ x4 → (inR (x1 + x3)) ∧ (wI d m_M_behind 66 [(0, vR 109), (1, vI x1), (2, vI x2), (3, vI x3), (4, vI ((x1 + x3).tmod 12)), (5, vI 0)] [] h K)) ∧ (¬ ((h 109 20) ≤ x4) → (0 ≤ x4 ∧ x4 < 50) ∧ (((inR (h 127 x4.toNat)) ∧ (¬ ((h 127 x4.toNat) ≠ 107) → ((inR (h 129 x4.toNat)) ∧ (inR x2))))) ∧ (wI d m_M_behind 5 [(0, vR 109), (1, vI x1), (2, vI x2), (3, vI (cif ((h 127 x4.toNat) ≠ 107) x3 (cif (x2 < (h 129 x4.toNat)) x3 (h 128 x4.toNat)))), (4, vI (x4 + 1))] [] h K)))) : wI d m_M_behind 5 [(0, vR 109), (1, vI x1), (2, vI x2), (3, vI x3), (4, vI x4)] [] h K := by
  refine w_iload rfl rfl ?_
  refine w_aload_n rfl rfl ?_
  refine w_getI rfl f_M_183 rfl rfl rfl ?_
  obtain ⟨b1, F⟩ := F
  obtain ⟨b2, F⟩ := F
  refine w_icmp_ge (tgt := 55) rfl (by decide) ⟨b1, b2⟩ (fun q3 => ?_) (fun q3 => ?_)
  · replace F := F.1 q3
    refine w_iload_n rfl rfl ?_
    refine w_iload_n rfl rfl ?_
    refine w_iadd rfl ?_
    refine w_bipush (by decide) (by decide) rfl ?_
    obtain ⟨b4, F⟩ := F
    refine w_irem ⟨b4, (r_lit rfl), (by decide)⟩ rfl ?_
    refine w_istore rfl rfl rfl rfl (w_ls (ls2 := [(0, vR 109), (1, vI x1), (2, vI x2), (3, vI x3), (4, vI ((x1 + x3).tmod 12))]) rfl ?_)
    refine w_iconst rfl ?_
    refine w_istore rfl rfl rfl rfl (w_ls (ls2 := [(0, vR 109), (1, vI x1), (2, vI x2), (3, vI x3), (4, vI ((x1 + x3).tmod 12)), (5, vI 0)]) rfl ?_)
    exact F
  · replace F := F.2 q3
    refine w_aload_n rfl rfl ?_
    refine w_getR rfl f_M_69 rfl rfl rfl rfl rfl ?_
    refine w_iload rfl rfl ?_
    obtain ⟨b5, F⟩ := F
    refine w_iaload rfl rfl rfl b5 ?_
    refine w_bipush (by decide) (by decide) rfl ?_
    obtain ⟨G, F⟩ := F
    have J : ∀ (t11 : Int), t11 = cif ((h 127 x4.toNat) ≠ 107) x3 (cif (x2 < (h 129 x4.toNat)) x3 (h 128 x4.toNat)) → wI d m_M_behind 48 [(0, vR 109), (1, vI x1), (2, vI x2), (3, vI x3), (4, vI x4)] [vI t11] h K := by
      intro t11 et11
      subst et11
      refine w_istore_n rfl rfl rfl rfl (w_ls (ls2 := [(0, vR 109), (1, vI x1), (2, vI x2), (3, vI (cif ((h 127 x4.toNat) ≠ 107) x3 (cif (x2 < (h 129 x4.toNat)) x3 (h 128 x4.toNat)))), (4, vI x4)]) rfl ?_)
      refine w_iinc rfl rfl rfl rfl rfl (w_ls (ls2 := [(0, vR 109), (1, vI x1), (2, vI x2), (3, vI (cif ((h 127 x4.toNat) ≠ 107) x3 (cif (x2 < (h 129 x4.toNat)) x3 (h 128 x4.toNat)))), (4, vI (x4 + 1))]) rfl ?_)
      refine w_goto (tgt := 5) rfl (by decide) ?_
      exact F
    obtain ⟨b6, gb_⟩ := G
    refine w_icmp_ne (tgt := 47) rfl (by decide) ⟨b6, (r_lit rfl)⟩ (fun q7 => ?_) (fun q7 => ?_)
    · refine w_iload_n rfl rfl ?_
      exact J _ (cif_t q7).symm
    · have G := gb_ q7
      obtain ⟨b8, b9⟩ := G
      refine w_aload_n rfl rfl ?_
      refine w_getR rfl f_M_75 rfl rfl rfl rfl rfl ?_
      refine w_iload rfl rfl ?_
      refine w_iaload rfl rfl rfl b5 ?_
      refine w_iload_n rfl rfl ?_
      refine w_icmp_gt (tgt := 47) rfl (by decide) ⟨b8, b9⟩ (fun q10 => ?_) (fun q10 => ?_)
      · refine w_iload_n rfl rfl ?_
        exact J _ ((cif_f q7).trans (cif_t q10)).symm
      · refine w_aload_n rfl rfl ?_
        refine w_getR rfl f_M_72 rfl rfl rfl rfl rfl ?_
        refine w_iload rfl rfl ?_
        refine w_iaload rfl rfl rfl b5 ?_
        refine w_goto (tgt := 48) rfl (by decide) ?_
        exact J _ ((cif_f q7).trans (cif_f q10)).symm
theorem s_M_behind_66 {d : Nat}  (x1 x2 x3 x4 x5 : Int) (h : St) (K : Int → St → Prop) (F : (inR x5) ∧ (inR (h 109 20)) ∧ (((h 109 20) ≤ x5 → (K x4 h)) ∧ (¬ ((h 109 20) ≤ x5) → (0 ≤ x5 ∧ x5 < 50) ∧ (inR (h 127 x5.toNat)) ∧ (((h 127 x5.toNat) ≠ 120 → (wI d m_M_behind 66 [(0, vR 109), (1, vI x1), (2, vI x2), (3, vI x3), (4, vI x4), (5, vI (x5 + 1))] [] h K)) ∧ (¬ ((h 127 x5.toNat) ≠ 120) → (inR (h 130 x5.toNat)) ∧ (inR x2) ∧ (((h 130 x5.toNat) ≠ x2 → (wI d m_M_behind 66 [(0, vR 109), (1, vI x1), (2, vI x2), (3, vI x3), (4, vI x4), (5, vI (x5 + 1))] [] h K)) ∧ (¬ ((h 130 x5.toNat) ≠ x2) → (((inR x4) ∧ (inR (h 128 x5.toNat)) ∧ (x4 ≠ (h 128 x5.toNat) → ((inR (h 129 x5.toNat)))))) ∧ (wI d m_M_behind 66 [(0, vR 109), (1, vI x1), (2, vI x2), (3, vI x3), (4, vI (cif (x4 ≠ (h 128 x5.toNat)) (cif (x4 ≠ (h 129 x5.toNat)) x4 (h 128 x5.toNat)) (h 129 x5.toNat))), (5, vI (x5 + 1))] [] h K)))))))) : wI d m_M_behind 66 [(0, vR 109), (1, vI x1), (2, vI x2), (3, vI x3), (4, vI x4), (5, vI x5)] [] h K := by
  refine w_iload rfl rfl ?_
  refine w_aload_n rfl rfl ?_
  refine w_getI rfl f_M_183 rfl rfl rfl ?_
  obtain ⟨b1, F⟩ := F
  obtain ⟨b2, F⟩ := F
  refine w_icmp_ge (tgt := 152) rfl (by decide) ⟨b1, b2⟩ (fun q3 => ?_) (fun q3 => ?_)
  · replace F := F.1 q3
    refine w_iload rfl rfl ?_
    exact w_iret rfl rfl ⟨rfl, rfl, _, rfl, F⟩
  · replace F := F.2 q3
    refine w_aload_n rfl rfl ?_
    refine w_getR rfl f_M_69 rfl rfl rfl rfl rfl ?_
    refine w_iload rfl rfl ?_
    obtain ⟨b4, F⟩ := F
    refine w_iaload rfl rfl rfl b4 ?_
    refine w_bipush (by decide) (by decide) rfl ?_
    obtain ⟨b5, F⟩ := F
    refine w_icmp_ne (tgt := 146) rfl (by decide) ⟨b5, (r_lit rfl)⟩ (fun q6 => ?_) (fun q6 => ?_)
    · replace F := F.1 q6
      refine w_iinc rfl rfl rfl rfl rfl (w_ls (ls2 := [(0, vR 109), (1, vI x1), (2, vI x2), (3, vI x3), (4, vI x4), (5, vI (x5 + 1))]) rfl ?_)
      refine w_goto (tgt := 66) rfl (by decide) ?_
      exact F
    · replace F := F.2 q6
      refine w_aload_n rfl rfl ?_
      refine w_getR rfl f_M_78 rfl rfl rfl rfl rfl ?_
      refine w_iload rfl rfl ?_
      refine w_iaload rfl rfl rfl b4 ?_
      refine w_iload_n rfl rfl ?_
      obtain ⟨b7, F⟩ := F
      obtain ⟨b8, F⟩ := F
      refine w_icmp_ne (tgt := 146) rfl (by decide) ⟨b7, b8⟩ (fun q9 => ?_) (fun q9 => ?_)
      · replace F := F.1 q9
        refine w_iinc rfl rfl rfl rfl rfl (w_ls (ls2 := [(0, vR 109), (1, vI x1), (2, vI x2), (3, vI x3), (4, vI x4), (5, vI (x5 + 1))]) rfl ?_)
        refine w_goto (tgt := 66) rfl (by decide) ?_
        exact F
      · replace F := F.2 q9
        refine w_iload rfl rfl ?_
        refine w_aload_n rfl rfl ?_
        refine w_getR rfl f_M_72 rfl rfl rfl rfl rfl ?_
        refine w_iload rfl rfl ?_
        refine w_iaload rfl rfl rfl b4 ?_
        obtain ⟨G, F⟩ := F
        have J : ∀ (t15 : Int), t15 = cif (x4 ≠ (h 128 x5.toNat)) (cif (x4 ≠ (h 129 x5.toNat)) x4 (h 128 x5.toNat)) (h 129 x5.toNat) → wI d m_M_behind 144 [(0, vR 109), (1, vI x1), (2, vI x2), (3, vI x3), (4, vI x4), (5, vI x5)] [vI t15] h K := by
          intro t15 et15
          subst et15
          refine w_istore rfl rfl rfl rfl (w_ls (ls2 := [(0, vR 109), (1, vI x1), (2, vI x2), (3, vI x3), (4, vI (cif (x4 ≠ (h 128 x5.toNat)) (cif (x4 ≠ (h 129 x5.toNat)) x4 (h 128 x5.toNat)) (h 129 x5.toNat))), (5, vI x5)]) rfl ?_)
          refine w_iinc rfl rfl rfl rfl rfl (w_ls (ls2 := [(0, vR 109), (1, vI x1), (2, vI x2), (3, vI x3), (4, vI (cif (x4 ≠ (h 128 x5.toNat)) (cif (x4 ≠ (h 129 x5.toNat)) x4 (h 128 x5.toNat)) (h 129 x5.toNat))), (5, vI (x5 + 1))]) rfl ?_)
          refine w_goto (tgt := 66) rfl (by decide) ?_
          exact F
        obtain ⟨b10, b11, ga_⟩ := G
        refine w_icmp_ne (tgt := 120) rfl (by decide) ⟨b10, b11⟩ (fun q12 => ?_) (fun q12 => ?_)
        · have G := ga_ q12
          have b13 := G
          refine w_iload rfl rfl ?_
          refine w_aload_n rfl rfl ?_
          refine w_getR rfl f_M_75 rfl rfl rfl rfl rfl ?_
          refine w_iload rfl rfl ?_
          refine w_iaload rfl rfl rfl b4 ?_
          refine w_icmp_ne (tgt := 142) rfl (by decide) ⟨b10, b13⟩ (fun q14 => ?_) (fun q14 => ?_)
          · refine w_iload rfl rfl ?_
            exact J _ ((cif_t q12).trans (cif_t q14)).symm
          · refine w_aload_n rfl rfl ?_
            refine w_getR rfl f_M_72 rfl rfl rfl rfl rfl ?_
            refine w_iload rfl rfl ?_
            refine w_iaload rfl rfl rfl b4 ?_
            refine w_goto (tgt := 144) rfl (by decide) ?_
            exact J _ ((cif_t q12).trans (cif_f q14)).symm
        · refine w_aload_n rfl rfl ?_
          refine w_getR rfl f_M_75 rfl rfl rfl rfl rfl ?_
          refine w_iload rfl rfl ?_
          refine w_iaload rfl rfl rfl b4 ?_
          refine w_goto (tgt := 144) rfl (by decide) ?_
          exact J _ (cif_f q12).symm
def MIm (h : St) (R : Nat) (it : Nat → Nat → Int) : Prop := h 109 20 = (R : Int) ∧ ∀ k, k < R → h 127 k = it 0 k ∧ h 128 k = it 1 k ∧ h 129 k = it 2 k ∧ (it 0 k = 120 → h 130 k = it 3 k)
theorem MIm_c {h h2 : St} {R : Nat} {it : Nat → Nat → Int} (g : ag (fun c _ => c ≠ 126) h h2) (a : MIm h R it) : MIm h2 R it :=
  ⟨by rw [g 109 20 (by omega)]; exact a.1, fun k hk => by rw [g 127 k (by omega), g 128 k (by omega), g 129 k (by omega), g 130 k (by omega)]; exact a.2 k hk⟩
theorem M_bh_66 {D : Nat} {h : St} {K : Int → St → Prop} {R : Nat} {it : Nat → Nat → Int} {x1 x2 x3 v : Int} (mi : MIm h R it) (vi : VIm R it) (rd : inR x2) (hv : 0 ≤ v ∧ v ≤ 11) (k : K (swF it x2 R v) h) : ∀ (r c : Nat), c + r = R → wI D m_M_behind 66 [(0, vR 109), (1, vI x1), (2, vI x2), (3, vI x3), (4, vI (swF it x2 c v)), (5, vI c)] [] h K := by
  have r40 := vi.1
  have m1 := mi.1
  intro r
  induction r with
  | zero =>
    intro c hc
    have e : c = R := by omega
    subst e
    exact s_M_behind_66 _ _ _ _ _ h K ⟨⟨by omega, by omega⟩, ⟨by omega, by omega⟩, fun _ => k, fun y => by omega⟩
  | succ r ih =>
    intro c hc
    obtain ⟨a1, a2, a3, a4⟩ := mi.2 c (by omega)
    obtain ⟨v0, v1, v2, v3, v4⟩ := vi.2 c (by omega)
    have sr := sw_R (d := x2) vi hv c (by omega)
    have nx := ih (c + 1) (by omega)
    rw [swF] at nx
    refine s_M_behind_66 _ _ _ _ _ h K ⟨⟨by omega, by omega⟩, ⟨by omega, by omega⟩, fun y => by omega, fun _ => ⟨⟨by omega, by omega⟩, ?_⟩⟩
    rw [Int.toNat_natCast, a1, a2, a3]
    refine ⟨⟨by omega, by omega⟩, fun y => by rw [cif_f (fun z => y z.1)] at nx; exact nx, fun y => ?_⟩
    have y2 : it 0 c = 120 := by omega
    have v5 := v4 y2
    rw [a4 y2]
    refine ⟨⟨by omega, by omega⟩, rd, fun z => by rw [cif_f (fun u => z u.2)] at nx; exact nx, fun z => ⟨⟨⟨by omega, by omega⟩, ⟨by omega, by omega⟩, fun _ => ⟨by omega, by omega⟩⟩, ?_⟩⟩
    rw [cif_t ⟨y2, by omega⟩] at nx
    exact nx
theorem M_bh_5 {D : Nat} {h : St} {K : Int → St → Prop} {R : Nat} {it : Nat → Nat → Int} {x1 x2 : Int} (mi : MIm h R it) (vi : VIm R it) (rd : inR x2) (hv : 0 ≤ x1 ∧ x1 ≤ 11) (k : K (swF it x2 R ((x1 + stF it x2 R).tmod 12)) h) : ∀ (r c : Nat), c + r = R → wI D m_M_behind 5 [(0, vR 109), (1, vI x1), (2, vI x2), (3, vI (stF it x2 c)), (4, vI c)] [] h K := by
  have r40 := vi.1
  have m1 := mi.1
  intro r
  induction r with
  | zero =>
    intro c hc
    have e : c = R := by omega
    subst e
    have sr := st_R (d := x2) vi c (Nat.le_refl _)
    exact s_M_behind_5 _ _ _ _ h K ⟨⟨by omega, by omega⟩, ⟨by omega, by omega⟩, fun _ => ⟨⟨by omega, by omega⟩, M_bh_66 mi vi rd (tm_R hv sr) k c 0 (Nat.zero_add _)⟩, fun y => by omega⟩
  | succ r ih =>
    intro c hc
    obtain ⟨a1, a2, a3, a4⟩ := mi.2 c (by omega)
    obtain ⟨v0, v1, v2, v3, v4⟩ := vi.2 c (by omega)
    have nx := ih (c + 1) (by omega)
    rw [stF] at nx
    refine s_M_behind_5 _ _ _ _ h K ⟨⟨by omega, by omega⟩, ⟨by omega, by omega⟩, fun y => by omega, fun _ => ⟨⟨by omega, by omega⟩, ?_⟩⟩
    rw [Int.toNat_natCast, a1, a2, a3]
    refine ⟨⟨⟨by omega, by omega⟩, fun _ => ⟨⟨by omega, by omega⟩, rd⟩⟩, ?_⟩
    have e : cif (it 0 c ≠ 107) (stF it x2 c) (cif (x2 < it 2 c) (stF it x2 c) (it 1 c)) = cif (it 0 c = 107 ∧ it 2 c ≤ x2) (it 1 c) (stF it x2 c) := by
      by_cases y : it 0 c = 107
      · rw [cif_f (fun z => z y)]
        by_cases z : x2 < it 2 c
        · rw [cif_t z, cif_f (by omega)]
        · rw [cif_f z, cif_t (by omega)]
      · rw [cif_t y, cif_f (fun z => y z.1)]
    rw [e]; exact nx
theorem c_M_behind {D : Nat} {h : St} {K : Int → St → Prop} {R : Nat} {it : Nat → Nat → Int} {x1 x2 : Int} (mi : MIm h R it) (vi : VIm R it) (rd : inR x2) (hv : 0 ≤ x1 ∧ x1 ≤ 11) (k : K (swF it x2 R ((x1 + stF it x2 R).tmod 12)) h) : mwpI (D + 1) m_M_behind [vR 109, vI x1, vI x2] h K :=
  mI_intro b_M_behind rfl (s_M_behind_0 (d := D) _ _ h K (M_bh_5 mi vi rd hv k R 0 (Nat.zero_add _)))
theorem M_tk_88 {D : Nat} {K : Int → St → Prop} {R : Nat} {it : Nat → Nat → Int} {p : Nat} (vi : VIm R it) (hp : p < 12) : ∀ (r c : Nat) (h : St), c + 1 + r = 20 → MIm h R it → (∀ d, d < 20 → ∀ p2, p2 < p → h 126 (12 * d + p2) = bkA R it d p2) → (∀ d, d ≤ c → h 126 (12 * d + p) = bkA R it d p) → (∀ h2, ag (fun c _ => c ≠ 126) h h2 → (∀ d, d < 20 → ∀ p2, p2 < p + 1 → h2 126 (12 * d + p2) = bkA R it d p2) → wI (D + 5) m_M_take 22 [(0, vR 109), (1, vI ((p : Int) + 1))] [] h2 K) → wI (D + 5) m_M_take 88 [(0, vR 109), (1, vI p), (2, vI (bkA R it c p)), (3, vI ((c + 1 : Nat) : Int))] [] h K := by
  intro r
  induction r with
  | zero =>
    intro c h hc mi w1 w2 k
    refine s_M_take_88 _ _ _ h K ⟨⟨by omega, by omega⟩, fun _ => k h ag_rfl (fun d hd p2 hp2 => ?_), fun y => by omega⟩
    by_cases e : p2 = p
    · subst e; exact w2 d (by omega)
    · exact w1 d hd p2 (by omega)
  | succ r ih =>
    intro c h hc mi w1 w2 k
    have br := bk_R vi c p
    unfold nRg at br
    have e1 : (12 * ((c + 1 : Nat) : Int) + (p : Int)).toNat = 12 * (c + 1) + p := by omega
    have nx : ∀ x, x = bkA R it (c + 1) p → wI (D + 5) m_M_take 88 [(0, vR 109), (1, vI p), (2, vI x), (3, vI (((c + 1 : Nat) : Int) + 1))] [] (up h 126 (12 * (c + 1) + p) x) K := fun x hx => by
      subst hx
      refine ih (c + 1) _ (by omega) (MIm_c (ag_up (by omega) ag_rfl) mi) (fun d hd p2 hp2 => by rw [up_ne (by omega)]; exact w1 d hd p2 hp2) (fun d hd => ?_) (fun h2 g2 => k h2 (ag_trans (ag_up (by omega) ag_rfl) g2))
      by_cases e : d = c + 1
      · subst e; rw [up_same]
      · rw [up_ne (by omega)]; exact w2 d (by omega)
    refine s_M_take_88 _ _ _ h K ⟨⟨by omega, by omega⟩, fun y => by omega, fun _ => ⟨⟨by omega, by omega⟩, fun y => ?_, fun y => ⟨⟨by omega, by omega⟩, ?_⟩⟩⟩
    · refine c_M_behind mi vi ⟨by omega, by omega⟩ (by omega) ⟨⟨by omega, by omega⟩, ?_⟩
      rw [e1]
      exact nx _ (by rw [bkA, cif_f (by omega)])
    · rw [e1]
      exact nx _ (by rw [bkA, cif_t (by omega)])
theorem M_tk_33 {D : Nat} {h : St} {K : Int → St → Prop} {R : Nat} {it : Nat → Nat → Int} {p : Nat} (mi : MIm h R it) (vi : VIm R it) (hp : p < 12) (k : wI (D + 5) m_M_take 88 [(0, vR 109), (1, vI p), (2, vI (f0F it R p)), (3, vI 1)] [] (up h 126 p (f0F it R p)) K) : ∀ (r c : Nat), c + r = R → wI (D + 5) m_M_take 33 [(0, vR 109), (1, vI p), (2, vI (f0F it c p)), (3, vI c)] [] h K := by
  have r40 := vi.1
  have m1 := mi.1
  intro r
  induction r with
  | zero =>
    intro c hc
    have e : c = R := by omega
    subst e
    exact s_M_take_33 _ _ _ h K ⟨⟨by omega, by omega⟩, ⟨by omega, by omega⟩, fun _ => ⟨⟨by omega, by omega⟩, by rw [Int.toNat_natCast]; exact k⟩, fun y => by omega⟩
  | succ r ih =>
    intro c hc
    obtain ⟨a1, a2, a3, a4⟩ := mi.2 c (by omega)
    obtain ⟨v0, v1, v2, v3, v4⟩ := vi.2 c (by omega)
    have nx := ih (c + 1) (by omega)
    rw [f0F] at nx
    refine s_M_take_33 _ _ _ h K ⟨⟨by omega, by omega⟩, ⟨by omega, by omega⟩, fun y => by omega, fun _ => ⟨⟨by omega, by omega⟩, ?_⟩⟩
    rw [Int.toNat_natCast, a1, a2, a3]
    refine ⟨⟨⟨by omega, by omega⟩, fun _ => ⟨⟨by omega, by omega⟩, ⟨by omega, by omega⟩⟩⟩, ?_⟩
    have e : cif (it 0 c ≠ 112) (f0F it c p) (cif (it 1 c ≠ p) (f0F it c p) (it 2 c)) = cif (it 0 c = 112 ∧ it 1 c = p) (it 2 c) (f0F it c p) := by
      by_cases y : it 0 c = 112
      · rw [cif_f (fun z => z y)]
        by_cases z : it 1 c = p
        · rw [cif_f (fun u => u z), cif_t ⟨y, z⟩]
        · rw [cif_t z, cif_f (fun u => z u.2)]
      · rw [cif_t y, cif_f (fun z => y z.1)]
    rw [e]; exact nx
theorem M_tk_22 {D : Nat} {K : Int → St → Prop} {R : Nat} {it : Nat → Nat → Int} (vi : VIm R it) : ∀ (r p : Nat) (h : St), p + r = 12 → MIm h R it → (∀ d, d < 20 → ∀ p2, p2 < p → h 126 (12 * d + p2) = bkA R it d p2) → (∀ h2, ag (fun c _ => c ≠ 126) h h2 → MBk h2 R (bkA R it) → K R h2) → wI (D + 5) m_M_take 22 [(0, vR 109), (1, vI p)] [] h K := by
  intro r
  induction r with
  | zero =>
    intro p h hp mi w k
    refine s_M_take_22 _ h K ⟨⟨by omega, by omega⟩, fun _ => ?_, fun y => by omega⟩
    rw [mi.1]
    exact k h ag_rfl ⟨mi.1, fun d hd p2 hp2 => w d hd p2 (by omega)⟩
  | succ r ih =>
    intro p h hp mi w k
    refine s_M_take_22 _ h K ⟨⟨by omega, by omega⟩, fun y => by omega, fun _ => ?_⟩
    refine M_tk_33 mi vi (by omega) ?_ R 0 (Nat.zero_add _)
    refine M_tk_88 vi (by omega) 19 0 _ (by omega) (MIm_c (ag_up (by omega) ag_rfl) mi) (fun d hd p2 hp2 => by rw [up_ne (by omega)]; exact w d hd p2 hp2) (fun d hd => ?_) (fun h2 g2 w2 => ?_)
    · have e : d = 0 := by omega
      subst e
      rw [show 12 * 0 + p = p by omega, up_same]; rfl
    · have g3 : ag (fun c _ => c ≠ 126) h h2 := ag_trans (ag_up (by omega) ag_rfl) g2
      exact ih (p + 1) h2 (by omega) (MIm_c g3 mi) w2 (fun h4 g4 => k h4 (ag_trans g3 g4))
noncomputable def itF (n : Nat) (tx : Nat → Int) : Nat → Nat → Int
  | 0, k => tx (psA n tx k)
  | 1, k => w1A n tx (psA n tx k)
  | 2, k => w2A n tx (psA n tx k)
  | _ + 3, k => w3A n tx (psA n tx k)
theorem P_take {KK : Int → Int → St → Prop} {h : St} (hr : Rel h) (k : ∀ z h2, inR z → Rel h2 → KK z z h2) : mwpI 40 m_C_take [vR 0] h (fun z h1 => mwpI 40 m_M_take [vR 109] h1 (fun z2 h2 => KK z z2 h2)) := by
  obtain ⟨_, ⟨n, tx, ct, mt, vt⟩, _⟩ := id hr
  refine mI_intro b_C_take rfl (s_C_take_0 (d := 34) h _ (c_Book_read ct vt (fun h2 g2 ci al => ?_)))
  have fr := ft_R ct.2.1 al
  have hr2 : Rel h2 := Rel_c (ag_sub (fun c k p => by omega) g2) hr
  refine ⟨⟨by omega, by omega⟩, fun y => ?_, fun y => ?_⟩
  · have pb := ps_b (rdA n tx) (fun k hk => (al k hk).1)
    have n2 := ct.2.1
    have hR : rdA n tx ≤ 40 := lst_le
    have vi : VIm (rdA n tx) (itF n tx) := by
      refine ⟨hR, fun k hk => ?_⟩
      obtain ⟨fm, s1, s2, s3, s4⟩ := (al k hk).1
      show (tx (psA n tx k) = 112 ∨ tx (psA n tx k) = 107 ∨ tx (psA n tx k) = 120) ∧ (0 ≤ w1A n tx (psA n tx k) ∧ w1A n tx (psA n tx k) ≤ 11) ∧ (0 ≤ w2A n tx (psA n tx k) ∧ w2A n tx (psA n tx k) ≤ 19) ∧ (tx (psA n tx k) = 112 → w2A n tx (psA n tx k) ≤ 11) ∧ (tx (psA n tx k) = 120 → w2A n tx (psA n tx k) ≤ 11 ∧ 1 ≤ w3A n tx (psA n tx k) ∧ w3A n tx (psA n tx k) ≤ 19)
      have ll : tx (psA n tx k) = 112 ∨ tx (psA n tx k) = 107 ∨ tx (psA n tx k) = 120 := by
        rcases fm with ⟨z, _⟩ | ⟨z, _⟩
        · omega
        · omega
      refine ⟨ll, s1, ?_, fun z => by have := (s4 z).1; omega, fun z => by have := s3 z; omega⟩
      rcases ll with z | z | z
      · have := (s4 z).1; omega
      · have := s2 z; omega
      · have := s3 z; omega
    have cim : CIm h2 (rdA n tx) (itF n tx) := by
      refine ⟨ci.1, fun k hk => ?_⟩
      exact ci.2.1 k hk
    have mim : ∀ h3, MIt h3 n tx (rdA n tx) → h3 109 20 = (rdA n tx : Int) → MIm h3 (rdA n tx) (itF n tx) := fun h3 mi e => by
      refine ⟨e, fun k hk => ?_⟩
      exact mi.2 k hk
    generalize (itF n tx) = it at *
    refine c_Book_adopt cim vi (fun h3 g3 cb => ?_)
    have mt3 : MTxt h3 n tx := MTxt_c2 (ag_sub (fun c k p => by omega) g3) (MTxt_c2 (ag_sub (fun c k p => by omega) g2) mt)
    refine mI_intro b_M_take rfl (s_M_take_0 (d := 34) _ _ (c_M_fault mt3 vt (fun h4 g4 mi => ?_)))
    refine ⟨⟨by omega, by omega⟩, fun _ => ?_, fun z => absurd y z⟩
    rw [mi.1]
    have m4 : MIt (up h4 109 20 (rdA n tx : Int)) n tx (rdA n tx) := ⟨by rw [up_ne (by omega)]; exact mi.1, fun j hj => by rw [up_ne (by omega), up_ne (by omega), up_ne (by omega), up_ne (by omega)]; exact mi.2 j hj⟩
    refine M_tk_22 vi 12 0 _ (by omega) (mim _ m4 (up_same _ _ _ _)) (fun d hd p2 hp2 => absurd hp2 (Nat.not_lt_zero _)) (fun h5 g5 mb => ?_)
    have g45 : ag (fun c k => (c < 126 ∨ 130 < c) ∧ ¬ (c = 109 ∧ (k = 20 ∨ k = 22 ∨ k = 23))) h3 h5 := ag_trans (ag_up (by omega) (ag_sub (fun c k p => by omega) g4)) (ag_sub (fun c k p => by omega) g5)
    have g25 : ag (fun c k => ¬ (c = 8 ∧ k = 12) ∧ ¬ (16 ≤ c ∧ c ≤ 35) ∧ ¬ (37 ≤ c ∧ c ≤ 56) ∧ (c < 126 ∨ 130 < c) ∧ ¬ (c = 109 ∧ (k = 20 ∨ k = 22 ∨ k = 23))) h2 h5 := ag_trans (ag_sub (fun c k p => by omega) g3) (ag_sub (fun c k p => by omega) g45)
    obtain ⟨r1, r2, r3, r4, r5, r6, r7, r8, r9⟩ := hr2
    refine k _ _ ⟨by omega, by omega⟩ ⟨RLog_c (ag_sub (fun c k p => by omega) g25) r1, RTxt_c (ag_sub (fun c k p => by omega) g25) r2, ⟨(rdA n tx : Int), bkA (rdA n tx) it, ?_, mb, ⟨by omega, by omega⟩, fun d hd p hp => bk_R vi d p⟩, RTH_c (ag_sub (fun c k p => by omega) g25) r4, RHr_c (ag_sub (fun c k p => by omega) g25) r5, RBr_c (ag_sub (fun c k p => by omega) g25) r6, RLs_c (ag_sub (fun c k p => by omega) g25) r7, REv_c (ag_sub (fun c k p => by omega) g25) r8, RKp_c (ag_sub (fun c k p => by omega) g25) r9⟩
    exact ⟨by rw [g45 8 12 (by omega)]; exact cb.1, fun d hd p hp => by rw [g45 (16 + d) p (by omega)]; exact cb.2.1 d hd p hp, fun d hd m hm => by rw [g45 (37 + d) m (by omega)]; exact cb.2.2 d hd m hm⟩
  · refine mI_intro b_M_take rfl (s_M_take_0 (d := 34) _ _ (c_M_fault (MTxt_c2 (ag_sub (fun c k p => by omega) g2) mt) vt (fun h4 g4 mi => ?_)))
    exact ⟨⟨by omega, by omega⟩, fun z => absurd z y, fun _ => k _ _ (by decide) (Rel_c (ag_sub (fun c k p => by omega) g4) hr2)⟩
