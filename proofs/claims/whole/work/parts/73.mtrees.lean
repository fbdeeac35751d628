theorem s_M_isTree_0 {d : Nat}  (x1 : Int) (h : St) (K : Int → St → Prop) (F : (wI d m_M_isTree 12 [(0, vR 109), (1, vI x1), (2, vI x1), (3, vI 0), (4, vI ((h 109 36) - 1))] [] h K)) : wI d m_M_isTree 0 [(0, vR 109), (1, vI x1)] [] h K := by
  refine w_iload_n rfl rfl ?_
  refine w_istore_n rfl rfl rfl rfl (w_ls (ls2 := [(0, vR 109), (1, vI x1), (2, vI x1)]) rfl ?_)
  refine w_iconst rfl ?_
  refine w_istore_n rfl rfl rfl rfl (w_ls (ls2 := [(0, vR 109), (1, vI x1), (2, vI x1), (3, vI 0)]) rfl ?_)
  refine w_aload_n rfl rfl ?_
  refine w_getI rfl f_M_261 rfl rfl rfl ?_
  refine w_iconst rfl ?_
  refine w_isub rfl ?_
  refine w_istore rfl rfl rfl rfl (w_ls (ls2 := [(0, vR 109), (1, vI x1), (2, vI x1), (3, vI 0), (4, vI ((h 109 36) - 1))]) rfl ?_)
  exact F
theorem s_M_isTree_12 {d : Nat}  (x1 x2 x3 x4 : Int) (h : St) (K : Int → St → Prop) (F : (inR x4) ∧ ((x4 < 0 → (inR x3) ∧ ((x3 = 1 → (wI d m_M_isTree 93 [(0, vR 109), (1, vI x1), (2, vI x2), (3, vI x3), (4, vI 0)] [] h K)) ∧ (¬ (x3 = 1) → (K 0 h)))) ∧ (¬ (x4 < 0) → (inR x2) ∧ (inR ((h 109 36) + 1)) ∧ (0 < ((h 109 36) + 1)) ∧ (0 ≤ x4 ∧ x4 < 6) ∧ (0 < ((h 109 36) + 1)) ∧ (((inR ((up h 139 x4.toNat (x2.tmod ((h 109 36) + 1))) 139 x4.toNat)) ∧ (inR (h 109 36)))) ∧ (inR ((up h 139 x4.toNat (x2.tmod ((h 109 36) + 1))) 139 x4.toNat)) ∧ ((((up h 139 x4.toNat (x2.tmod ((h 109 36) + 1))) 139 x4.toNat) ≠ x4 → (wI d m_M_isTree 12 [(0, vR 109), (1, vI x1), (2, vI (x2.tdiv ((h 109 36) + 1))), (3, vI (x3 + (b2i (¬ (((up h 139 x4.toNat (x2.tmod ((h 109 36) + 1))) 139 x4.toNat) ≠ (h 109 36)))))), (4, vI (x4 + (-1)))] [] (up h 139 x4.toNat (x2.tmod ((h 109 36) + 1))) K)) ∧ (¬ (((up h 139 x4.toNat (x2.tmod ((h 109 36) + 1))) 139 x4.toNat) ≠ x4) → (K 0 (up h 139 x4.toNat (x2.tmod ((h 109 36) + 1))))))))) : wI d m_M_isTree 12 [(0, vR 109), (1, vI x1), (2, vI x2), (3, vI x3), (4, vI x4)] [] h K := by
  refine w_iload rfl rfl ?_
  obtain ⟨b1, F⟩ := F
  refine w_if_lt (tgt := 83) rfl (by decide) b1 (fun q2 => ?_) (fun q2 => ?_)
  · replace F := F.1 q2
    refine w_iload_n rfl rfl ?_
    refine w_iconst rfl ?_
    obtain ⟨b3, F⟩ := F
    refine w_icmp_eq (tgt := 90) rfl (by decide) ⟨b3, (r_lit rfl)⟩ (fun q4 => ?_) (fun q4 => ?_)
    · replace F := F.1 q4
      refine w_iconst rfl ?_
      refine w_istore rfl rfl rfl rfl (w_ls (ls2 := [(0, vR 109), (1, vI x1), (2, vI x2), (3, vI x3), (4, vI 0)]) rfl ?_)
      exact F
    · replace F := F.2 q4
      refine w_iconst rfl ?_
      exact w_zret rfl rfl (by decide) ⟨rfl, rfl, _, rfl, F⟩
  · replace F := F.2 q2
    refine w_aload_n rfl rfl ?_
    refine w_getR rfl f_M_105 rfl rfl rfl rfl rfl ?_
    refine w_iload rfl rfl ?_
    refine w_iload_n rfl rfl ?_
    refine w_aload_n rfl rfl ?_
    refine w_getI rfl f_M_261 rfl rfl rfl ?_
    refine w_iconst rfl ?_
    refine w_iadd rfl ?_
    obtain ⟨b5, F⟩ := F
    obtain ⟨b6, F⟩ := F
    obtain ⟨b7, F⟩ := F
    refine w_irem ⟨b5, b6, b7⟩ rfl ?_
    obtain ⟨b8, F⟩ := F
    refine w_iastore rfl rfl rfl b8 ?_
    refine w_iload_n rfl rfl ?_
    refine w_aload_n rfl rfl ?_
    refine w_getI rfl f_M_261 rfl rfl rfl ?_
    refine w_iconst rfl ?_
    refine w_iadd rfl ?_
    obtain ⟨b9, F⟩ := F
    refine w_idiv ⟨b5, b6, b9⟩ rfl ?_
    refine w_istore_n rfl rfl rfl rfl (w_ls (ls2 := [(0, vR 109), (1, vI x1), (2, vI (x2.tdiv ((h 109 36) + 1))), (3, vI x3), (4, vI x4)]) rfl ?_)
    refine w_iload_n rfl rfl ?_
    refine w_aload_n rfl rfl ?_
    refine w_getR rfl f_M_105 rfl rfl rfl rfl rfl ?_
    refine w_iload rfl rfl ?_
    refine w_iaload rfl rfl rfl b8 ?_
    refine w_aload_n rfl rfl ?_
    refine w_getI rfl f_M_261 rfl rfl rfl ?_
    obtain ⟨G, F⟩ := F
    have J : ∀ (t13 : Int), t13 = b2i (¬ (((up h 139 x4.toNat (x2.tmod ((h 109 36) + 1))) 139 x4.toNat) ≠ (h 109 36))) → wI d m_M_isTree 61 [(0, vR 109), (1, vI x1), (2, vI (x2.tdiv ((h 109 36) + 1))), (3, vI x3), (4, vI x4)] [vI t13, vI x3] (up h 139 x4.toNat (x2.tmod ((h 109 36) + 1))) K := by
      intro t13 et13
      subst et13
      refine w_iadd rfl ?_
      refine w_istore_n rfl rfl rfl rfl (w_ls (ls2 := [(0, vR 109), (1, vI x1), (2, vI (x2.tdiv ((h 109 36) + 1))), (3, vI (x3 + (b2i (¬ (((up h 139 x4.toNat (x2.tmod ((h 109 36) + 1))) 139 x4.toNat) ≠ (h 109 36)))))), (4, vI x4)]) rfl ?_)
      refine w_aload_n rfl rfl ?_
      refine w_getR rfl f_M_105 rfl rfl rfl rfl rfl ?_
      refine w_iload rfl rfl ?_
      refine w_iaload rfl rfl rfl b8 ?_
      refine w_iload rfl rfl ?_
      obtain ⟨b14, F⟩ := F
      refine w_icmp_ne (tgt := 77) rfl (by decide) ⟨b14, b1⟩ (fun q15 => ?_) (fun q15 => ?_)
      · replace F := F.1 q15
        refine w_iinc rfl rfl rfl rfl rfl (w_ls (ls2 := [(0, vR 109), (1, vI x1), (2, vI (x2.tdiv ((h 109 36) + 1))), (3, vI (x3 + (b2i (¬ (((up h 139 x4.toNat (x2.tmod ((h 109 36) + 1))) 139 x4.toNat) ≠ (h 109 36)))))), (4, vI (x4 + (-1)))]) rfl ?_)
        refine w_goto (tgt := 12) rfl (by decide) ?_
        exact F
      · replace F := F.2 q15
        refine w_iconst rfl ?_
        exact w_zret rfl rfl (by decide) ⟨rfl, rfl, _, rfl, F⟩
    obtain ⟨b10, b11⟩ := G
    refine w_icmp_ne (tgt := 60) rfl (by decide) ⟨b10, b11⟩ (fun q12 => ?_) (fun q12 => ?_)
    · refine w_iconst rfl ?_
      exact J _ (b2i_f (fun z => z q12)).symm
    · refine w_iconst rfl ?_
      refine w_goto (tgt := 61) rfl (by decide) ?_
      exact J _ (b2i_t q12).symm
theorem s_M_isTree_93 {d : Nat}  (x1 x2 x3 x4 : Int) (h : St) (K : Int → St → Prop) (F : (inR x4) ∧ (inR (h 109 36)) ∧ (((h 109 36) ≤ x4 → (K 1 h)) ∧ (¬ ((h 109 36) ≤ x4) → (wI d m_M_isTree 109 [(0, vR 109), (1, vI x1), (2, vI x2), (3, vI x3), (4, vI x4), (5, vI x4), (6, vI 0)] [] h K)))) : wI d m_M_isTree 93 [(0, vR 109), (1, vI x1), (2, vI x2), (3, vI x3), (4, vI x4)] [] h K := by
  refine w_iload rfl rfl ?_
  refine w_aload_n rfl rfl ?_
  refine w_getI rfl f_M_261 rfl rfl rfl ?_
  obtain ⟨b1, F⟩ := F
  obtain ⟨b2, F⟩ := F
  refine w_icmp_ge (tgt := 169) rfl (by decide) ⟨b1, b2⟩ (fun q3 => ?_) (fun q3 => ?_)
  · replace F := F.1 q3
    refine w_iconst rfl ?_
    exact w_zret rfl rfl (by decide) ⟨rfl, rfl, _, rfl, F⟩
  · replace F := F.2 q3
    refine w_iload rfl rfl ?_
    refine w_istore rfl rfl rfl rfl (w_ls (ls2 := [(0, vR 109), (1, vI x1), (2, vI x2), (3, vI x3), (4, vI x4), (5, vI x4)]) rfl ?_)
    refine w_iconst rfl ?_
    refine w_istore rfl rfl rfl rfl (w_ls (ls2 := [(0, vR 109), (1, vI x1), (2, vI x2), (3, vI x3), (4, vI x4), (5, vI x4), (6, vI 0)]) rfl ?_)
    exact F
theorem s_M_isTree_109 {d : Nat}  (x1 x2 x3 x4 x5 x6 : Int) (h : St) (K : Int → St → Prop) (F : (inR x6) ∧ (inR (h 109 36)) ∧ (((h 109 36) ≤ x6 → (0 ≤ x5 ∧ x5 < 6) ∧ (inR (h 139 x5.toNat)) ∧ (((h 109 36) ≤ (h 139 x5.toNat) → (wI d m_M_isTree 93 [(0, vR 109), (1, vI x1), (2, vI x2), (3, vI x3), (4, vI (x4 + 1))] [] h K)) ∧ (¬ ((h 109 36) ≤ (h 139 x5.toNat)) → (K 0 h)))) ∧ (¬ ((h 109 36) ≤ x6) → (0 ≤ x5 ∧ x5 < 6) ∧ (inR (h 139 x5.toNat)) ∧ (((h 109 36) ≤ (h 139 x5.toNat) → (((h 109 36) ≤ (h 139 x5.toNat) → (wI d m_M_isTree 93 [(0, vR 109), (1, vI x1), (2, vI x2), (3, vI x3), (4, vI (x4 + 1))] [] h K)) ∧ (¬ ((h 109 36) ≤ (h 139 x5.toNat)) → (K 0 h)))) ∧ (¬ ((h 109 36) ≤ (h 139 x5.toNat)) → (wI d m_M_isTree 109 [(0, vR 109), (1, vI x1), (2, vI x2), (3, vI x3), (4, vI x4), (5, vI (h 139 x5.toNat)), (6, vI (x6 + 1))] [] h K)))))) : wI d m_M_isTree 109 [(0, vR 109), (1, vI x1), (2, vI x2), (3, vI x3), (4, vI x4), (5, vI x5), (6, vI x6)] [] h K := by
  refine w_iload rfl rfl ?_
  refine w_aload_n rfl rfl ?_
  refine w_getI rfl f_M_261 rfl rfl rfl ?_
  obtain ⟨b1, F⟩ := F
  obtain ⟨b2, F⟩ := F
  refine w_icmp_ge (tgt := 147) rfl (by decide) ⟨b1, b2⟩ (fun q3 => ?_) (fun q3 => ?_)
  · replace F := F.1 q3
    refine w_aload_n rfl rfl ?_
    refine w_getR rfl f_M_105 rfl rfl rfl rfl rfl ?_
    refine w_iload rfl rfl ?_
    obtain ⟨b4, F⟩ := F
    refine w_iaload rfl rfl rfl b4 ?_
    refine w_aload_n rfl rfl ?_
    refine w_getI rfl f_M_261 rfl rfl rfl ?_
    obtain ⟨b5, F⟩ := F
    refine w_icmp_ge (tgt := 163) rfl (by decide) ⟨b5, b2⟩ (fun q6 => ?_) (fun q6 => ?_)
    · replace F := F.1 q6
      refine w_iinc rfl rfl rfl rfl rfl (w_ls (ls2 := [(0, vR 109), (1, vI x1), (2, vI x2), (3, vI x3), (4, vI (x4 + 1)), (5, vI x5), (6, vI x6)]) rfl ?_)
      refine w_goto (tgt := 93) rfl (by decide) ?_
      exact w_kp [0, 1, 2, 3, 4] F
    · replace F := F.2 q6
      refine w_iconst rfl ?_
      exact w_zret rfl rfl (by decide) ⟨rfl, rfl, _, rfl, F⟩
  · replace F := F.2 q3
    refine w_aload_n rfl rfl ?_
    refine w_getR rfl f_M_105 rfl rfl rfl rfl rfl ?_
    refine w_iload rfl rfl ?_
    obtain ⟨b7, F⟩ := F
    refine w_iaload rfl rfl rfl b7 ?_
    refine w_aload_n rfl rfl ?_
    refine w_getI rfl f_M_261 rfl rfl rfl ?_
    obtain ⟨b8, F⟩ := F
    refine w_icmp_ge (tgt := 147) rfl (by decide) ⟨b8, b2⟩ (fun q9 => ?_) (fun q9 => ?_)
    · replace F := F.1 q9
      refine w_aload_n rfl rfl ?_
      refine w_getR rfl f_M_105 rfl rfl rfl rfl rfl ?_
      refine w_iload rfl rfl ?_
      refine w_iaload rfl rfl rfl b7 ?_
      refine w_aload_n rfl rfl ?_
      refine w_getI rfl f_M_261 rfl rfl rfl ?_
      refine w_icmp_ge (tgt := 163) rfl (by decide) ⟨b8, b2⟩ (fun q10 => ?_) (fun q10 => ?_)
      · replace F := F.1 q10
        refine w_iinc rfl rfl rfl rfl rfl (w_ls (ls2 := [(0, vR 109), (1, vI x1), (2, vI x2), (3, vI x3), (4, vI (x4 + 1)), (5, vI x5), (6, vI x6)]) rfl ?_)
        refine w_goto (tgt := 93) rfl (by decide) ?_
        exact w_kp [0, 1, 2, 3, 4] F
      · replace F := F.2 q10
        refine w_iconst rfl ?_
        exact w_zret rfl rfl (by decide) ⟨rfl, rfl, _, rfl, F⟩
    · replace F := F.2 q9
      refine w_aload_n rfl rfl ?_
      refine w_getR rfl f_M_105 rfl rfl rfl rfl rfl ?_
      refine w_iload rfl rfl ?_
      refine w_iaload rfl rfl rfl b7 ?_
      refine w_istore rfl rfl rfl rfl (w_ls (ls2 := [(0, vR 109), (1, vI x1), (2, vI x2), (3, vI x3), (4, vI x4), (5, vI (h 139 x5.toNat)), (6, vI x6)]) rfl ?_)
      refine w_iinc rfl rfl rfl rfl rfl (w_ls (ls2 := [(0, vR 109), (1, vI x1), (2, vI x2), (3, vI x3), (4, vI x4), (5, vI (h 139 x5.toNat)), (6, vI (x6 + 1))]) rfl ?_)
      refine w_goto (tgt := 109) rfl (by decide) ?_
      exact F
theorem s_M_trees_0 {d : Nat}  (x1 x2 : Int) (h : St) (K : Int → St → Prop) (F : (wI (d + 5) m_M_trees 7 [(0, vR 109), (1, vI x1), (2, vI x2), (3, vI 0)] [] (up h 109 36 0) K)) : wI (d + 5) m_M_trees 0 [(0, vR 109), (1, vI x1), (2, vI x2)] [] h K := by
  refine w_aload_n rfl rfl ?_
  refine w_iconst rfl ?_
  refine w_putI rfl f_M_261 fw_12_36 rfl rfl rfl ?_
  refine w_iconst rfl ?_
  refine w_istore_n rfl rfl rfl rfl (w_ls (ls2 := [(0, vR 109), (1, vI x1), (2, vI x2), (3, vI 0)]) rfl ?_)
  exact F
theorem s_M_trees_7 {d : Nat}  (x1 x2 x3 : Int) (h : St) (K : Int → St → Prop) (F : (inR x3) ∧ ((12 ≤ x3 → (inR (h 109 36)) ∧ ((2 ≤ (h 109 36) ∧ (h 109 36) ≤ 6 → (wI (d + 5) m_M_trees 134 [(0, vR 109), (1, vI x1), (2, vI x2), (3, vI 0)] [] h K)) ∧ (¬ (2 ≤ (h 109 36) ∧ (h 109 36) ≤ 6) → (K ((-2)) h)))) ∧ (¬ (12 ≤ x3) → (wI (d + 5) m_M_trees 19 [(0, vR 109), (1, vI x1), (2, vI x2), (3, vI x3), (4, vI 0), (5, vI 0)] [] h K)))) : wI (d + 5) m_M_trees 7 [(0, vR 109), (1, vI x1), (2, vI x2), (3, vI x3)] [] h K := by
  refine w_iload_n rfl rfl ?_
  refine w_bipush (by decide) (by decide) rfl ?_
  obtain ⟨b1, F⟩ := F
  refine w_icmp_ge (tgt := 112) rfl (by decide) ⟨b1, (r_lit rfl)⟩ (fun q2 => ?_) (fun q2 => ?_)
  · replace F := F.1 q2
    refine w_aload_n rfl rfl ?_
    refine w_getI rfl f_M_261 rfl rfl rfl ?_
    obtain ⟨b3, F⟩ := F
    refine w_i2l b3 rfl ?_
    refine w_ldc2 (z := 2) kc_M_264 (by decide) rfl ?_
    refine w_ldc2 (z := 6) kc_M_266 (by decide) rfl ?_
    refine c_SI [vJ (h 109 36), vJ 2, vJ 6] [] rfl b_M_in k_M_130 rfl rfl rfl (c_M_in (inL_of b3) (by decide) (by decide) ?_)
    refine w_ifne_b (tgt := 132) rfl (by decide) (fun q4 => ?_) (fun q4 => ?_)
    · replace F := F.1 q4
      refine w_iconst rfl ?_
      refine w_istore_n rfl rfl rfl rfl (w_ls (ls2 := [(0, vR 109), (1, vI x1), (2, vI x2), (3, vI 0)]) rfl ?_)
      exact F
    · replace F := F.2 q4
      refine w_bipush (by decide) (by decide) rfl ?_
      exact w_iret rfl rfl ⟨rfl, rfl, _, rfl, F⟩
  · replace F := F.2 q2
    refine w_iconst rfl ?_
    refine w_istore rfl rfl rfl rfl (w_ls (ls2 := [(0, vR 109), (1, vI x1), (2, vI x2), (3, vI x3), (4, vI 0)]) rfl ?_)
    refine w_iconst rfl ?_
    refine w_istore rfl rfl rfl rfl (w_ls (ls2 := [(0, vR 109), (1, vI x1), (2, vI x2), (3, vI x3), (4, vI 0), (5, vI 0)]) rfl ?_)
    exact F
theorem s_M_trees_19 {d : Nat}  (x1 x2 x3 x4 x5 : Int) (h : St) (K : Int → St → Prop) (F : (inR x5) ∧ (inR (h 110 0)) ∧ (((h 110 0) ≤ x5 → (inR x4) ∧ ((x4 = 0 → (wI (d + 5) m_M_trees 7 [(0, vR 109), (1, vI x1), (2, vI x2), (3, vI (x3 + 1))] [] h K)) ∧ (¬ (x4 = 0) → (0 ≤ h 109 36 ∧ h 109 36 < 12) ∧ (wI (d + 5) m_M_trees 7 [(0, vR 109), (1, vI x1), (2, vI x2), (3, vI (x3 + 1))] [] (up (up h 137 ((h 109 36).toNat) x3) 109 36 ((h 109 36) + 1)) K)))) ∧ (¬ ((h 110 0) ≤ x5) → (inR x4) ∧ ((x4 ≠ 0 → (wI (d + 5) m_M_trees 19 [(0, vR 109), (1, vI x1), (2, vI x2), (3, vI x3), (4, vI 1), (5, vI (x5 + 1))] [] h K)) ∧ (¬ (x4 ≠ 0) → (mwpI (d + 5) m_M_isOn [vR 109, vI x5, vI x1, vI x2] h (fun z9 h9 => (((inR z9) ∧ (¬ (z9 = 0) → ((0 ≤ x5 ∧ x5 < 180) ∧ (inR (h9 111 x5.toNat)) ∧ (inR x3) ∧ (¬ ((h9 111 x5.toNat) = x3) → ((inR (h9 112 x5.toNat)))))))) ∧ (wI (d + 5) m_M_trees 19 [(0, vR 109), (1, vI x1), (2, vI x2), (3, vI x3), (4, vI (b2i (¬ (z9 = 0) ∧ (((h9 111 x5.toNat) = x3) ∨ (¬ ((h9 112 x5.toNat) ≠ x3)))))), (5, vI (x5 + 1))] [] h9 K)))))))) : wI (d + 5) m_M_trees 19 [(0, vR 109), (1, vI x1), (2, vI x2), (3, vI x3), (4, vI x4), (5, vI x5)] [] h K := by
  refine w_iload rfl rfl ?_
  refine w_aload_n rfl rfl ?_
  refine w_getR rfl f_M_7 rfl rfl rfl rfl rfl ?_
  refine w_iconst rfl ?_
  refine w_iaload rfl rfl rfl ⟨by decide, by decide⟩ ?_
  obtain ⟨b1, F⟩ := F
  obtain ⟨b2, F⟩ := F
  refine w_icmp_ge (tgt := 81) rfl (by decide) ⟨b1, b2⟩ (fun q3 => ?_) (fun q3 => ?_)
  · replace F := F.1 q3
    refine w_iload rfl rfl ?_
    obtain ⟨b4, F⟩ := F
    refine w_if_eq (tgt := 106) rfl (by decide) b4 (fun q5 => ?_) (fun q5 => ?_)
    · replace F := F.1 q5
      refine w_iinc rfl rfl rfl rfl rfl (w_ls (ls2 := [(0, vR 109), (1, vI x1), (2, vI x2), (3, vI (x3 + 1)), (4, vI x4), (5, vI x5)]) rfl ?_)
      refine w_goto (tgt := 7) rfl (by decide) ?_
      exact w_kp [0, 1, 2, 3] F
    · replace F := F.2 q5
      refine w_aload_n rfl rfl ?_
      refine w_getR rfl f_M_99 rfl rfl rfl rfl rfl ?_
      refine w_aload_n rfl rfl ?_
      refine w_getI rfl f_M_261 rfl rfl rfl ?_
      refine w_iload_n rfl rfl ?_
      obtain ⟨b6, F⟩ := F
      refine w_iastore rfl rfl rfl b6 ?_
      refine w_aload_n rfl rfl ?_
      refine w_dup rfl rfl ?_
      refine w_getI rfl f_M_261 rfl rfl rfl ?_
      refine w_iconst rfl ?_
      refine w_iadd rfl ?_
      refine w_putI rfl f_M_261 fw_12_36 rfl rfl rfl ?_
      refine w_iinc rfl rfl rfl rfl rfl (w_ls (ls2 := [(0, vR 109), (1, vI x1), (2, vI x2), (3, vI (x3 + 1)), (4, vI x4), (5, vI x5)]) rfl ?_)
      refine w_goto (tgt := 7) rfl (by decide) ?_
      exact w_kp [0, 1, 2, 3] F
  · replace F := F.2 q3
    refine w_iload rfl rfl ?_
    obtain ⟨b7, F⟩ := F
    refine w_if_ne (tgt := 68) rfl (by decide) b7 (fun q8 => ?_) (fun q8 => ?_)
    · replace F := F.1 q8
      refine w_iconst rfl ?_
      refine w_goto (tgt := 73) rfl (by decide) ?_
      refine w_istore rfl rfl rfl rfl (w_ls (ls2 := [(0, vR 109), (1, vI x1), (2, vI x2), (3, vI x3), (4, vI 1), (5, vI x5)]) rfl ?_)
      refine w_iinc rfl rfl rfl rfl rfl (w_ls (ls2 := [(0, vR 109), (1, vI x1), (2, vI x2), (3, vI x3), (4, vI 1), (5, vI (x5 + 1))]) rfl ?_)
      refine w_goto (tgt := 19) rfl (by decide) ?_
      exact F
    · replace F := F.2 q8
      refine w_aload_n rfl rfl ?_
      refine w_iload rfl rfl ?_
      refine w_iload_n rfl rfl ?_
      refine w_iload_n rfl rfl ?_
      refine c_VI [vI x5, vI x1, vI x2] [] rfl b_M_isOn k_M_251 rfl rfl rfl rfl rfl rfl (mwpI_mono (fun z9 h9 F => ?_) F)
      obtain ⟨G, F⟩ := F
      have J : ∀ (t18 : Int), t18 = b2i (¬ (z9 = 0) ∧ (((h9 111 x5.toNat) = x3) ∨ (¬ ((h9 112 x5.toNat) ≠ x3)))) → wI (d + 5) m_M_trees 73 [(0, vR 109), (1, vI x1), (2, vI x2), (3, vI x3), (4, vI x4), (5, vI x5)] [vI t18] h9 K := by
        intro t18 et18
        subst et18
        refine w_istore rfl rfl rfl rfl (w_ls (ls2 := [(0, vR 109), (1, vI x1), (2, vI x2), (3, vI x3), (4, vI (b2i (¬ (z9 = 0) ∧ (((h9 111 x5.toNat) = x3) ∨ (¬ ((h9 112 x5.toNat) ≠ x3)))))), (5, vI x5)]) rfl ?_)
        refine w_iinc rfl rfl rfl rfl rfl (w_ls (ls2 := [(0, vR 109), (1, vI x1), (2, vI x2), (3, vI x3), (4, vI (b2i (¬ (z9 = 0) ∧ (((h9 111 x5.toNat) = x3) ∨ (¬ ((h9 112 x5.toNat) ≠ x3)))))), (5, vI (x5 + 1))]) rfl ?_)
        refine w_goto (tgt := 19) rfl (by decide) ?_
        exact F
      obtain ⟨b10, gb_⟩ := G
      refine w_if_eq (tgt := 72) rfl (by decide) b10 (fun q11 => ?_) (fun q11 => ?_)
      · refine w_iconst rfl ?_
        exact J _ (b2i_f (fun z => z.1 q11)).symm
      · have G := gb_ q11
        obtain ⟨b12, b13, b14, gb_⟩ := G
        refine w_aload_n rfl rfl ?_
        refine w_getR rfl f_M_13 rfl rfl rfl rfl rfl ?_
        refine w_iload rfl rfl ?_
        refine w_iaload rfl rfl rfl b12 ?_
        refine w_iload_n rfl rfl ?_
        refine w_icmp_eq (tgt := 68) rfl (by decide) ⟨b13, b14⟩ (fun q15 => ?_) (fun q15 => ?_)
        · refine w_iconst rfl ?_
          refine w_goto (tgt := 73) rfl (by decide) ?_
          exact J _ (b2i_t ⟨q11, (Or.inl q15)⟩).symm
        · have G := gb_ q15
          have b16 := G
          refine w_aload_n rfl rfl ?_
          refine w_getR rfl f_M_16 rfl rfl rfl rfl rfl ?_
          refine w_iload rfl rfl ?_
          refine w_iaload rfl rfl rfl b12 ?_
          refine w_iload_n rfl rfl ?_
          refine w_icmp_ne (tgt := 72) rfl (by decide) ⟨b16, b14⟩ (fun q17 => ?_) (fun q17 => ?_)
          · refine w_iconst rfl ?_
            exact J _ (b2i_f (fun z => (fun z => z.elim q15 (fun z => z q17)) z.2)).symm
          · refine w_iconst rfl ?_
            refine w_goto (tgt := 73) rfl (by decide) ?_
            exact J _ (b2i_t ⟨q11, (Or.inr q17)⟩).symm
theorem s_M_trees_134 {d : Nat}  (x1 x2 x3 : Int) (h : St) (K : Int → St → Prop) (F : (inR x3) ∧ (inR (h 109 36)) ∧ (((h 109 36) ≤ x3 → (wI (d + 5) m_M_trees 212 [(0, vR 109), (1, vI x1), (2, vI x2), (3, vI 1), (4, vI 0)] [] h K)) ∧ (¬ ((h 109 36) ≤ x3) → (wI (d + 5) m_M_trees 145 [(0, vR 109), (1, vI x1), (2, vI x2), (3, vI x3), (4, vI 0)] [] h K)))) : wI (d + 5) m_M_trees 134 [(0, vR 109), (1, vI x1), (2, vI x2), (3, vI x3)] [] h K := by
  refine w_iload_n rfl rfl ?_
  refine w_aload_n rfl rfl ?_
  refine w_getI rfl f_M_261 rfl rfl rfl ?_
  obtain ⟨b1, F⟩ := F
  obtain ⟨b2, F⟩ := F
  refine w_icmp_ge (tgt := 207) rfl (by decide) ⟨b1, b2⟩ (fun q3 => ?_) (fun q3 => ?_)
  · replace F := F.1 q3
    refine w_iconst rfl ?_
    refine w_istore_n rfl rfl rfl rfl (w_ls (ls2 := [(0, vR 109), (1, vI x1), (2, vI x2), (3, vI 1)]) rfl ?_)
    refine w_iconst rfl ?_
    refine w_istore rfl rfl rfl rfl (w_ls (ls2 := [(0, vR 109), (1, vI x1), (2, vI x2), (3, vI 1), (4, vI 0)]) rfl ?_)
    exact F
  · replace F := F.2 q3
    refine w_iconst rfl ?_
    refine w_istore rfl rfl rfl rfl (w_ls (ls2 := [(0, vR 109), (1, vI x1), (2, vI x2), (3, vI x3), (4, vI 0)]) rfl ?_)
    exact F
theorem s_M_trees_145 {d : Nat}  (x1 x2 x3 x4 : Int) (h : St) (K : Int → St → Prop) (F : (inR x4) ∧ (inR (h 109 36)) ∧ (((h 109 36) ≤ x4 → (wI (d + 5) m_M_trees 134 [(0, vR 109), (1, vI x1), (2, vI x2), (3, vI (x3 + 1))] [] h K)) ∧ (¬ ((h 109 36) ≤ x4) → (inR x3) ∧ ((x3 ≠ x4 → (0 ≤ x3 ∧ x3 < 12) ∧ (0 ≤ x4 ∧ x4 < 12) ∧ (mwpI (d + 5) m_M_signOf [vR 109, vI (h 137 x3.toNat), vI (h 137 x4.toNat), vI x1, vI x2] h (fun z8 h8 => (0 ≤ (6 * x3) + x4 ∧ (6 * x3) + x4 < 36) ∧ (wI (d + 5) m_M_trees 145 [(0, vR 109), (1, vI x1), (2, vI x2), (3, vI x3), (4, vI (x4 + 1))] [] (up h8 138 (((6 * x3) + x4).toNat) z8) K)))) ∧ (¬ (x3 ≠ x4) → (0 ≤ (6 * x3) + x4 ∧ (6 * x3) + x4 < 36) ∧ (wI (d + 5) m_M_trees 145 [(0, vR 109), (1, vI x1), (2, vI x2), (3, vI x3), (4, vI (x4 + 1))] [] (up h 138 (((6 * x3) + x4).toNat) 0) K)))))) : wI (d + 5) m_M_trees 145 [(0, vR 109), (1, vI x1), (2, vI x2), (3, vI x3), (4, vI x4)] [] h K := by
  refine w_iload rfl rfl ?_
  refine w_aload_n rfl rfl ?_
  refine w_getI rfl f_M_261 rfl rfl rfl ?_
  obtain ⟨b1, F⟩ := F
  obtain ⟨b2, F⟩ := F
  refine w_icmp_ge (tgt := 201) rfl (by decide) ⟨b1, b2⟩ (fun q3 => ?_) (fun q3 => ?_)
  · replace F := F.1 q3
    refine w_iinc rfl rfl rfl rfl rfl (w_ls (ls2 := [(0, vR 109), (1, vI x1), (2, vI x2), (3, vI (x3 + 1)), (4, vI x4)]) rfl ?_)
    refine w_goto (tgt := 134) rfl (by decide) ?_
    exact w_kp [0, 1, 2, 3] F
  · replace F := F.2 q3
    refine w_aload_n rfl rfl ?_
    refine w_getR rfl f_M_102 rfl rfl rfl rfl rfl ?_
    refine w_bipush (by decide) (by decide) rfl ?_
    refine w_iload_n rfl rfl ?_
    refine w_imul rfl ?_
    refine w_iload rfl rfl ?_
    refine w_iadd rfl ?_
    refine w_iload_n rfl rfl ?_
    refine w_iload rfl rfl ?_
    obtain ⟨b4, F⟩ := F
    refine w_icmp_ne (tgt := 175) rfl (by decide) ⟨b4, b1⟩ (fun q5 => ?_) (fun q5 => ?_)
    · replace F := F.1 q5
      refine w_aload_n rfl rfl ?_
      refine w_aload_n rfl rfl ?_
      refine w_getR rfl f_M_99 rfl rfl rfl rfl rfl ?_
      refine w_iload_n rfl rfl ?_
      obtain ⟨b6, F⟩ := F
      refine w_iaload rfl rfl rfl b6 ?_
      refine w_aload_n rfl rfl ?_
      refine w_getR rfl f_M_99 rfl rfl rfl rfl rfl ?_
      refine w_iload rfl rfl ?_
      obtain ⟨b7, F⟩ := F
      refine w_iaload rfl rfl rfl b7 ?_
      refine w_iload_n rfl rfl ?_
      refine w_iload_n rfl rfl ?_
      refine c_VI [vI (h 137 x3.toNat), vI (h 137 x4.toNat), vI x1, vI x2] [vI ((6 * x3) + x4), vR 138] rfl b_M_signOf k_M_257 rfl rfl rfl rfl rfl rfl (mwpI_mono (fun z8 h8 F => ?_) F)
      obtain ⟨b9, F⟩ := F
      refine w_iastore rfl rfl rfl b9 ?_
      refine w_iinc rfl rfl rfl rfl rfl (w_ls (ls2 := [(0, vR 109), (1, vI x1), (2, vI x2), (3, vI x3), (4, vI (x4 + 1))]) rfl ?_)
      refine w_goto (tgt := 145) rfl (by decide) ?_
      exact F
    · replace F := F.2 q5
      refine w_iconst rfl ?_
      refine w_goto (tgt := 194) rfl (by decide) ?_
      obtain ⟨b10, F⟩ := F
      refine w_iastore rfl rfl rfl b10 ?_
      refine w_iinc rfl rfl rfl rfl rfl (w_ls (ls2 := [(0, vR 109), (1, vI x1), (2, vI x2), (3, vI x3), (4, vI (x4 + 1))]) rfl ?_)
      refine w_goto (tgt := 145) rfl (by decide) ?_
      exact F
theorem s_M_trees_212 {d : Nat}  (x1 x2 x3 x4 : Int) (h : St) (K : Int → St → Prop) (F : (inR x4) ∧ (inR (h 109 36)) ∧ (((h 109 36) ≤ x4 → (wI (d + 5) m_M_trees 244 [(0, vR 109), (1, vI x1), (2, vI x2), (3, vI x3), (4, vI 0)] [] (up h 109 42 ((-1))) K)) ∧ (¬ ((h 109 36) ≤ x4) → (wI (d + 5) m_M_trees 212 [(0, vR 109), (1, vI x1), (2, vI x2), (3, vI (x3 * ((h 109 36) + 1))), (4, vI (x4 + 1))] [] h K)))) : wI (d + 5) m_M_trees 212 [(0, vR 109), (1, vI x1), (2, vI x2), (3, vI x3), (4, vI x4)] [] h K := by
  refine w_iload rfl rfl ?_
  refine w_aload_n rfl rfl ?_
  refine w_getI rfl f_M_261 rfl rfl rfl ?_
  obtain ⟨b1, F⟩ := F
  obtain ⟨b2, F⟩ := F
  refine w_icmp_ge (tgt := 236) rfl (by decide) ⟨b1, b2⟩ (fun q3 => ?_) (fun q3 => ?_)
  · replace F := F.1 q3
    refine w_aload_n rfl rfl ?_
    refine w_iconst rfl ?_
    refine w_putI rfl f_M_268 fw_12_42 rfl rfl rfl ?_
    refine w_iconst rfl ?_
    refine w_istore rfl rfl rfl rfl (w_ls (ls2 := [(0, vR 109), (1, vI x1), (2, vI x2), (3, vI x3), (4, vI 0)]) rfl ?_)
    exact F
  · replace F := F.2 q3
    refine w_iload_n rfl rfl ?_
    refine w_aload_n rfl rfl ?_
    refine w_getI rfl f_M_261 rfl rfl rfl ?_
    refine w_iconst rfl ?_
    refine w_iadd rfl ?_
    refine w_imul rfl ?_
    refine w_istore_n rfl rfl rfl rfl (w_ls (ls2 := [(0, vR 109), (1, vI x1), (2, vI x2), (3, vI (x3 * ((h 109 36) + 1))), (4, vI x4)]) rfl ?_)
    refine w_iinc rfl rfl rfl rfl rfl (w_ls (ls2 := [(0, vR 109), (1, vI x1), (2, vI x2), (3, vI (x3 * ((h 109 36) + 1))), (4, vI (x4 + 1))]) rfl ?_)
    refine w_goto (tgt := 212) rfl (by decide) ?_
    exact F
theorem s_M_trees_244 {d : Nat}  (x1 x2 x3 x4 : Int) (h : St) (K : Int → St → Prop) (F : (inR x4) ∧ (inR x3) ∧ ((x3 ≤ x4 → (K 0 h)) ∧ (¬ (x3 ≤ x4) → (mwpI (d + 5) m_M_isTree [vR 109, vI x4] h (fun z4 h4 => (inR z4) ∧ ((z4 ≠ 0 → (wI (d + 5) m_M_trees 268 [(0, vR 109), (1, vI x1), (2, vI x2), (3, vI x3), (4, vI x4), (5, vI 0), (6, vI 0)] [] h4 K)) ∧ (¬ (z4 ≠ 0) → (wI (d + 5) m_M_trees 244 [(0, vR 109), (1, vI x1), (2, vI x2), (3, vI x3), (4, vI (x4 + 1))] [] h4 K)))))))) : wI (d + 5) m_M_trees 244 [(0, vR 109), (1, vI x1), (2, vI x2), (3, vI x3), (4, vI x4)] [] h K := by
  refine w_iload rfl rfl ?_
  refine w_iload_n rfl rfl ?_
  obtain ⟨b1, F⟩ := F
  obtain ⟨b2, F⟩ := F
  refine w_icmp_ge (tgt := 460) rfl (by decide) ⟨b1, b2⟩ (fun q3 => ?_) (fun q3 => ?_)
  · replace F := F.1 q3
    refine w_iconst rfl ?_
    exact w_iret rfl rfl ⟨rfl, rfl, _, rfl, F⟩
  · replace F := F.2 q3
    refine w_aload_n rfl rfl ?_
    refine w_iload rfl rfl ?_
    refine c_VI [vI x4] [] rfl b_M_isTree k_M_271 rfl rfl rfl rfl rfl rfl (mwpI_mono (fun z4 h4 F => ?_) F)
    obtain ⟨b5, F⟩ := F
    refine w_if_ne (tgt := 262) rfl (by decide) b5 (fun q6 => ?_) (fun q6 => ?_)
    · replace F := F.1 q6
      refine w_iconst rfl ?_
      refine w_istore rfl rfl rfl rfl (w_ls (ls2 := [(0, vR 109), (1, vI x1), (2, vI x2), (3, vI x3), (4, vI x4), (5, vI 0)]) rfl ?_)
      refine w_iconst rfl ?_
      refine w_istore rfl rfl rfl rfl (w_ls (ls2 := [(0, vR 109), (1, vI x1), (2, vI x2), (3, vI x3), (4, vI x4), (5, vI 0), (6, vI 0)]) rfl ?_)
      exact F
    · replace F := F.2 q6
      refine w_goto (tgt := 454) rfl (by decide) ?_
      refine w_iinc rfl rfl rfl rfl rfl (w_ls (ls2 := [(0, vR 109), (1, vI x1), (2, vI x2), (3, vI x3), (4, vI (x4 + 1))]) rfl ?_)
      refine w_goto (tgt := 244) rfl (by decide) ?_
      exact F
theorem s_M_trees_268 {d : Nat}  (x1 x2 x3 x4 x5 x6 : Int) (h : St) (K : Int → St → Prop) (F : (inR x6) ∧ (inR (h 109 36)) ∧ (((h 109 36) ≤ x6 → (wI (d + 5) m_M_trees 327 [(0, vR 109), (1, vI x1), (2, vI x2), (3, vI x3), (4, vI x4), (5, vI x5), (6, vI 0)] [] h K)) ∧ (¬ ((h 109 36) ≤ x6) → (0 ≤ x6 ∧ x6 < 6) ∧ (((inR (h 139 x6.toNat)) ∧ (¬ ((h 109 36) ≤ (h 139 x6.toNat)) → ((0 ≤ (6 * (h 139 x6.toNat)) + x6 ∧ (6 * (h 139 x6.toNat)) + x6 < 36))))) ∧ (wI (d + 5) m_M_trees 268 [(0, vR 109), (1, vI x1), (2, vI x2), (3, vI x3), (4, vI x4), (5, vI (x5 + (cif ((h 109 36) ≤ (h 139 x6.toNat)) 0 (h 138 (((6 * (h 139 x6.toNat)) + x6).toNat))))), (6, vI (x6 + 1))] [] h K)))) : wI (d + 5) m_M_trees 268 [(0, vR 109), (1, vI x1), (2, vI x2), (3, vI x3), (4, vI x4), (5, vI x5), (6, vI x6)] [] h K := by
  refine w_iload rfl rfl ?_
  refine w_aload_n rfl rfl ?_
  refine w_getI rfl f_M_261 rfl rfl rfl ?_
  obtain ⟨b1, F⟩ := F
  obtain ⟨b2, F⟩ := F
  refine w_icmp_ge (tgt := 324) rfl (by decide) ⟨b1, b2⟩ (fun q3 => ?_) (fun q3 => ?_)
  · replace F := F.1 q3
    refine w_iconst rfl ?_
    refine w_istore rfl rfl rfl rfl (w_ls (ls2 := [(0, vR 109), (1, vI x1), (2, vI x2), (3, vI x3), (4, vI x4), (5, vI x5), (6, vI 0)]) rfl ?_)
    exact F
  · replace F := F.2 q3
    refine w_iload rfl rfl ?_
    refine w_aload_n rfl rfl ?_
    refine w_getR rfl f_M_105 rfl rfl rfl rfl rfl ?_
    refine w_iload rfl rfl ?_
    obtain ⟨b4, F⟩ := F
    refine w_iaload rfl rfl rfl b4 ?_
    refine w_aload_n rfl rfl ?_
    refine w_getI rfl f_M_261 rfl rfl rfl ?_
    obtain ⟨G, F⟩ := F
    have J : ∀ (t8 : Int), t8 = cif ((h 109 36) ≤ (h 139 x6.toNat)) 0 (h 138 (((6 * (h 139 x6.toNat)) + x6).toNat)) → wI (d + 5) m_M_trees 315 [(0, vR 109), (1, vI x1), (2, vI x2), (3, vI x3), (4, vI x4), (5, vI x5), (6, vI x6)] [vI t8, vI x5] h K := by
      intro t8 et8
      subst et8
      refine w_iadd rfl ?_
      refine w_istore rfl rfl rfl rfl (w_ls (ls2 := [(0, vR 109), (1, vI x1), (2, vI x2), (3, vI x3), (4, vI x4), (5, vI (x5 + (cif ((h 109 36) ≤ (h 139 x6.toNat)) 0 (h 138 (((6 * (h 139 x6.toNat)) + x6).toNat))))), (6, vI x6)]) rfl ?_)
      refine w_iinc rfl rfl rfl rfl rfl (w_ls (ls2 := [(0, vR 109), (1, vI x1), (2, vI x2), (3, vI x3), (4, vI x4), (5, vI (x5 + (cif ((h 109 36) ≤ (h 139 x6.toNat)) 0 (h 138 (((6 * (h 139 x6.toNat)) + x6).toNat))))), (6, vI (x6 + 1))]) rfl ?_)
      refine w_goto (tgt := 268) rfl (by decide) ?_
      exact F
    obtain ⟨b5, gb_⟩ := G
    refine w_icmp_ge (tgt := 314) rfl (by decide) ⟨b5, b2⟩ (fun q6 => ?_) (fun q6 => ?_)
    · refine w_iconst rfl ?_
      exact J _ (cif_t q6).symm
    · have G := gb_ q6
      have b7 := G
      refine w_aload_n rfl rfl ?_
      refine w_getR rfl f_M_102 rfl rfl rfl rfl rfl ?_
      refine w_bipush (by decide) (by decide) rfl ?_
      refine w_aload_n rfl rfl ?_
      refine w_getR rfl f_M_105 rfl rfl rfl rfl rfl ?_
      refine w_iload rfl rfl ?_
      refine w_iaload rfl rfl rfl b4 ?_
      refine w_imul rfl ?_
      refine w_iload rfl rfl ?_
      refine w_iadd rfl ?_
      refine w_iaload rfl rfl rfl b7 ?_
      refine w_goto (tgt := 315) rfl (by decide) ?_
      exact J _ (cif_f q6).symm
theorem s_M_trees_327 {d : Nat}  (x1 x2 x3 x4 x5 x6 : Int) (h : St) (K : Int → St → Prop) (F : (inR x6) ∧ (inR (h 109 36)) ∧ (((h 109 36) ≤ x6 → (((inR x5) ∧ (inR (h 109 42)))) ∧ (wI (d + 5) m_M_trees 244 [(0, vR 109), (1, vI x1), (2, vI x2), (3, vI x3), (4, vI (x4 + 1))] [] (up h 109 42 (cif (x5 ≤ (h 109 42)) (h 109 42) x5)) K)) ∧ (¬ ((h 109 36) ≤ x6) → (inR x5) ∧ (inR (h 109 42)) ∧ ((x5 < (h 109 42) → (wI (d + 5) m_M_trees 244 [(0, vR 109), (1, vI x1), (2, vI x2), (3, vI x3), (4, vI (x4 + 1))] [] (up h 109 42 (cif (x5 ≤ (h 109 42)) (h 109 42) x5)) K)) ∧ (¬ (x5 < (h 109 42)) → (((x5 ≤ (h 109 42) → ((0 ≤ x6 ∧ x6 < 6) ∧ (inR (h 139 x6.toNat)) ∧ (inR (h 140 x6.toNat)))))) ∧ (0 ≤ x6 ∧ x6 < 6) ∧ (wI (d + 5) m_M_trees 327 [(0, vR 109), (1, vI x1), (2, vI x2), (3, vI x3), (4, vI x4), (5, vI x5), (6, vI (x6 + 1))] [] (up (up h 141 x6.toNat (cif (x5 ≤ (h 109 42)) (cif ((h 139 x6.toNat) ≠ (h 140 x6.toNat)) 0 (h 141 x6.toNat)) 1)) 140 x6.toNat (cif (x5 ≤ (h 109 42)) (h 140 x6.toNat) (h 139 x6.toNat))) K)))))) : wI (d + 5) m_M_trees 327 [(0, vR 109), (1, vI x1), (2, vI x2), (3, vI x3), (4, vI x4), (5, vI x5), (6, vI x6)] [] h K := by
  refine w_iload rfl rfl ?_
  refine w_aload_n rfl rfl ?_
  refine w_getI rfl f_M_261 rfl rfl rfl ?_
  obtain ⟨b1, F⟩ := F
  obtain ⟨b2, F⟩ := F
  refine w_icmp_ge (tgt := 432) rfl (by decide) ⟨b1, b2⟩ (fun q3 => ?_) (fun q3 => ?_)
  · replace F := F.1 q3
    refine w_aload_n rfl rfl ?_
    refine w_iload rfl rfl ?_
    refine w_aload_n rfl rfl ?_
    refine w_getI rfl f_M_268 rfl rfl rfl ?_
    obtain ⟨G, F⟩ := F
    have J : ∀ (t7 : Int), t7 = cif (x5 ≤ (h 109 42)) (h 109 42) x5 → wI (d + 5) m_M_trees 451 [(0, vR 109), (1, vI x1), (2, vI x2), (3, vI x3), (4, vI x4), (5, vI x5), (6, vI x6)] [vI t7, vR 109] h K := by
      intro t7 et7
      subst et7
      refine w_putI rfl f_M_268 fw_12_42 rfl rfl rfl ?_
      refine w_iinc rfl rfl rfl rfl rfl (w_ls (ls2 := [(0, vR 109), (1, vI x1), (2, vI x2), (3, vI x3), (4, vI (x4 + 1)), (5, vI x5), (6, vI x6)]) rfl ?_)
      refine w_goto (tgt := 244) rfl (by decide) ?_
      exact w_kp [0, 1, 2, 3, 4] F
    obtain ⟨b4, b5⟩ := G
    refine w_icmp_le (tgt := 447) rfl (by decide) ⟨b4, b5⟩ (fun q6 => ?_) (fun q6 => ?_)
    · refine w_aload_n rfl rfl ?_
      refine w_getI rfl f_M_268 rfl rfl rfl ?_
      exact J _ (cif_t q6).symm
    · refine w_iload rfl rfl ?_
      refine w_goto (tgt := 451) rfl (by decide) ?_
      exact J _ (cif_f q6).symm
  · replace F := F.2 q3
    refine w_iload rfl rfl ?_
    refine w_aload_n rfl rfl ?_
    refine w_getI rfl f_M_268 rfl rfl rfl ?_
    obtain ⟨b8, F⟩ := F
    obtain ⟨b9, F⟩ := F
    refine w_icmp_lt (tgt := 432) rfl (by decide) ⟨b8, b9⟩ (fun q10 => ?_) (fun q10 => ?_)
    · replace F := F.1 q10
      refine w_aload_n rfl rfl ?_
      refine w_iload rfl rfl ?_
      refine w_aload_n rfl rfl ?_
      refine w_getI rfl f_M_268 rfl rfl rfl ?_
      have J : ∀ (t12 : Int), t12 = cif (x5 ≤ (h 109 42)) (h 109 42) x5 → wI (d + 5) m_M_trees 451 [(0, vR 109), (1, vI x1), (2, vI x2), (3, vI x3), (4, vI x4), (5, vI x5), (6, vI x6)] [vI t12, vR 109] h K := by
        intro t12 et12
        subst et12
        refine w_putI rfl f_M_268 fw_12_42 rfl rfl rfl ?_
        refine w_iinc rfl rfl rfl rfl rfl (w_ls (ls2 := [(0, vR 109), (1, vI x1), (2, vI x2), (3, vI x3), (4, vI (x4 + 1)), (5, vI x5), (6, vI x6)]) rfl ?_)
        refine w_goto (tgt := 244) rfl (by decide) ?_
        exact w_kp [0, 1, 2, 3, 4] F
      refine w_icmp_le (tgt := 447) rfl (by decide) ⟨b8, b9⟩ (fun q11 => ?_) (fun q11 => ?_)
      · refine w_aload_n rfl rfl ?_
        refine w_getI rfl f_M_268 rfl rfl rfl ?_
        exact J _ (cif_t q11).symm
      · refine w_iload rfl rfl ?_
        refine w_goto (tgt := 451) rfl (by decide) ?_
        exact J _ (cif_f q11).symm
    · replace F := F.2 q10
      refine w_aload_n rfl rfl ?_
      refine w_getR rfl f_M_111 rfl rfl rfl rfl rfl ?_
      refine w_iload rfl rfl ?_
      refine w_iload rfl rfl ?_
      refine w_aload_n rfl rfl ?_
      refine w_getI rfl f_M_268 rfl rfl rfl ?_
      obtain ⟨G, F⟩ := F
      have J : ∀ (t18 : Int), t18 = cif (x5 ≤ (h 109 42)) (cif ((h 139 x6.toNat) ≠ (h 140 x6.toNat)) 0 (h 141 x6.toNat)) 1 → wI (d + 5) m_M_trees 392 [(0, vR 109), (1, vI x1), (2, vI x2), (3, vI x3), (4, vI x4), (5, vI x5), (6, vI x6)] [vI t18, vI x6, vR 141] h K := by
        intro t18 et18
        subst et18
        obtain ⟨b19, F⟩ := F
        refine w_iastore rfl rfl rfl b19 ?_
        refine w_aload_n rfl rfl ?_
        refine w_getR rfl f_M_108 rfl rfl rfl rfl rfl ?_
        refine w_iload rfl rfl ?_
        refine w_iload rfl rfl ?_
        refine w_aload_n rfl rfl ?_
        refine w_getI rfl f_M_268 rfl rfl rfl ?_
        have J : ∀ (t21 : Int), t21 = cif (x5 ≤ (h 109 42)) (h 140 x6.toNat) (h 139 x6.toNat) → wI (d + 5) m_M_trees 425 [(0, vR 109), (1, vI x1), (2, vI x2), (3, vI x3), (4, vI x4), (5, vI x5), (6, vI x6)] [vI t21, vI x6, vR 140] (up h 141 x6.toNat (cif (x5 ≤ (h 109 42)) (cif ((h 139 x6.toNat) ≠ (h 140 x6.toNat)) 0 (h 141 x6.toNat)) 1)) K := by
          intro t21 et21
          subst et21
          refine w_iastore rfl rfl rfl b19 ?_
          refine w_iinc rfl rfl rfl rfl rfl (w_ls (ls2 := [(0, vR 109), (1, vI x1), (2, vI x2), (3, vI x3), (4, vI x4), (5, vI x5), (6, vI (x6 + 1))]) rfl ?_)
          refine w_goto (tgt := 327) rfl (by decide) ?_
          exact F
        refine w_icmp_le (tgt := 418) rfl (by decide) ⟨b8, b9⟩ (fun q20 => ?_) (fun q20 => ?_)
        · refine w_aload_n rfl rfl ?_
          refine w_getR rfl f_M_108 rfl rfl rfl rfl rfl ?_
          refine w_iload rfl rfl ?_
          refine w_iaload rfl rfl rfl b19 ?_
          exact J _ (cif_t q20).symm
        · refine w_aload_n rfl rfl ?_
          refine w_getR rfl f_M_105 rfl rfl rfl rfl rfl ?_
          refine w_iload rfl rfl ?_
          refine w_iaload rfl rfl rfl b19 ?_
          refine w_goto (tgt := 425) rfl (by decide) ?_
          exact J _ (cif_f q20).symm
      have ga_ := G
      refine w_icmp_le (tgt := 364) rfl (by decide) ⟨b8, b9⟩ (fun q13 => ?_) (fun q13 => ?_)
      · have G := ga_ q13
        obtain ⟨b14, b15, b16⟩ := G
        refine w_aload_n rfl rfl ?_
        refine w_getR rfl f_M_105 rfl rfl rfl rfl rfl ?_
        refine w_iload rfl rfl ?_
        refine w_iaload rfl rfl rfl b14 ?_
        refine w_aload_n rfl rfl ?_
        refine w_getR rfl f_M_108 rfl rfl rfl rfl rfl ?_
        refine w_iload rfl rfl ?_
        refine w_iaload rfl rfl rfl b14 ?_
        refine w_icmp_ne (tgt := 391) rfl (by decide) ⟨b15, b16⟩ (fun q17 => ?_) (fun q17 => ?_)
        · refine w_iconst rfl ?_
          exact J _ ((cif_t q13).trans (cif_t q17)).symm
        · refine w_aload_n rfl rfl ?_
          refine w_getR rfl f_M_111 rfl rfl rfl rfl rfl ?_
          refine w_iload rfl rfl ?_
          refine w_iaload rfl rfl rfl b14 ?_
          refine w_goto (tgt := 392) rfl (by decide) ?_
          exact J _ ((cif_t q13).trans (cif_f q17)).symm
      · refine w_iconst rfl ?_
        refine w_goto (tgt := 392) rfl (by decide) ?_
        exact J _ (cif_f q13).symm
theorem pw_7 : ∀ N, N ≤ 6 → (N + 1) ^ N ≤ 117649 := by decide
theorem M_iT_109 {D : Nat} {h : St} {K : Int → St → Prop} {N k0 : Nat} {w : Nat → Nat} {x1 x2 x3 : Int} (e36 : h 109 36 = (N : Int)) (hN : N ≤ 6) (e139 : ∀ k, k < N → h 139 k = (w k : Int)) (hw : ∀ k, w k ≤ N) (ok : itT N N w (N + 1) k0 = N → wI D m_M_isTree 93 [(0, vR 109), (1, vI x1), (2, vI x2), (3, vI x3), (4, vI ((k0 : Int) + 1))] [] h K) (no : itT N N w (N + 1) k0 ≠ N → K 0 h) : ∀ (r s u : Nat), s + r = N → u = itT N N w s k0 → u < N → wI D m_M_isTree 109 [(0, vR 109), (1, vI x1), (2, vI x2), (3, vI x3), (4, vI k0), (5, vI u), (6, vI s)] [] h K := by
  intro r
  induction r with
  | zero =>
    intro s u hs eu hu
    have wu := hw u
    have es : s = N := by omega
    subst es
    refine s_M_isTree_109 _ _ _ _ _ _ h K ⟨⟨by omega, by omega⟩, ⟨by omega, by omega⟩, fun _ => ⟨⟨by omega, by omega⟩, ?_⟩, fun y => by omega⟩
    rw [Int.toNat_natCast, e139 u hu, e36]
    have e1 : itT s s w (s + 1) k0 = w u := by rw [itT_s, ← eu]; exact nif_t hu
    refine ⟨⟨by omega, by omega⟩, fun y => ok (by rw [e1]; omega), fun y => no (by rw [e1]; omega)⟩
  | succ r ih =>
    intro s u hs eu hu
    have wu := hw u
    have e1 : itT N N w (s + 1) k0 = w u := by rw [itT_s, ← eu]; exact nif_t hu
    refine s_M_isTree_109 _ _ _ _ _ _ h K ⟨⟨by omega, by omega⟩, ⟨by omega, by omega⟩, fun y => by omega, fun _ => ⟨⟨by omega, by omega⟩, ?_⟩⟩
    rw [Int.toNat_natCast, e139 u hu, e36]
    refine ⟨⟨by omega, by omega⟩, fun y => ⟨fun _ => ok (itT_ab (Nat.le_refl _) (s := s + 1) (by rw [e1]; omega) (by omega)), fun z => absurd y z⟩, fun y => ih (s + 1) (w u) (by omega) e1.symm (by omega)⟩
theorem M_iT_93 {D : Nat} {h : St} {K : Int → St → Prop} {N : Nat} {w : Nat → Nat} {x1 x2 x3 : Int} (e36 : h 109 36 = (N : Int)) (hN : N ≤ 6) (e139 : ∀ k, k < N → h 139 k = (w k : Int)) (hw : ∀ k, w k ≤ N) (ok : (∀ k, k < N → itT N N w (N + 1) k = N) → K 1 h) (no : (¬ ∀ k, k < N → itT N N w (N + 1) k = N) → K 0 h) : ∀ (r c : Nat), c + r = N → (∀ k, k < c → itT N N w (N + 1) k = N) → wI D m_M_isTree 93 [(0, vR 109), (1, vI x1), (2, vI x2), (3, vI x3), (4, vI c)] [] h K := by
  intro r
  induction r with
  | zero =>
    intro c hc al
    exact s_M_isTree_93 _ _ _ _ h K ⟨⟨by omega, by omega⟩, ⟨by omega, by omega⟩, fun _ => ok (fun k hk => al k (by omega)), fun y => by omega⟩
  | succ r ih =>
    intro c hc al
    refine s_M_isTree_93 _ _ _ _ h K ⟨⟨by omega, by omega⟩, ⟨by omega, by omega⟩, fun y => by omega, fun _ => M_iT_109 e36 hN e139 hw (fun e => ih (c + 1) (by omega) (fun k hk => ?_)) (fun ne => no (fun z => ne (z c (by omega)))) N 0 c (Nat.zero_add _) rfl (by omega)⟩
    by_cases q : k = c
    · subst q; exact e
    · exact al k (by omega)
theorem M_iT_12 {D : Nat} {K : Int → St → Prop} {N c : Nat} {x1 : Int} (hN : 2 ≤ N ∧ N ≤ 6) (hc : c < (N + 1) ^ N) : ∀ (j : Nat) (x3 x4 : Int) (h : St), x4 = (j : Int) - 1 → j ≤ N → h 109 36 = (N : Int) → (∀ k, j ≤ k → k < N → h 139 k = (dgT N N c k : Int) ∧ dgT N N c k ≠ k) → x3 + sm (fun k => b2i (dgT N N c k = N)) j = sm (fun k => b2i (dgT N N c k = N)) N → (0 ≤ x3 ∧ x3 ≤ 10) → (TrT N (dgT N N c) → ∀ h2, ag (fun c _ => c ≠ 139) h h2 → (∀ k, k < N → h2 139 k = (dgT N N c k : Int)) → K 1 h2) → (¬ TrT N (dgT N N c) → ∀ h2, ag (fun c _ => c ≠ 139) h h2 → K 0 h2) → wI D m_M_isTree 12 [(0, vR 109), (1, vI x1), (2, vI ((c / (N + 1) ^ (N - j) : Nat) : Int)), (3, vI x3), (4, vI x4)] [] h K := by
  have p7 := pw_7 N hN.2
  have sb : ∀ j, 0 ≤ sm (fun k => b2i (dgT N N c k = N)) j ∧ sm (fun k => b2i (dgT N N c k = N)) j ≤ 1 * j := fun j => sm_bnd (by decide) j (fun i _ => b2i_B)
  intro j
  induction j with
  | zero =>
    intro x3 x4 h ex hj e36 w sx rx k1 k0
    have s0 : sm (fun k => b2i (dgT N N c k = N)) 0 = 0 := rfl
    have e139 : ∀ k, k < N → h 139 k = (dgT N N c k : Int) := fun k hk => (w k (Nat.zero_le _) hk).1
    refine s_M_isTree_12 _ _ _ _ h K ⟨⟨by omega, by omega⟩, fun _ => ⟨⟨by omega, by omega⟩, fun y => ?_, fun y => k0 (fun tr => y (by have := tr.2.1; omega)) h ag_rfl⟩, fun y => by omega⟩
    refine M_iT_93 e36 hN.2 e139 (fun k => dg_le) (fun al => k1 ⟨fun k hk => (w k (Nat.zero_le _) hk).2, by omega, al⟩ h ag_rfl e139) (fun no => k0 (fun tr => no tr.2.2) h ag_rfl) N 0 (Nat.zero_add _) (fun k hk => absurd hk (Nat.not_lt_zero _))
  | succ j ih =>
    intro x3 x4 h ex hj e36 w sx rx k1 k0
    have e2 : x4 = (j : Int) := by omega
    subst e2
    have lc : c / (N + 1) ^ (N - (j + 1)) ≤ c := Nat.div_le_self _ _
    have rl : inR ((c / (N + 1) ^ (N - (j + 1)) : Nat) : Int) := by
      generalize c / (N + 1) ^ (N - (j + 1)) = q at lc
      exact ⟨by omega, by omega⟩
    have ed : dgT N N c j = (c / (N + 1) ^ (N - (j + 1))) % (N + 1) := by unfold dgT; rw [show N - 1 - j = N - (j + 1) by omega]
    have dl : dgT N N c j ≤ N := dg_le
    have et : ((c / (N + 1) ^ (N - (j + 1)) : Nat) : Int).tmod ((h 109 36) + 1) = (dgT N N c j : Int) := by rw [e36, ed]; rfl
    have eq : ((c / (N + 1) ^ (N - (j + 1)) : Nat) : Int).tdiv ((h 109 36) + 1) = ((c / (N + 1) ^ (N - j) : Nat) : Int) := by
      rw [e36, show N - j = (N - (j + 1)) + 1 by omega, Nat.pow_succ, ← Nat.div_div_eq_div_mul]; rfl
    have b01 := b2i_B (p := dgT N N c j = N)
    have sbj := sb j
    have sbn := sb N
    rw [sm_succ] at sx
    refine s_M_isTree_12 _ _ _ _ h K ⟨⟨by omega, by omega⟩, fun y => by omega, fun _ => ?_⟩
    rw [et, eq, e36, Int.toNat_natCast, up_same]
    refine ⟨rl, ⟨by omega, by omega⟩, by omega, ⟨by omega, by omega⟩, by omega, ⟨⟨by omega, by omega⟩, ⟨by omega, by omega⟩⟩, ⟨by omega, by omega⟩, fun y => ?_, fun y => k0 (fun tr => tr.1 j (by omega) (by omega)) _ (ag_up (by omega) ag_rfl)⟩
    have eb : b2i (¬ ((dgT N N c j : Int) ≠ (N : Int))) = b2i (dgT N N c j = N) := b2i_congr (by omega)
    rw [eb]
    refine ih _ _ _ (by omega) (by omega) (by rw [up_ne (by omega)]; exact e36) (fun k h1 h2 => ?_) (by omega) (by omega) (fun tr h2 g2 => k1 tr h2 (ag_trans (ag_up (by omega) ag_rfl) g2)) (fun tr h2 g2 => k0 tr h2 (ag_trans (ag_up (by omega) ag_rfl) g2))
    by_cases q : k = j
    · subst q; rw [up_same]; exact ⟨rfl, by omega⟩
    · rw [up_ne (by omega)]; exact w k (by omega) h2
theorem c_M_isTree {D : Nat} {h : St} {K : Int → St → Prop} {N c : Nat} (hN : 2 ≤ N ∧ N ≤ 6) (hc : c < (N + 1) ^ N) (e36 : h 109 36 = (N : Int)) (k1 : TrT N (dgT N N c) → ∀ h2, ag (fun c _ => c ≠ 139) h h2 → (∀ k, k < N → h2 139 k = (dgT N N c k : Int)) → K 1 h2) (k0 : ¬ TrT N (dgT N N c) → ∀ h2, ag (fun c _ => c ≠ 139) h h2 → K 0 h2) : mwpI (D + 1) m_M_isTree [vR 109, vI c] h K := by
  refine mI_intro b_M_isTree rfl (s_M_isTree_0 (d := D) _ h K ?_)
  have := M_iT_12 (D := D) (K := K) (x1 := (c : Int)) hN hc N 0 (h 109 36 - 1) h (by omega) (Nat.le_refl _) e36 (fun k h1 h2 => by omega) (by omega) (by omega) k1 k0
  rw [Nat.sub_self, Nat.pow_zero, Nat.div_one] at this
  exact this
def MR (h : St) (N : Nat) (st : Stt) : Prop := h 109 42 = st.1 ∧ (-1 ≤ st.1 ∧ st.1 ≤ 10000) ∧ (0 ≤ st.1 → ∀ k, k < N → h 140 k = (st.2.1 k : Int) ∧ (st.2.1 k < N → h 141 k = st.2.2 k) ∧ (0 ≤ h 141 k ∧ h 141 k ≤ 1)) ∧ (∀ k, st.2.1 k ≤ N)
theorem MR_c {h h2 : St} {N : Nat} {st : Stt} (g : ag (fun c k => c = 140 ∨ c = 141 ∨ (c = 109 ∧ k = 42)) h h2) (a : MR h N st) : MR h2 N st :=
  ⟨by rw [g 109 42 (by omega)]; exact a.1, a.2.1, fun y k hk => by rw [g 140 k (by omega), g 141 k (by omega)]; exact a.2.2.1 y k hk, a.2.2.2⟩
def MG (h : St) (N : Nat) (S : Nat → Nat → Int) : Prop := h 109 36 = (N : Int) ∧ (2 ≤ N ∧ N ≤ 6) ∧ (∀ i j, 0 ≤ S i j ∧ S i j ≤ 1000) ∧ (∀ i j, i < N → j < N → i ≠ j → h 138 (6 * i + j) = S i j)
theorem MG_c {h h2 : St} {N : Nat} {S : Nat → Nat → Int} (g : ag (fun c k => (c = 109 ∧ k = 36) ∨ c = 138) h h2) (a : MG h N S) : MG h2 N S :=
  ⟨by rw [g 109 36 (by omega)]; exact a.1, a.2.1, a.2.2.1, fun i j hi hj ne => by rw [g 138 _ (by omega)]; exact a.2.2.2 i j hi hj ne⟩
theorem M_ts_327 {D : Nat} {h0 : St} {K : Int → St → Prop} {N : Nat} {w : Nat → Nat} {st : Stt} {s x1 x2 x3 x4 : Int} (e36 : h0 109 36 = (N : Int)) (hN : 2 ≤ N ∧ N ≤ 6) (e139 : ∀ k, k < N → h0 139 k = (w k : Int)) (hw : ∀ k, w k ≤ N) (mr : MR h0 N st) (hs : 0 ≤ s ∧ s ≤ 6000) (k : ∀ h2, ag (fun c k => c ≠ 140 ∧ c ≠ 141 ∧ ¬ (c = 109 ∧ k = 42)) h0 h2 → MR h2 N (wgT N w s st) → wI (D + 5) m_M_trees 244 [(0, vR 109), (1, vI x1), (2, vI x2), (3, vI x3), (4, vI (x4 + 1))] [] h2 K) : ∀ (r c : Nat) (h : St), c + r = N → (0 < c → st.1 ≤ s) → ag (fun c _ => c ≠ 140 ∧ c ≠ 141) h0 h → (∀ k, k < c → h 140 k = cif (s ≤ st.1) (h0 140 k) (w k) ∧ h 141 k = cif (s ≤ st.1) (cif ((w k : Int) ≠ h0 140 k) 0 (h0 141 k)) 1) → (∀ k, c ≤ k → h 140 k = h0 140 k ∧ h 141 k = h0 141 k) → wI (D + 5) m_M_trees 327 [(0, vR 109), (1, vI x1), (2, vI x2), (3, vI x3), (4, vI x4), (5, vI s), (6, vI c)] [] h K := by
  obtain ⟨a1, a2, a3, a4⟩ := mr
  intro r
  induction r with
  | zero =>
    intro c h hc cp g w1 w2
    have ec : c = N := by omega
    subst ec
    have cp2 := cp (by omega)
    have g1 := g 109 36 (by omega)
    have g2 := g 109 42 (by omega)
    refine s_M_trees_327 _ _ _ _ _ _ h K ⟨⟨by omega, by omega⟩, ⟨by omega, by omega⟩, fun _ => ⟨⟨⟨by omega, by omega⟩, ⟨by omega, by omega⟩⟩, ?_⟩, fun y => by omega⟩
    refine k _ (ag_up (by omega) (ag_sub (fun c k p => by omega) g)) ?_
    rw [g2, a1]
    by_cases lt : st.1 < s
    · have f1 : (wgT c w s st).1 = s := cif_t lt
      have f2 : ∀ k, (wgT c w s st).2.1 k = w k := fun k => nif_t lt
      have f3 : ∀ k, (wgT c w s st).2.2 k = cif (k < c ∧ w k ≠ c) 1 0 := fun k => cif_t lt
      refine ⟨by rw [up_same, f1, cif_f (by omega)], by rw [f1]; omega, fun _ k hk => ?_, fun k => by rw [f2]; exact hw k⟩
      rw [up_ne (by omega), up_ne (by omega), (w1 k hk).1, (w1 k hk).2, f2, f3, cif_f (by omega), cif_f (by omega)]
      exact ⟨rfl, fun q => (cif_t ⟨hk, by omega⟩).symm, by omega⟩
    · have f1 : (wgT c w s st).1 = st.1 := cif_f lt
      have f2 : ∀ k, (wgT c w s st).2.1 k = st.2.1 k := fun k => nif_f lt
      have f3 : ∀ k, (wgT c w s st).2.2 k = cif (s = st.1 ∧ w k ≠ st.2.1 k) 0 (st.2.2 k) := fun k => cif_f lt
      refine ⟨by rw [up_same, f1, cif_t (by omega)], by rw [f1]; exact a2, fun q k hk => ?_, fun k => by rw [f2]; exact a4 k⟩
      have q2 : 0 ≤ st.1 := by rw [f1] at q; exact q
      obtain ⟨b1, b2, b3⟩ := a3 q2 k hk
      rw [up_ne (by omega), up_ne (by omega), (w1 k hk).1, (w1 k hk).2, f2, f3, cif_t (by omega), cif_t (by omega), b1]
      refine ⟨rfl, fun q3 => ?_, ?_⟩
      · by_cases y : w k = st.2.1 k
        · rw [cif_f (by omega), cif_f (fun z => z.2 y)]; exact b2 q3
        · rw [cif_t (by omega), cif_t ⟨by omega, y⟩]
      · by_cases y : w k = st.2.1 k
        · rw [cif_f (by omega)]; exact b3
        · rw [cif_t (by omega)]; omega
  | succ r ih =>
    intro c h hc cp g w1 w2
    have g1 := g 109 36 (by omega)
    have g2 := g 109 42 (by omega)
    have wc := hw c
    refine s_M_trees_327 _ _ _ _ _ _ h K ⟨⟨by omega, by omega⟩, ⟨by omega, by omega⟩, fun y => by omega, fun _ => ⟨⟨by omega, by omega⟩, ⟨by omega, by omega⟩, fun y => ?_, fun y => ?_⟩⟩
    · have c0 : c = 0 := by
        by_cases q : c = 0
        · exact q
        · have := cp (by omega); omega
      subst c0
      refine k _ (ag_up (by omega) (ag_sub (fun c k p => by omega) g)) ?_
      rw [wg_va (Int.le_refl s) (Or.inl (by omega)), g2, a1, cif_t (by omega)]
      exact ⟨by rw [up_same], a2, fun q k hk => by rw [up_ne (by omega), up_ne (by omega), (w2 k (Nat.zero_le _)).1, (w2 k (Nat.zero_le _)).2]; exact a3 q k hk, a4⟩
    · have q0 : st.1 ≤ s := by omega
      obtain ⟨o1, o2⟩ := w2 c (Nat.le_refl _)
      rw [Int.toNat_natCast, g 139 c (by omega), e139 c (by omega), o1, o2, g2, a1]
      refine ⟨fun z => ⟨⟨by omega, by omega⟩, ⟨by omega, by omega⟩, ?_⟩, ⟨by omega, by omega⟩, ?_⟩
      · rw [(a3 (by omega) c (by omega)).1]
        have := a4 c
        exact ⟨by omega, by omega⟩
      · refine ih (c + 1) _ (by omega) (fun _ => q0) (ag_up (by omega) (ag_up (by omega) g)) (fun k hk => ?_) (fun k hk => by rw [up_ne (by omega), up_ne (by omega), up_ne (by omega), up_ne (by omega)]; exact w2 k (by omega))
        by_cases q : k = c
        · subst q
          exact ⟨by rw [up_same], by rw [up_ne (by omega), up_same]⟩
        · rw [up_ne (by omega), up_ne (by omega), up_ne (by omega), up_ne (by omega)]; exact w1 k (by omega)
theorem M_ts_268 {D : Nat} {h : St} {K : Int → St → Prop} {N : Nat} {S : Nat → Nat → Int} {w : Nat → Nat} {x1 x2 x3 x4 : Int} (mg : MG h N S) (e139 : ∀ k, k < N → h 139 k = (w k : Int)) (hw : ∀ k, w k ≤ N) (ne : ∀ k, k < N → w k ≠ k) (k : wI (D + 5) m_M_trees 327 [(0, vR 109), (1, vI x1), (2, vI x2), (3, vI x3), (4, vI x4), (5, vI (smT N S w N)), (6, vI 0)] [] h K) : ∀ (r c : Nat), c + r = N → wI (D + 5) m_M_trees 268 [(0, vR 109), (1, vI x1), (2, vI x2), (3, vI x3), (4, vI x4), (5, vI (smT N S w c)), (6, vI c)] [] h K := by
  have e36 := mg.1
  have hN := mg.2.1
  intro r
  induction r with
  | zero =>
    intro c hc
    have ec : c = N := by omega
    subst ec
    exact s_M_trees_268 _ _ _ _ _ _ h K ⟨⟨by omega, by omega⟩, ⟨by omega, by omega⟩, fun _ => k, fun y => by omega⟩
  | succ r ih =>
    intro c hc
    have wc := hw c
    have nx := ih (c + 1) (by omega)
    have es : smT N S w (c + 1) = smT N S w c + svT N S w c := sm_succ _ _
    rw [es] at nx
    refine s_M_trees_268 _ _ _ _ _ _ h K ⟨⟨by omega, by omega⟩, ⟨by omega, by omega⟩, fun y => by omega, fun _ => ⟨⟨by omega, by omega⟩, ?_⟩⟩
    rw [Int.toNat_natCast, e139 c (by omega), e36]
    refine ⟨⟨⟨by omega, by omega⟩, fun y => ⟨by omega, by omega⟩⟩, ?_⟩
    have ev : cif ((N : Int) ≤ (w c : Int)) 0 (h 138 (((6 * (w c : Int)) + (c : Int)).toNat)) = svT N S w c := by
      unfold svT
      by_cases y : w c < N
      · rw [cif_f (by omega), cif_t y, show (6 * (w c : Int) + (c : Int)).toNat = 6 * w c + c by omega]
        exact mg.2.2.2 (w c) c y (by omega) (ne c (by omega))
      · rw [cif_t (by omega), cif_f y]
    rw [ev]; exact nx
theorem M_ts_244 {D : Nat} {K : Int → St → Prop} {N : Nat} {S : Nat → Nat → Int} {x1 x2 : Int} : ∀ (r c : Nat) (h : St), c + r = (N + 1) ^ N → MG h N S → MR h N (tA N S c) → (∀ h2, ag (fun c k => c ≠ 139 ∧ c ≠ 140 ∧ c ≠ 141 ∧ ¬ (c = 109 ∧ k = 42)) h h2 → MR h2 N (tA N S ((N + 1) ^ N)) → K 0 h2) → wI (D + 5) m_M_trees 244 [(0, vR 109), (1, vI x1), (2, vI x2), (3, vI (((N + 1) ^ N : Nat) : Int)), (4, vI c)] [] h K := by
  intro r
  induction r with
  | zero =>
    intro c h hc mg mr k
    have p7 := pw_7 N mg.2.1.2
    have ec : c = (N + 1) ^ N := by omega
    rw [ec] at mr
    exact s_M_trees_244 _ _ _ _ h K ⟨⟨by omega, by omega⟩, ⟨by omega, by omega⟩, fun _ => k h ag_rfl mr, fun y => by omega⟩
  | succ r ih =>
    intro c h hc mg mr k
    have p7 := pw_7 N mg.2.1.2
    refine s_M_trees_244 _ _ _ _ h K ⟨⟨by omega, by omega⟩, ⟨by omega, by omega⟩, fun y => by omega, fun _ => ?_⟩
    refine c_M_isTree mg.2.1 (by omega) mg.1 (fun tr h2 g2 e139 => ⟨by decide, fun _ => ?_, fun y => absurd (by decide) y⟩) (fun tr h2 g2 => ⟨by decide, fun y => absurd rfl y, fun _ => ?_⟩)
    · have mg2 := MG_c (ag_sub (fun c k p => by omega) g2) mg
      have mr2 := MR_c (ag_sub (fun c k p => by omega) g2) mr
      have sR := smT_R (N := N) (w := dgT N N c) (m := N) mg.2.2.1 mg.2.1.2
      refine M_ts_268 mg2 e139 (fun k => dg_le) tr.1 ?_ N 0 (Nat.zero_add _)
      refine M_ts_327 (w := dgT N N c) (st := tA N S c) mg2.1 mg.2.1 e139 (fun k => dg_le) mr2 sR (fun h3 g3 mr3 => ?_) N 0 h2 (Nat.zero_add _) (fun q => absurd q (Nat.lt_irrefl _)) ag_rfl (fun k hk => absurd hk (Nat.not_lt_zero _)) (fun k _ => ⟨rfl, rfl⟩)
      have g23 : ag (fun c k => c ≠ 139 ∧ c ≠ 140 ∧ c ≠ 141 ∧ ¬ (c = 109 ∧ k = 42)) h h3 := ag_trans (ag_sub (fun c k p => by omega) g2) (ag_sub (fun c k p => by omega) g3)
      exact ih (c + 1) h3 (by omega) (MG_c (ag_sub (fun c k p => by omega) g23) mg) (by rw [tA, stT_y tr]; exact mr3) (fun h4 g4 => k h4 (ag_trans g23 g4))
    · exact ih (c + 1) h2 (by omega) (MG_c (ag_sub (fun c k p => by omega) g2) mg) (by rw [tA, stT_n tr]; exact MR_c (ag_sub (fun c k p => by omega) g2) mr) (fun h4 g4 => k h4 (ag_trans (ag_sub (fun c k p => by omega) g2) g4))
theorem M_ts_212 {D : Nat} {K : Int → St → Prop} {N : Nat} {S : Nat → Nat → Int} {x1 x2 : Int} {h : St} (mg : MG h N S) (k : ∀ h2, ag (fun c k => c ≠ 139 ∧ c ≠ 140 ∧ c ≠ 141 ∧ ¬ (c = 109 ∧ k = 42)) h h2 → MR h2 N (tA N S ((N + 1) ^ N)) → K 0 h2) : ∀ (r c : Nat), c + r = N → wI (D + 5) m_M_trees 212 [(0, vR 109), (1, vI x1), (2, vI x2), (3, vI (((N + 1) ^ c : Nat) : Int)), (4, vI c)] [] h K := by
  have e36 := mg.1
  have hN := mg.2.1
  intro r
  induction r with
  | zero =>
    intro c hc
    have ec : c = N := by omega
    subst ec
    refine s_M_trees_212 _ _ _ _ h K ⟨⟨by omega, by omega⟩, ⟨by omega, by omega⟩, fun _ => ?_, fun y => by omega⟩
    refine M_ts_244 _ 0 _ (Nat.zero_add _) (MG_c (ag_up (by omega) ag_rfl) mg) ⟨by rw [up_same]; rfl, ⟨by show (-1 : Int) ≤ -1; omega, by show (-1 : Int) ≤ 10000; omega⟩, fun q => absurd q (by show ¬ (0 : Int) ≤ -1; omega), fun k => Nat.zero_le _⟩ (fun h2 g2 => k h2 (ag_trans (ag_up (by omega) ag_rfl) g2))
  | succ r ih =>
    intro c hc
    have nx := ih (c + 1) (by omega)
    refine s_M_trees_212 _ _ _ _ h K ⟨⟨by omega, by omega⟩, ⟨by omega, by omega⟩, fun y => by omega, fun _ => ?_⟩
    have e : (((N + 1) ^ c : Nat) : Int) * ((h 109 36) + 1) = (((N + 1) ^ (c + 1) : Nat) : Int) := by
      rw [e36, Nat.pow_succ, Int.natCast_mul]; rfl
    rw [e]; exact nx
