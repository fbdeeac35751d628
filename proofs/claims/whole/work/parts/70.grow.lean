theorem s_Tree_grow_0 {d : Nat}  (x1 x2 x3 : Int) (h : St) (K : St → Prop) (F : (0 ≤ x1 ∧ x1 < 7) ∧ (mwpI (d + 1) m_Tree_isVain [vR 79, vI (x2 + (h 82 x1.toNat))] h (fun z2 h2 => (inR z2) ∧ ((z2 = 0 → (inR (h2 79 1)) ∧ ((x1 < (h2 79 1) → (wV (d + 1) m_Tree_grow 33 [(0, vR 79), (1, vI x1), (2, vI x2), (3, vI x3), (4, vI 0)] [] h2 K)) ∧ (¬ (x1 < (h2 79 1)) → (mwpV (d + 1) m_Tree_weigh [vR 79, vI x2] h2 (fun h7 => (K h7)))))) ∧ (¬ (z2 = 0) → (K h2)))))) : wV (d + 1) m_Tree_grow 0 [(0, vR 79), (1, vI x1), (2, vI x2), (3, vI x3)] [] h K := by
  refine w_aload_n rfl rfl ?_
  refine w_iload_n rfl rfl ?_
  refine w_aload_n rfl rfl ?_
  refine w_getR rfl f_Tree_25 rfl rfl rfl rfl rfl ?_
  refine w_iload_n rfl rfl ?_
  obtain ⟨b1, F⟩ := F
  refine w_iaload rfl rfl rfl b1 ?_
  refine w_iadd rfl ?_
  refine c_VI [vI (x2 + (h 82 x1.toNat))] [] rfl b_Tree_isVain k_Tree_60 rfl rfl rfl rfl rfl rfl (mwpI_mono (fun z2 h2 F => ?_) F)
  obtain ⟨b3, F⟩ := F
  refine w_if_eq (tgt := 16) rfl (by decide) b3 (fun q4 => ?_) (fun q4 => ?_)
  · replace F := F.1 q4
    refine w_iload_n rfl rfl ?_
    refine w_aload_n rfl rfl ?_
    refine w_getI rfl f_Tree_15 rfl rfl rfl ?_
    obtain ⟨b5, F⟩ := F
    refine w_icmp_lt (tgt := 30) rfl (by decide) ⟨⟨by omega, by omega⟩, b5⟩ (fun q6 => ?_) (fun q6 => ?_)
    · replace F := F.1 q6
      refine w_iconst rfl ?_
      refine w_istore rfl rfl rfl rfl (w_ls (ls2 := [(0, vR 79), (1, vI x1), (2, vI x2), (3, vI x3), (4, vI 0)]) rfl ?_)
      exact F
    · replace F := F.2 q6
      refine w_aload_n rfl rfl ?_
      refine w_iload_n rfl rfl ?_
      refine c_VV [vI x2] [] rfl b_Tree_weigh k_Tree_64 rfl rfl rfl rfl rfl rfl (mwpV_mono (fun h7 F => ?_) F)
      exact w_vret rfl rfl ⟨rfl, rfl, rfl, F⟩
  · replace F := F.2 q4
    exact w_vret rfl rfl ⟨rfl, rfl, rfl, F⟩
theorem s_Tree_grow_33 {d : Nat}  (x1 x2 x3 x4 : Int) (h : St) (K : St → Prop) (F : (inR x4) ∧ (inR (h 79 1)) ∧ (((h 79 1) ≤ x4 → (inR x3) ∧ ((x3 ≠ 0 → (K h)) ∧ (¬ (x3 ≠ 0) → (0 ≤ x1 ∧ x1 < 6) ∧ (mwpV (d + 1) m_Tree_grow [vR 79, vI (x1 + 1), vI x2, vI 1] (up h 83 x1.toNat ((-2))) (fun h7 => (K (up h7 83 x1.toNat ((-1))))))))) ∧ (¬ ((h 79 1) ≤ x4) → (mwpI (d + 1) m_Tree_isUnder [vR 79, vI x4, vI x1] h (fun z8 h8 => (inR z8) ∧ ((z8 ≠ 0 → (wV (d + 1) m_Tree_grow 33 [(0, vR 79), (1, vI x1), (2, vI x2), (3, vI x3), (4, vI (x4 + 1))] [] h8 K)) ∧ (¬ (z8 ≠ 0) → (0 ≤ x1 ∧ x1 < 6) ∧ (0 ≤ (x4 * 6) + x1 ∧ (x4 * 6) + x1 < 36) ∧ (mwpV (d + 1) m_Tree_grow [vR 79, vI (x1 + 1), vI (x2 + (h8 81 (((x4 * 6) + x1).toNat))), vI x3] (up h8 83 x1.toNat x4) (fun h13 => (wV (d + 1) m_Tree_grow 33 [(0, vR 79), (1, vI x1), (2, vI x2), (3, vI x3), (4, vI (x4 + 1))] [] (up h13 83 x1.toNat ((-1))) K)))))))))) : wV (d + 1) m_Tree_grow 33 [(0, vR 79), (1, vI x1), (2, vI x2), (3, vI x3), (4, vI x4)] [] h K := by
  refine w_iload rfl rfl ?_
  refine w_aload_n rfl rfl ?_
  refine w_getI rfl f_Tree_15 rfl rfl rfl ?_
  obtain ⟨b1, F⟩ := F
  obtain ⟨b2, F⟩ := F
  refine w_icmp_ge (tgt := 95) rfl (by decide) ⟨b1, b2⟩ (fun q3 => ?_) (fun q3 => ?_)
  · replace F := F.1 q3
    refine w_iload_n rfl rfl ?_
    obtain ⟨b4, F⟩ := F
    refine w_if_ne (tgt := 123) rfl (by decide) b4 (fun q5 => ?_) (fun q5 => ?_)
    · replace F := F.1 q5
      exact w_vret rfl rfl ⟨rfl, rfl, rfl, F⟩
    · replace F := F.2 q5
      refine w_aload_n rfl rfl ?_
      refine w_getR rfl f_Tree_28 rfl rfl rfl rfl rfl ?_
      refine w_iload_n rfl rfl ?_
      refine w_bipush (by decide) (by decide) rfl ?_
      obtain ⟨b6, F⟩ := F
      refine w_iastore rfl rfl rfl b6 ?_
      refine w_aload_n rfl rfl ?_
      refine w_iload_n rfl rfl ?_
      refine w_iconst rfl ?_
      refine w_iadd rfl ?_
      refine w_iload_n rfl rfl ?_
      refine w_iconst rfl ?_
      refine c_VV [vI (x1 + 1), vI x2, vI 1] [] rfl b_Tree_grow k_Tree_50 rfl rfl rfl rfl rfl rfl (mwpV_mono (fun h7 F => ?_) F)
      refine w_aload_n rfl rfl ?_
      refine w_getR rfl f_Tree_28 rfl rfl rfl rfl rfl ?_
      refine w_iload_n rfl rfl ?_
      refine w_iconst rfl ?_
      refine w_iastore rfl rfl rfl b6 ?_
      exact w_vret rfl rfl ⟨rfl, rfl, rfl, F⟩
  · replace F := F.2 q3
    refine w_aload_n rfl rfl ?_
    refine w_iload rfl rfl ?_
    refine w_iload_n rfl rfl ?_
    refine c_VI [vI x4, vI x1] [] rfl b_Tree_isUnder k_Tree_67 rfl rfl rfl rfl rfl rfl (mwpI_mono (fun z8 h8 F => ?_) F)
    obtain ⟨b9, F⟩ := F
    refine w_if_ne (tgt := 89) rfl (by decide) b9 (fun q10 => ?_) (fun q10 => ?_)
    · replace F := F.1 q10
      refine w_iinc rfl rfl rfl rfl rfl (w_ls (ls2 := [(0, vR 79), (1, vI x1), (2, vI x2), (3, vI x3), (4, vI (x4 + 1))]) rfl ?_)
      refine w_goto (tgt := 33) rfl (by decide) ?_
      exact F
    · replace F := F.2 q10
      refine w_aload_n rfl rfl ?_
      refine w_getR rfl f_Tree_28 rfl rfl rfl rfl rfl ?_
      refine w_iload_n rfl rfl ?_
      refine w_iload rfl rfl ?_
      obtain ⟨b11, F⟩ := F
      refine w_iastore rfl rfl rfl b11 ?_
      refine w_aload_n rfl rfl ?_
      refine w_iload_n rfl rfl ?_
      refine w_iconst rfl ?_
      refine w_iadd rfl ?_
      refine w_iload_n rfl rfl ?_
      refine w_aload_n rfl rfl ?_
      refine w_getR rfl f_Tree_22 rfl rfl rfl rfl rfl ?_
      refine w_iload rfl rfl ?_
      refine w_bipush (by decide) (by decide) rfl ?_
      refine w_imul rfl ?_
      refine w_iload_n rfl rfl ?_
      refine w_iadd rfl ?_
      obtain ⟨b12, F⟩ := F
      refine w_iaload rfl rfl rfl b12 ?_
      refine w_iadd rfl ?_
      refine w_iload_n rfl rfl ?_
      refine c_VV [vI (x1 + 1), vI (x2 + (h8 81 (((x4 * 6) + x1).toNat))), vI x3] [] rfl b_Tree_grow k_Tree_50 rfl rfl rfl rfl rfl rfl (mwpV_mono (fun h13 F => ?_) F)
      refine w_aload_n rfl rfl ?_
      refine w_getR rfl f_Tree_28 rfl rfl rfl rfl rfl ?_
      refine w_iload_n rfl rfl ?_
      refine w_iconst rfl ?_
      refine w_iastore rfl rfl rfl b11 ?_
      refine w_iinc rfl rfl rfl rfl rfl (w_ls (ls2 := [(0, vR 79), (1, vI x1), (2, vI x2), (3, vI x3), (4, vI (x4 + 1))]) rfl ?_)
      refine w_goto (tgt := 33) rfl (by decide) ?_
      exact F
theorem s_Tree_isVain_0 {d : Nat}  (x1 : Int) (h : St) (K : Int → St → Prop) (F : (((inR x1) ∧ (inR (h 79 0)) ∧ (¬ (x1 < (h 79 0)) → ((¬ (x1 ≠ (h 79 0)) → ((inR (h 79 7)))))))) ∧ (K (b2i ((x1 < (h 79 0)) ∨ (¬ (x1 ≠ (h 79 0)) ∧ (¬ ((h 79 7) ≠ 0))))) h)) : wI d m_Tree_isVain 0 [(0, vR 79), (1, vI x1)] [] h K := by
  refine w_iload_n rfl rfl ?_
  refine w_aload_n rfl rfl ?_
  refine w_getI rfl f_Tree_9 rfl rfl rfl ?_
  obtain ⟨G, F⟩ := F
  have J : ∀ (t7 : Int), t7 = b2i ((x1 < (h 79 0)) ∨ (¬ (x1 ≠ (h 79 0)) ∧ (¬ ((h 79 7) ≠ 0)))) → wI d m_Tree_isVain 28 [(0, vR 79), (1, vI x1)] [vI t7] h K := by
    intro t7 et7
    subst et7
    exact w_zret rfl rfl b2i_01 ⟨rfl, rfl, _, rfl, F⟩
  obtain ⟨b1, b2, gb_⟩ := G
  refine w_icmp_lt (tgt := 23) rfl (by decide) ⟨b1, b2⟩ (fun q3 => ?_) (fun q3 => ?_)
  · refine w_iconst rfl ?_
    refine w_goto (tgt := 28) rfl (by decide) ?_
    exact J _ (b2i_t (Or.inl q3)).symm
  · have G := gb_ q3
    have gb_ := G
    refine w_iload_n rfl rfl ?_
    refine w_aload_n rfl rfl ?_
    refine w_getI rfl f_Tree_9 rfl rfl rfl ?_
    refine w_icmp_ne (tgt := 27) rfl (by decide) ⟨b1, b2⟩ (fun q4 => ?_) (fun q4 => ?_)
    · refine w_iconst rfl ?_
      exact J _ (b2i_f (fun z => z.elim q3 (fun z => z.1 q4))).symm
    · have G := gb_ q4
      have b5 := G
      refine w_aload_n rfl rfl ?_
      refine w_getI rfl f_Tree_34 rfl rfl rfl ?_
      refine w_if_ne (tgt := 27) rfl (by decide) b5 (fun q6 => ?_) (fun q6 => ?_)
      · refine w_iconst rfl ?_
        exact J _ (b2i_f (fun z => z.elim q3 (fun z => (fun z => z q6) z.2))).symm
      · refine w_iconst rfl ?_
        refine w_goto (tgt := 28) rfl (by decide) ?_
        exact J _ (b2i_t (Or.inr ⟨q4, q6⟩)).symm
theorem s_Tree_isUnder_0 {d : Nat}  (x1 x2 : Int) (h : St) (K : Int → St → Prop) (F : (wI d m_Tree_isUnder 5 [(0, vR 79), (1, vI x1), (2, vI x2), (3, vI x1), (4, vI 0)] [] h K)) : wI d m_Tree_isUnder 0 [(0, vR 79), (1, vI x1), (2, vI x2)] [] h K := by
  refine w_iload_n rfl rfl ?_
  refine w_istore_n rfl rfl rfl rfl (w_ls (ls2 := [(0, vR 79), (1, vI x1), (2, vI x2), (3, vI x1)]) rfl ?_)
  refine w_iconst rfl ?_
  refine w_istore rfl rfl rfl rfl (w_ls (ls2 := [(0, vR 79), (1, vI x1), (2, vI x2), (3, vI x1), (4, vI 0)]) rfl ?_)
  exact F
theorem s_Tree_isUnder_5 {d : Nat}  (x1 x2 x3 x4 : Int) (h : St) (K : Int → St → Prop) (F : (inR x4) ∧ (inR (h 79 1)) ∧ (((h 79 1) ≤ x4 → (K 0 h)) ∧ (¬ ((h 79 1) ≤ x4) → (inR x3) ∧ ((x3 < 0 → (K 0 h)) ∧ (¬ (x3 < 0) → (inR x2) ∧ ((x3 ≠ x2 → (0 ≤ x3 ∧ x3 < 6) ∧ (wI d m_Tree_isUnder 5 [(0, vR 79), (1, vI x1), (2, vI x2), (3, vI (h 83 x3.toNat)), (4, vI (x4 + 1))] [] h K)) ∧ (¬ (x3 ≠ x2) → (K 1 h)))))))) : wI d m_Tree_isUnder 5 [(0, vR 79), (1, vI x1), (2, vI x2), (3, vI x3), (4, vI x4)] [] h K := by
  refine w_iload rfl rfl ?_
  refine w_aload_n rfl rfl ?_
  refine w_getI rfl f_Tree_15 rfl rfl rfl ?_
  obtain ⟨b1, F⟩ := F
  obtain ⟨b2, F⟩ := F
  refine w_icmp_ge (tgt := 38) rfl (by decide) ⟨b1, b2⟩ (fun q3 => ?_) (fun q3 => ?_)
  · replace F := F.1 q3
    refine w_iconst rfl ?_
    exact w_zret rfl rfl (by decide) ⟨rfl, rfl, _, rfl, F⟩
  · replace F := F.2 q3
    refine w_iload_n rfl rfl ?_
    obtain ⟨b4, F⟩ := F
    refine w_if_lt (tgt := 38) rfl (by decide) b4 (fun q5 => ?_) (fun q5 => ?_)
    · replace F := F.1 q5
      refine w_iconst rfl ?_
      exact w_zret rfl rfl (by decide) ⟨rfl, rfl, _, rfl, F⟩
    · replace F := F.2 q5
      refine w_iload_n rfl rfl ?_
      refine w_iload_n rfl rfl ?_
      obtain ⟨b6, F⟩ := F
      refine w_icmp_ne (tgt := 25) rfl (by decide) ⟨b4, b6⟩ (fun q7 => ?_) (fun q7 => ?_)
      · replace F := F.1 q7
        refine w_aload_n rfl rfl ?_
        refine w_getR rfl f_Tree_28 rfl rfl rfl rfl rfl ?_
        refine w_iload_n rfl rfl ?_
        obtain ⟨b8, F⟩ := F
        refine w_iaload rfl rfl rfl b8 ?_
        refine w_istore_n rfl rfl rfl rfl (w_ls (ls2 := [(0, vR 79), (1, vI x1), (2, vI x2), (3, vI (h 83 x3.toNat)), (4, vI x4)]) rfl ?_)
        refine w_iinc rfl rfl rfl rfl rfl (w_ls (ls2 := [(0, vR 79), (1, vI x1), (2, vI x2), (3, vI (h 83 x3.toNat)), (4, vI (x4 + 1))]) rfl ?_)
        refine w_goto (tgt := 5) rfl (by decide) ?_
        exact F
      · replace F := F.2 q7
        refine w_iconst rfl ?_
        exact w_zret rfl rfl (by decide) ⟨rfl, rfl, _, rfl, F⟩
theorem s_Tree_weigh_0 {d : Nat}  (x1 : Int) (h : St) (K : St → Prop) (F : (inR x1) ∧ (inR (h 79 0)) ∧ ((x1 ≤ (h 79 0) → ((x1 ≠ (h 79 0) → (K h)) ∧ (¬ (x1 ≠ (h 79 0)) → (wV d m_Tree_weigh 86 [(0, vR 79), (1, vI x1), (2, vI 0)] [] h K)))) ∧ (¬ (x1 ≤ (h 79 0)) → (wV d m_Tree_weigh 20 [(0, vR 79), (1, vI x1), (2, vI 0)] [] (up (up h 79 0 x1) 79 7 0) K)))) : wV d m_Tree_weigh 0 [(0, vR 79), (1, vI x1)] [] h K := by
  refine w_iload_n rfl rfl ?_
  refine w_aload_n rfl rfl ?_
  refine w_getI rfl f_Tree_9 rfl rfl rfl ?_
  obtain ⟨b1, F⟩ := F
  obtain ⟨b2, F⟩ := F
  refine w_icmp_le (tgt := 76) rfl (by decide) ⟨b1, b2⟩ (fun q3 => ?_) (fun q3 => ?_)
  · replace F := F.1 q3
    refine w_iload_n rfl rfl ?_
    refine w_aload_n rfl rfl ?_
    refine w_getI rfl f_Tree_9 rfl rfl rfl ?_
    refine w_icmp_ne (tgt := 133) rfl (by decide) ⟨b1, b2⟩ (fun q4 => ?_) (fun q4 => ?_)
    · replace F := F.1 q4
      exact w_vret rfl rfl ⟨rfl, rfl, rfl, F⟩
    · replace F := F.2 q4
      refine w_iconst rfl ?_
      refine w_istore_n rfl rfl rfl rfl (w_ls (ls2 := [(0, vR 79), (1, vI x1), (2, vI 0)]) rfl ?_)
      exact F
  · replace F := F.2 q3
    refine w_aload_n rfl rfl ?_
    refine w_iload_n rfl rfl ?_
    refine w_putI rfl f_Tree_9 fw_10_0 rfl rfl rfl ?_
    refine w_aload_n rfl rfl ?_
    refine w_iconst rfl ?_
    refine w_putI rfl f_Tree_34 fw_10_7 rfl rfl rfl ?_
    refine w_iconst rfl ?_
    refine w_istore_n rfl rfl rfl rfl (w_ls (ls2 := [(0, vR 79), (1, vI x1), (2, vI 0)]) rfl ?_)
    exact F
theorem s_Tree_weigh_20 {d : Nat}  (x1 x2 : Int) (h : St) (K : St → Prop) (F : (inR x2) ∧ (inR (h 79 1)) ∧ (((h 79 1) ≤ x2 → (K h)) ∧ (¬ ((h 79 1) ≤ x2) → (0 ≤ x2 ∧ x2 < 6) ∧ (((inR (h 83 x2.toNat)))) ∧ (wV d m_Tree_weigh 20 [(0, vR 79), (1, vI x1), (2, vI (x2 + 1))] [] (up (up h 84 x2.toNat (h 83 x2.toNat)) 79 7 (or3 (h 79 7) (cif ((h 83 x2.toNat) ≠ ((-2))) (shl3 1 x2) 0))) K)))) : wV d m_Tree_weigh 20 [(0, vR 79), (1, vI x1), (2, vI x2)] [] h K := by
  refine w_iload_n rfl rfl ?_
  refine w_aload_n rfl rfl ?_
  refine w_getI rfl f_Tree_15 rfl rfl rfl ?_
  obtain ⟨b1, F⟩ := F
  obtain ⟨b2, F⟩ := F
  refine w_icmp_ge (tgt := 73) rfl (by decide) ⟨b1, b2⟩ (fun q3 => ?_) (fun q3 => ?_)
  · replace F := F.1 q3
    refine w_goto (tgt := 133) rfl (by decide) ?_
    exact w_vret rfl rfl ⟨rfl, rfl, rfl, F⟩
  · replace F := F.2 q3
    refine w_aload_n rfl rfl ?_
    refine w_getR rfl f_Tree_31 rfl rfl rfl rfl rfl ?_
    refine w_iload_n rfl rfl ?_
    refine w_aload_n rfl rfl ?_
    refine w_getR rfl f_Tree_28 rfl rfl rfl rfl rfl ?_
    refine w_iload_n rfl rfl ?_
    obtain ⟨b4, F⟩ := F
    refine w_iaload rfl rfl rfl b4 ?_
    refine w_iastore rfl rfl rfl b4 ?_
    refine w_aload_n rfl rfl ?_
    refine w_dup rfl rfl ?_
    refine w_getI rfl f_Tree_34 rfl rfl rfl ?_
    refine w_aload_n rfl rfl ?_
    refine w_getR rfl f_Tree_28 rfl rfl rfl rfl rfl ?_
    refine w_iload_n rfl rfl ?_
    refine w_iaload rfl rfl rfl b4 ?_
    refine w_bipush (by decide) (by decide) rfl ?_
    obtain ⟨G, F⟩ := F
    have J : ∀ (t7 : Int), t7 = cif ((h 83 x2.toNat) ≠ ((-2))) (shl3 1 x2) 0 → wV d m_Tree_weigh 63 [(0, vR 79), (1, vI x1), (2, vI x2)] [vI t7, vI (h 79 7), vR 79] (up h 84 x2.toNat (h 83 x2.toNat)) K := by
      intro t7 et7
      subst et7
      refine w_ior rfl ?_
      refine w_putI rfl f_Tree_34 fw_10_7 rfl rfl rfl ?_
      refine w_iinc rfl rfl rfl rfl rfl (w_ls (ls2 := [(0, vR 79), (1, vI x1), (2, vI (x2 + 1))]) rfl ?_)
      refine w_goto (tgt := 20) rfl (by decide) ?_
      exact F
    have b5 := G
    refine w_icmp_ne (tgt := 60) rfl (by decide) ⟨b5, (r_lit rfl)⟩ (fun q6 => ?_) (fun q6 => ?_)
    · refine w_iconst rfl ?_
      refine w_iload_n rfl rfl ?_
      refine w_ishl rfl ?_
      exact J _ (cif_t q6).symm
    · refine w_iconst rfl ?_
      refine w_goto (tgt := 63) rfl (by decide) ?_
      exact J _ (cif_f q6).symm
theorem s_Tree_weigh_86 {d : Nat}  (x1 x2 : Int) (h : St) (K : St → Prop) (F : (inR x2) ∧ (inR (h 79 1)) ∧ (((h 79 1) ≤ x2 → (K h)) ∧ (¬ ((h 79 1) ≤ x2) → (0 ≤ x2 ∧ x2 < 6) ∧ (((inR (h 83 x2.toNat)) ∧ (inR (h 84 x2.toNat)))) ∧ (wV d m_Tree_weigh 86 [(0, vR 79), (1, vI x1), (2, vI (x2 + 1))] [] (up h 79 7 (and3 (h 79 7) (cif ((h 83 x2.toNat) ≠ (h 84 x2.toNat)) (xor3 (shl3 1 x2) ((-1))) ((-1))))) K)))) : wV d m_Tree_weigh 86 [(0, vR 79), (1, vI x1), (2, vI x2)] [] h K := by
  refine w_iload_n rfl rfl ?_
  refine w_aload_n rfl rfl ?_
  refine w_getI rfl f_Tree_15 rfl rfl rfl ?_
  obtain ⟨b1, F⟩ := F
  obtain ⟨b2, F⟩ := F
  refine w_icmp_ge (tgt := 133) rfl (by decide) ⟨b1, b2⟩ (fun q3 => ?_) (fun q3 => ?_)
  · replace F := F.1 q3
    exact w_vret rfl rfl ⟨rfl, rfl, rfl, F⟩
  · replace F := F.2 q3
    refine w_aload_n rfl rfl ?_
    refine w_dup rfl rfl ?_
    refine w_getI rfl f_Tree_34 rfl rfl rfl ?_
    refine w_aload_n rfl rfl ?_
    refine w_getR rfl f_Tree_28 rfl rfl rfl rfl rfl ?_
    refine w_iload_n rfl rfl ?_
    obtain ⟨b4, F⟩ := F
    refine w_iaload rfl rfl rfl b4 ?_
    refine w_aload_n rfl rfl ?_
    refine w_getR rfl f_Tree_31 rfl rfl rfl rfl rfl ?_
    refine w_iload_n rfl rfl ?_
    refine w_iaload rfl rfl rfl b4 ?_
    obtain ⟨G, F⟩ := F
    have J : ∀ (t8 : Int), t8 = cif ((h 83 x2.toNat) ≠ (h 84 x2.toNat)) (xor3 (shl3 1 x2) ((-1))) ((-1)) → wV d m_Tree_weigh 123 [(0, vR 79), (1, vI x1), (2, vI x2)] [vI t8, vI (h 79 7), vR 79] h K := by
      intro t8 et8
      subst et8
      refine w_iand rfl ?_
      refine w_putI rfl f_Tree_34 fw_10_7 rfl rfl rfl ?_
      refine w_iinc rfl rfl rfl rfl rfl (w_ls (ls2 := [(0, vR 79), (1, vI x1), (2, vI (x2 + 1))]) rfl ?_)
      refine w_goto (tgt := 86) rfl (by decide) ?_
      exact F
    obtain ⟨b5, b6⟩ := G
    refine w_icmp_ne (tgt := 118) rfl (by decide) ⟨b5, b6⟩ (fun q7 => ?_) (fun q7 => ?_)
    · refine w_iconst rfl ?_
      refine w_iload_n rfl rfl ?_
      refine w_ishl rfl ?_
      refine w_iconst rfl ?_
      refine w_ixor rfl ?_
      exact J _ (cif_t q7).symm
    · refine w_iconst rfl ?_
      refine w_goto (tgt := 123) rfl (by decide) ?_
      exact J _ (cif_f q7).symm
noncomputable def encT (N v : Nat) : Int := cif (v < N) (v : Int) (-2)
theorem enc_R {N v : Nat} : -2 ≤ encT N v ∧ encT N v < (N : Int) + 1 := by
  unfold encT
  by_cases y : v < N
  · rw [cif_t y]; omega
  · rw [cif_f y]; omega
theorem enc_i {N a b : Nat} (ha : a ≤ N) (hb : b ≤ N) : encT N a = encT N b ↔ a = b := by
  unfold encT
  by_cases y : a < N
  · by_cases z : b < N
    · rw [cif_t y, cif_t z]; omega
    · rw [cif_t y, cif_f z]; omega
  · by_cases z : b < N
    · rw [cif_f y, cif_t z]; omega
    · rw [cif_f y, cif_f z]; omega
def TR (h : St) (N : Nat) (st : Stt) : Prop := h 79 0 = st.1 ∧ (-1 ≤ st.1 ∧ st.1 ≤ 10000) ∧ (0 ≤ st.1 → ∀ k, k < N → h 84 k = encT N (st.2.1 k)) ∧ (∃ sr : Nat, h 79 7 = (sr : Int) ∧ sr < 64 ∧ ∀ k, sr.testBit k = true ↔ st.2.2 k = 1) ∧ (∀ k, st.2.2 k = 0 ∨ st.2.2 k = 1) ∧ (∀ k, st.2.1 k ≤ N) ∧ (∀ k, st.2.2 k = 1 → k < N)
theorem TR_c {h h2 : St} {N : Nat} {st : Stt} (g : ag (fun c k => c = 84 ∨ (c = 79 ∧ (k = 0 ∨ k = 7))) h h2) (a : TR h N st) : TR h2 N st := by
  obtain ⟨a1, a2, a3, ⟨sr, b1, b2⟩, a5⟩ := a
  exact ⟨by rw [g 79 0 (by omega)]; exact a1, a2, fun y k hk => by rw [g 84 k (by omega)]; exact a3 y k hk, ⟨sr, by rw [g 79 7 (by omega)]; exact b1, b2⟩, a5⟩
def TG (h : St) (N : Nat) (S : Nat → Nat → Int) : Prop := h 79 1 = (N : Int) ∧ (2 ≤ N ∧ N ≤ 6) ∧ (∀ i j, 0 ≤ S i j ∧ S i j ≤ 1000) ∧ (∀ i j, i < N → j < N → h 81 (i * 6 + j) = S i j) ∧ (∀ k, k ≤ N → h 82 k = sm (mxS N S) N - sm (mxS N S) k)
theorem TG_c {h h2 : St} {N : Nat} {S : Nat → Nat → Int} (g : ag (fun c k => (c = 79 ∧ k = 1) ∨ c = 81 ∨ c = 82) h h2) (a : TG h N S) : TG h2 N S :=
  ⟨by rw [g 79 1 (by omega)]; exact a.1, a.2.1, a.2.2.1, fun i j hi hj => by rw [g 81 _ (by omega)]; exact a.2.2.2.1 i j hi hj, fun k hk => by rw [g 82 k (by omega)]; exact a.2.2.2.2 k hk⟩
def AB (h : St) (N : Nat) (w : Nat → Nat) (m : Nat) : Prop := (∀ k, k < m → h 83 k = encT N (w k)) ∧ ∀ k, m ≤ k → k < N → h 83 k = -1
theorem mx_R {N : Nat} {S : Nat → Nat → Int} (hS : ∀ i j, 0 ≤ S i j ∧ S i j ≤ 1000) (k : Nat) : 0 ≤ mxS N S k ∧ mxS N S k ≤ 1000 := by
  unfold mxS
  have a := mxA_v (f := fun o => S o k) (v := 0) N
  rcases mxA_or (f := fun o => S o k) (v := 0) N with e | ⟨j, _, e⟩
  · omega
  · have e' : mxA N (fun o => S o k) 0 = S j k := e
    have := hS j k; omega
theorem smx_R {N : Nat} {S : Nat → Nat → Int} (hS : ∀ i j, 0 ≤ S i j ∧ S i j ≤ 1000) {m : Nat} (hm : m ≤ N) (hN : N ≤ 6) : 0 ≤ sm (mxS N S) N - sm (mxS N S) m ∧ sm (mxS N S) N - sm (mxS N S) m ≤ 6000 := by
  have a := sm_bnd (f := mxS N S) (u := 1000) (by decide) m (fun i _ => mx_R hS i)
  have b := sm_bnd (f := mxS N S) (u := 1000) (by decide) N (fun i _ => mx_R hS i)
  have c := sm_tl (f := fun _ => 0) (g := mxS N S) (m := m) (N - m) (fun k _ _ => (mx_R hS k).1)
  rw [show m + (N - m) = N by omega, sm_zero, sm_zero] at c
  omega
theorem sv_R {N : Nat} {S : Nat → Nat → Int} (hS : ∀ i j, 0 ≤ S i j ∧ S i j ≤ 1000) {w : Nat → Nat} {k : Nat} : 0 ≤ svT N S w k ∧ svT N S w k ≤ 1000 := by
  unfold svT
  by_cases y : w k < N
  · rw [cif_t y]; exact hS _ _
  · rw [cif_f y]; omega
theorem smT_R {N : Nat} {S : Nat → Nat → Int} (hS : ∀ i j, 0 ≤ S i j ∧ S i j ≤ 1000) {w : Nat → Nat} {m : Nat} (hm : m ≤ 6) : 0 ≤ smT N S w m ∧ smT N S w m ≤ 6000 := by
  have := sm_bnd (f := svT N S w) (u := 1000) (by decide) m (fun i _ => sv_R hS)
  unfold smT; omega
theorem c_Tree_isVain {D : Nat} {h : St} {K : Int → St → Prop} {N : Nat} {st : Stt} {H : Int} (tr : TR h N st) (rH : inR H) (k1 : (H < st.1 ∨ (H = st.1 ∧ ∀ k, st.2.2 k = 0)) → K 1 h) (k0 : K 0 h) : mwpI (D + 1) m_Tree_isVain [vR 79, vI H] h K := by
  obtain ⟨a1, a2, a3, ⟨sr, b1, b2, b3⟩, a5, a6⟩ := tr
  refine mI_intro b_Tree_isVain rfl (s_Tree_isVain_0 (d := D) _ h K ?_)
  rw [a1, b1]
  refine ⟨⟨rH, ⟨by omega, by omega⟩, fun _ => fun _ => ⟨by omega, by omega⟩⟩, ?_⟩
  by_cases y : (H < st.1) ∨ (¬ (H ≠ st.1) ∧ (¬ ((sr : Int) ≠ 0)))
  · rw [b2i_t y]
    refine k1 (y.imp id (fun z => ⟨by omega, fun k => ?_⟩))
    rcases a5 k with e | e
    · exact e
    · have := (b3 k).mpr e
      have z0 : sr = 0 := by omega
      rw [z0, Nat.zero_testBit] at this
      exact Bool.noConfusion this
  · rw [b2i_f y]; exact k0
theorem C_iu_5 {D : Nat} {h : St} {K : Int → St → Prop} {N m o : Nat} {w : Nat → Nat} (e1 : h 79 1 = (N : Int)) (hN : N ≤ 6) (hm : m < N) (ab : AB h N w m) (hw : ∀ k, w k ≤ N) (k1 : (∃ t, itT N m w t o = m) → K 1 h) (k0 : (∀ t, t < N → itT N m w t o ≠ m) → K 0 h) : ∀ (r s : Nat) (x : Int), s + r = N → ((x = (itT N m w s o : Nat) ∧ itT N m w s o < N) ∨ (-2 ≤ x ∧ x < 0 ∧ itT N m w s o = N)) → (∀ t, t < s → itT N m w t o ≠ m) → wI D m_Tree_isUnder 5 [(0, vR 79), (1, vI o), (2, vI m), (3, vI x), (4, vI s)] [] h K := by
  intro r
  induction r with
  | zero =>
    intro s x hs iv al
    exact s_Tree_isUnder_5 _ _ _ _ h K ⟨⟨by omega, by omega⟩, ⟨by omega, by omega⟩, fun _ => k0 (fun t ht => al t (by omega)), fun y => by omega⟩
  | succ r ih =>
    intro s x hs iv al
    refine s_Tree_isUnder_5 _ _ _ _ h K ⟨⟨by omega, by omega⟩, ⟨by omega, by omega⟩, fun y => by omega, fun _ => ⟨⟨by omega, by omega⟩, fun y => k0 (fun t ht => ?_), fun y => ⟨⟨by omega, by omega⟩, fun z => ?_, fun z => k1 ⟨s, by omega⟩⟩⟩⟩
    · rcases iv with ⟨i1, i2⟩ | ⟨i1, i2, i3⟩
      · omega
      · by_cases u : t < s
        · exact al t u
        · rw [itT_ab (by omega) i3 (by omega)]; omega
    · rcases iv with ⟨i1, i2⟩ | ⟨i1, i2, i3⟩
      · subst i1
        rw [Int.toNat_natCast]
        refine ⟨⟨by omega, by omega⟩, ih (s + 1) _ (by omega) ?_ (fun t ht => ?_)⟩
        · rw [itT_s]
          generalize itT N m w s o = v at *
          by_cases u : v < m
          · rw [ab.1 v u, show nxT N m w v = w v from nif_t u]
            by_cases q : w v < N
            · exact Or.inl ⟨cif_t q, q⟩
            · right
              rw [show encT N (w v) = -2 from cif_f q]
              have := hw v
              omega
          · rw [ab.2 v (by omega) i2, show nxT N m w v = N from nif_f u]
            right; omega
        · by_cases u : t = s
          · subst u; omega
          · exact al t (by omega)
      · omega
theorem c_Tree_isUnder {D : Nat} {h : St} {K : Int → St → Prop} {N m o : Nat} {w : Nat → Nat} (e1 : h 79 1 = (N : Int)) (hN : N ≤ 6) (hm : m < N) (ho : o < N) (ab : AB h N w m) (hw : ∀ k, w k ≤ N) (k1 : (∃ t, itT N m w t o = m) → K 1 h) (k0 : (∀ t, t < N → itT N m w t o ≠ m) → K 0 h) : mwpI (D + 1) m_Tree_isUnder [vR 79, vI o, vI m] h K :=
  mI_intro b_Tree_isUnder rfl (s_Tree_isUnder_0 (d := D) _ _ h K (C_iu_5 e1 hN hm ab hw k1 k0 N 0 _ (Nat.zero_add _) (Or.inl ⟨rfl, ho⟩) (fun t ht => absurd ht (Nat.not_lt_zero _))))
theorem clr_b : ∀ a, a < 64 → ∀ i, i < 6 → and3 (a : Nat) (xor3 (shl3 1 (i : Nat)) (-1)) = ((a &&& (63 ^^^ 2 ^ i) : Nat) : Int) ∧ (a &&& (63 ^^^ 2 ^ i)) < 64 ∧ ∀ k, k < 6 → (a &&& (63 ^^^ 2 ^ i)).testBit k = (a.testBit k && decide (k ≠ i)) := by decide +kernel
theorem all_b : ∀ a, a < 64 → and3 (a : Nat) (-1) = ((a : Nat) : Int) := by decide +kernel
theorem tb_64 {a k : Nat} (ha : a < 64) (hk : a.testBit k = true) : k < 6 := by
  by_cases y : k < 6
  · exact y
  · exfalso
    have p6 : 2 ^ 6 ≤ 2 ^ k := Nat.pow_le_pow_right (by decide) (by omega)
    rw [Nat.testBit_lt_two_pow (show a < 2 ^ k by omega)] at hk
    exact Bool.noConfusion hk
theorem C_wg_86 {D : Nat} {h0 : St} {K : St → Prop} {N : Nat} {w e : Nat → Nat} {u : Nat → Int} {x1 : Int} (e1 : h0 79 1 = (N : Int)) (hN : N ≤ 6) (ab : ∀ k, k < N → h0 83 k = encT N (w k)) (be : ∀ k, k < N → h0 84 k = encT N (e k)) (hw : ∀ k, w k ≤ N) (he : ∀ k, e k ≤ N) (k : ∀ (sr : Nat) h2, ag (fun c k => ¬ (c = 79 ∧ k = 7)) h0 h2 → h2 79 7 = (sr : Int) → sr < 64 → (∀ k, sr.testBit k = true ↔ u k = 1 ∧ (k < N → w k = e k)) → K h2) : ∀ (r c sr : Nat) (h : St), c + r = N → ag (fun c k => ¬ (c = 79 ∧ k = 7)) h0 h → h 79 7 = (sr : Int) → sr < 64 → (∀ k, sr.testBit k = true ↔ u k = 1 ∧ (k < c → w k = e k)) → wV D m_Tree_weigh 86 [(0, vR 79), (1, vI x1), (2, vI c)] [] h K := by
  intro r
  induction r with
  | zero =>
    intro c sr h hc g s1 s2 s3
    have ec : c = N := by omega
    subst ec
    have g1 := g 79 1 (by omega)
    exact s_Tree_weigh_86 _ _ h K ⟨⟨by omega, by omega⟩, ⟨by omega, by omega⟩, fun _ => k sr h g s1 s2 s3, fun y => by omega⟩
  | succ r ih =>
    intro c sr h hc g s1 s2 s3
    have g1 := g 79 1 (by omega)
    have r1 := enc_R (N := N) (v := w c)
    have r2 := enc_R (N := N) (v := e c)
    refine s_Tree_weigh_86 _ _ h K ⟨⟨by omega, by omega⟩, ⟨by omega, by omega⟩, fun y => by omega, fun _ => ⟨⟨by omega, by omega⟩, ?_⟩⟩
    rw [Int.toNat_natCast, g 83 c (by omega), g 84 c (by omega), ab c (by omega), be c (by omega), s1]
    refine ⟨⟨⟨by omega, by omega⟩, ⟨by omega, by omega⟩⟩, ?_⟩
    by_cases y : w c = e c
    · rw [cif_f (fun z => z (by rw [y])), all_b sr s2]
      refine ih (c + 1) sr _ (by omega) (ag_up (by omega) g) (up_same _ _ _ _) s2 (fun k => (s3 k).trans (and_congr Iff.rfl ⟨fun z hk => ?_, fun z hk => z (by omega)⟩))
      by_cases q : k = c
      · subst q; exact y
      · exact z (by omega)
    · obtain ⟨c1, c2, c3⟩ := clr_b sr s2 c (by omega)
      rw [cif_t (fun z => y ((enc_i (hw c) (he c)).mp z)), c1]
      refine ih (c + 1) _ _ (by omega) (ag_up (by omega) g) (up_same _ _ _ _) c2 (fun k => ?_)
      constructor
      · intro z
        have k6 := tb_64 c2 z
        rw [c3 k k6, Bool.and_eq_true, decide_eq_true_iff] at z
        have q := (s3 k).mp z.1
        exact ⟨q.1, fun hk => q.2 (by have := z.2; omega)⟩
      · intro z
        have nk : k ≠ c := fun q => y (by subst q; exact z.2 (by omega))
        have q := (s3 k).mpr ⟨z.1, fun hk => z.2 (by omega)⟩
        rw [c3 k (tb_64 s2 q), Bool.and_eq_true, decide_eq_true_iff]
        exact ⟨q, nk⟩
theorem C_wg_20 {D : Nat} {K : St → Prop} {N : Nat} {w : Nat → Nat} {x1 : Int} (hN : N ≤ 6) (hw : ∀ k, w k ≤ N) : ∀ (r c sr : Nat) (h : St), c + r = N → h 79 1 = (N : Int) → (∀ k, k < N → h 83 k = encT N (w k)) → h 79 7 = (sr : Int) → sr < 64 → (∀ k, sr.testBit k = true ↔ k < c ∧ w k ≠ N) → (∀ k, k < c → h 84 k = encT N (w k)) → (∀ (sr : Nat) h2, ag (fun c k => c ≠ 84 ∧ ¬ (c = 79 ∧ k = 7)) h h2 → h2 79 7 = (sr : Int) → sr < 64 → (∀ k, sr.testBit k = true ↔ k < N ∧ w k ≠ N) → (∀ k, k < N → h2 84 k = encT N (w k)) → K h2) → wV D m_Tree_weigh 20 [(0, vR 79), (1, vI x1), (2, vI c)] [] h K := by
  intro r
  induction r with
  | zero =>
    intro c sr h hc e1 ab s1 s2 s3 s4 k
    have ec : c = N := by omega
    subst ec
    exact s_Tree_weigh_20 _ _ h K ⟨⟨by omega, by omega⟩, ⟨by omega, by omega⟩, fun _ => k sr h ag_rfl s1 s2 s3 s4, fun y => by omega⟩
  | succ r ih =>
    intro c sr h hc e1 ab s1 s2 s3 s4 k
    have r1 := enc_R (N := N) (v := w c)
    have wc := hw c
    have p2 : 2 ^ c < 64 := Nat.lt_of_lt_of_le (Nat.pow_lt_pow_right (by decide) (show c < 6 by omega)) (by decide)
    refine s_Tree_weigh_20 _ _ h K ⟨⟨by omega, by omega⟩, ⟨by omega, by omega⟩, fun y => by omega, fun _ => ⟨⟨by omega, by omega⟩, ?_⟩⟩
    rw [Int.toNat_natCast, ab c (by omega), s1]
    refine ⟨⟨by omega, by omega⟩, ?_⟩
    have nx : ∀ sr2 : Nat, sr2 < 64 → (∀ k, sr2.testBit k = true ↔ k < c + 1 ∧ w k ≠ N) → wV D m_Tree_weigh 20 [(0, vR 79), (1, vI x1), (2, vI ((c : Int) + 1))] [] (up (up h 84 c (encT N (w c))) 79 7 (sr2 : Int)) K := fun sr2 q1 q2 => by
      refine ih (c + 1) sr2 _ (by omega) (by rw [up_ne (by omega), up_ne (by omega)]; exact e1) (fun k hk => by rw [up_ne (by omega), up_ne (by omega)]; exact ab k hk) (up_same _ _ _ _) q1 q2 (fun k hk => ?_) (fun sr3 h2 g2 => k sr3 h2 (ag_trans (ag_up (by omega) (ag_up (by omega) ag_rfl)) g2))
      rw [up_ne (by omega)]
      by_cases q : k = c
      · subst q; rw [up_same]
      · rw [up_ne (by omega)]; exact s4 k (by omega)
    by_cases y : w c = N
    · rw [show encT N (w c) = -2 from cif_f (by omega)] at nx ⊢
      rw [cif_f (fun z => z rfl), show (0 : Int) = ((0 : Nat) : Int) from rfl, or3_nat (by omega) (by omega), Nat.or_zero]
      refine nx sr s2 (fun k => (s3 k).trans ⟨fun z => ⟨by omega, z.2⟩, fun z => ⟨?_, z.2⟩⟩)
      by_cases q : k = c
      · subst q; exact absurd y z.2
      · omega
    · have ee : encT N (w c) = (w c : Int) := cif_t (by omega)
      rw [cif_t (by rw [ee]; omega), shl_1 (by omega), or3_nat (by omega) (by omega)]
      refine nx _ (Nat.or_lt_two_pow (n := 6) s2 p2) (fun k => ?_)
      rw [tb_or, s3 k]
      constructor
      · rintro (z | z)
        · exact ⟨by omega, z.2⟩
        · subst z; exact ⟨by omega, y⟩
      · rintro ⟨z1, z2⟩
        by_cases q : k = c
        · exact Or.inr q.symm
        · exact Or.inl ⟨by omega, z2⟩
def agG (h h2 : St) : Prop := ag (fun c k => c ≠ 84 ∧ ¬ (c = 79 ∧ (k = 0 ∨ k = 7))) h h2
theorem c_Tree_weigh {D : Nat} {h : St} {K : St → Prop} {N : Nat} {w : Nat → Nat} {s : Int} {st : Stt} (e1 : h 79 1 = (N : Int)) (hN : N ≤ 6) (ab : ∀ k, k < N → h 83 k = encT N (w k)) (hw : ∀ k, w k ≤ N) (tr : TR h N st) (hs : 0 ≤ s ∧ s ≤ 6000) (k : ∀ h2, agG h h2 → TR h2 N (wgT N w s st) → K h2) : mwpV (D + 1) m_Tree_weigh [vR 79, vI s] h K := by
  obtain ⟨a1, a2, a3, ⟨sr, b1, b2, b3⟩, a5, a6, a7⟩ := id tr
  refine mV_intro b_Tree_weigh rfl (s_Tree_weigh_0 (d := D) _ h K ⟨⟨by omega, by omega⟩, ⟨by omega, by omega⟩, fun y => ⟨fun z => ?_, fun z => ?_⟩, fun y => ?_⟩)
  · refine k h ag_rfl ?_
    rw [wg_va (Int.le_refl s) (Or.inl (by omega))]
    exact tr
  · have sb : s = st.1 := by omega
    refine C_wg_86 (w := w) (e := st.2.1) (u := st.2.2) e1 hN ab (a3 (by omega)) hw a6 (fun sr2 h2 g2 s1 s2 s3 => k h2 (ag_sub (fun c k p => by omega) g2) ?_) N 0 sr h (Nat.zero_add _) ag_rfl b1 b2 (fun k => (b3 k).trans ⟨fun z => ⟨z, fun hk => absurd hk (Nat.not_lt_zero _)⟩, fun z => z.1⟩)
    have nl : ¬ st.1 < s := by omega
    have f1 : (wgT N w s st).1 = st.1 := cif_f nl
    have f2 : ∀ k, (wgT N w s st).2.1 k = st.2.1 k := fun k => nif_f nl
    have f3 : ∀ k, (wgT N w s st).2.2 k = cif (s = st.1 ∧ w k ≠ st.2.1 k) 0 (st.2.2 k) := fun k => cif_f nl
    refine ⟨by rw [f1, g2 79 0 (by omega)]; exact a1, by rw [f1]; exact a2, fun q k hk => by rw [f2, g2 84 k (by omega)]; exact a3 (by omega) k hk, ⟨sr2, s1, s2, fun k => ?_⟩, fun k => ?_, fun k => by rw [f2]; exact a6 k, fun k => ?_⟩
    · rw [s3 k, f3 k]
      by_cases q : w k = st.2.1 k
      · rw [cif_f (fun z => z.2 q)]
        exact ⟨fun z => z.1, fun z => ⟨z, fun _ => q⟩⟩
      · rw [cif_t ⟨sb, q⟩]
        exact ⟨fun z => absurd (z.2 (a7 k z.1)) q, fun z => absurd z (by decide)⟩
    · rw [f3 k]
      by_cases q : s = st.1 ∧ w k ≠ st.2.1 k
      · rw [cif_t q]; exact Or.inl rfl
      · rw [cif_f q]; exact a5 k
    · rw [f3 k]
      by_cases q : s = st.1 ∧ w k ≠ st.2.1 k
      · rw [cif_t q]; exact fun z => absurd z (by decide)
      · rw [cif_f q]; exact a7 k
  · have lt : st.1 < s := by omega
    have g0 : agG h (up (up h 79 0 s) 79 7 0) := ag_up (by omega) (ag_up (by omega) ag_rfl)
    refine C_wg_20 (w := w) hN hw N 0 0 _ (Nat.zero_add _) (by rw [g0 79 1 (by omega)]; exact e1) (fun k hk => by rw [g0 83 k (by omega)]; exact ab k hk) (by rw [up_same]; rfl) (by decide) (fun k => ?_) (fun k hk => absurd hk (Nat.not_lt_zero _)) (fun sr2 h2 g2 s1 s2 s3 s4 => k h2 (ag_trans g0 (ag_sub (fun c k p => by omega) g2)) ?_)
    · rw [Nat.zero_testBit]
      exact ⟨fun z => Bool.noConfusion z, fun z => absurd z.1 (Nat.not_lt_zero _)⟩
    · have f1 : (wgT N w s st).1 = s := cif_t lt
      have f2 : ∀ k, (wgT N w s st).2.1 k = w k := fun k => nif_t lt
      have f3 : ∀ k, (wgT N w s st).2.2 k = cif (k < N ∧ w k ≠ N) 1 0 := fun k => cif_t lt
      refine ⟨by rw [f1, g2 79 0 (by omega), up_ne (by omega), up_same], by rw [f1]; omega, fun _ k hk => by rw [f2]; exact s4 k hk, ⟨sr2, s1, s2, fun k => ?_⟩, fun k => ?_, fun k => by rw [f2]; exact hw k, fun k => ?_⟩
      · rw [s3 k, f3 k]
        by_cases q : k < N ∧ w k ≠ N
        · rw [cif_t q]; exact ⟨fun _ => rfl, fun _ => q⟩
        · rw [cif_f q]; exact ⟨fun z => absurd z q, fun z => absurd z (by decide)⟩
      · rw [f3 k]
        by_cases q : k < N ∧ w k ≠ N
        · rw [cif_t q]; exact Or.inr rfl
        · rw [cif_f q]; exact Or.inl rfl
      · rw [f3 k]
        by_cases q : k < N ∧ w k ≠ N
        · exact fun _ => q.1
        · rw [cif_f q]; exact fun z => absurd z (by decide)
