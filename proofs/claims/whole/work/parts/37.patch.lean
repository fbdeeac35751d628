theorem s_Places_fit_0 {d : Nat} {c nc : Nat} (sc : shp c = .inl (.int, nc, 0)) (lc : Nat.blt c nC = true) (x1 x2 : Int) (h : St) (K : St → Prop) (F : (wV (d + 3) m_Places_fit 3 [(0, vR 85), (1, vI x1), (2, vI x2), (3, vR c), (4, vI 0)] [] h K)) : wV (d + 3) m_Places_fit 0 [(0, vR 85), (1, vI x1), (2, vI x2), (3, vR c)] [] h K := by
  refine w_iconst rfl ?_
  refine w_istore rfl rfl rfl rfl (w_ls (ls2 := [(0, vR 85), (1, vI x1), (2, vI x2), (3, vR c), (4, vI 0)]) rfl ?_)
  exact F
theorem s_Places_fit_3 {d : Nat} {c nc : Nat} (sc : shp c = .inl (.int, nc, 0)) (lc : Nat.blt c nC = true) (x1 x2 x4 : Int) (h : St) (K : St → Prop) (F : (inR x4) ∧ ((16 ≤ x4 → (K h)) ∧ (¬ (16 ≤ x4) → (0 ≤ x4 ∧ x4 < nc) ∧ (wV (d + 3) m_Places_fit 18 [(0, vR 85), (1, vI x1), (2, vI x2), (3, vR c), (4, vI x4), (5, vI 0)] [] (up h c x4.toNat 0) K)))) : wV (d + 3) m_Places_fit 3 [(0, vR 85), (1, vI x1), (2, vI x2), (3, vR c), (4, vI x4)] [] h K := by
  refine w_iload rfl rfl ?_
  refine w_bipush (by decide) (by decide) rfl ?_
  obtain ⟨b1, F⟩ := F
  refine w_icmp_ge (tgt := 65) rfl (by decide) ⟨b1, (r_lit rfl)⟩ (fun q2 => ?_) (fun q2 => ?_)
  · replace F := F.1 q2
    exact w_vret rfl rfl ⟨rfl, rfl, rfl, F⟩
  · replace F := F.2 q2
    refine w_aload_n rfl rfl ?_
    refine w_iload rfl rfl ?_
    refine w_iconst rfl ?_
    obtain ⟨b3, F⟩ := F
    refine w_iastore rfl sc lc b3 ?_
    refine w_iconst rfl ?_
    refine w_istore rfl rfl rfl rfl (w_ls (ls2 := [(0, vR 85), (1, vI x1), (2, vI x2), (3, vR c), (4, vI x4), (5, vI 0)]) rfl ?_)
    exact F
theorem s_Places_fit_18 {d : Nat} {c nc : Nat} (sc : shp c = .inl (.int, nc, 0)) (lc : Nat.blt c nC = true) (x1 x2 x4 x5 : Int) (h : St) (K : St → Prop) (F : (inR x5) ∧ ((16 ≤ x5 → (wV (d + 3) m_Places_fit 3 [(0, vR 85), (1, vI x1), (2, vI x2), (3, vR c), (4, vI (x4 + 1))] [] h K)) ∧ (¬ (16 ≤ x5) → (0 ≤ x4 ∧ x4 < nc) ∧ (mwpI (d + 3) m_Places_fitsAll [vR 85, vI x1, vI x2, vI x4, vI x5] h (fun z4 h4 => (((inR z4))) ∧ (wV (d + 3) m_Places_fit 18 [(0, vR 85), (1, vI x1), (2, vI x2), (3, vR c), (4, vI x4), (5, vI (x5 + 1))] [] (up h4 c x4.toNat (or3 (h c x4.toNat) (cif (z4 = 0) 0 (shl3 1 x5)))) K)))))) : wV (d + 3) m_Places_fit 18 [(0, vR 85), (1, vI x1), (2, vI x2), (3, vR c), (4, vI x4), (5, vI x5)] [] h K := by
  refine w_iload rfl rfl ?_
  refine w_bipush (by decide) (by decide) rfl ?_
  obtain ⟨b1, F⟩ := F
  refine w_icmp_ge (tgt := 59) rfl (by decide) ⟨b1, (r_lit rfl)⟩ (fun q2 => ?_) (fun q2 => ?_)
  · replace F := F.1 q2
    refine w_iinc rfl rfl rfl rfl rfl (w_ls (ls2 := [(0, vR 85), (1, vI x1), (2, vI x2), (3, vR c), (4, vI (x4 + 1)), (5, vI x5)]) rfl ?_)
    refine w_goto (tgt := 3) rfl (by decide) ?_
    exact w_kp [0, 1, 2, 3, 4] F
  · replace F := F.2 q2
    refine w_aload_n rfl rfl ?_
    refine w_iload rfl rfl ?_
    refine w_dup2 rfl rfl rfl ?_
    obtain ⟨b3, F⟩ := F
    refine w_iaload rfl sc lc b3 ?_
    refine w_aload_n rfl rfl ?_
    refine w_iload_n rfl rfl ?_
    refine w_iload_n rfl rfl ?_
    refine w_iload rfl rfl ?_
    refine w_iload rfl rfl ?_
    refine c_VI [vI x1, vI x2, vI x4, vI x5] [vI (h c x4.toNat), vI x4, vR c] rfl b_Places_fitsAll k_Places_56 rfl rfl rfl rfl rfl rfl (mwpI_mono (fun z4 h4 F => ?_) F)
    obtain ⟨G, F⟩ := F
    have J : ∀ (t7 : Int), t7 = cif (z4 = 0) 0 (shl3 1 x5) → wV (d + 3) m_Places_fit 51 [(0, vR 85), (1, vI x1), (2, vI x2), (3, vR c), (4, vI x4), (5, vI x5)] [vI t7, vI (h c x4.toNat), vI x4, vR c] h4 K := by
      intro t7 et7
      subst et7
      refine w_ior rfl ?_
      refine w_iastore rfl sc lc b3 ?_
      refine w_iinc rfl rfl rfl rfl rfl (w_ls (ls2 := [(0, vR 85), (1, vI x1), (2, vI x2), (3, vR c), (4, vI x4), (5, vI (x5 + 1))]) rfl ?_)
      refine w_goto (tgt := 18) rfl (by decide) ?_
      exact F
    have b5 := G
    refine w_if_eq (tgt := 50) rfl (by decide) b5 (fun q6 => ?_) (fun q6 => ?_)
    · refine w_iconst rfl ?_
      exact J _ (cif_t q6).symm
    · refine w_iconst rfl ?_
      refine w_iload rfl rfl ?_
      refine w_ishl rfl ?_
      refine w_goto (tgt := 51) rfl (by decide) ?_
      exact J _ (cif_f q6).symm
theorem s_Places_sizeOf_0 {d : Nat} {c nc : Nat} (sc : shp c = .inl (.int, nc, 0)) (lc : Nat.blt c nC = true) (h : St) (K : Int → St → Prop) (F : (wI (d + 1) m_Places_sizeOf 4 [(0, vR c), (1, vI 0), (2, vI 0)] [] h K)) : wI (d + 1) m_Places_sizeOf 0 [(0, vR c)] [] h K := by
  refine w_iconst rfl ?_
  refine w_istore_n rfl rfl rfl rfl (w_ls (ls2 := [(0, vR c), (1, vI 0)]) rfl ?_)
  refine w_iconst rfl ?_
  refine w_istore_n rfl rfl rfl rfl (w_ls (ls2 := [(0, vR c), (1, vI 0), (2, vI 0)]) rfl ?_)
  exact F
theorem s_Places_sizeOf_4 {d : Nat} {c nc : Nat} (sc : shp c = .inl (.int, nc, 0)) (lc : Nat.blt c nC = true) (x1 x2 : Int) (h : St) (K : Int → St → Prop) (F : (inR x2) ∧ ((16 ≤ x2 → (K x1 h)) ∧ (¬ (16 ≤ x2) → (0 ≤ x2 ∧ x2 < nc) ∧ (mwpI (d + 1) m_JI_bitCount [vI (h c x2.toNat)] h (fun z4 h4 => (wI (d + 1) m_Places_sizeOf 4 [(0, vR c), (1, vI (x1 + z4)), (2, vI (x2 + 1))] [] h4 K)))))) : wI (d + 1) m_Places_sizeOf 4 [(0, vR c), (1, vI x1), (2, vI x2)] [] h K := by
  refine w_iload_n rfl rfl ?_
  refine w_bipush (by decide) (by decide) rfl ?_
  obtain ⟨b1, F⟩ := F
  refine w_icmp_ge (tgt := 25) rfl (by decide) ⟨b1, (r_lit rfl)⟩ (fun q2 => ?_) (fun q2 => ?_)
  · replace F := F.1 q2
    refine w_iload_n rfl rfl ?_
    exact w_iret rfl rfl ⟨rfl, rfl, _, rfl, F⟩
  · replace F := F.2 q2
    refine w_iload_n rfl rfl ?_
    refine w_aload_n rfl rfl ?_
    refine w_iload_n rfl rfl ?_
    obtain ⟨b3, F⟩ := F
    refine w_iaload rfl sc lc b3 ?_
    refine c_SI [vI (h c x2.toNat)] [vI x1] rfl b_JI_bitCount k_Places_60 rfl rfl rfl (mwpI_mono (fun z4 h4 F => ?_) F)
    refine w_iadd rfl ?_
    refine w_istore_n rfl rfl rfl rfl (w_ls (ls2 := [(0, vR c), (1, vI (x1 + z4)), (2, vI x2)]) rfl ?_)
    refine w_iinc rfl rfl rfl rfl rfl (w_ls (ls2 := [(0, vR c), (1, vI (x1 + z4)), (2, vI (x2 + 1))]) rfl ?_)
    refine w_goto (tgt := 4) rfl (by decide) ?_
    exact F
theorem s_Places_middleOf_0 {d : Nat} {c nc : Nat} (sc : shp c = .inl (.int, nc, 0)) (lc : Nat.blt c nC = true) (h : St) (K : Int → St → Prop) (F : (mwpI (d + 2) m_Places_sizeOf [vR c] h (fun z1 h1 => (inR z1) ∧ ((z1 ≠ 0 → (wI (d + 2) m_Places_middleOf 19 [(0, vR c), (1, vI z1), (2, vI 0), (3, vI 0), (4, vI 0)] [] h1 K)) ∧ (¬ (z1 ≠ 0) → (K ((-4)) h1)))))) : wI (d + 2) m_Places_middleOf 0 [(0, vR c)] [] h K := by
  refine w_aload_n rfl rfl ?_
  refine c_SI [vR c] [] rfl b_Places_sizeOf k_Places_65 rfl rfl rfl (mwpI_mono (fun z1 h1 F => ?_) F)
  refine w_istore_n rfl rfl rfl rfl (w_ls (ls2 := [(0, vR c), (1, vI z1)]) rfl ?_)
  refine w_iload_n rfl rfl ?_
  obtain ⟨b2, F⟩ := F
  refine w_if_ne (tgt := 12) rfl (by decide) b2 (fun q3 => ?_) (fun q3 => ?_)
  · replace F := F.1 q3
    refine w_iconst rfl ?_
    refine w_istore_n rfl rfl rfl rfl (w_ls (ls2 := [(0, vR c), (1, vI z1), (2, vI 0)]) rfl ?_)
    refine w_iconst rfl ?_
    refine w_istore_n rfl rfl rfl rfl (w_ls (ls2 := [(0, vR c), (1, vI z1), (2, vI 0), (3, vI 0)]) rfl ?_)
    refine w_iconst rfl ?_
    refine w_istore rfl rfl rfl rfl (w_ls (ls2 := [(0, vR c), (1, vI z1), (2, vI 0), (3, vI 0), (4, vI 0)]) rfl ?_)
    exact F
  · replace F := F.2 q3
    refine w_bipush (by decide) (by decide) rfl ?_
    exact w_iret rfl rfl ⟨rfl, rfl, _, rfl, F⟩
theorem s_Places_middleOf_19 {d : Nat} {c nc : Nat} (sc : shp c = .inl (.int, nc, 0)) (lc : Nat.blt c nC = true) (x1 x2 x3 x4 : Int) (h : St) (K : Int → St → Prop) (F : (inR x4) ∧ ((16 ≤ x4 → (inR x2) ∧ (inR x1) ∧ (0 < x1) ∧ (inR x3) ∧ (0 < x1) ∧ (K ((16 * (x2.tdiv x1)) + (x3.tdiv x1)) h)) ∧ (¬ (16 ≤ x4) → (0 ≤ x4 ∧ x4 < nc) ∧ (mwpI (d + 2) m_JI_bitCount [vI (h c x4.toNat)] h (fun z9 h9 => (wI (d + 2) m_Places_middleOf 42 [(0, vR c), (1, vI x1), (2, vI (x2 + (x4 * z9))), (3, vI x3), (4, vI x4), (5, vI 0)] [] h9 K)))))) : wI (d + 2) m_Places_middleOf 19 [(0, vR c), (1, vI x1), (2, vI x2), (3, vI x3), (4, vI x4)] [] h K := by
  refine w_iload rfl rfl ?_
  refine w_bipush (by decide) (by decide) rfl ?_
  obtain ⟨b1, F⟩ := F
  refine w_icmp_ge (tgt := 76) rfl (by decide) ⟨b1, (r_lit rfl)⟩ (fun q2 => ?_) (fun q2 => ?_)
  · replace F := F.1 q2
    refine w_bipush (by decide) (by decide) rfl ?_
    refine w_iload_n rfl rfl ?_
    refine w_iload_n rfl rfl ?_
    obtain ⟨b3, F⟩ := F
    obtain ⟨b4, F⟩ := F
    obtain ⟨b5, F⟩ := F
    refine w_idiv ⟨b3, b4, b5⟩ rfl ?_
    refine w_imul rfl ?_
    refine w_iload_n rfl rfl ?_
    refine w_iload_n rfl rfl ?_
    obtain ⟨b6, F⟩ := F
    obtain ⟨b7, F⟩ := F
    refine w_idiv ⟨b6, b4, b7⟩ rfl ?_
    refine w_iadd rfl ?_
    exact w_iret rfl rfl ⟨rfl, rfl, _, rfl, F⟩
  · replace F := F.2 q2
    refine w_iload_n rfl rfl ?_
    refine w_iload rfl rfl ?_
    refine w_aload_n rfl rfl ?_
    refine w_iload rfl rfl ?_
    obtain ⟨b8, F⟩ := F
    refine w_iaload rfl sc lc b8 ?_
    refine c_SI [vI (h c x4.toNat)] [vI x4, vI x2] rfl b_JI_bitCount k_Places_60 rfl rfl rfl (mwpI_mono (fun z9 h9 F => ?_) F)
    refine w_imul rfl ?_
    refine w_iadd rfl ?_
    refine w_istore_n rfl rfl rfl rfl (w_ls (ls2 := [(0, vR c), (1, vI x1), (2, vI (x2 + (x4 * z9))), (3, vI x3), (4, vI x4)]) rfl ?_)
    refine w_iconst rfl ?_
    refine w_istore rfl rfl rfl rfl (w_ls (ls2 := [(0, vR c), (1, vI x1), (2, vI (x2 + (x4 * z9))), (3, vI x3), (4, vI x4), (5, vI 0)]) rfl ?_)
    exact F
theorem s_Places_middleOf_42 {d : Nat} {c nc : Nat} (sc : shp c = .inl (.int, nc, 0)) (lc : Nat.blt c nC = true) (x1 x2 x3 x4 x5 : Int) (h : St) (K : Int → St → Prop) (F : (inR x5) ∧ ((16 ≤ x5 → (wI (d + 2) m_Places_middleOf 19 [(0, vR c), (1, vI x1), (2, vI x2), (3, vI x3), (4, vI (x4 + 1))] [] h K)) ∧ (¬ (16 ≤ x5) → (0 ≤ x4 ∧ x4 < nc) ∧ (wI (d + 2) m_Places_middleOf 42 [(0, vR c), (1, vI x1), (2, vI x2), (3, vI (x3 + (x5 * (and3 (shr3 (h c x4.toNat) x5) 1)))), (4, vI x4), (5, vI (x5 + 1))] [] h K)))) : wI (d + 2) m_Places_middleOf 42 [(0, vR c), (1, vI x1), (2, vI x2), (3, vI x3), (4, vI x4), (5, vI x5)] [] h K := by
  refine w_iload rfl rfl ?_
  refine w_bipush (by decide) (by decide) rfl ?_
  obtain ⟨b1, F⟩ := F
  refine w_icmp_ge (tgt := 70) rfl (by decide) ⟨b1, (r_lit rfl)⟩ (fun q2 => ?_) (fun q2 => ?_)
  · replace F := F.1 q2
    refine w_iinc rfl rfl rfl rfl rfl (w_ls (ls2 := [(0, vR c), (1, vI x1), (2, vI x2), (3, vI x3), (4, vI (x4 + 1)), (5, vI x5)]) rfl ?_)
    refine w_goto (tgt := 19) rfl (by decide) ?_
    exact w_kp [0, 1, 2, 3, 4] F
  · replace F := F.2 q2
    refine w_iload_n rfl rfl ?_
    refine w_iload rfl rfl ?_
    refine w_aload_n rfl rfl ?_
    refine w_iload rfl rfl ?_
    obtain ⟨b3, F⟩ := F
    refine w_iaload rfl sc lc b3 ?_
    refine w_iload rfl rfl ?_
    refine w_ishr rfl ?_
    refine w_iconst rfl ?_
    refine w_iand rfl ?_
    refine w_imul rfl ?_
    refine w_iadd rfl ?_
    refine w_istore_n rfl rfl rfl rfl (w_ls (ls2 := [(0, vR c), (1, vI x1), (2, vI x2), (3, vI (x3 + (x5 * (and3 (shr3 (h c x4.toNat) x5) 1)))), (4, vI x4), (5, vI x5)]) rfl ?_)
    refine w_iinc rfl rfl rfl rfl rfl (w_ls (ls2 := [(0, vR c), (1, vI x1), (2, vI x2), (3, vI (x3 + (x5 * (and3 (shr3 (h c x4.toNat) x5) 1)))), (4, vI x4), (5, vI (x5 + 1))]) rfl ?_)
    refine w_goto (tgt := 42) rfl (by decide) ?_
    exact F
theorem s_C_patch_0 {d : Nat}  (x1 x2 x3 : Int) (h : St) (K : Int → St → Prop) (F : (inR x1) ∧ ((¬ (0 ≤ x1 ∧ x1 ≤ 11) → (K ((-1)) h)) ∧ (0 ≤ x1 ∧ x1 ≤ 11 → (inR x2) ∧ ((¬ (0 ≤ x2 ∧ x2 ≤ 19) → (K ((-1)) h)) ∧ (0 ≤ x2 ∧ x2 ≤ 19 → (inR x3) ∧ ((0 ≤ x3 ∧ x3 ≤ 1 → (mwpV (d + 4) m_Places_fit [vR 85, vI x1, vI x2, vR 94] h (fun h7 => ((x3 ≠ 0 → (mwpI (d + 4) m_Places_middleOf [vR 94] h7 (fun z9 h9 => (K z9 h9)))) ∧ (¬ (x3 ≠ 0) → (mwpI (d + 4) m_Places_sizeOf [vR 94] h7 (fun z10 h10 => (K z10 h10)))))))) ∧ (¬ (0 ≤ x3 ∧ x3 ≤ 1) → (K ((-1)) h)))))))) : wI (d + 4) m_C_patch 0 [(0, vR 0), (1, vI x1), (2, vI x2), (3, vI x3)] [] h K := by
  refine w_iload_n rfl rfl ?_
  obtain ⟨b1, F⟩ := F
  refine c_SI [vI x1] [] rfl b_C_isName k_C_96 rfl rfl rfl (c_C_isName b1 ?_)
  refine w_ifeq_b (tgt := 23) rfl (by decide) (fun q2 => ?_) (fun q2 => ?_)
  · replace F := F.1 q2
    refine w_iconst rfl ?_
    exact w_iret rfl rfl ⟨rfl, rfl, _, rfl, F⟩
  · replace F := F.2 q2
    refine w_iload_n rfl rfl ?_
    obtain ⟨b3, F⟩ := F
    refine c_SI [vI x2] [] rfl b_C_isDay k_C_131 rfl rfl rfl (c_C_isDay b3 ?_)
    refine w_ifeq_b (tgt := 23) rfl (by decide) (fun q4 => ?_) (fun q4 => ?_)
    · replace F := F.1 q4
      refine w_iconst rfl ?_
      exact w_iret rfl rfl ⟨rfl, rfl, _, rfl, F⟩
    · replace F := F.2 q4
      refine w_iload_n rfl rfl ?_
      refine w_iconst rfl ?_
      refine w_iconst rfl ?_
      obtain ⟨b5, F⟩ := F
      refine c_SI [vI x3, vI 0, vI 1] [] rfl b_C_isAmong k_C_103 rfl rfl rfl (c_C_isAmong b5 (r_lit rfl) (r_lit rfl) ?_)
      refine w_ifne_b (tgt := 25) rfl (by decide) (fun q6 => ?_) (fun q6 => ?_)
      · replace F := F.1 q6
        refine w_aload_n rfl rfl ?_
        refine w_getR rfl f_C_61 rfl rfl rfl rfl rfl ?_
        refine w_iload_n rfl rfl ?_
        refine w_iload_n rfl rfl ?_
        refine w_aload_n rfl rfl ?_
        refine w_getR rfl f_C_61 rfl rfl rfl rfl rfl ?_
        refine w_getR rfl f_C_274 rfl rfl rfl rfl rfl ?_
        refine c_VV [vI x1, vI x2, vR 94] [] rfl b_Places_fit k_C_277 rfl rfl rfl rfl rfl rfl (mwpV_mono (fun h7 F => ?_) F)
        refine w_iload_n rfl rfl ?_
        refine w_if_ne (tgt := 58) rfl (by decide) b5 (fun q8 => ?_) (fun q8 => ?_)
        · replace F := F.1 q8
          refine w_aload_n rfl rfl ?_
          refine w_getR rfl f_C_61 rfl rfl rfl rfl rfl ?_
          refine w_getR rfl f_C_274 rfl rfl rfl rfl rfl ?_
          refine c_SI [vR 94] [] rfl b_Places_middleOf k_C_285 rfl rfl rfl (mwpI_mono (fun z9 h9 F => ?_) F)
          exact w_iret rfl rfl ⟨rfl, rfl, _, rfl, F⟩
        · replace F := F.2 q8
          refine w_aload_n rfl rfl ?_
          refine w_getR rfl f_C_61 rfl rfl rfl rfl rfl ?_
          refine w_getR rfl f_C_274 rfl rfl rfl rfl rfl ?_
          refine c_SI [vR 94] [] rfl b_Places_sizeOf k_C_281 rfl rfl rfl (mwpI_mono (fun z10 h10 F => ?_) F)
          refine w_goto (tgt := 68) rfl (by decide) ?_
          exact w_iret rfl rfl ⟨rfl, rfl, _, rfl, F⟩
      · replace F := F.2 q6
        refine w_iconst rfl ?_
        exact w_iret rfl rfl ⟨rfl, rfl, _, rfl, F⟩
theorem s_M_patch_0 {d : Nat}  (x1 x2 x3 : Int) (h : St) (K : Int → St → Prop) (F : (inR x1) ∧ ((¬ (0 ≤ x1 ∧ x1 ≤ 11) → (K ((-1)) h)) ∧ (0 ≤ x1 ∧ x1 ≤ 11 → (inR x2) ∧ ((¬ (0 ≤ x2 ∧ x2 ≤ 19) → (K ((-1)) h)) ∧ (0 ≤ x2 ∧ x2 ≤ 19 → (inR x3) ∧ ((0 ≤ x3 ∧ x3 ≤ 1 → (wI (d + 2) m_M_patch 38 [(0, vR 109), (1, vI x1), (2, vI x2), (3, vI x3), (4, vI 0), (5, vI 0), (6, vI 0), (7, vI 0)] [] h K)) ∧ (¬ (0 ≤ x3 ∧ x3 ≤ 1) → (K ((-1)) h)))))))) : wI (d + 2) m_M_patch 0 [(0, vR 109), (1, vI x1), (2, vI x2), (3, vI x3)] [] h K := by
  refine w_iload_n rfl rfl ?_
  obtain ⟨b1, F⟩ := F
  refine c_SI [vI x1] [] rfl b_M_isName k_M_142 rfl rfl rfl (c_M_isName b1 ?_)
  refine w_ifeq_b (tgt := 24) rfl (by decide) (fun q2 => ?_) (fun q2 => ?_)
  · replace F := F.1 q2
    refine w_iconst rfl ?_
    exact w_iret rfl rfl ⟨rfl, rfl, _, rfl, F⟩
  · replace F := F.2 q2
    refine w_iload_n rfl rfl ?_
    obtain ⟨b3, F⟩ := F
    refine c_SI [vI x2] [] rfl b_M_isDay k_M_138 rfl rfl rfl (c_M_isDay b3 ?_)
    refine w_ifeq_b (tgt := 24) rfl (by decide) (fun q4 => ?_) (fun q4 => ?_)
    · replace F := F.1 q4
      refine w_iconst rfl ?_
      exact w_iret rfl rfl ⟨rfl, rfl, _, rfl, F⟩
    · replace F := F.2 q4
      refine w_iload_n rfl rfl ?_
      obtain ⟨b5, F⟩ := F
      refine w_i2l b5 rfl ?_
      refine w_lconst rfl ?_
      refine w_lconst rfl ?_
      refine c_SI [vJ x3, vJ 0, vJ 1] [] rfl b_M_in k_M_130 rfl rfl rfl (c_M_in (inL_of b5) (by decide) (by decide) ?_)
      refine w_ifne_b (tgt := 26) rfl (by decide) (fun q6 => ?_) (fun q6 => ?_)
      · replace F := F.1 q6
        refine w_iconst rfl ?_
        refine w_istore rfl rfl rfl rfl (w_ls (ls2 := [(0, vR 109), (1, vI x1), (2, vI x2), (3, vI x3), (4, vI 0)]) rfl ?_)
        refine w_iconst rfl ?_
        refine w_istore rfl rfl rfl rfl (w_ls (ls2 := [(0, vR 109), (1, vI x1), (2, vI x2), (3, vI x3), (4, vI 0), (5, vI 0)]) rfl ?_)
        refine w_iconst rfl ?_
        refine w_istore rfl rfl rfl rfl (w_ls (ls2 := [(0, vR 109), (1, vI x1), (2, vI x2), (3, vI x3), (4, vI 0), (5, vI 0), (6, vI 0)]) rfl ?_)
        refine w_iconst rfl ?_
        refine w_istore rfl rfl rfl rfl (w_ls (ls2 := [(0, vR 109), (1, vI x1), (2, vI x2), (3, vI x3), (4, vI 0), (5, vI 0), (6, vI 0), (7, vI 0)]) rfl ?_)
        exact F
      · replace F := F.2 q6
        refine w_iconst rfl ?_
        exact w_iret rfl rfl ⟨rfl, rfl, _, rfl, F⟩
theorem s_M_patch_38 {d : Nat}  (x1 x2 x3 x4 x5 x6 x7 : Int) (h : St) (K : Int → St → Prop) (F : (inR x7) ∧ ((256 ≤ x7 → (((inR x3) ∧ (x3 ≠ 0 → ((inR x4) ∧ (x4 ≠ 0 → ((inR x5) ∧ (0 < x4) ∧ (inR x6) ∧ (0 < x4))))))) ∧ (K (cif (x3 ≠ 0) (cif (x4 ≠ 0) ((16 * (x5.tdiv x4)) + (x6.tdiv x4)) ((-4))) x4) h)) ∧ (¬ (256 ≤ x7) → (mwpI (d + 2) m_M_fits [vR 109, vI x1, vI x2, vI (x7.tdiv 16), vI (x7.tmod 16)] h (fun z12 h12 => (inR z12) ∧ ((z12 = 0 → (wI (d + 2) m_M_patch 38 [(0, vR 109), (1, vI x1), (2, vI x2), (3, vI x3), (4, vI x4), (5, vI x5), (6, vI x6), (7, vI (x7 + 1))] [] h12 K)) ∧ (¬ (z12 = 0) → (wI (d + 2) m_M_patch 38 [(0, vR 109), (1, vI x1), (2, vI x2), (3, vI x3), (4, vI (x4 + 1)), (5, vI (x5 + (x7.tdiv 16))), (6, vI (x6 + (x7.tmod 16))), (7, vI (x7 + 1))] [] h12 K)))))))) : wI (d + 2) m_M_patch 38 [(0, vR 109), (1, vI x1), (2, vI x2), (3, vI x3), (4, vI x4), (5, vI x5), (6, vI x6), (7, vI x7)] [] h K := by
  refine w_iload rfl rfl ?_
  refine w_sipush (by decide) (by decide) rfl ?_
  obtain ⟨b1, F⟩ := F
  refine w_icmp_ge (tgt := 94) rfl (by decide) ⟨b1, (r_lit rfl)⟩ (fun q2 => ?_) (fun q2 => ?_)
  · replace F := F.1 q2
    refine w_iload_n rfl rfl ?_
    obtain ⟨G, F⟩ := F
    have J : ∀ (t11 : Int), t11 = cif (x3 ≠ 0) (cif (x4 ≠ 0) ((16 * (x5.tdiv x4)) + (x6.tdiv x4)) ((-4))) x4 → wI (d + 2) m_M_patch 127 [(0, vR 109), (1, vI x1), (2, vI x2), (3, vI x3), (4, vI x4), (5, vI x5), (6, vI x6), (7, vI x7)] [vI t11] h K := by
      intro t11 et11
      subst et11
      exact w_iret rfl rfl ⟨rfl, rfl, _, rfl, F⟩
    obtain ⟨b3, ga_⟩ := G
    refine w_if_ne (tgt := 103) rfl (by decide) b3 (fun q4 => ?_) (fun q4 => ?_)
    · have G := ga_ q4
      obtain ⟨b5, ga_⟩ := G
      refine w_iload rfl rfl ?_
      refine w_if_ne (tgt := 113) rfl (by decide) b5 (fun q6 => ?_) (fun q6 => ?_)
      · have G := ga_ q6
        obtain ⟨b7, b8, b9, b10⟩ := G
        refine w_bipush (by decide) (by decide) rfl ?_
        refine w_iload rfl rfl ?_
        refine w_iload rfl rfl ?_
        refine w_idiv ⟨b7, b5, b8⟩ rfl ?_
        refine w_imul rfl ?_
        refine w_iload rfl rfl ?_
        refine w_iload rfl rfl ?_
        refine w_idiv ⟨b9, b5, b10⟩ rfl ?_
        refine w_iadd rfl ?_
        exact J _ ((cif_t q4).trans (cif_t q6)).symm
      · refine w_bipush (by decide) (by decide) rfl ?_
        refine w_goto (tgt := 127) rfl (by decide) ?_
        exact J _ ((cif_t q4).trans (cif_f q6)).symm
    · refine w_iload rfl rfl ?_
      refine w_goto (tgt := 127) rfl (by decide) ?_
      exact J _ (cif_f q4).symm
  · replace F := F.2 q2
    refine w_aload_n rfl rfl ?_
    refine w_iload_n rfl rfl ?_
    refine w_iload_n rfl rfl ?_
    refine w_iload rfl rfl ?_
    refine w_bipush (by decide) (by decide) rfl ?_
    refine w_idiv ⟨b1, (r_lit rfl), (by decide)⟩ rfl ?_
    refine w_iload rfl rfl ?_
    refine w_bipush (by decide) (by decide) rfl ?_
    refine w_irem ⟨b1, (r_lit rfl), (by decide)⟩ rfl ?_
    refine c_VI [vI x1, vI x2, vI (x7.tdiv 16), vI (x7.tmod 16)] [] rfl b_M_fits k_M_294 rfl rfl rfl rfl rfl rfl (mwpI_mono (fun z12 h12 F => ?_) F)
    obtain ⟨b13, F⟩ := F
    refine w_if_eq (tgt := 88) rfl (by decide) b13 (fun q14 => ?_) (fun q14 => ?_)
    · replace F := F.1 q14
      refine w_iinc rfl rfl rfl rfl rfl (w_ls (ls2 := [(0, vR 109), (1, vI x1), (2, vI x2), (3, vI x3), (4, vI x4), (5, vI x5), (6, vI x6), (7, vI (x7 + 1))]) rfl ?_)
      refine w_goto (tgt := 38) rfl (by decide) ?_
      exact F
    · replace F := F.2 q14
      refine w_iinc rfl rfl rfl rfl rfl (w_ls (ls2 := [(0, vR 109), (1, vI x1), (2, vI x2), (3, vI x3), (4, vI (x4 + 1)), (5, vI x5), (6, vI x6), (7, vI x7)]) rfl ?_)
      refine w_iload rfl rfl ?_
      refine w_iload rfl rfl ?_
      refine w_bipush (by decide) (by decide) rfl ?_
      refine w_idiv ⟨b1, (r_lit rfl), (by decide)⟩ rfl ?_
      refine w_iadd rfl ?_
      refine w_istore rfl rfl rfl rfl (w_ls (ls2 := [(0, vR 109), (1, vI x1), (2, vI x2), (3, vI x3), (4, vI (x4 + 1)), (5, vI (x5 + (x7.tdiv 16))), (6, vI x6), (7, vI x7)]) rfl ?_)
      refine w_iload rfl rfl ?_
      refine w_iload rfl rfl ?_
      refine w_bipush (by decide) (by decide) rfl ?_
      refine w_irem ⟨b1, (r_lit rfl), (by decide)⟩ rfl ?_
      refine w_iadd rfl ?_
      refine w_istore rfl rfl rfl rfl (w_ls (ls2 := [(0, vR 109), (1, vI x1), (2, vI x2), (3, vI x3), (4, vI (x4 + 1)), (5, vI (x5 + (x7.tdiv 16))), (6, vI (x6 + (x7.tmod 16))), (7, vI x7)]) rfl ?_)
      refine w_iinc rfl rfl rfl rfl rfl (w_ls (ls2 := [(0, vR 109), (1, vI x1), (2, vI x2), (3, vI x3), (4, vI (x4 + 1)), (5, vI (x5 + (x7.tdiv 16))), (6, vI (x6 + (x7.tmod 16))), (7, vI (x7 + 1))]) rfl ?_)
      refine w_goto (tgt := 38) rfl (by decide) ?_
      exact F
noncomputable def rwA (P : Nat → Nat → Prop) (x : Nat) : Nat → Nat
  | 0 => 0
  | y + 1 => nif (P x y) (rwA P x y ||| 2 ^ y) (rwA P x y)
theorem rwA_lt {P : Nat → Nat → Prop} {x : Nat} : ∀ m : Nat, rwA P x m < 2 ^ m
  | 0 => by simp [rwA]
  | y + 1 => by
    have ih := rwA_lt (P := P) (x := x) y
    have h1 : rwA P x y < 2 ^ (y + 1) := by rw [Nat.pow_succ]; omega
    unfold rwA
    by_cases z : P x y
    · rw [nif_t z]
      exact Nat.or_lt_two_pow h1 (Nat.pow_lt_pow_right (by omega) (by omega))
    · rw [nif_f z]; exact h1
theorem rwA_tb {P : Nat → Nat → Prop} {x y : Nat} : ∀ m : Nat, ((rwA P x m).testBit y = true ↔ y < m ∧ P x y)
  | 0 => by simp [rwA]
  | m + 1 => by
    have ih := rwA_tb (P := P) (x := x) (y := y) m
    rw [show rwA P x (m + 1) = nif (P x m) (rwA P x m ||| 2 ^ m) (rwA P x m) from rfl]
    by_cases z : P x m
    · rw [nif_t z, Nat.testBit_or, Bool.or_eq_true, ih, Nat.testBit_two_pow, decide_eq_true_iff]
      constructor
      · rintro (a | a)
        · exact ⟨by omega, a.2⟩
        · subst a; exact ⟨by omega, z⟩
      · rintro ⟨a, b⟩
        by_cases e : y = m
        · exact Or.inr e.symm
        · exact Or.inl ⟨by omega, b⟩
    · rw [nif_f z, ih]
      constructor
      · rintro ⟨a, b⟩; exact ⟨by omega, b⟩
      · rintro ⟨a, b⟩
        by_cases e : y = m
        · subst e; exact absurd b z
        · exact ⟨by omega, b⟩
theorem p2_16 : ∀ w : Nat, w < 16 → 2 ^ w < 65536 := by decide
theorem p2_le16 {m : Nat} (hm : m ≤ 16) : 2 ^ m ≤ 65536 := Nat.pow_le_pow_right (n := 2) (by omega) hm
section P37
variable {D : Nat} {K : St → Prop} {n : Nat} {bg : Nat → Nat → Int} {hx hy : Nat → Int} {nm dy : Int} {c nc : Nat}
def fP (hx hy : Nat → Int) (n : Nat) (bg : Nat → Nat → Int) (nm dy : Int) (x y : Nat) : Prop := fitsA hx hy n bg nm dy x y
theorem C_fit_18 (sc : shp c = .inl (.int, nc, 0)) (lc : Nat.blt c nC = true) (hc : c = 94 ∨ c = 95) (hnc : nc = 16) (vb : VBr n bg) (hh : hrOk hx hy) (r1 : inR nm) (r2 : inR dy) {x : Nat} (hx16 : x < 16) : ∀ (r y : Nat) (h : St), y + r = 16 → CBr h n bg → h 86 = hx → h 87 = hy → h c x = ((rwA (fP hx hy n bg nm dy) x y : Nat) : Int) → (∀ h2, ag (fun c2 k2 => ¬ (c2 = c ∧ k2 = x)) h h2 → h2 c x = ((rwA (fP hx hy n bg nm dy) x 16 : Nat) : Int) → wV (D + 3) m_Places_fit 3 [(0, vR 85), (1, vI nm), (2, vI dy), (3, vR c), (4, vI ((x : Int) + 1))] [] h2 K) → wV (D + 3) m_Places_fit 18 [(0, vR 85), (1, vI nm), (2, vI dy), (3, vR c), (4, vI (x : Int)), (5, vI (y : Int))] [] h K := by
  intro r
  induction r with
  | zero =>
    intro y h hy0 cb e1 e2 f k
    have e : y = 16 := by omega
    subst e
    exact s_Places_fit_18 sc lc _ _ _ _ h K ⟨⟨by omega, by omega⟩, fun _ => k h ag_rfl f, fun z => absurd (by omega) z⟩
  | succ r ih =>
    intro y h hy0 cb e1 e2 f k
    refine s_Places_fit_18 sc lc _ _ _ _ h K ⟨⟨by omega, by omega⟩, fun z => by omega, fun _ => ⟨by omega, c_Places_fitsAll cb vb (by rw [e1, e2]; exact hh) r1 r2 (by omega) (by omega) ⟨b2i_R, ?_⟩⟩⟩
    have b1 := rwA_lt (P := fP hx hy n bg nm dy) (x := x) y
    have b2 := p2_16 y (by omega)
    have eo : or3 (h c x) (cif (b2i (fitsA hx hy n bg nm dy (x : Int) (y : Int)) = 0) 0 (shl3 1 (y : Int))) = ((rwA (fP hx hy n bg nm dy) x (y + 1) : Nat) : Int) := by
      rw [f]
      show or3 _ (cif (b2i (fP hx hy n bg nm dy x y) = 0) 0 (shl3 1 (y : Int))) = _
      by_cases q : fP hx hy n bg nm dy x y
      · rw [show rwA (fP hx hy n bg nm dy) x (y + 1) = (rwA (fP hx hy n bg nm dy) x y ||| 2 ^ y) from nif_t q, cif_f (fun z => b2i_eq0.mp z q), shl_1 (by omega), or3_nat (by omega) (by omega)]
      · rw [show rwA (fP hx hy n bg nm dy) x (y + 1) = rwA (fP hx hy n bg nm dy) x y from nif_f q, cif_t (b2i_f q)]
        have := or3_nat (a := rwA (fP hx hy n bg nm dy) x y) (b := 0) (by omega) (by omega)
        rw [Nat.or_zero] at this
        exact this
    rw [e1, e2, Int.toNat_natCast, eo]
    refine ih (y + 1) _ (by omega) (CBr_c (ag_up (by omega) ag_rfl) cb) (by rw [up_row _ _ _ _ _ (by omega)]; exact e1) (by rw [up_row _ _ _ _ _ (by omega)]; exact e2) (by rw [up_same]) (fun h2 g1 g2 => k h2 (ag_trans (ag_up (by omega) ag_rfl) g1) g2)
theorem C_fit_3 (sc : shp c = .inl (.int, nc, 0)) (lc : Nat.blt c nC = true) (hc : c = 94 ∨ c = 95) (hnc : nc = 16) (vb : VBr n bg) (hh : hrOk hx hy) (r1 : inR nm) (r2 : inR dy) : ∀ (r x : Nat) (h : St), x + r = 16 → CBr h n bg → h 86 = hx → h 87 = hy → (∀ u : Nat, u < x → h c u = ((rwA (fP hx hy n bg nm dy) u 16 : Nat) : Int)) → (∀ h2, ag (fun c2 _ => c2 ≠ c) h h2 → (∀ u : Nat, u < 16 → h2 c u = ((rwA (fP hx hy n bg nm dy) u 16 : Nat) : Int)) → K h2) → wV (D + 3) m_Places_fit 3 [(0, vR 85), (1, vI nm), (2, vI dy), (3, vR c), (4, vI (x : Int))] [] h K := by
  intro r
  induction r with
  | zero =>
    intro x h hx0 cb e1 e2 f k
    have e : x = 16 := by omega
    subst e
    exact s_Places_fit_3 sc lc _ _ _ h K ⟨⟨by omega, by omega⟩, fun _ => k h ag_rfl f, fun z => absurd (by omega) z⟩
  | succ r ih =>
    intro x h hx0 cb e1 e2 f k
    refine s_Places_fit_3 sc lc _ _ _ h K ⟨⟨by omega, by omega⟩, fun z => by omega, fun _ => ⟨by omega, ?_⟩⟩
    rw [Int.toNat_natCast]
    refine C_fit_18 sc lc hc hnc vb hh r1 r2 (by omega) 16 0 _ (by omega) (CBr_c (ag_up (by omega) ag_rfl) cb) (by rw [up_row _ _ _ _ _ (by omega)]; exact e1) (by rw [up_row _ _ _ _ _ (by omega)]; exact e2) (by rw [up_same]; rfl) (fun h2 g1 g2 => ?_)
    have g3 : ∀ c2 k2, ¬ (c2 = c ∧ k2 = x) → h2 c2 k2 = h c2 k2 := fun c2 k2 q => by rw [g1 c2 k2 q, up_ne q]
    refine ih (x + 1) h2 (by omega) (CBr_c (fun c2 k2 p => g3 c2 k2 (by omega)) cb) (funext (fun j => by rw [g3 _ _ (by omega), e1])) (funext (fun j => by rw [g3 _ _ (by omega), e2])) (fun u hu => ?_) (fun h3 g4 g5 => k h3 (fun c2 k2 p => by rw [g4 c2 k2 p, g3 c2 k2 (fun z => p z.1)]) g5)
    by_cases q : u = x
    · subst q; exact g2
    · rw [g3 _ _ (by omega)]; exact f u (by omega)
theorem c_Places_fit {h : St} (sc : shp c = .inl (.int, nc, 0)) (lc : Nat.blt c nC = true) (hc : c = 94 ∨ c = 95) (hnc : nc = 16) (cb : CBr h n bg) (vb : VBr n bg) (e1 : h 86 = hx) (e2 : h 87 = hy) (hh : hrOk hx hy) (r1 : inR nm) (r2 : inR dy) (k : ∀ h2, ag (fun c2 _ => c2 ≠ c) h h2 → (∀ u : Nat, u < 16 → h2 c u = ((rwA (fP hx hy n bg nm dy) u 16 : Nat) : Int)) → K h2) : mwpV (D + 4) m_Places_fit [vR 85, vI nm, vI dy, vR c] h K :=
  mV_intro b_Places_fit rfl (s_Places_fit_0 (d := D) sc lc _ _ h K (C_fit_3 sc lc hc hnc vb hh r1 r2 16 0 h (by omega) cb e1 e2 (fun u hu => absurd hu (Nat.not_lt_zero u)) k))
end P37
theorem sm_mul {a : Int} {f : Nat → Int} : ∀ n : Nat, a * sm f n = sm (fun i => a * f i) n
  | 0 => by simp [sm]
  | n + 1 => by rw [sm_succ, sm_succ, Int.mul_add, sm_mul n]
theorem sm_16 {g : Nat → Nat → Int} : ∀ n : Nat, sm (fun c => g (c / 16) (c % 16)) (16 * n) = sm (fun x => sm (fun y => g x y) 16) n := by
  have inn : ∀ n m : Nat, m ≤ 16 → sm (fun c => g (c / 16) (c % 16)) (16 * n + m) = sm (fun c => g (c / 16) (c % 16)) (16 * n) + sm (fun y => g n y) m := by
    intro n m
    induction m with
    | zero => intro _; simp [sm]
    | succ m ih =>
      intro hm
      rw [show 16 * n + (m + 1) = (16 * n + m) + 1 by omega, sm_succ, ih (by omega), sm_succ, show (16 * n + m) / 16 = n by omega, show (16 * n + m) % 16 = m by omega]
      omega
  intro n
  induction n with
  | zero => rfl
  | succ n ih =>
    rw [show 16 * (n + 1) = 16 * n + 16 by omega, inn n 16 (by omega), ih]
    rfl
noncomputable def szA (P : Nat → Nat → Prop) : Int := sm (fun x => sm (fun y => b2i (P x y)) 16) 16
noncomputable def sxA (P : Nat → Nat → Prop) : Int := sm (fun x => sm (fun y => (x : Int) * b2i (P x y)) 16) 16
noncomputable def syA (P : Nat → Nat → Prop) : Int := sm (fun x => sm (fun y => (y : Int) * b2i (P x y)) 16) 16
theorem pb_rw {P : Nat → Nat → Prop} {x : Nat} : ((pb 32 (rwA P x 16) : Nat) : Int) = sm (fun y => b2i (P x y)) 16 := by
  rw [pb_more (m := 16) 16 _ (rwA_lt 16), pb_sm]
  refine sm_congr 16 (fun y hy => b2i_congr ?_)
  rw [rwA_tb]
  exact ⟨fun q => q.2, fun q => ⟨hy, q⟩⟩
section Q37
variable {D : Nat} {K : Int → St → Prop} {P : Nat → Nat → Prop} {c nc : Nat} {h : St}
theorem c_Places_sizeOf (sc : shp c = .inl (.int, nc, 0)) (lc : Nat.blt c nC = true) (hnc : nc = 16) (f : ∀ u : Nat, u < 16 → h c u = ((rwA P u 16 : Nat) : Int)) (k : K (szA P) h) : mwpI (D + 2) m_Places_sizeOf [vR c] h K := by
  have lp : ∀ (r x : Nat), x + r = 16 → wI (D + 1) m_Places_sizeOf 4 [(0, vR c), (1, vI (sm (fun x => sm (fun y => b2i (P x y)) 16) x)), (2, vI (x : Int))] [] h K := by
    intro r
    induction r with
    | zero =>
      intro x hx
      have e : x = 16 := by omega
      subst e
      exact s_Places_sizeOf_4 sc lc _ _ h K ⟨⟨by omega, by omega⟩, fun _ => k, fun z => absurd (by omega) z⟩
    | succ r ih =>
      intro x hx
      have b := rwA_lt (P := P) (x := x) 16
      refine s_Places_sizeOf_4 sc lc _ _ h K ⟨⟨by omega, by omega⟩, fun z => by omega, fun _ => ⟨by omega, ?_⟩⟩
      rw [Int.toNat_natCast, f x (by omega)]
      refine c_JI_bitCount (by omega) ?_
      rw [pb_rw]
      exact ih (x + 1) (by omega)
  exact mI_intro b_Places_sizeOf rfl (s_Places_sizeOf_0 (d := D) sc lc h K (lp 16 0 (by omega)))
theorem szA_R : (0 ≤ szA P ∧ szA P ≤ 256) ∧ (0 ≤ sxA P ∧ sxA P ≤ 4096) ∧ (0 ≤ syA P ∧ syA P ≤ 4096) := by
  have a1 := sm_bnd (f := fun x => sm (fun y => b2i (P x y)) 16) (u := 16) (by omega) 16 (fun i _ => by
    have := sm_bnd (f := fun y => b2i (P i y)) (u := 1) (by omega) 16 (fun j _ => b2i_B)
    omega)
  have a2 := sm_bnd (f := fun (x : Nat) => sm (fun y => (x : Int) * b2i (P x y)) 16) (u := 256) (by omega) 16 (fun i hi => by
    have := sm_bnd (f := fun y => (i : Int) * b2i (P i y)) (u := 16) (by omega) 16 (fun j _ => by
      rcases b2i_01 (p := P i j) with e | e <;> rw [e] <;> omega)
    omega)
  have a3 := sm_bnd (f := fun (x : Nat) => sm (fun (y : Nat) => (y : Int) * b2i (P x y)) 16) (u := 256) (by omega) 16 (fun i hi => by
    have := sm_bnd (f := fun (y : Nat) => (y : Int) * b2i (P i y)) (u := 16) (by omega) 16 (fun j hj => by
      rcases b2i_01 (p := P i j) with e | e <;> rw [e] <;> omega)
    omega)
  unfold szA sxA syA
  omega
noncomputable def midA (P : Nat → Nat → Prop) : Int := cif (szA P ≠ 0) (16 * (sxA P).tdiv (szA P) + (syA P).tdiv (szA P)) (-4)
theorem midA_R : inR (midA P) := by
  obtain ⟨a1, a2, a3⟩ := szA_R (P := P)
  unfold midA
  by_cases q : szA P ≠ 0
  · rw [cif_t q, Int.tdiv_eq_ediv_of_nonneg a2.1, Int.tdiv_eq_ediv_of_nonneg a3.1]
    have d1 := Int.ediv_le_self (szA P) a2.1
    have d2 := Int.ediv_le_self (szA P) a3.1
    have d3 := Int.ediv_nonneg a2.1 a1.1
    have d4 := Int.ediv_nonneg a3.1 a1.1
    exact ⟨by omega, by omega⟩
  · rw [cif_f q]; decide
theorem c_Places_middleOf (sc : shp c = .inl (.int, nc, 0)) (lc : Nat.blt c nC = true) (hnc : nc = 16) (f : ∀ u : Nat, u < 16 → h c u = ((rwA P u 16 : Nat) : Int)) (k : K (midA P) h) : mwpI (D + 3) m_Places_middleOf [vR c] h K := by
  obtain ⟨a1, a2, a3⟩ := szA_R (P := P)
  have inn : ∀ (x : Nat), x < 16 → ∀ (x2 x3 : Int), wI (D + 2) m_Places_middleOf 19 [(0, vR c), (1, vI (szA P)), (2, vI x2), (3, vI (x3 + sm (fun y => (y : Int) * b2i (P x y)) 16)), (4, vI ((x : Int) + 1))] [] h K → ∀ (r y : Nat), y + r = 16 → wI (D + 2) m_Places_middleOf 42 [(0, vR c), (1, vI (szA P)), (2, vI x2), (3, vI (x3 + sm (fun y => (y : Int) * b2i (P x y)) y)), (4, vI (x : Int)), (5, vI (y : Int))] [] h K := by
    intro x hx x2 x3 k2 r
    induction r with
    | zero =>
      intro y hy
      have e : y = 16 := by omega
      subst e
      exact s_Places_middleOf_42 sc lc _ _ _ _ _ h K ⟨⟨by omega, by omega⟩, fun _ => k2, fun z => absurd (by omega) z⟩
    | succ r ih =>
      intro y hy
      have b := rwA_lt (P := P) (x := x) 16
      refine s_Places_middleOf_42 sc lc _ _ _ _ _ h K ⟨⟨by omega, by omega⟩, fun z => by omega, fun _ => ⟨by omega, ?_⟩⟩
      rw [Int.toNat_natCast, f x hx, has_nat (by omega) (by omega), b2i_congr (q := P x y) (by rw [rwA_tb]; exact ⟨fun q => q.2, fun q => ⟨by omega, q⟩⟩)]
      have ih2 := ih (y + 1) (by omega)
      rw [sm_succ, ← Int.add_assoc] at ih2
      exact ih2
  have lp : szA P ≠ 0 → ∀ (r x : Nat), x + r = 16 → wI (D + 2) m_Places_middleOf 19 [(0, vR c), (1, vI (szA P)), (2, vI (sm (fun (x : Nat) => sm (fun y => (x : Int) * b2i (P x y)) 16) x)), (3, vI (sm (fun x => sm (fun (y : Nat) => (y : Int) * b2i (P x y)) 16) x)), (4, vI (x : Int))] [] h K := by
    intro q r
    induction r with
    | zero =>
      intro x hx
      have e : x = 16 := by omega
      subst e
      refine s_Places_middleOf_19 sc lc _ _ _ _ h K ⟨⟨by omega, by omega⟩, fun _ => ⟨?_, ⟨by omega, by omega⟩, by omega, ?_, by omega, ?_⟩, fun z => absurd (by omega) z⟩
      · show inR (sxA P)
        exact ⟨by omega, by omega⟩
      · show inR (syA P)
        exact ⟨by omega, by omega⟩
      · unfold midA at k
        rw [cif_t q] at k
        exact k
    | succ r ih =>
      intro x hx
      have b := rwA_lt (P := P) (x := x) 16
      refine s_Places_middleOf_19 sc lc _ _ _ _ h K ⟨⟨by omega, by omega⟩, fun z => by omega, fun _ => ⟨by omega, ?_⟩⟩
      rw [Int.toNat_natCast, f x (by omega)]
      refine c_JI_bitCount (by omega) ?_
      rw [pb_rw, sm_mul]
      have i2 := inn x (by omega) _ _ (ih (x + 1) (by omega)) 16 0 (by omega)
      rw [show sm (fun y => ((y : Nat) : Int) * b2i (P x y)) 0 = 0 from rfl, Int.add_zero] at i2
      exact i2
  refine mI_intro b_Places_middleOf rfl (s_Places_middleOf_0 (d := D) sc lc h K (c_Places_sizeOf sc lc hnc f ⟨⟨by omega, by omega⟩, fun q => lp q 16 0 (by omega), fun q => ?_⟩))
  unfold midA at k
  rw [cif_f q] at k
  exact k
end Q37
section R37
variable {D : Nat} {K : Int → St → Prop} {n : Nat} {bg : Nat → Nat → Int} {hx hy : Nat → Int} {nm dy : Int} {h : St}
theorem M_patch_l (mb : MBr h n bg) (vb : VBr n bg) (hh : hrOk hx hy) (ex : ∀ i, i < 4 → h 123 i = hx i ∧ h 124 i = hy i) (r1 : inR nm) (r2 : inR dy) {w : Int} (rw_ : inR w) (k : K (cif (w ≠ 0) (midA (fP hx hy n bg nm dy)) (szA (fP hx hy n bg nm dy))) h) : ∀ (r c : Nat), c + r = 256 → wI (D + 2) m_M_patch 38 [(0, vR 109), (1, vI nm), (2, vI dy), (3, vI w), (4, vI (sm (fun c => b2i (fP hx hy n bg nm dy (c / 16) (c % 16))) c)), (5, vI (sm (fun c => ((c / 16 : Nat) : Int) * b2i (fP hx hy n bg nm dy (c / 16) (c % 16))) c)), (6, vI (sm (fun c => ((c % 16 : Nat) : Int) * b2i (fP hx hy n bg nm dy (c / 16) (c % 16))) c)), (7, vI (c : Int))] [] h K := by
  obtain ⟨a1, a2, a3⟩ := szA_R (P := fP hx hy n bg nm dy)
  intro r
  induction r with
  | zero =>
    intro c hc
    have e : c = 16 * 16 := by omega
    subst e
    have e1 : sm (fun c => b2i (fP hx hy n bg nm dy (c / 16) (c % 16))) (16 * 16) = szA (fP hx hy n bg nm dy) := sm_16 (g := fun x y => b2i (fP hx hy n bg nm dy x y)) 16
    have e2 : sm (fun c => ((c / 16 : Nat) : Int) * b2i (fP hx hy n bg nm dy (c / 16) (c % 16))) (16 * 16) = sxA (fP hx hy n bg nm dy) := sm_16 (g := fun x y => (x : Int) * b2i (fP hx hy n bg nm dy x y)) 16
    have e3 : sm (fun c => ((c % 16 : Nat) : Int) * b2i (fP hx hy n bg nm dy (c / 16) (c % 16))) (16 * 16) = syA (fP hx hy n bg nm dy) := sm_16 (g := fun x y => (y : Int) * b2i (fP hx hy n bg nm dy x y)) 16
    rw [e1, e2, e3]
    exact s_M_patch_38 _ _ _ _ _ _ _ h K ⟨⟨by omega, by omega⟩, fun _ => ⟨⟨rw_, fun _ => ⟨⟨by omega, by omega⟩, fun _ => ⟨⟨by omega, by omega⟩, by omega, ⟨by omega, by omega⟩, by omega⟩⟩⟩, k⟩, fun z => absurd (by omega) z⟩
  | succ r ih =>
    intro c hc
    have ih2 := ih (c + 1) (by omega)
    rw [sm_succ, sm_succ, sm_succ] at ih2
    refine s_M_patch_38 _ _ _ _ _ _ _ h K ⟨⟨by omega, by omega⟩, fun z => by omega, fun _ => ?_⟩
    have d1 : (c : Int).tdiv 16 = ((c / 16 : Nat) : Int) := by rw [Int.tdiv_eq_ediv_of_nonneg (by omega)]; omega
    have d2 : (c : Int).tmod 16 = ((c % 16 : Nat) : Int) := by rw [Int.tmod_eq_emod_of_nonneg (by omega)]; omega
    rw [d1, d2]
    refine c_M_fits mb vb hh ex r1 r2 (by omega) (by omega) ⟨b2i_R, fun z => ?_, fun z => ?_⟩
    · have z0 : b2i (fP hx hy n bg nm dy (c / 16) (c % 16)) = 0 := z
      rw [z0, Int.mul_zero, Int.mul_zero, Int.add_zero, Int.add_zero, Int.add_zero] at ih2
      exact ih2
    · have z0 : b2i (fP hx hy n bg nm dy (c / 16) (c % 16)) = 1 := b2i_t (b2i_ne0.mp z)
      rw [z0, Int.mul_one, Int.mul_one] at ih2
      exact ih2
end R37
theorem P_patch {KK : Int → Int → St → Prop} {h : St} (hr : Rel h) {a1 a2 a3 : Int} (r1 : inR a1) (r2 : inR a2) (r3 : inR a3) (k : ∀ z h2, inR z → Rel h2 → KK z z h2) : mwpI 40 m_C_patch [vR 0, vI a1, vI a2, vI a3] h (fun z h1 => mwpI 40 m_M_patch [vR 109, vI a1, vI a2, vI a3] h1 (fun z2 h2 => KK z z2 h2)) := by
  obtain ⟨c1, c2, c3, c4, c5, ⟨n, bg, cb, mb, vb⟩, c9⟩ := id hr
  obtain ⟨hh, ex⟩ := RHr_ok c5
  have kb := k (-1) h (by decide) hr
  have bad : ¬ ((0 ≤ a1 ∧ a1 ≤ 11) ∧ (0 ≤ a2 ∧ a2 ≤ 19) ∧ (0 ≤ a3 ∧ a3 ≤ 1)) → mwpI 40 m_M_patch [vR 109, vI a1, vI a2, vI a3] h (fun z2 h2 => KK (-1) z2 h2) := fun q =>
    mI_intro b_M_patch rfl (s_M_patch_0 (d := 37) a1 a2 a3 _ _ ⟨r1, fun _ => kb, fun q1 => ⟨r2, fun _ => kb, fun q2 => ⟨r3, fun q3 => absurd ⟨q1, q2, q3⟩ q, fun _ => kb⟩⟩⟩)
  refine mI_intro b_C_patch rfl (s_C_patch_0 (d := 35) a1 a2 a3 h _ ⟨r1, fun q => bad (fun z => q z.1), fun q1 => ⟨r2, fun q => bad (fun z => q z.2.1), fun q2 => ⟨r3, fun q3 => ?_, fun q => bad (fun z => q z.2.2)⟩⟩⟩)
  refine c_Places_fit (nc := 16) rfl (by decide) (Or.inl rfl) rfl cb vb rfl rfl hh r1 r2 (fun h1 g1 g2 => ?_)
  have hr1 : Rel h1 := Rel_c (ag_sub (fun c k p => by omega) g1) hr
  have mm : ∀ K : Int → St → Prop, K (cif (a3 ≠ 0) (midA (fP (h 86) (h 87) n bg a1 a2)) (szA (fP (h 86) (h 87) n bg a1 a2))) h1 → mwpI 40 m_M_patch [vR 109, vI a1, vI a2, vI a3] h1 K := fun K kk =>
    mI_intro b_M_patch rfl (s_M_patch_0 (d := 37) a1 a2 a3 _ _ ⟨r1, fun q => absurd q1 q, fun _ => ⟨r2, fun q => absurd q2 q, fun _ => ⟨r3, fun _ => M_patch_l (MBr_c (ag_sub (fun c k p => by omega) g1) mb) vb hh (fun i hi => by rw [g1 123 i (by omega), g1 124 i (by omega)]; exact ex i hi) r1 r2 r3 kk 256 0 (by omega), fun q => absurd q3 q⟩⟩⟩)
  have sz := szA_R (P := fP (h 86) (h 87) n bg a1 a2)
  refine ⟨fun q => ?_, fun q => ?_⟩
  · refine c_Places_middleOf (nc := 16) rfl (by decide) rfl g2 (mm _ ?_)
    rw [cif_t q]
    exact k _ _ midA_R hr1
  · refine c_Places_sizeOf (nc := 16) rfl (by decide) rfl g2 (mm _ ?_)
    rw [cif_f q]
    exact k _ _ ⟨by omega, by omega⟩ hr1
