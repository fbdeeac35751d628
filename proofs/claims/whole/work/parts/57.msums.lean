theorem s_M_sums_0 {d : Nat}  (x1 x2 : Int) (h : St) (K : Int → St → Prop) (F : (wI (d + 1) m_M_sums 5 [(0, vR 109), (1, vI x1), (2, vI x2), (3, vI (h 109 29))] [] h K)) : wI (d + 1) m_M_sums 0 [(0, vR 109), (1, vI x1), (2, vI x2)] [] h K := by
  refine w_aload_n rfl rfl ?_
  refine w_getI rfl f_M_216 rfl rfl rfl ?_
  refine w_istore_n rfl rfl rfl rfl (w_ls (ls2 := [(0, vR 109), (1, vI x1), (2, vI x2), (3, vI (h 109 29))]) rfl ?_)
  exact F
theorem s_M_sums_5 {d : Nat}  (x1 x2 x3 : Int) (h : St) (K : Int → St → Prop) (F : (inR x3) ∧ ((x3 < 0 → (K (h 135 0) h)) ∧ (¬ (x3 < 0) → (wI (d + 1) m_M_sums 12 [(0, vR 109), (1, vI x1), (2, vI x2), (3, vI x3), (4, vI 0)] [] h K)))) : wI (d + 1) m_M_sums 5 [(0, vR 109), (1, vI x1), (2, vI x2), (3, vI x3)] [] h K := by
  refine w_iload_n rfl rfl ?_
  obtain ⟨b1, F⟩ := F
  refine w_if_lt (tgt := 212) rfl (by decide) b1 (fun q2 => ?_) (fun q2 => ?_)
  · replace F := F.1 q2
    refine w_aload_n rfl rfl ?_
    refine w_getR rfl f_M_93 rfl rfl rfl rfl rfl ?_
    refine w_iconst rfl ?_
    refine w_iaload rfl rfl rfl ⟨by decide, by decide⟩ ?_
    exact w_iret rfl rfl ⟨rfl, rfl, _, rfl, F⟩
  · replace F := F.2 q2
    refine w_iconst rfl ?_
    refine w_istore rfl rfl rfl rfl (w_ls (ls2 := [(0, vR 109), (1, vI x1), (2, vI x2), (3, vI x3), (4, vI 0)]) rfl ?_)
    exact F
theorem s_M_sums_12 {d : Nat}  (x1 x2 x3 x4 : Int) (h : St) (K : Int → St → Prop) (F : (inR x4) ∧ (inR (shl3 1 (h 109 30))) ∧ (((shl3 1 (h 109 30)) ≤ x4 → (wI (d + 1) m_M_sums 5 [(0, vR 109), (1, vI x1), (2, vI x2), (3, vI (x3 + (-1)))] [] h K)) ∧ (¬ ((shl3 1 (h 109 30)) ≤ x4) → (((inR x3) ∧ (inR (h 109 29)) ∧ (x3 ≠ (h 109 29) → ((0 ≤ ((256 * x3) + 256) + x4 ∧ ((256 * x3) + 256) + x4 < 2304))))) ∧ (wI (d + 1) m_M_sums 57 [(0, vR 109), (1, vI x1), (2, vI x2), (3, vI x3), (4, vI x4), (5, vI (cif (x3 ≠ (h 109 29)) (h 135 ((((256 * x3) + 256) + x4).toNat)) 0)), (6, vI 0)] [] h K)))) : wI (d + 1) m_M_sums 12 [(0, vR 109), (1, vI x1), (2, vI x2), (3, vI x3), (4, vI x4)] [] h K := by
  refine w_iload rfl rfl ?_
  refine w_iconst rfl ?_
  refine w_aload_n rfl rfl ?_
  refine w_getI rfl f_M_219 rfl rfl rfl ?_
  refine w_ishl rfl ?_
  obtain ⟨b1, F⟩ := F
  obtain ⟨b2, F⟩ := F
  refine w_icmp_ge (tgt := 206) rfl (by decide) ⟨b1, b2⟩ (fun q3 => ?_) (fun q3 => ?_)
  · replace F := F.1 q3
    refine w_iinc rfl rfl rfl rfl rfl (w_ls (ls2 := [(0, vR 109), (1, vI x1), (2, vI x2), (3, vI (x3 + (-1))), (4, vI x4)]) rfl ?_)
    refine w_goto (tgt := 5) rfl (by decide) ?_
    exact w_kp [0, 1, 2, 3] F
  · replace F := F.2 q3
    refine w_iload_n rfl rfl ?_
    refine w_aload_n rfl rfl ?_
    refine w_getI rfl f_M_216 rfl rfl rfl ?_
    obtain ⟨G, F⟩ := F
    have J : ∀ (t8 : Int), t8 = cif (x3 ≠ (h 109 29)) (h 135 ((((256 * x3) + 256) + x4).toNat)) 0 → wI (d + 1) m_M_sums 52 [(0, vR 109), (1, vI x1), (2, vI x2), (3, vI x3), (4, vI x4)] [vI t8] h K := by
      intro t8 et8
      subst et8
      refine w_istore rfl rfl rfl rfl (w_ls (ls2 := [(0, vR 109), (1, vI x1), (2, vI x2), (3, vI x3), (4, vI x4), (5, vI (cif (x3 ≠ (h 109 29)) (h 135 ((((256 * x3) + 256) + x4).toNat)) 0))]) rfl ?_)
      refine w_iconst rfl ?_
      refine w_istore rfl rfl rfl rfl (w_ls (ls2 := [(0, vR 109), (1, vI x1), (2, vI x2), (3, vI x3), (4, vI x4), (5, vI (cif (x3 ≠ (h 109 29)) (h 135 ((((256 * x3) + 256) + x4).toNat)) 0)), (6, vI 0)]) rfl ?_)
      exact F
    obtain ⟨b4, b5, ga_⟩ := G
    refine w_icmp_ne (tgt := 35) rfl (by decide) ⟨b4, b5⟩ (fun q6 => ?_) (fun q6 => ?_)
    · have G := ga_ q6
      have b7 := G
      refine w_aload_n rfl rfl ?_
      refine w_getR rfl f_M_93 rfl rfl rfl rfl rfl ?_
      refine w_sipush (by decide) (by decide) rfl ?_
      refine w_iload_n rfl rfl ?_
      refine w_imul rfl ?_
      refine w_sipush (by decide) (by decide) rfl ?_
      refine w_iadd rfl ?_
      refine w_iload rfl rfl ?_
      refine w_iadd rfl ?_
      refine w_iaload rfl rfl rfl b7 ?_
      exact J _ (cif_t q6).symm
    · refine w_iconst rfl ?_
      refine w_goto (tgt := 52) rfl (by decide) ?_
      exact J _ (cif_f q6).symm
theorem s_M_sums_57 {d : Nat}  (x1 x2 x3 x4 x5 x6 : Int) (h : St) (K : Int → St → Prop) (F : (inR x6) ∧ (inR (h 109 30)) ∧ (((h 109 30) ≤ x6 → (0 ≤ (256 * x3) + x4 ∧ (256 * x3) + x4 < 2304) ∧ (wI (d + 1) m_M_sums 12 [(0, vR 109), (1, vI x1), (2, vI x2), (3, vI x3), (4, vI (x4 + 1))] [] (up h 135 (((256 * x3) + x4).toNat) x5) K)) ∧ (¬ ((h 109 30) ≤ x6) → (inR x3) ∧ (inR (h 109 29)) ∧ (((h 109 29) ≤ x3 → (0 ≤ (256 * x3) + x4 ∧ (256 * x3) + x4 < 2304) ∧ (wI (d + 1) m_M_sums 12 [(0, vR 109), (1, vI x1), (2, vI x2), (3, vI x3), (4, vI (x4 + 1))] [] (up h 135 (((256 * x3) + x4).toNat) x5) K)) ∧ (¬ ((h 109 29) ≤ x3) → (mwpI (d + 1) m_M_has [vI x4, vI x6] h (fun z9 h9 => (((inR z9) ∧ (¬ (z9 ≠ 0) → ((0 ≤ (8 * x3) + x6 ∧ (8 * x3) + x6 < 64) ∧ (inR (h9 134 (((8 * x3) + x6).toNat))) ∧ (¬ ((h9 134 (((8 * x3) + x6).toNat)) ≤ 0) → ((inR x1) ∧ (¬ (x3 ≠ x1) → ((inR x2))))))))) ∧ (((¬ (z9 ≠ 0) ∧ (¬ ((h9 134 (((8 * x3) + x6).toNat)) ≤ 0) ∧ ((x3 ≠ x1) ∨ (¬ (x6 = x2)))) → ((0 ≤ (8 * x3) + x6 ∧ (8 * x3) + x6 < 64) ∧ (0 ≤ ((256 * x3) + 256) + (or3 x4 (shl3 1 x6)) ∧ ((256 * x3) + 256) + (or3 x4 (shl3 1 x6)) < 2304))))) ∧ (((inR (cif (¬ (z9 ≠ 0) ∧ (¬ ((h9 134 (((8 * x3) + x6).toNat)) ≤ 0) ∧ ((x3 ≠ x1) ∨ (¬ (x6 = x2))))) ((h9 134 (((8 * x3) + x6).toNat)) + (h9 135 ((((256 * x3) + 256) + (or3 x4 (shl3 1 x6))).toNat))) 0)) ∧ (inR x5))) ∧ (wI (d + 1) m_M_sums 57 [(0, vR 109), (1, vI x1), (2, vI x2), (3, vI x3), (4, vI x4), (5, vI (cif ((cif (¬ (z9 ≠ 0) ∧ (¬ ((h9 134 (((8 * x3) + x6).toNat)) ≤ 0) ∧ ((x3 ≠ x1) ∨ (¬ (x6 = x2))))) ((h9 134 (((8 * x3) + x6).toNat)) + (h9 135 ((((256 * x3) + 256) + (or3 x4 (shl3 1 x6))).toNat))) 0) ≤ x5) x5 (cif (¬ (z9 ≠ 0) ∧ (¬ ((h9 134 (((8 * x3) + x6).toNat)) ≤ 0) ∧ ((x3 ≠ x1) ∨ (¬ (x6 = x2))))) ((h9 134 (((8 * x3) + x6).toNat)) + (h9 135 ((((256 * x3) + 256) + (or3 x4 (shl3 1 x6))).toNat))) 0))), (6, vI (x6 + 1))] [] h9 K)))))))) : wI (d + 1) m_M_sums 57 [(0, vR 109), (1, vI x1), (2, vI x2), (3, vI x3), (4, vI x4), (5, vI x5), (6, vI x6)] [] h K := by
  refine w_iload rfl rfl ?_
  refine w_aload_n rfl rfl ?_
  refine w_getI rfl f_M_219 rfl rfl rfl ?_
  obtain ⟨b1, F⟩ := F
  obtain ⟨b2, F⟩ := F
  refine w_icmp_ge (tgt := 185) rfl (by decide) ⟨b1, b2⟩ (fun q3 => ?_) (fun q3 => ?_)
  · replace F := F.1 q3
    refine w_aload_n rfl rfl ?_
    refine w_getR rfl f_M_93 rfl rfl rfl rfl rfl ?_
    refine w_sipush (by decide) (by decide) rfl ?_
    refine w_iload_n rfl rfl ?_
    refine w_imul rfl ?_
    refine w_iload rfl rfl ?_
    refine w_iadd rfl ?_
    refine w_iload rfl rfl ?_
    obtain ⟨b4, F⟩ := F
    refine w_iastore rfl rfl rfl b4 ?_
    refine w_iinc rfl rfl rfl rfl rfl (w_ls (ls2 := [(0, vR 109), (1, vI x1), (2, vI x2), (3, vI x3), (4, vI (x4 + 1)), (5, vI x5), (6, vI x6)]) rfl ?_)
    refine w_goto (tgt := 12) rfl (by decide) ?_
    exact w_kp [0, 1, 2, 3, 4] F
  · replace F := F.2 q3
    refine w_iload_n rfl rfl ?_
    refine w_aload_n rfl rfl ?_
    refine w_getI rfl f_M_216 rfl rfl rfl ?_
    obtain ⟨b5, F⟩ := F
    obtain ⟨b6, F⟩ := F
    refine w_icmp_ge (tgt := 185) rfl (by decide) ⟨b5, b6⟩ (fun q7 => ?_) (fun q7 => ?_)
    · replace F := F.1 q7
      refine w_aload_n rfl rfl ?_
      refine w_getR rfl f_M_93 rfl rfl rfl rfl rfl ?_
      refine w_sipush (by decide) (by decide) rfl ?_
      refine w_iload_n rfl rfl ?_
      refine w_imul rfl ?_
      refine w_iload rfl rfl ?_
      refine w_iadd rfl ?_
      refine w_iload rfl rfl ?_
      obtain ⟨b8, F⟩ := F
      refine w_iastore rfl rfl rfl b8 ?_
      refine w_iinc rfl rfl rfl rfl rfl (w_ls (ls2 := [(0, vR 109), (1, vI x1), (2, vI x2), (3, vI x3), (4, vI (x4 + 1)), (5, vI x5), (6, vI x6)]) rfl ?_)
      refine w_goto (tgt := 12) rfl (by decide) ?_
      exact w_kp [0, 1, 2, 3, 4] F
    · replace F := F.2 q7
      refine w_iload rfl rfl ?_
      refine w_iload rfl rfl ?_
      refine c_SI [vI x4, vI x6] [] rfl b_M_has k_M_124 rfl rfl rfl (mwpI_mono (fun z9 h9 F => ?_) F)
      obtain ⟨G, F⟩ := F
      have J : ∀ (t19 : Int), t19 = b2i (¬ (z9 ≠ 0) ∧ (¬ ((h9 134 (((8 * x3) + x6).toNat)) ≤ 0) ∧ ((x3 ≠ x1) ∨ (¬ (x6 = x2))))) → wI (d + 1) m_M_sums 115 [(0, vR 109), (1, vI x1), (2, vI x2), (3, vI x3), (4, vI x4), (5, vI x5), (6, vI x6)] [vI t19] h9 K := by
        intro t19 et19
        subst et19
        refine w_istore rfl rfl rfl rfl (w_ls (ls2 := [(0, vR 109), (1, vI x1), (2, vI x2), (3, vI x3), (4, vI x4), (5, vI x5), (6, vI x6), (7, vI (b2i (¬ (z9 ≠ 0) ∧ (¬ ((h9 134 (((8 * x3) + x6).toNat)) ≤ 0) ∧ ((x3 ≠ x1) ∨ (¬ (x6 = x2)))))))]) rfl ?_)
        refine w_iload rfl rfl ?_
        obtain ⟨G, F⟩ := F
        have J : ∀ (t23 : Int), t23 = cif (¬ (z9 ≠ 0) ∧ (¬ ((h9 134 (((8 * x3) + x6).toNat)) ≤ 0) ∧ ((x3 ≠ x1) ∨ (¬ (x6 = x2))))) ((h9 134 (((8 * x3) + x6).toNat)) + (h9 135 ((((256 * x3) + 256) + (or3 x4 (shl3 1 x6))).toNat))) 0 → wI (d + 1) m_M_sums 161 [(0, vR 109), (1, vI x1), (2, vI x2), (3, vI x3), (4, vI x4), (5, vI x5), (6, vI x6), (7, vI (b2i (¬ (z9 ≠ 0) ∧ (¬ ((h9 134 (((8 * x3) + x6).toNat)) ≤ 0) ∧ ((x3 ≠ x1) ∨ (¬ (x6 = x2)))))))] [vI t23] h9 K := by
          intro t23 et23
          subst et23
          refine w_istore rfl rfl rfl rfl (w_ls (ls2 := [(0, vR 109), (1, vI x1), (2, vI x2), (3, vI x3), (4, vI x4), (5, vI x5), (6, vI x6), (7, vI (b2i (¬ (z9 ≠ 0) ∧ (¬ ((h9 134 (((8 * x3) + x6).toNat)) ≤ 0) ∧ ((x3 ≠ x1) ∨ (¬ (x6 = x2))))))), (8, vI (cif (¬ (z9 ≠ 0) ∧ (¬ ((h9 134 (((8 * x3) + x6).toNat)) ≤ 0) ∧ ((x3 ≠ x1) ∨ (¬ (x6 = x2))))) ((h9 134 (((8 * x3) + x6).toNat)) + (h9 135 ((((256 * x3) + 256) + (or3 x4 (shl3 1 x6))).toNat))) 0))]) rfl ?_)
          refine w_iload rfl rfl ?_
          refine w_iload rfl rfl ?_
          obtain ⟨G, F⟩ := F
          have J : ∀ (t27 : Int), t27 = cif ((cif (¬ (z9 ≠ 0) ∧ (¬ ((h9 134 (((8 * x3) + x6).toNat)) ≤ 0) ∧ ((x3 ≠ x1) ∨ (¬ (x6 = x2))))) ((h9 134 (((8 * x3) + x6).toNat)) + (h9 135 ((((256 * x3) + 256) + (or3 x4 (shl3 1 x6))).toNat))) 0) ≤ x5) x5 (cif (¬ (z9 ≠ 0) ∧ (¬ ((h9 134 (((8 * x3) + x6).toNat)) ≤ 0) ∧ ((x3 ≠ x1) ∨ (¬ (x6 = x2))))) ((h9 134 (((8 * x3) + x6).toNat)) + (h9 135 ((((256 * x3) + 256) + (or3 x4 (shl3 1 x6))).toNat))) 0) → wI (d + 1) m_M_sums 177 [(0, vR 109), (1, vI x1), (2, vI x2), (3, vI x3), (4, vI x4), (5, vI x5), (6, vI x6), (7, vI (b2i (¬ (z9 ≠ 0) ∧ (¬ ((h9 134 (((8 * x3) + x6).toNat)) ≤ 0) ∧ ((x3 ≠ x1) ∨ (¬ (x6 = x2))))))), (8, vI (cif (¬ (z9 ≠ 0) ∧ (¬ ((h9 134 (((8 * x3) + x6).toNat)) ≤ 0) ∧ ((x3 ≠ x1) ∨ (¬ (x6 = x2))))) ((h9 134 (((8 * x3) + x6).toNat)) + (h9 135 ((((256 * x3) + 256) + (or3 x4 (shl3 1 x6))).toNat))) 0))] [vI t27] h9 K := by
            intro t27 et27
            subst et27
            refine w_istore rfl rfl rfl rfl (w_ls (ls2 := [(0, vR 109), (1, vI x1), (2, vI x2), (3, vI x3), (4, vI x4), (5, vI (cif ((cif (¬ (z9 ≠ 0) ∧ (¬ ((h9 134 (((8 * x3) + x6).toNat)) ≤ 0) ∧ ((x3 ≠ x1) ∨ (¬ (x6 = x2))))) ((h9 134 (((8 * x3) + x6).toNat)) + (h9 135 ((((256 * x3) + 256) + (or3 x4 (shl3 1 x6))).toNat))) 0) ≤ x5) x5 (cif (¬ (z9 ≠ 0) ∧ (¬ ((h9 134 (((8 * x3) + x6).toNat)) ≤ 0) ∧ ((x3 ≠ x1) ∨ (¬ (x6 = x2))))) ((h9 134 (((8 * x3) + x6).toNat)) + (h9 135 ((((256 * x3) + 256) + (or3 x4 (shl3 1 x6))).toNat))) 0))), (6, vI x6), (7, vI (b2i (¬ (z9 ≠ 0) ∧ (¬ ((h9 134 (((8 * x3) + x6).toNat)) ≤ 0) ∧ ((x3 ≠ x1) ∨ (¬ (x6 = x2))))))), (8, vI (cif (¬ (z9 ≠ 0) ∧ (¬ ((h9 134 (((8 * x3) + x6).toNat)) ≤ 0) ∧ ((x3 ≠ x1) ∨ (¬ (x6 = x2))))) ((h9 134 (((8 * x3) + x6).toNat)) + (h9 135 ((((256 * x3) + 256) + (or3 x4 (shl3 1 x6))).toNat))) 0))]) rfl ?_)
            refine w_iinc rfl rfl rfl rfl rfl (w_ls (ls2 := [(0, vR 109), (1, vI x1), (2, vI x2), (3, vI x3), (4, vI x4), (5, vI (cif ((cif (¬ (z9 ≠ 0) ∧ (¬ ((h9 134 (((8 * x3) + x6).toNat)) ≤ 0) ∧ ((x3 ≠ x1) ∨ (¬ (x6 = x2))))) ((h9 134 (((8 * x3) + x6).toNat)) + (h9 135 ((((256 * x3) + 256) + (or3 x4 (shl3 1 x6))).toNat))) 0) ≤ x5) x5 (cif (¬ (z9 ≠ 0) ∧ (¬ ((h9 134 (((8 * x3) + x6).toNat)) ≤ 0) ∧ ((x3 ≠ x1) ∨ (¬ (x6 = x2))))) ((h9 134 (((8 * x3) + x6).toNat)) + (h9 135 ((((256 * x3) + 256) + (or3 x4 (shl3 1 x6))).toNat))) 0))), (6, vI (x6 + 1)), (7, vI (b2i (¬ (z9 ≠ 0) ∧ (¬ ((h9 134 (((8 * x3) + x6).toNat)) ≤ 0) ∧ ((x3 ≠ x1) ∨ (¬ (x6 = x2))))))), (8, vI (cif (¬ (z9 ≠ 0) ∧ (¬ ((h9 134 (((8 * x3) + x6).toNat)) ≤ 0) ∧ ((x3 ≠ x1) ∨ (¬ (x6 = x2))))) ((h9 134 (((8 * x3) + x6).toNat)) + (h9 135 ((((256 * x3) + 256) + (or3 x4 (shl3 1 x6))).toNat))) 0))]) rfl ?_)
            refine w_goto (tgt := 57) rfl (by decide) ?_
            exact w_kp [0, 1, 2, 3, 4, 5, 6] F
          obtain ⟨b24, b25⟩ := G
          refine w_icmp_le (tgt := 175) rfl (by decide) ⟨b24, b25⟩ (fun q26 => ?_) (fun q26 => ?_)
          · refine w_iload rfl rfl ?_
            exact J _ (cif_t q26).symm
          · refine w_iload rfl rfl ?_
            refine w_goto (tgt := 177) rfl (by decide) ?_
            exact J _ (cif_f q26).symm
        have ga_ := G
        refine w_ifeq_b (tgt := 160) rfl (by decide) (fun q20 => ?_) (fun q20 => ?_)
        · refine w_iconst rfl ?_
          exact J _ (cif_f q20).symm
        · have G := ga_ q20
          obtain ⟨b21, b22⟩ := G
          refine w_aload_n rfl rfl ?_
          refine w_getR rfl f_M_90 rfl rfl rfl rfl rfl ?_
          refine w_bipush (by decide) (by decide) rfl ?_
          refine w_iload_n rfl rfl ?_
          refine w_imul rfl ?_
          refine w_iload rfl rfl ?_
          refine w_iadd rfl ?_
          refine w_iaload rfl rfl rfl b21 ?_
          refine w_aload_n rfl rfl ?_
          refine w_getR rfl f_M_93 rfl rfl rfl rfl rfl ?_
          refine w_sipush (by decide) (by decide) rfl ?_
          refine w_iload_n rfl rfl ?_
          refine w_imul rfl ?_
          refine w_sipush (by decide) (by decide) rfl ?_
          refine w_iadd rfl ?_
          refine w_iload rfl rfl ?_
          refine w_iconst rfl ?_
          refine w_iload rfl rfl ?_
          refine w_ishl rfl ?_
          refine w_ior rfl ?_
          refine w_iadd rfl ?_
          refine w_iaload rfl rfl rfl b22 ?_
          refine w_iadd rfl ?_
          refine w_goto (tgt := 161) rfl (by decide) ?_
          exact J _ (cif_t q20).symm
      obtain ⟨b10, gb_⟩ := G
      refine w_if_ne (tgt := 114) rfl (by decide) b10 (fun q11 => ?_) (fun q11 => ?_)
      · refine w_iconst rfl ?_
        exact J _ (b2i_f (fun z => z.1 q11)).symm
      · have G := gb_ q11
        obtain ⟨b12, b13, gb_⟩ := G
        refine w_aload_n rfl rfl ?_
        refine w_getR rfl f_M_90 rfl rfl rfl rfl rfl ?_
        refine w_bipush (by decide) (by decide) rfl ?_
        refine w_iload_n rfl rfl ?_
        refine w_imul rfl ?_
        refine w_iload rfl rfl ?_
        refine w_iadd rfl ?_
        refine w_iaload rfl rfl rfl b12 ?_
        refine w_if_le (tgt := 114) rfl (by decide) b13 (fun q14 => ?_) (fun q14 => ?_)
        · refine w_iconst rfl ?_
          exact J _ (b2i_f (fun z => (fun z => z.1 q14) z.2)).symm
        · have G := gb_ q14
          obtain ⟨b15, gb_⟩ := G
          refine w_iload_n rfl rfl ?_
          refine w_iload_n rfl rfl ?_
          refine w_icmp_ne (tgt := 110) rfl (by decide) ⟨b5, b15⟩ (fun q16 => ?_) (fun q16 => ?_)
          · refine w_iconst rfl ?_
            refine w_goto (tgt := 115) rfl (by decide) ?_
            exact J _ (b2i_t ⟨q11, ⟨q14, (Or.inl q16)⟩⟩).symm
          · have G := gb_ q16
            have b17 := G
            refine w_iload rfl rfl ?_
            refine w_iload_n rfl rfl ?_
            refine w_icmp_eq (tgt := 114) rfl (by decide) ⟨b1, b17⟩ (fun q18 => ?_) (fun q18 => ?_)
            · refine w_iconst rfl ?_
              exact J _ (b2i_f (fun z => (fun z => (fun z => z.elim q16 (fun z => z q18)) z.2) z.2)).symm
            · refine w_iconst rfl ?_
              refine w_goto (tgt := 115) rfl (by decide) ?_
              exact J _ (b2i_t ⟨q11, ⟨q14, (Or.inr q18)⟩⟩).symm
theorem s_M_pairs_0 {d : Nat}  (h : St) (K : St → Prop) (F : (mwpI (d + 2) m_M_sums [vR 109, vI ((-1)), vI ((-1))] h (fun z1 h1 => (wV (d + 2) m_M_pairs 11 [(0, vR 109), (1, vI 0), (2, vI 0)] [] h1 K)))) : wV (d + 2) m_M_pairs 0 [(0, vR 109)] [] h K := by
  refine w_aload_n rfl rfl ?_
  refine w_iconst rfl ?_
  refine w_iconst rfl ?_
  refine c_VI [vI ((-1)), vI ((-1))] [] rfl b_M_sums k_M_222 rfl rfl rfl rfl rfl rfl (mwpI_mono (fun z1 h1 F => ?_) F)
  refine w_pop rfl rfl ?_
  refine w_iconst rfl ?_
  refine w_istore_n rfl rfl rfl rfl (w_ls (ls2 := [(0, vR 109), (1, vI 0)]) rfl ?_)
  refine w_iconst rfl ?_
  refine w_istore_n rfl rfl rfl rfl (w_ls (ls2 := [(0, vR 109), (1, vI 0), (2, vI 0)]) rfl ?_)
  exact F
theorem s_M_pairs_11 {d : Nat}  (x1 x2 : Int) (h : St) (K : St → Prop) (F : (inR x2) ∧ (inR (h 109 29)) ∧ (((h 109 29) ≤ x2 → (K h)) ∧ (¬ ((h 109 29) ≤ x2) → (0 ≤ x2 ∧ x2 < 8) ∧ (wV (d + 2) m_M_pairs 34 [(0, vR 109), (1, vI x1), (2, vI x2), (3, vI ((h 109 30) - 1))] [] (up h 136 x2.toNat ((-4))) K)))) : wV (d + 2) m_M_pairs 11 [(0, vR 109), (1, vI x1), (2, vI x2)] [] h K := by
  refine w_iload_n rfl rfl ?_
  refine w_aload_n rfl rfl ?_
  refine w_getI rfl f_M_216 rfl rfl rfl ?_
  obtain ⟨b1, F⟩ := F
  obtain ⟨b2, F⟩ := F
  refine w_icmp_ge (tgt := 171) rfl (by decide) ⟨b1, b2⟩ (fun q3 => ?_) (fun q3 => ?_)
  · replace F := F.1 q3
    exact w_vret rfl rfl ⟨rfl, rfl, rfl, F⟩
  · replace F := F.2 q3
    refine w_aload_n rfl rfl ?_
    refine w_getR rfl f_M_96 rfl rfl rfl rfl rfl ?_
    refine w_iload_n rfl rfl ?_
    refine w_bipush (by decide) (by decide) rfl ?_
    obtain ⟨b4, F⟩ := F
    refine w_iastore rfl rfl rfl b4 ?_
    refine w_aload_n rfl rfl ?_
    refine w_getI rfl f_M_219 rfl rfl rfl ?_
    refine w_iconst rfl ?_
    refine w_isub rfl ?_
    refine w_istore_n rfl rfl rfl rfl (w_ls (ls2 := [(0, vR 109), (1, vI x1), (2, vI x2), (3, vI ((h 109 30) - 1))]) rfl ?_)
    exact F
theorem s_M_pairs_34 {d : Nat}  (x1 x2 x3 : Int) (h : St) (K : St → Prop) (F : (inR x3) ∧ ((x3 < 0 → (0 ≤ x2 ∧ x2 < 8) ∧ (((inR (h 136 x2.toNat)))) ∧ (wV (d + 2) m_M_pairs 11 [(0, vR 109), (1, vI (or3 x1 (cif (0 ≤ (h 136 x2.toNat)) (shl3 1 (h 136 x2.toNat)) 0))), (2, vI (x2 + 1))] [] h K)) ∧ (¬ (x3 < 0) → (mwpI (d + 2) m_M_has [vI x1, vI x3] h (fun z7 h7 => (((inR z7) ∧ (¬ (z7 ≠ 0) → ((0 ≤ (8 * x2) + x3 ∧ (8 * x2) + x3 < 64) ∧ (inR (h7 134 (((8 * x2) + x3).toNat))) ∧ (¬ ((h7 134 (((8 * x2) + x3).toNat)) ≤ 0) → ((0 ≤ ((256 * x2) + 256) + (or3 x1 (shl3 1 x3)) ∧ ((256 * x2) + 256) + (or3 x1 (shl3 1 x3)) < 2304) ∧ (0 ≤ (256 * x2) + x1 ∧ (256 * x2) + x1 < 2304) ∧ (inR ((h7 134 (((8 * x2) + x3).toNat)) + (h7 135 ((((256 * x2) + 256) + (or3 x1 (shl3 1 x3))).toNat)))) ∧ (inR (h7 135 (((256 * x2) + x1).toNat))))))))) ∧ (((¬ (¬ (z7 ≠ 0) ∧ (¬ ((h7 134 (((8 * x2) + x3).toNat)) ≤ 0) ∧ (¬ (((h7 134 (((8 * x2) + x3).toNat)) + (h7 135 ((((256 * x2) + 256) + (or3 x1 (shl3 1 x3))).toNat))) ≠ (h7 135 (((256 * x2) + x1).toNat)))))) → ((0 ≤ x2 ∧ x2 < 8))))) ∧ (0 ≤ x2 ∧ x2 < 8) ∧ (wV (d + 2) m_M_pairs 34 [(0, vR 109), (1, vI x1), (2, vI x2), (3, vI (x3 + (-1)))] [] (up h7 136 x2.toNat (cif (¬ (z7 ≠ 0) ∧ (¬ ((h7 134 (((8 * x2) + x3).toNat)) ≤ 0) ∧ (¬ (((h7 134 (((8 * x2) + x3).toNat)) + (h7 135 ((((256 * x2) + 256) + (or3 x1 (shl3 1 x3))).toNat))) ≠ (h7 135 (((256 * x2) + x1).toNat)))))) x3 (h7 136 x2.toNat))) K)))))) : wV (d + 2) m_M_pairs 34 [(0, vR 109), (1, vI x1), (2, vI x2), (3, vI x3)] [] h K := by
  refine w_iload_n rfl rfl ?_
  obtain ⟨b1, F⟩ := F
  refine w_if_lt (tgt := 141) rfl (by decide) b1 (fun q2 => ?_) (fun q2 => ?_)
  · replace F := F.1 q2
    refine w_iload_n rfl rfl ?_
    refine w_aload_n rfl rfl ?_
    refine w_getR rfl f_M_96 rfl rfl rfl rfl rfl ?_
    refine w_iload_n rfl rfl ?_
    obtain ⟨b3, F⟩ := F
    refine w_iaload rfl rfl rfl b3 ?_
    obtain ⟨G, F⟩ := F
    have J : ∀ (t6 : Int), t6 = cif (0 ≤ (h 136 x2.toNat)) (shl3 1 (h 136 x2.toNat)) 0 → wV (d + 2) m_M_pairs 163 [(0, vR 109), (1, vI x1), (2, vI x2), (3, vI x3)] [vI t6, vI x1] h K := by
      intro t6 et6
      subst et6
      refine w_ior rfl ?_
      refine w_istore_n rfl rfl rfl rfl (w_ls (ls2 := [(0, vR 109), (1, vI (or3 x1 (cif (0 ≤ (h 136 x2.toNat)) (shl3 1 (h 136 x2.toNat)) 0))), (2, vI x2), (3, vI x3)]) rfl ?_)
      refine w_iinc rfl rfl rfl rfl rfl (w_ls (ls2 := [(0, vR 109), (1, vI (or3 x1 (cif (0 ≤ (h 136 x2.toNat)) (shl3 1 (h 136 x2.toNat)) 0))), (2, vI (x2 + 1)), (3, vI x3)]) rfl ?_)
      refine w_goto (tgt := 11) rfl (by decide) ?_
      exact w_kp [0, 1, 2] F
    have b4 := G
    refine w_if_ge (tgt := 155) rfl (by decide) b4 (fun q5 => ?_) (fun q5 => ?_)
    · refine w_iconst rfl ?_
      refine w_aload_n rfl rfl ?_
      refine w_getR rfl f_M_96 rfl rfl rfl rfl rfl ?_
      refine w_iload_n rfl rfl ?_
      refine w_iaload rfl rfl rfl b3 ?_
      refine w_ishl rfl ?_
      exact J _ (cif_t q5).symm
    · refine w_iconst rfl ?_
      refine w_goto (tgt := 163) rfl (by decide) ?_
      exact J _ (cif_f q5).symm
  · replace F := F.2 q2
    refine w_iload_n rfl rfl ?_
    refine w_iload_n rfl rfl ?_
    refine c_SI [vI x1, vI x3] [] rfl b_M_has k_M_124 rfl rfl rfl (mwpI_mono (fun z7 h7 F => ?_) F)
    obtain ⟨G, F⟩ := F
    have J : ∀ (t18 : Int), t18 = b2i (¬ (z7 ≠ 0) ∧ (¬ ((h7 134 (((8 * x2) + x3).toNat)) ≤ 0) ∧ (¬ (((h7 134 (((8 * x2) + x3).toNat)) + (h7 135 ((((256 * x2) + 256) + (or3 x1 (shl3 1 x3))).toNat))) ≠ (h7 135 (((256 * x2) + x1).toNat)))))) → wV (d + 2) m_M_pairs 112 [(0, vR 109), (1, vI x1), (2, vI x2), (3, vI x3)] [vI t18] h7 K := by
      intro t18 et18
      subst et18
      refine w_istore rfl rfl rfl rfl (w_ls (ls2 := [(0, vR 109), (1, vI x1), (2, vI x2), (3, vI x3), (4, vI (b2i (¬ (z7 ≠ 0) ∧ (¬ ((h7 134 (((8 * x2) + x3).toNat)) ≤ 0) ∧ (¬ (((h7 134 (((8 * x2) + x3).toNat)) + (h7 135 ((((256 * x2) + 256) + (or3 x1 (shl3 1 x3))).toNat))) ≠ (h7 135 (((256 * x2) + x1).toNat))))))))]) rfl ?_)
      refine w_aload_n rfl rfl ?_
      refine w_getR rfl f_M_96 rfl rfl rfl rfl rfl ?_
      refine w_iload_n rfl rfl ?_
      refine w_iload rfl rfl ?_
      obtain ⟨G, F⟩ := F
      have J : ∀ (t21 : Int), t21 = cif (¬ (z7 ≠ 0) ∧ (¬ ((h7 134 (((8 * x2) + x3).toNat)) ≤ 0) ∧ (¬ (((h7 134 (((8 * x2) + x3).toNat)) + (h7 135 ((((256 * x2) + 256) + (or3 x1 (shl3 1 x3))).toNat))) ≠ (h7 135 (((256 * x2) + x1).toNat)))))) x3 (h7 136 x2.toNat) → wV (d + 2) m_M_pairs 134 [(0, vR 109), (1, vI x1), (2, vI x2), (3, vI x3), (4, vI (b2i (¬ (z7 ≠ 0) ∧ (¬ ((h7 134 (((8 * x2) + x3).toNat)) ≤ 0) ∧ (¬ (((h7 134 (((8 * x2) + x3).toNat)) + (h7 135 ((((256 * x2) + 256) + (or3 x1 (shl3 1 x3))).toNat))) ≠ (h7 135 (((256 * x2) + x1).toNat))))))))] [vI t21, vI x2, vR 136] h7 K := by
        intro t21 et21
        subst et21
        obtain ⟨b22, F⟩ := F
        refine w_iastore rfl rfl rfl b22 ?_
        refine w_iinc rfl rfl rfl rfl rfl (w_ls (ls2 := [(0, vR 109), (1, vI x1), (2, vI x2), (3, vI (x3 + (-1))), (4, vI (b2i (¬ (z7 ≠ 0) ∧ (¬ ((h7 134 (((8 * x2) + x3).toNat)) ≤ 0) ∧ (¬ (((h7 134 (((8 * x2) + x3).toNat)) + (h7 135 ((((256 * x2) + 256) + (or3 x1 (shl3 1 x3))).toNat))) ≠ (h7 135 (((256 * x2) + x1).toNat))))))))]) rfl ?_)
        refine w_goto (tgt := 34) rfl (by decide) ?_
        exact w_kp [0, 1, 2, 3] F
      have gb_ := G
      refine w_ifeq_b (tgt := 128) rfl (by decide) (fun q19 => ?_) (fun q19 => ?_)
      · have G := gb_ q19
        have b20 := G
        refine w_aload_n rfl rfl ?_
        refine w_getR rfl f_M_96 rfl rfl rfl rfl rfl ?_
        refine w_iload_n rfl rfl ?_
        refine w_iaload rfl rfl rfl b20 ?_
        exact J _ (cif_f q19).symm
      · refine w_iload_n rfl rfl ?_
        refine w_goto (tgt := 134) rfl (by decide) ?_
        exact J _ (cif_t q19).symm
    obtain ⟨b8, gb_⟩ := G
    refine w_if_ne (tgt := 111) rfl (by decide) b8 (fun q9 => ?_) (fun q9 => ?_)
    · refine w_iconst rfl ?_
      exact J _ (b2i_f (fun z => z.1 q9)).symm
    · have G := gb_ q9
      obtain ⟨b10, b11, gb_⟩ := G
      refine w_aload_n rfl rfl ?_
      refine w_getR rfl f_M_90 rfl rfl rfl rfl rfl ?_
      refine w_bipush (by decide) (by decide) rfl ?_
      refine w_iload_n rfl rfl ?_
      refine w_imul rfl ?_
      refine w_iload_n rfl rfl ?_
      refine w_iadd rfl ?_
      refine w_iaload rfl rfl rfl b10 ?_
      refine w_if_le (tgt := 111) rfl (by decide) b11 (fun q12 => ?_) (fun q12 => ?_)
      · refine w_iconst rfl ?_
        exact J _ (b2i_f (fun z => (fun z => z.1 q12) z.2)).symm
      · have G := gb_ q12
        obtain ⟨b13, b14, b15, b16⟩ := G
        refine w_aload_n rfl rfl ?_
        refine w_getR rfl f_M_90 rfl rfl rfl rfl rfl ?_
        refine w_bipush (by decide) (by decide) rfl ?_
        refine w_iload_n rfl rfl ?_
        refine w_imul rfl ?_
        refine w_iload_n rfl rfl ?_
        refine w_iadd rfl ?_
        refine w_iaload rfl rfl rfl b10 ?_
        refine w_aload_n rfl rfl ?_
        refine w_getR rfl f_M_93 rfl rfl rfl rfl rfl ?_
        refine w_sipush (by decide) (by decide) rfl ?_
        refine w_iload_n rfl rfl ?_
        refine w_imul rfl ?_
        refine w_sipush (by decide) (by decide) rfl ?_
        refine w_iadd rfl ?_
        refine w_iload_n rfl rfl ?_
        refine w_iconst rfl ?_
        refine w_iload_n rfl rfl ?_
        refine w_ishl rfl ?_
        refine w_ior rfl ?_
        refine w_iadd rfl ?_
        refine w_iaload rfl rfl rfl b13 ?_
        refine w_iadd rfl ?_
        refine w_aload_n rfl rfl ?_
        refine w_getR rfl f_M_93 rfl rfl rfl rfl rfl ?_
        refine w_sipush (by decide) (by decide) rfl ?_
        refine w_iload_n rfl rfl ?_
        refine w_imul rfl ?_
        refine w_iload_n rfl rfl ?_
        refine w_iadd rfl ?_
        refine w_iaload rfl rfl rfl b14 ?_
        refine w_icmp_ne (tgt := 111) rfl (by decide) ⟨b15, b16⟩ (fun q17 => ?_) (fun q17 => ?_)
        · refine w_iconst rfl ?_
          exact J _ (b2i_f (fun z => (fun z => (fun z => z q17) z.2) z.2)).symm
        · refine w_iconst rfl ?_
          refine w_goto (tgt := 112) rfl (by decide) ?_
          exact J _ (b2i_t ⟨q9, ⟨q12, q17⟩⟩).symm
theorem s_M_isSure_0 {d : Nat}  (x1 : Int) (h : St) (K : Int → St → Prop) (F : (mwpI (d + 2) m_M_sums [vR 109, vI ((-1)), vI ((-1))] h (fun z1 h1 => (0 ≤ x1 ∧ x1 < 8) ∧ (mwpI (d + 2) m_M_sums [vR 109, vI x1, vI (h1 136 x1.toNat)] h1 (fun z3 h3 => (((inR z3) ∧ (inR z1))) ∧ (K (b2i (¬ (z1 ≤ z3))) h3)))))) : wI (d + 2) m_M_isSure 0 [(0, vR 109), (1, vI x1)] [] h K := by
  refine w_aload_n rfl rfl ?_
  refine w_iconst rfl ?_
  refine w_iconst rfl ?_
  refine c_VI [vI ((-1)), vI ((-1))] [] rfl b_M_sums k_M_222 rfl rfl rfl rfl rfl rfl (mwpI_mono (fun z1 h1 F => ?_) F)
  refine w_istore_n rfl rfl rfl rfl (w_ls (ls2 := [(0, vR 109), (1, vI x1), (2, vI z1)]) rfl ?_)
  refine w_aload_n rfl rfl ?_
  refine w_iload_n rfl rfl ?_
  refine w_aload_n rfl rfl ?_
  refine w_getR rfl f_M_96 rfl rfl rfl rfl rfl ?_
  refine w_iload_n rfl rfl ?_
  obtain ⟨b2, F⟩ := F
  refine w_iaload rfl rfl rfl b2 ?_
  refine c_VI [vI x1, vI (h1 136 x1.toNat)] [] rfl b_M_sums k_M_222 rfl rfl rfl rfl rfl rfl (mwpI_mono (fun z3 h3 F => ?_) F)
  refine w_iload_n rfl rfl ?_
  obtain ⟨G, F⟩ := F
  have J : ∀ (t7 : Int), t7 = b2i (¬ (z1 ≤ z3)) → wI (d + 2) m_M_isSure 27 [(0, vR 109), (1, vI x1), (2, vI z1)] [vI t7] h3 K := by
    intro t7 et7
    subst et7
    exact w_zret rfl rfl b2i_01 ⟨rfl, rfl, _, rfl, F⟩
  obtain ⟨b4, b5⟩ := G
  refine w_icmp_ge (tgt := 26) rfl (by decide) ⟨b4, b5⟩ (fun q6 => ?_) (fun q6 => ?_)
  · refine w_iconst rfl ?_
    exact J _ (b2i_f (fun z => z q6)).symm
  · refine w_iconst rfl ?_
    refine w_goto (tgt := 27) rfl (by decide) ?_
    exact J _ (b2i_t q6).symm
theorem s_M_placeOf_0 {d : Nat}  (x1 : Int) (h : St) (K : Int → St → Prop) (F : (wI d m_M_placeOf 5 [(0, vR 109), (1, vI x1), (2, vI ((-4))), (3, vI 0)] [] h K)) : wI d m_M_placeOf 0 [(0, vR 109), (1, vI x1)] [] h K := by
  refine w_bipush (by decide) (by decide) rfl ?_
  refine w_istore_n rfl rfl rfl rfl (w_ls (ls2 := [(0, vR 109), (1, vI x1), (2, vI ((-4)))]) rfl ?_)
  refine w_iconst rfl ?_
  refine w_istore_n rfl rfl rfl rfl (w_ls (ls2 := [(0, vR 109), (1, vI x1), (2, vI ((-4))), (3, vI 0)]) rfl ?_)
  exact F
theorem s_M_placeOf_5 {d : Nat}  (x1 x2 x3 : Int) (h : St) (K : Int → St → Prop) (F : (inR x3) ∧ (inR (h 109 29)) ∧ (((h 109 29) ≤ x3 → (K x2 h)) ∧ (¬ ((h 109 29) ≤ x3) → (0 ≤ x3 ∧ x3 < 12) ∧ (((inR (h 132 x3.toNat)) ∧ (inR x1))) ∧ (wI d m_M_placeOf 5 [(0, vR 109), (1, vI x1), (2, vI (cif ((h 132 x3.toNat) ≠ x1) x2 x3)), (3, vI (x3 + 1))] [] h K)))) : wI d m_M_placeOf 5 [(0, vR 109), (1, vI x1), (2, vI x2), (3, vI x3)] [] h K := by
  refine w_iload_n rfl rfl ?_
  refine w_aload_n rfl rfl ?_
  refine w_getI rfl f_M_216 rfl rfl rfl ?_
  obtain ⟨b1, F⟩ := F
  obtain ⟨b2, F⟩ := F
  refine w_icmp_ge (tgt := 35) rfl (by decide) ⟨b1, b2⟩ (fun q3 => ?_) (fun q3 => ?_)
  · replace F := F.1 q3
    refine w_iload_n rfl rfl ?_
    exact w_iret rfl rfl ⟨rfl, rfl, _, rfl, F⟩
  · replace F := F.2 q3
    refine w_aload_n rfl rfl ?_
    refine w_getR rfl f_M_84 rfl rfl rfl rfl rfl ?_
    refine w_iload_n rfl rfl ?_
    obtain ⟨b4, F⟩ := F
    refine w_iaload rfl rfl rfl b4 ?_
    refine w_iload_n rfl rfl ?_
    obtain ⟨G, F⟩ := F
    have J : ∀ (t8 : Int), t8 = cif ((h 132 x3.toNat) ≠ x1) x2 x3 → wI d m_M_placeOf 28 [(0, vR 109), (1, vI x1), (2, vI x2), (3, vI x3)] [vI t8] h K := by
      intro t8 et8
      subst et8
      refine w_istore_n rfl rfl rfl rfl (w_ls (ls2 := [(0, vR 109), (1, vI x1), (2, vI (cif ((h 132 x3.toNat) ≠ x1) x2 x3)), (3, vI x3)]) rfl ?_)
      refine w_iinc rfl rfl rfl rfl rfl (w_ls (ls2 := [(0, vR 109), (1, vI x1), (2, vI (cif ((h 132 x3.toNat) ≠ x1) x2 x3)), (3, vI (x3 + 1))]) rfl ?_)
      refine w_goto (tgt := 5) rfl (by decide) ?_
      exact F
    obtain ⟨b5, b6⟩ := G
    refine w_icmp_ne (tgt := 27) rfl (by decide) ⟨b5, b6⟩ (fun q7 => ?_) (fun q7 => ?_)
    · refine w_iload_n rfl rfl ?_
      exact J _ (cif_t q7).symm
    · refine w_iload_n rfl rfl ?_
      refine w_goto (tgt := 28) rfl (by decide) ?_
      exact J _ (cif_f q7).symm
def Mq (h : St) (p q : Nat) (L : Nat → Nat → Int) : Prop := h 109 29 = (p : Int) ∧ h 109 30 = (q : Int) ∧ p ≤ 8 ∧ q ≤ 8 ∧ LR L ∧ ∀ i j, i < p → j < q → h 134 (8 * i + j) = L i j
def Bm (h : St) (p q : Nat) (L : Nat → Nat → Int) (o1 o2 : Int) (i0 : Nat) : Prop := ∀ i s, i0 ≤ i → i ≤ p → s < 2 ^ q → h 135 (256 * i + s) = vB p q L (aX L o1 o2) i s
theorem Mq_c {h h2 : St} {p q : Nat} {L : Nat → Nat → Int} (g : ag (fun c k => (c = 109 ∧ (k = 29 ∨ k = 30)) ∨ c = 134) h h2) (a : Mq h p q L) : Mq h2 p q L := by
  obtain ⟨a1, a2, a3, a4, a5, a6⟩ := a
  refine ⟨by rw [g 109 29 (by omega)]; exact a1, by rw [g 109 30 (by omega)]; exact a2, a3, a4, a5, fun i j hi hj => by rw [g 134 _ (by omega)]; exact a6 i j hi hj⟩
theorem M_sm_57 {D : Nat} {K : Int → St → Prop} {p q : Nat} {L : Nat → Nat → Int} {o1 o2 : Int} {i s : Nat} {h : St} (ro1 : inR o1) (ro2 : inR o2) (a : Mq h p q L) (b : Bm h p q L o1 o2 (i + 1)) (hi : i < p) (hs : s < 2 ^ q) (k : wI (D + 1) m_M_sums 12 [(0, vR 109), (1, vI o1), (2, vI o2), (3, vI i), (4, vI ((s : Int) + 1))] [] (up h 135 (256 * i + s) (vB p q L (aX L o1 o2) i s)) K) : ∀ (r j : Nat) (v : Int), j + r = q → vB p q L (aX L o1 o2) (i + 1) s ≤ v → v ≤ vB p q L (aX L o1 o2) i s → (∀ j2, j2 < j → aX L o1 o2 i j2 → s.testBit j2 = false → L i j2 + vB p q L (aX L o1 o2) (i + 1) (s ||| 2 ^ j2) ≤ v) → wI (D + 1) m_M_sums 57 [(0, vR 109), (1, vI o1), (2, vI o2), (3, vI i), (4, vI s), (5, vI v), (6, vI j)] [] h K := by
  obtain ⟨a1, a2, a3, a4, a5, a6⟩ := a
  have h8 := p2le a4
  have e1 : ((256 * (i : Int)) + (s : Int)).toNat = 256 * i + s := by omega
  have vr := vB_R (q := q) (A := aX L o1 o2) a5 a3 (i := i) (s := s)
  have v0 := vB_R (q := q) (A := aX L o1 o2) a5 a3 (i := i + 1) (s := s)
  intro r
  induction r with
  | zero =>
    intro j v hj v1 v2 v3
    refine s_M_sums_57 _ _ _ _ _ _ h K ⟨⟨by omega, by omega⟩, ⟨by omega, by omega⟩, fun _ => ⟨⟨by omega, by omega⟩, ?_⟩, fun y => by omega⟩
    rw [e1, vB_uni hi v1 (fun j2 x1 x2 x3 => v3 j2 (by omega) x2 x3) v2]
    exact k
  | succ r ih =>
    intro j v hj v1 v2 v3
    refine s_M_sums_57 _ _ _ _ _ _ h K ⟨⟨by omega, by omega⟩, ⟨by omega, by omega⟩, fun y => by omega, fun _ => ⟨⟨by omega, by omega⟩, ⟨by omega, by omega⟩, fun y => by omega, fun _ => c_M_has (by omega) (by omega) ?_⟩⟩
    have z1 : j < q := by omega
    have p2 := p2_8 j (by omega)
    have l1 : s ||| 2 ^ j < 2 ^ q := Nat.or_lt_two_pow hs (Nat.pow_lt_pow_right (by decide) z1)
    have e2 : or3 s (shl3 1 j) = ((s ||| 2 ^ j : Nat) : Int) := by rw [shl_1 (by omega), or3_nat (by omega) (by omega)]
    have e3 : ((256 * (i : Int) + 256) + ((s ||| 2 ^ j : Nat) : Int)).toNat = 256 * (i + 1) + (s ||| 2 ^ j) := by omega
    have e4 : ((8 * (i : Int)) + (j : Int)).toNat = 8 * i + j := by omega
    have la := a6 i j hi z1
    have lr := a5 i j
    have w0 := vB_R (q := q) (A := aX L o1 o2) a5 a3 (i := i + 1) (s := s ||| 2 ^ j)
    rw [e2, e3, e4, la, b (i + 1) (s ||| 2 ^ j) (Nat.le_refl _) (by omega) l1]
    have ok : (¬ (b2i (s.testBit j = true) ≠ 0) ∧ (¬ (L i j ≤ 0) ∧ (((i : Int) ≠ o1) ∨ (¬ ((j : Int) = o2))))) ↔ (aX L o1 o2 i j ∧ s.testBit j = false) := by
      unfold aX
      rw [← Bool.not_eq_true]
      constructor
      · rintro ⟨x1, x2, x3⟩
        exact ⟨⟨by omega, fun y => x3.elim (fun z => z y.1) (fun z => z y.2)⟩, fun y => x1 (b2i_ne0.mpr y)⟩
      · rintro ⟨⟨x1, x2⟩, x3⟩
        refine ⟨fun y => x3 (b2i_ne0.mp y), by omega, ?_⟩
        by_cases y : (i : Int) = o1
        · exact Or.inr (fun z => x2 ⟨y, z⟩)
        · exact Or.inl y
    refine ⟨⟨b2i_R, fun _ => ⟨⟨by omega, by omega⟩, ⟨by omega, by omega⟩, fun _ => ⟨ro1, fun _ => ro2⟩⟩⟩, fun _ => ⟨⟨by omega, by omega⟩, ⟨by omega, by omega⟩⟩, ⟨cif_R ⟨by omega, by omega⟩ (by decide), ⟨by omega, by omega⟩⟩, ?_⟩
    by_cases c : aX L o1 o2 i j ∧ s.testBit j = false
    · have vw := vB_with (L := L) hi z1 c.1 c.2
      rw [cif_t (ok.mpr c)]
      by_cases y : L i j + vB p q L (aX L o1 o2) (i + 1) (s ||| 2 ^ j) ≤ v
      · rw [cif_t y]
        refine ih (j + 1) v (by omega) v1 v2 (fun j2 x1 x2 x3 => ?_)
        by_cases e : j2 = j
        · subst e; exact y
        · exact v3 j2 (by omega) x2 x3
      · rw [cif_f y]
        refine ih (j + 1) _ (by omega) (by omega) vw (fun j2 x1 x2 x3 => ?_)
        by_cases e : j2 = j
        · subst e; exact Int.le_refl _
        · have := v3 j2 (by omega) x2 x3; omega
    · rw [cif_f (fun y => c (ok.mp y)), cif_t (show (0 : Int) ≤ v by omega)]
      refine ih (j + 1) v (by omega) v1 v2 (fun j2 x1 x2 x3 => ?_)
      by_cases e : j2 = j
      · subst e; exact absurd ⟨x2, x3⟩ c
      · exact v3 j2 (by omega) x2 x3
theorem M_sm_12 {D : Nat} {K : Int → St → Prop} {p q : Nat} {L : Nat → Nat → Int} {o1 o2 : Int} {i : Nat} (ro1 : inR o1) (ro2 : inR o2) (hi : i ≤ p) : ∀ (r s : Nat) (h : St), s + r = 2 ^ q → Mq h p q L → Bm h p q L o1 o2 (i + 1) → (∀ s2, s2 < s → h 135 (256 * i + s2) = vB p q L (aX L o1 o2) i s2) → (∀ h2, ag (fun c _ => c ≠ 135) h h2 → Bm h2 p q L o1 o2 i → wI (D + 1) m_M_sums 5 [(0, vR 109), (1, vI o1), (2, vI o2), (3, vI ((i : Int) + (-1)))] [] h2 K) → wI (D + 1) m_M_sums 12 [(0, vR 109), (1, vI o1), (2, vI o2), (3, vI i), (4, vI s)] [] h K := by
  intro r
  induction r with
  | zero =>
    intro s h hs a b w k
    have h8 := p2le a.2.2.2.1
    have q8 := a.2.2.2.1
    refine s_M_sums_12 _ _ _ _ h K ?_
    rw [a.2.1, shl_1 (by omega)]
    refine ⟨⟨by omega, by omega⟩, ⟨by omega, by omega⟩, fun _ => k h ag_rfl (fun i2 s2 x1 x2 x3 => ?_), fun y => by omega⟩
    by_cases e : i2 = i
    · subst e; exact w s2 (by omega)
    · exact b i2 s2 (by omega) x2 x3
  | succ r ih =>
    intro s h hs a b w k
    have h8 := p2le a.2.2.2.1
    have q8 := a.2.2.2.1
    have p8 := a.2.2.1
    have a1 := a.1
    have a2 := a.2.1
    refine s_M_sums_12 _ _ _ _ h K ?_
    rw [a2, shl_1 (by omega), a1]
    refine ⟨⟨by omega, by omega⟩, ⟨by omega, by omega⟩, fun y => by omega, fun _ => ⟨⟨⟨by omega, by omega⟩, ⟨by omega, by omega⟩, fun y => ⟨by omega, by omega⟩⟩, ?_⟩⟩
    have e1 : ((256 * (i : Int)) + (s : Int)).toNat = 256 * i + s := by omega
    have nx : wI (D + 1) m_M_sums 12 [(0, vR 109), (1, vI o1), (2, vI o2), (3, vI i), (4, vI ((s : Int) + 1))] [] (up h 135 (256 * i + s) (vB p q L (aX L o1 o2) i s)) K := by
      refine ih (s + 1) _ (by omega) (Mq_c (ag_up (by omega) ag_rfl) a) (fun i2 s2 x1 x2 x3 => by rw [up_ne (by omega)]; exact b i2 s2 x1 x2 x3) (fun s2 x => ?_) (fun h2 g2 => k h2 (ag_trans (ag_up (by omega) ag_rfl) g2))
      by_cases e : s2 = s
      · subst e; rw [up_same]
      · rw [up_ne (by omega)]; exact w s2 (by omega)
    by_cases y : i = p
    · subst y
      rw [cif_f (fun z => z rfl)]
      have ex : wI (D + 1) m_M_sums 12 [(0, vR 109), (1, vI o1), (2, vI o2), (3, vI i), (4, vI ((s : Int) + 1))] [] (up h 135 (((256 * (i : Int)) + (s : Int)).toNat) 0) K := by
        rw [e1]; rw [vB_top] at nx; exact nx
      exact s_M_sums_57 _ _ _ _ _ _ h K ⟨by decide, ⟨by omega, by omega⟩, fun _ => ⟨⟨by omega, by omega⟩, ex⟩, fun _ => ⟨⟨by omega, by omega⟩, ⟨by omega, by omega⟩, fun _ => ⟨⟨by omega, by omega⟩, ex⟩, fun z => by omega⟩⟩
    · rw [cif_t (by omega), show ((256 * (i : Int) + 256) + (s : Int)).toNat = 256 * (i + 1) + s by omega, b (i + 1) s (Nat.le_refl _) (by omega) (by omega)]
      exact M_sm_57 ro1 ro2 a b (by omega) (by omega) nx q 0 _ (by omega) (Int.le_refl _) (vB_none (by omega)) (fun j2 x => absurd x (Nat.not_lt_zero _))
theorem M_sm_5 {D : Nat} {K : Int → St → Prop} {p q : Nat} {L : Nat → Nat → Int} {o1 o2 : Int} (ro1 : inR o1) (ro2 : inR o2) : ∀ (i : Nat) (x : Int) (h : St), x = (i : Int) - 1 → i ≤ p + 1 → Mq h p q L → Bm h p q L o1 o2 i → (∀ h2, ag (fun c _ => c ≠ 135) h h2 → Bm h2 p q L o1 o2 0 → K (vB p q L (aX L o1 o2) 0 0) h2) → wI (D + 1) m_M_sums 5 [(0, vR 109), (1, vI o1), (2, vI o2), (3, vI x)] [] h K := by
  intro i
  induction i with
  | zero =>
    intro x h e hi a b k
    refine s_M_sums_5 _ _ _ h K ⟨⟨by omega, by omega⟩, fun _ => ?_, fun y => by omega⟩
    have := b 0 0 (by omega) (by omega) (Nat.two_pow_pos _)
    rw [show h 135 0 = vB p q L (aX L o1 o2) 0 0 from this]
    exact k h ag_rfl b
  | succ i ih =>
    intro x h e hi a b k
    have p8 := a.2.2.1
    have e2 : x = (i : Int) := by omega
    subst e2
    refine s_M_sums_5 _ _ _ h K ⟨⟨by omega, by omega⟩, fun y => by omega, fun _ => ?_⟩
    exact M_sm_12 ro1 ro2 (by omega) (2 ^ q) 0 h (by omega) a b (fun s2 x => absurd x (Nat.not_lt_zero _)) (fun h2 g2 b2 => ih _ h2 (by omega) (by omega) (Mq_c (ag_sub (fun c k p => by omega) g2) a) b2 (fun h3 g3 => k h3 (ag_trans g2 g3)))
theorem c_M_sums {D : Nat} {K : Int → St → Prop} {p q : Nat} {L : Nat → Nat → Int} {o1 o2 : Int} {h : St} (ro1 : inR o1) (ro2 : inR o2) (a : Mq h p q L) (k : ∀ h2, ag (fun c _ => c ≠ 135) h h2 → Bm h2 p q L o1 o2 0 → K (vB p q L (aX L o1 o2) 0 0) h2) : mwpI (D + 2) m_M_sums [vR 109, vI o1, vI o2] h K := by
  refine mI_intro b_M_sums rfl (s_M_sums_0 (d := D) _ _ h K ?_)
  have a1 := a.1
  exact M_sm_5 ro1 ro2 (p + 1) _ h (by omega) (Nat.le_refl _) a (fun i s x1 x2 x3 => by omega) k
def mbA (p q : Nat) (L : Nat → Nat → Int) (i u j : Nat) (m : Int) : Prop := (m = -4 ∧ ∀ j2, j ≤ j2 → j2 < q → ¬ kB p q L i u j2) ∨ ∃ m0 : Nat, m = m0 ∧ j ≤ m0 ∧ m0 < q ∧ kB p q L i u m0 ∧ ∀ j2, j ≤ j2 → j2 < m0 → ¬ kB p q L i u j2
theorem mbA_0 {p q : Nat} {L : Nat → Nat → Int} {i u : Nat} {m : Int} (a : mbA p q L i u 0 m) : m = cif (lst (kB p q L i u) q < q) (lst (kB p q L i u) q : Nat) (-4) := by
  rcases a with ⟨a1, a2⟩ | ⟨m0, a1, a2, a3, a4, a5⟩
  · have e : q = lst (kB p q L i u) q := lst_u (Or.inr ⟨rfl, fun j hj => a2 j (Nat.zero_le _) hj⟩)
    rw [← e, cif_f (Nat.lt_irrefl _)]; exact a1
  · have e : m0 = lst (kB p q L i u) q := lst_u (Or.inl ⟨a3, a4, fun j hj => a5 j (Nat.zero_le _) hj⟩)
    rw [← e, cif_t a3]; exact a1
theorem mbA_R {p q : Nat} {L : Nat → Nat → Int} {i u j : Nat} {m : Int} (a : mbA p q L i u j m) (hq : q ≤ 8) : -4 ≤ m ∧ m ≤ 8 := by
  rcases a with ⟨a1, a2⟩ | ⟨m0, a1, a2, a3, a4, a5⟩ <;> omega
def mbc (h : St) (p q : Nat) (L : Nat → Nat → Int) (c : Nat) : Prop := ∀ i, i < c → h 136 i = cif (bC p q L i < q) (bC p q L i : Nat) (-4)
theorem M_pr_34 {D : Nat} {K : St → Prop} {p q : Nat} {L : Nat → Nat → Int} {i : Nat} (hi : i < p) : ∀ (j : Nat) (x : Int) (h : St), x = (j : Int) - 1 → j ≤ q → Mq h p q L → Bm h p q L (-1) (-1) 0 → mbc h p q L i → mbA p q L i (uS p q L i) j (h 136 i) → (∀ h2, ag (fun c _ => c ≠ 136) h h2 → mbc h2 p q L (i + 1) → wV (D + 2) m_M_pairs 11 [(0, vR 109), (1, vI ((uS p q L (i + 1) : Nat) : Int)), (2, vI ((i : Int) + 1))] [] h2 K) → wV (D + 2) m_M_pairs 34 [(0, vR 109), (1, vI ((uS p q L i : Nat) : Int)), (2, vI i), (3, vI x)] [] h K := by
  intro j
  have rc := uS_r (p := p) (q := q) (L := L) i (by omega)
  have ul := Rc_lt _ _ rc
  have bl := bC_le (p := p) (q := q) (L := L) (i := i)
  induction j with
  | zero =>
    intro x h e hj a b m1 m2 k
    have p8 := a.2.2.1
    have q8 := a.2.2.2.1
    have h8 := p2le q8
    have mr := mbA_R m2 q8
    have e0 : h 136 i = cif (bC p q L i < q) (bC p q L i : Nat) (-4) := mbA_0 m2
    have kk := k h ag_rfl (fun i2 h2 => by
      by_cases y : i2 = i
      · subst y; exact e0
      · exact m1 i2 (by omega))
    refine s_M_pairs_34 _ _ _ h K ⟨⟨by omega, by omega⟩, fun _ => ⟨⟨by omega, by omega⟩, ⟨?_, ?_⟩, ?_⟩, fun y => by omega⟩
    · rw [Int.toNat_natCast]; omega
    · rw [Int.toNat_natCast]; omega
    · rw [Int.toNat_natCast, e0]
      by_cases y : bC p q L i < q
      · have p2 := p2_8 (bC p q L i) (by omega)
        rw [cif_t y, cif_t (by omega), shl_1 (by omega), or3_nat (by omega) (by omega)]
        rw [uS_s, show uW q (uS p q L i) (bC p q L i) = uS p q L i ||| 2 ^ bC p q L i from nif_t y] at kk
        exact kk
      · rw [cif_f y, cif_f (by omega), show (0 : Int) = ((0 : Nat) : Int) from rfl, or3_nat (by omega) (by omega), Nat.or_zero]
        rw [uS_s, show uW q (uS p q L i) (bC p q L i) = uS p q L i from nif_f y] at kk
        exact kk
  | succ j ih =>
    intro x h e hj a b m1 m2 k
    have e2 : x = (j : Int) := by omega
    subst e2
    obtain ⟨a1, a2, a3, a4, a5, a6⟩ := id a
    have h8 := p2le a4
    have mr := mbA_R m2 a4
    have z1 : j < q := by omega
    refine s_M_pairs_34 _ _ _ h K ⟨⟨by omega, by omega⟩, fun y => by omega, fun _ => c_M_has (by omega) (by omega) ?_⟩
    have p2 := p2_8 j (by omega)
    have l1 : uS p q L i ||| 2 ^ j < 2 ^ q := Nat.or_lt_two_pow ul (Nat.pow_lt_pow_right (by decide) z1)
    have e2 : or3 (uS p q L i : Nat) (shl3 1 j) = ((uS p q L i ||| 2 ^ j : Nat) : Int) := by rw [shl_1 (by omega), or3_nat (by omega) (by omega)]
    have e3 : ((256 * (i : Int) + 256) + ((uS p q L i ||| 2 ^ j : Nat) : Int)).toNat = 256 * (i + 1) + (uS p q L i ||| 2 ^ j) := by omega
    have e4 : ((8 * (i : Int)) + (j : Int)).toNat = 8 * i + j := by omega
    have e5 : ((256 * (i : Int)) + ((uS p q L i : Nat) : Int)).toNat = 256 * i + uS p q L i := by omega
    have la := a6 i j hi z1
    have lr := a5 i j
    have w0 := vB_R (q := q) (A := aX L (-1) (-1)) a5 a3 (i := i + 1) (s := uS p q L i ||| 2 ^ j)
    have w1 := vB_R (q := q) (A := aX L (-1) (-1)) a5 a3 (i := i) (s := uS p q L i)
    rw [e2, e3, e4, e5, la, b (i + 1) _ (by omega) (by omega) l1, b i _ (by omega) (by omega) ul, Int.toNat_natCast]
    have ok : (¬ (b2i ((uS p q L i).testBit j = true) ≠ 0) ∧ (¬ (L i j ≤ 0) ∧ (¬ ((L i j + vB p q L (aX L (-1) (-1)) (i + 1) (uS p q L i ||| 2 ^ j)) ≠ vB p q L (aX L (-1) (-1)) i (uS p q L i))))) ↔ kB p q L i (uS p q L i) j := by
      unfold kB W0
      rw [← Bool.not_eq_true]
      constructor
      · rintro ⟨x1, x2, x3⟩
        exact Or.inr ⟨z1, by omega, fun y => x1 (b2i_ne0.mpr y), by omega⟩
      · rintro (x1 | ⟨x1, x2, x3, x4⟩)
        · omega
        · exact ⟨fun y => x3 (b2i_ne0.mp y), by omega, by omega⟩
    refine ⟨⟨b2i_R, fun _ => ⟨⟨by omega, by omega⟩, ⟨by omega, by omega⟩, fun _ => ⟨⟨by omega, by omega⟩, ⟨by omega, by omega⟩, ⟨by omega, by omega⟩, ⟨by omega, by omega⟩⟩⟩⟩, fun _ => ⟨by omega, by omega⟩, ⟨by omega, by omega⟩, ?_⟩
    refine ih _ _ (by omega) (by omega) (Mq_c (ag_up (by omega) ag_rfl) a) (fun i2 s2 x1 x2 x3 => by rw [up_ne (by omega)]; exact b i2 s2 x1 x2 x3) (fun i2 x => by rw [up_ne (by omega)]; exact m1 i2 x) ?_ (fun h2 g2 => k h2 (ag_trans (ag_up (by omega) ag_rfl) g2))
    rw [up_same]
    by_cases c : kB p q L i (uS p q L i) j
    · rw [cif_t (ok.mpr c)]
      exact Or.inr ⟨j, rfl, Nat.le_refl _, z1, c, fun j2 x1 x2 => by omega⟩
    · rw [cif_f (fun y => c (ok.mp y))]
      have cc : ∀ j2, j ≤ j2 → (j + 1 ≤ j2 → ¬ kB p q L i (uS p q L i) j2) → ¬ kB p q L i (uS p q L i) j2 := fun j2 x1 x2 => by
        by_cases y : j2 = j
        · subst y; exact c
        · exact x2 (by omega)
      rcases m2 with ⟨n1, n2⟩ | ⟨m0, n1, n2, n3, n4, n5⟩
      · exact Or.inl ⟨n1, fun j2 x1 x2 => cc j2 x1 (fun y => n2 j2 y x2)⟩
      · exact Or.inr ⟨m0, n1, by omega, n3, n4, fun j2 x1 x2 => cc j2 x1 (fun y => n5 j2 y x2)⟩
theorem M_pr_11 {D : Nat} {K : St → Prop} {p q : Nat} {L : Nat → Nat → Int} : ∀ (r i : Nat) (h : St), i + r = p → Mq h p q L → Bm h p q L (-1) (-1) 0 → mbc h p q L i → (∀ h2, ag (fun c _ => c ≠ 136) h h2 → mbc h2 p q L p → K h2) → wV (D + 2) m_M_pairs 11 [(0, vR 109), (1, vI ((uS p q L i : Nat) : Int)), (2, vI i)] [] h K := by
  intro r
  induction r with
  | zero =>
    intro i h hi a b m k
    have a1 := a.1
    have p8 := a.2.2.1
    have e : i = p := by omega
    subst e
    exact s_M_pairs_11 _ _ h K ⟨⟨by omega, by omega⟩, ⟨by omega, by omega⟩, fun _ => k h ag_rfl m, fun y => by omega⟩
  | succ r ih =>
    intro i h hi a b m k
    have a1 := a.1
    have a2 := a.2.1
    have p8 := a.2.2.1
    have q8 := a.2.2.2.1
    refine s_M_pairs_11 _ _ h K ⟨⟨by omega, by omega⟩, ⟨by omega, by omega⟩, fun y => by omega, fun _ => ⟨⟨by omega, by omega⟩, ?_⟩⟩
    rw [Int.toNat_natCast]
    refine M_pr_34 (by omega) q _ _ (by omega) (Nat.le_refl _) (Mq_c (ag_up (by omega) ag_rfl) a) (fun i2 s2 x1 x2 x3 => by rw [up_ne (by omega)]; exact b i2 s2 x1 x2 x3) (fun i2 x => by rw [up_ne (by omega)]; exact m i2 x) (Or.inl ⟨up_same _ _ _ _, fun j2 x1 x2 => by omega⟩) (fun h2 g2 m2 => ?_)
    have g3 : ag (fun c _ => c ≠ 136) h h2 := ag_trans (ag_up (by omega) ag_rfl) g2
    exact ih (i + 1) h2 (by omega) (Mq_c (ag_sub (fun c k p => by omega) g3) a) (fun i2 s2 x1 x2 x3 => by rw [g3 135 _ (by omega)]; exact b i2 s2 x1 x2 x3) m2 (fun h4 g4 => k h4 (ag_trans g3 g4))
theorem c_M_pairs {D : Nat} {h : St} {K : St → Prop} {p q : Nat} {L : Nat → Nat → Int} (a : Mq h p q L) (k : ∀ h2, ag (fun c _ => c ≠ 135 ∧ c ≠ 136) h h2 → mbc h2 p q L p → K h2) : mwpV (D + 3) m_M_pairs [vR 109] h K := by
  refine mV_intro b_M_pairs rfl (s_M_pairs_0 (d := D) h K (c_M_sums (by decide) (by decide) a (fun h2 g2 b => ?_)))
  exact M_pr_11 p 0 h2 (by omega) (Mq_c (ag_sub (fun c k p => by omega) g2) a) b (fun i hi => absurd hi (Nat.not_lt_zero _)) (fun h3 g3 => k h3 (ag_trans (ag_sub (fun c k p => by omega) g2) (ag_sub (fun c k p => by omega) g3)))
theorem c_M_isSure {D : Nat} {h : St} {K : Int → St → Prop} {p q : Nat} {L : Nat → Nat → Int} {i : Nat} (a : Mq h p q L) (m : mbc h p q L p) (hi : i < p) (hb : bC p q L i < q) (k : ∀ h2, ag (fun c _ => c ≠ 135) h h2 → K (b2i (sureP p q L i)) h2) : mwpI (D + 3) m_M_isSure [vR 109, vI i] h K := by
  have p8 := a.2.2.1
  have q8 := a.2.2.2.1
  refine mI_intro b_M_isSure rfl (s_M_isSure_0 (d := D) _ h K (c_M_sums (by decide) (by decide) a (fun h2 g2 _ => ⟨⟨by omega, by omega⟩, ?_⟩)))
  rw [Int.toNat_natCast, g2 136 _ (by omega), m i hi, cif_t hb]
  refine c_M_sums ⟨by omega, by omega⟩ ⟨by omega, by omega⟩ (Mq_c (ag_sub (fun c k p => by omega) g2) a) (fun h3 g3 _ => ?_)
  have w1 := vB_R (q := q) (A := aX L (-1) (-1)) a.2.2.2.2.1 p8 (i := 0) (s := 0)
  have w2 := vB_R (q := q) (A := aX L i (bC p q L i : Nat)) a.2.2.2.2.1 p8 (i := 0) (s := 0)
  refine ⟨⟨⟨by omega, by omega⟩, ⟨by omega, by omega⟩⟩, ?_⟩
  have e : (¬ (vB p q L (aX L (-1) (-1)) 0 0 ≤ vB p q L (aX L i (bC p q L i : Nat)) 0 0)) ↔ sureP p q L i := by
    have s := sure_iff (L := L) hi hb
    unfold W0 at s
    exact ⟨fun y => ⟨hb, s.mp (by omega)⟩, fun y => by have := s.mpr y.2; omega⟩
  rw [b2i_congr e]
  exact k h3 (ag_trans g2 g3)
theorem M_pl_5 {D : Nat} {h : St} {K : Int → St → Prop} {p : Nat} {b : Int} {N : Nat → Nat} (e29 : h 109 29 = (p : Int)) (hp : p ≤ 8) (hn : ∀ i, i < p → h 132 i = (N i : Int) ∧ N i < 12) (rb : inR b) (k : ∀ z : Int, ((z = -4 ∧ ∀ i, i < p → (N i : Int) ≠ b) ∨ ∃ i, i < p ∧ z = (i : Int) ∧ (N i : Int) = b) → K z h) : ∀ (r c : Nat) (z : Int), c + r = p → ((z = -4 ∧ ∀ i, i < c → (N i : Int) ≠ b) ∨ ∃ i, i < c ∧ z = (i : Int) ∧ (N i : Int) = b) → wI D m_M_placeOf 5 [(0, vR 109), (1, vI b), (2, vI z), (3, vI c)] [] h K := by
  intro r
  induction r with
  | zero =>
    intro c z hc w
    have e : c = p := by omega
    subst e
    exact s_M_placeOf_5 _ _ _ h K ⟨⟨by omega, by omega⟩, ⟨by omega, by omega⟩, fun _ => k z w, fun y => by omega⟩
  | succ r ih =>
    intro c z hc w
    obtain ⟨n1, n2⟩ := hn c (by omega)
    refine s_M_placeOf_5 _ _ _ h K ⟨⟨by omega, by omega⟩, ⟨by omega, by omega⟩, fun y => by omega, fun _ => ⟨⟨by omega, by omega⟩, ?_⟩⟩
    rw [Int.toNat_natCast, n1]
    refine ⟨⟨⟨by omega, by omega⟩, rb⟩, ih (c + 1) _ (by omega) ?_⟩
    by_cases y : (N c : Int) = b
    · rw [cif_f (fun q => q y)]
      exact Or.inr ⟨c, by omega, rfl, y⟩
    · rw [cif_t y]
      rcases w with ⟨w1, w2⟩ | ⟨i, w1, w2⟩
      · refine Or.inl ⟨w1, fun i hi => ?_⟩
        by_cases e : i = c
        · subst e; exact y
        · exact w2 i (by omega)
      · exact Or.inr ⟨i, by omega, w2⟩
theorem c_M_placeOf {D : Nat} {h : St} {K : Int → St → Prop} {p : Nat} {b : Int} {N : Nat → Nat} (e29 : h 109 29 = (p : Int)) (hp : p ≤ 8) (hn : ∀ i, i < p → h 132 i = (N i : Int) ∧ N i < 12) (rb : inR b) (k : ∀ z : Int, ((z = -4 ∧ ∀ i, i < p → (N i : Int) ≠ b) ∨ ∃ i, i < p ∧ z = (i : Int) ∧ (N i : Int) = b) → K z h) : mwpI (D + 1) m_M_placeOf [vR 109, vI b] h K :=
  mI_intro b_M_placeOf rfl (s_M_placeOf_0 (d := D) _ h K (M_pl_5 e29 hp hn rb k p 0 _ (by omega) (Or.inl ⟨rfl, fun i hi => absurd hi (Nat.not_lt_zero _)⟩)))
