theorem s_Book_read_0 {d : Nat}  (h : St) (K : Int → St → Prop) (F : (wI (d + 4) m_Book_read 19 [(0, vR 8), (1, vI 0), (2, vI 0)] [] (up (up (up h 8 7 0) 8 8 0) 8 9 0) K)) : wI (d + 4) m_Book_read 0 [(0, vR 8)] [] h K := by
  refine w_aload_n rfl rfl ?_
  refine w_iconst rfl ?_
  refine w_putI rfl f_Book_35 fw_0_7 rfl rfl rfl ?_
  refine w_aload_n rfl rfl ?_
  refine w_iconst rfl ?_
  refine w_putI rfl f_Book_38 fw_0_8 rfl rfl rfl ?_
  refine w_aload_n rfl rfl ?_
  refine w_iconst rfl ?_
  refine w_putI rfl f_Book_41 fw_0_9 rfl rfl rfl ?_
  refine w_iconst rfl ?_
  refine w_istore_n rfl rfl rfl rfl (w_ls (ls2 := [(0, vR 8), (1, vI 0)]) rfl ?_)
  refine w_iconst rfl ?_
  refine w_istore_n rfl rfl rfl rfl (w_ls (ls2 := [(0, vR 8), (1, vI 0), (2, vI 0)]) rfl ?_)
  exact F
theorem s_Book_read_19 {d : Nat}  (x1 x2 : Int) (h : St) (K : Int → St → Prop) (F : (inR x2) ∧ ((40 ≤ x2 → (K ((-4)) h)) ∧ (¬ (40 ≤ x2) → (inR x1) ∧ (inR (h 8 1)) ∧ (((h 8 1) ≤ x1 → (K ((-4)) h)) ∧ (¬ ((h 8 1) ≤ x1) → (mwpI (d + 4) m_Book_readItem [vR 8, vI x1] h (fun z6 h6 => (inR z6) ∧ ((z6 ≠ ((-4)) → (wI (d + 4) m_Book_read 19 [(0, vR 8), (1, vI z6), (2, vI (x2 + 1))] [] h6 K)) ∧ (¬ (z6 ≠ ((-4))) → (K x1 h6)))))))))) : wI (d + 4) m_Book_read 19 [(0, vR 8), (1, vI x1), (2, vI x2)] [] h K := by
  refine w_iload_n rfl rfl ?_
  refine w_bipush (by decide) (by decide) rfl ?_
  obtain ⟨b1, F⟩ := F
  refine w_icmp_ge (tgt := 55) rfl (by decide) ⟨b1, (r_lit rfl)⟩ (fun q2 => ?_) (fun q2 => ?_)
  · replace F := F.1 q2
    refine w_bipush (by decide) (by decide) rfl ?_
    exact w_iret rfl rfl ⟨rfl, rfl, _, rfl, F⟩
  · replace F := F.2 q2
    refine w_iload_n rfl rfl ?_
    refine w_aload_n rfl rfl ?_
    refine w_getI rfl f_Book_15 rfl rfl rfl ?_
    obtain ⟨b3, F⟩ := F
    obtain ⟨b4, F⟩ := F
    refine w_icmp_ge (tgt := 55) rfl (by decide) ⟨b3, b4⟩ (fun q5 => ?_) (fun q5 => ?_)
    · replace F := F.1 q5
      refine w_bipush (by decide) (by decide) rfl ?_
      exact w_iret rfl rfl ⟨rfl, rfl, _, rfl, F⟩
    · replace F := F.2 q5
      refine w_aload_n rfl rfl ?_
      refine w_iload_n rfl rfl ?_
      refine c_VI [vI x1] [] rfl b_Book_readItem k_Book_61 rfl rfl rfl rfl rfl rfl (mwpI_mono (fun z6 h6 F => ?_) F)
      refine w_istore_n rfl rfl rfl rfl (w_ls (ls2 := [(0, vR 8), (1, vI x1), (2, vI x2), (3, vI z6)]) rfl ?_)
      refine w_iload_n rfl rfl ?_
      refine w_bipush (by decide) (by decide) rfl ?_
      obtain ⟨b7, F⟩ := F
      refine w_icmp_ne (tgt := 47) rfl (by decide) ⟨b7, (r_lit rfl)⟩ (fun q8 => ?_) (fun q8 => ?_)
      · replace F := F.1 q8
        refine w_iload_n rfl rfl ?_
        refine w_istore_n rfl rfl rfl rfl (w_ls (ls2 := [(0, vR 8), (1, vI z6), (2, vI x2), (3, vI z6)]) rfl ?_)
        refine w_iinc rfl rfl rfl rfl rfl (w_ls (ls2 := [(0, vR 8), (1, vI z6), (2, vI (x2 + 1)), (3, vI z6)]) rfl ?_)
        refine w_goto (tgt := 19) rfl (by decide) ?_
        exact w_kp [0, 1, 2] F
      · replace F := F.2 q8
        refine w_iload_n rfl rfl ?_
        exact w_iret rfl rfl ⟨rfl, rfl, _, rfl, F⟩
theorem s_Book_readItem_0 {d : Nat}  (x1 : Int) (h : St) (K : Int → St → Prop) (F : (0 ≤ x1 ∧ x1 < 200) ∧ (mwpI (d + 3) m_Book_numbersBehind [vI (h 9 x1.toNat)] h (fun z2 h2 => (wI (d + 3) m_Book_readItem 17 [(0, vR 8), (1, vI x1), (2, vI z2), (3, vI (x1 + 1)), (4, vI 0)] [] h2 K)))) : wI (d + 3) m_Book_readItem 0 [(0, vR 8), (1, vI x1)] [] h K := by
  refine w_aload_n rfl rfl ?_
  refine w_getR rfl f_Book_11 rfl rfl rfl rfl rfl ?_
  refine w_iload_n rfl rfl ?_
  obtain ⟨b1, F⟩ := F
  refine w_baload rfl rfl rfl b1 ?_
  refine c_SI [vI (h 9 x1.toNat)] [] rfl b_Book_numbersBehind k_Book_65 rfl rfl rfl (mwpI_mono (fun z2 h2 F => ?_) F)
  refine w_istore_n rfl rfl rfl rfl (w_ls (ls2 := [(0, vR 8), (1, vI x1), (2, vI z2)]) rfl ?_)
  refine w_iload_n rfl rfl ?_
  refine w_iconst rfl ?_
  refine w_iadd rfl ?_
  refine w_istore_n rfl rfl rfl rfl (w_ls (ls2 := [(0, vR 8), (1, vI x1), (2, vI z2), (3, vI (x1 + 1))]) rfl ?_)
  refine w_iconst rfl ?_
  refine w_istore rfl rfl rfl rfl (w_ls (ls2 := [(0, vR 8), (1, vI x1), (2, vI z2), (3, vI (x1 + 1)), (4, vI 0)]) rfl ?_)
  exact F
theorem s_Book_readItem_17 {d : Nat}  (x1 x2 x3 x4 : Int) (h : St) (K : Int → St → Prop) (F : (inR x4) ∧ (inR x2) ∧ ((x2 ≤ x4 → ((x2 = 0 → (K ((-4)) h)) ∧ (¬ (x2 = 0) → (0 ≤ x1 ∧ x1 < 200) ∧ (mwpI (d + 3) m_Book_isSound [vR 8, vI (h 9 x1.toNat)] h (fun z6 h6 => (inR z6) ∧ ((z6 ≠ 0 → (mwpV (d + 3) m_Book_addItem [vR 8, vI (h6 9 x1.toNat)] h6 (fun h9 => (K x3 h9)))) ∧ (¬ (z6 ≠ 0) → (K ((-4)) h6)))))))) ∧ (¬ (x2 ≤ x4) → (mwpI (d + 3) m_Book_readNumber [vR 8, vI x3, vI x4] h (fun z10 h10 => (((inR (x4 + 1)))) ∧ (inR z10) ∧ ((z10 = ((-4)) → (K ((-4)) h10)) ∧ (¬ (z10 = ((-4))) → (inR (h10 8 1)) ∧ (((h10 8 1) ≤ z10 → (K ((-4)) h10)) ∧ (¬ ((h10 8 1) ≤ z10) → (0 ≤ z10 ∧ z10 < 200) ∧ (inR (h10 9 z10.toNat)) ∧ (inR (cif (x2 ≤ (x4 + 1)) 59 44)) ∧ (((h10 9 z10.toNat) = (cif (x2 ≤ (x4 + 1)) 59 44) → (wI (d + 3) m_Book_readItem 17 [(0, vR 8), (1, vI x1), (2, vI x2), (3, vI (z10 + 1)), (4, vI (x4 + 1))] [] h10 K)) ∧ (¬ ((h10 9 z10.toNat) = (cif (x2 ≤ (x4 + 1)) 59 44)) → (K ((-4)) h10)))))))))))) : wI (d + 3) m_Book_readItem 17 [(0, vR 8), (1, vI x1), (2, vI x2), (3, vI x3), (4, vI x4)] [] h K := by
  refine w_iload rfl rfl ?_
  refine w_iload_n rfl rfl ?_
  obtain ⟨b1, F⟩ := F
  obtain ⟨b2, F⟩ := F
  refine w_icmp_ge (tgt := 85) rfl (by decide) ⟨b1, b2⟩ (fun q3 => ?_) (fun q3 => ?_)
  · replace F := F.1 q3
    refine w_iload_n rfl rfl ?_
    refine w_if_eq (tgt := 102) rfl (by decide) b2 (fun q4 => ?_) (fun q4 => ?_)
    · replace F := F.1 q4
      refine w_bipush (by decide) (by decide) rfl ?_
      exact w_iret rfl rfl ⟨rfl, rfl, _, rfl, F⟩
    · replace F := F.2 q4
      refine w_aload_n rfl rfl ?_
      refine w_aload_n rfl rfl ?_
      refine w_getR rfl f_Book_11 rfl rfl rfl rfl rfl ?_
      refine w_iload_n rfl rfl ?_
      obtain ⟨b5, F⟩ := F
      refine w_baload rfl rfl rfl b5 ?_
      refine c_VI [vI (h 9 x1.toNat)] [] rfl b_Book_isSound k_Book_72 rfl rfl rfl rfl rfl rfl (mwpI_mono (fun z6 h6 F => ?_) F)
      obtain ⟨b7, F⟩ := F
      refine w_if_ne (tgt := 105) rfl (by decide) b7 (fun q8 => ?_) (fun q8 => ?_)
      · replace F := F.1 q8
        refine w_aload_n rfl rfl ?_
        refine w_aload_n rfl rfl ?_
        refine w_getR rfl f_Book_11 rfl rfl rfl rfl rfl ?_
        refine w_iload_n rfl rfl ?_
        refine w_baload rfl rfl rfl b5 ?_
        refine c_VV [vI (h6 9 x1.toNat)] [] rfl b_Book_addItem k_Book_76 rfl rfl rfl rfl rfl rfl (mwpV_mono (fun h9 F => ?_) F)
        refine w_iload_n rfl rfl ?_
        exact w_iret rfl rfl ⟨rfl, rfl, _, rfl, F⟩
      · replace F := F.2 q8
        refine w_bipush (by decide) (by decide) rfl ?_
        exact w_iret rfl rfl ⟨rfl, rfl, _, rfl, F⟩
  · replace F := F.2 q3
    refine w_aload_n rfl rfl ?_
    refine w_iload_n rfl rfl ?_
    refine w_iload rfl rfl ?_
    refine c_VI [vI x3, vI x4] [] rfl b_Book_readNumber k_Book_68 rfl rfl rfl rfl rfl rfl (mwpI_mono (fun z10 h10 F => ?_) F)
    refine w_istore_n rfl rfl rfl rfl (w_ls (ls2 := [(0, vR 8), (1, vI x1), (2, vI x2), (3, vI z10), (4, vI x4)]) rfl ?_)
    refine w_iload rfl rfl ?_
    refine w_iconst rfl ?_
    refine w_iadd rfl ?_
    refine w_iload_n rfl rfl ?_
    obtain ⟨G, F⟩ := F
    have J : ∀ (t13 : Int), t13 = cif (x2 ≤ (x4 + 1)) 59 44 → wI (d + 3) m_Book_readItem 46 [(0, vR 8), (1, vI x1), (2, vI x2), (3, vI z10), (4, vI x4)] [vI t13] h10 K := by
      intro t13 et13
      subst et13
      refine w_istore rfl rfl rfl rfl (w_ls (ls2 := [(0, vR 8), (1, vI x1), (2, vI x2), (3, vI z10), (4, vI x4), (5, vI (cif (x2 ≤ (x4 + 1)) 59 44))]) rfl ?_)
      refine w_iload_n rfl rfl ?_
      refine w_bipush (by decide) (by decide) rfl ?_
      obtain ⟨b14, F⟩ := F
      refine w_icmp_eq (tgt := 73) rfl (by decide) ⟨b14, (r_lit rfl)⟩ (fun q15 => ?_) (fun q15 => ?_)
      · replace F := F.1 q15
        refine w_bipush (by decide) (by decide) rfl ?_
        exact w_iret rfl rfl ⟨rfl, rfl, _, rfl, F⟩
      · replace F := F.2 q15
        refine w_iload_n rfl rfl ?_
        refine w_aload_n rfl rfl ?_
        refine w_getI rfl f_Book_15 rfl rfl rfl ?_
        obtain ⟨b16, F⟩ := F
        refine w_icmp_ge (tgt := 73) rfl (by decide) ⟨b14, b16⟩ (fun q17 => ?_) (fun q17 => ?_)
        · replace F := F.1 q17
          refine w_bipush (by decide) (by decide) rfl ?_
          exact w_iret rfl rfl ⟨rfl, rfl, _, rfl, F⟩
        · replace F := F.2 q17
          refine w_aload_n rfl rfl ?_
          refine w_getR rfl f_Book_11 rfl rfl rfl rfl rfl ?_
          refine w_iload_n rfl rfl ?_
          obtain ⟨b18, F⟩ := F
          refine w_baload rfl rfl rfl b18 ?_
          refine w_iload rfl rfl ?_
          obtain ⟨b19, F⟩ := F
          obtain ⟨b20, F⟩ := F
          refine w_icmp_eq (tgt := 76) rfl (by decide) ⟨b19, b20⟩ (fun q21 => ?_) (fun q21 => ?_)
          · replace F := F.1 q21
            refine w_iinc rfl rfl rfl rfl rfl (w_ls (ls2 := [(0, vR 8), (1, vI x1), (2, vI x2), (3, vI (z10 + 1)), (4, vI x4), (5, vI (cif (x2 ≤ (x4 + 1)) 59 44))]) rfl ?_)
            refine w_iinc rfl rfl rfl rfl rfl (w_ls (ls2 := [(0, vR 8), (1, vI x1), (2, vI x2), (3, vI (z10 + 1)), (4, vI (x4 + 1)), (5, vI (cif (x2 ≤ (x4 + 1)) 59 44))]) rfl ?_)
            refine w_goto (tgt := 17) rfl (by decide) ?_
            exact w_kp [0, 1, 2, 3, 4] F
          · replace F := F.2 q21
            refine w_bipush (by decide) (by decide) rfl ?_
            exact w_iret rfl rfl ⟨rfl, rfl, _, rfl, F⟩
    have b11 := G
    refine w_icmp_ge (tgt := 44) rfl (by decide) ⟨b11, b2⟩ (fun q12 => ?_) (fun q12 => ?_)
    · refine w_bipush (by decide) (by decide) rfl ?_
      exact J _ (cif_t q12).symm
    · refine w_bipush (by decide) (by decide) rfl ?_
      refine w_goto (tgt := 46) rfl (by decide) ?_
      exact J _ (cif_f q12).symm
theorem s_Book_numbersBehind_0 {d : Nat}  (x0 : Int) (h : St) (K : Int → St → Prop) (F : (inR x0) ∧ ((x0 = 112 → (K 2 h)) ∧ (¬ (x0 = 112) → ((x0 ≠ 107 → (K (cif (x0 ≠ 120) 0 3) h)) ∧ (¬ (x0 ≠ 107) → (K 2 h)))))) : wI d m_Book_numbersBehind 0 [(0, vI x0)] [] h K := by
  refine w_iload_n rfl rfl ?_
  refine w_bipush (by decide) (by decide) rfl ?_
  obtain ⟨b1, F⟩ := F
  refine w_icmp_eq (tgt := 12) rfl (by decide) ⟨b1, (r_lit rfl)⟩ (fun q2 => ?_) (fun q2 => ?_)
  · replace F := F.1 q2
    refine w_iconst rfl ?_
    exact w_iret rfl rfl ⟨rfl, rfl, _, rfl, F⟩
  · replace F := F.2 q2
    refine w_iload_n rfl rfl ?_
    refine w_bipush (by decide) (by decide) rfl ?_
    refine w_icmp_ne (tgt := 14) rfl (by decide) ⟨b1, (r_lit rfl)⟩ (fun q3 => ?_) (fun q3 => ?_)
    · replace F := F.1 q3
      refine w_iload_n rfl rfl ?_
      refine w_bipush (by decide) (by decide) rfl ?_
      have J : ∀ (t5 : Int), t5 = cif (x0 ≠ 120) 0 3 → wI d m_Book_numbersBehind 25 [(0, vI x0)] [vI t5] h K := by
        intro t5 et5
        subst et5
        exact w_iret rfl rfl ⟨rfl, rfl, _, rfl, F⟩
      refine w_icmp_ne (tgt := 24) rfl (by decide) ⟨b1, (r_lit rfl)⟩ (fun q4 => ?_) (fun q4 => ?_)
      · refine w_iconst rfl ?_
        exact J _ (cif_t q4).symm
      · refine w_iconst rfl ?_
        refine w_goto (tgt := 25) rfl (by decide) ?_
        exact J _ (cif_f q4).symm
    · replace F := F.2 q3
      refine w_iconst rfl ?_
      exact w_iret rfl rfl ⟨rfl, rfl, _, rfl, F⟩
theorem s_Book_readNumber_0 {d : Nat}  (x1 x2 : Int) (h : St) (K : Int → St → Prop) (F : (wI (d + 1) m_Book_readNumber 5 [(0, vR 8), (1, vI x1), (2, vI x2), (3, vI 0), (4, vI 0)] [] h K)) : wI (d + 1) m_Book_readNumber 0 [(0, vR 8), (1, vI x1), (2, vI x2)] [] h K := by
  refine w_iconst rfl ?_
  refine w_istore_n rfl rfl rfl rfl (w_ls (ls2 := [(0, vR 8), (1, vI x1), (2, vI x2), (3, vI 0)]) rfl ?_)
  refine w_iconst rfl ?_
  refine w_istore rfl rfl rfl rfl (w_ls (ls2 := [(0, vR 8), (1, vI x1), (2, vI x2), (3, vI 0), (4, vI 0)]) rfl ?_)
  exact F
theorem s_Book_readNumber_5 {d : Nat}  (x1 x2 x3 x4 : Int) (h : St) (K : Int → St → Prop) (F : (inR x4) ∧ ((3 ≤ x4 → (0 ≤ x2 ∧ x2 < 3) ∧ (K (cif (x4 ≠ 0) (x1 + x4) ((-4))) (up h 10 x2.toNat x3))) ∧ (¬ (3 ≤ x4) → (mwpI (d + 1) m_Book_isFigure [vR 8, vI (x1 + x4)] h (fun z6 h6 => (inR z6) ∧ ((z6 = 0 → (0 ≤ x2 ∧ x2 < 3) ∧ (K (cif (x4 ≠ 0) (x1 + x4) ((-4))) (up h6 10 x2.toNat x3))) ∧ (¬ (z6 = 0) → (0 ≤ x1 + x4 ∧ x1 + x4 < 200) ∧ (wI (d + 1) m_Book_readNumber 5 [(0, vR 8), (1, vI x1), (2, vI x2), (3, vI ((x3 * 10) + ((h6 9 ((x1 + x4).toNat)) - 48))), (4, vI (x4 + 1))] [] h6 K)))))))) : wI (d + 1) m_Book_readNumber 5 [(0, vR 8), (1, vI x1), (2, vI x2), (3, vI x3), (4, vI x4)] [] h K := by
  refine w_iload rfl rfl ?_
  refine w_iconst rfl ?_
  obtain ⟨b1, F⟩ := F
  refine w_icmp_ge (tgt := 46) rfl (by decide) ⟨b1, (r_lit rfl)⟩ (fun q2 => ?_) (fun q2 => ?_)
  · replace F := F.1 q2
    refine w_aload_n rfl rfl ?_
    refine w_getR rfl f_Book_19 rfl rfl rfl rfl rfl ?_
    refine w_iload_n rfl rfl ?_
    refine w_iload_n rfl rfl ?_
    obtain ⟨b3, F⟩ := F
    refine w_iastore rfl rfl rfl b3 ?_
    refine w_iload rfl rfl ?_
    have J : ∀ (t5 : Int), t5 = cif (x4 ≠ 0) (x1 + x4) ((-4)) → wI (d + 1) m_Book_readNumber 67 [(0, vR 8), (1, vI x1), (2, vI x2), (3, vI x3), (4, vI x4)] [vI t5] (up h 10 x2.toNat x3) K := by
      intro t5 et5
      subst et5
      exact w_iret rfl rfl ⟨rfl, rfl, _, rfl, F⟩
    refine w_if_ne (tgt := 63) rfl (by decide) b1 (fun q4 => ?_) (fun q4 => ?_)
    · refine w_iload_n rfl rfl ?_
      refine w_iload rfl rfl ?_
      refine w_iadd rfl ?_
      exact J _ (cif_t q4).symm
    · refine w_bipush (by decide) (by decide) rfl ?_
      refine w_goto (tgt := 67) rfl (by decide) ?_
      exact J _ (cif_f q4).symm
  · replace F := F.2 q2
    refine w_aload_n rfl rfl ?_
    refine w_iload_n rfl rfl ?_
    refine w_iload rfl rfl ?_
    refine w_iadd rfl ?_
    refine c_VI [vI (x1 + x4)] [] rfl b_Book_isFigure k_Book_80 rfl rfl rfl rfl rfl rfl (mwpI_mono (fun z6 h6 F => ?_) F)
    obtain ⟨b7, F⟩ := F
    refine w_if_eq (tgt := 46) rfl (by decide) b7 (fun q8 => ?_) (fun q8 => ?_)
    · replace F := F.1 q8
      refine w_aload_n rfl rfl ?_
      refine w_getR rfl f_Book_19 rfl rfl rfl rfl rfl ?_
      refine w_iload_n rfl rfl ?_
      refine w_iload_n rfl rfl ?_
      obtain ⟨b9, F⟩ := F
      refine w_iastore rfl rfl rfl b9 ?_
      refine w_iload rfl rfl ?_
      have J : ∀ (t11 : Int), t11 = cif (x4 ≠ 0) (x1 + x4) ((-4)) → wI (d + 1) m_Book_readNumber 67 [(0, vR 8), (1, vI x1), (2, vI x2), (3, vI x3), (4, vI x4)] [vI t11] (up h6 10 x2.toNat x3) K := by
        intro t11 et11
        subst et11
        exact w_iret rfl rfl ⟨rfl, rfl, _, rfl, F⟩
      refine w_if_ne (tgt := 63) rfl (by decide) b1 (fun q10 => ?_) (fun q10 => ?_)
      · refine w_iload_n rfl rfl ?_
        refine w_iload rfl rfl ?_
        refine w_iadd rfl ?_
        exact J _ (cif_t q10).symm
      · refine w_bipush (by decide) (by decide) rfl ?_
        refine w_goto (tgt := 67) rfl (by decide) ?_
        exact J _ (cif_f q10).symm
    · replace F := F.2 q8
      refine w_iload_n rfl rfl ?_
      refine w_bipush (by decide) (by decide) rfl ?_
      refine w_imul rfl ?_
      refine w_aload_n rfl rfl ?_
      refine w_getR rfl f_Book_11 rfl rfl rfl rfl rfl ?_
      refine w_iload_n rfl rfl ?_
      refine w_iload rfl rfl ?_
      refine w_iadd rfl ?_
      obtain ⟨b12, F⟩ := F
      refine w_baload rfl rfl rfl b12 ?_
      refine w_bipush (by decide) (by decide) rfl ?_
      refine w_isub rfl ?_
      refine w_iadd rfl ?_
      refine w_istore_n rfl rfl rfl rfl (w_ls (ls2 := [(0, vR 8), (1, vI x1), (2, vI x2), (3, vI ((x3 * 10) + ((h6 9 ((x1 + x4).toNat)) - 48))), (4, vI x4)]) rfl ?_)
      refine w_iinc rfl rfl rfl rfl rfl (w_ls (ls2 := [(0, vR 8), (1, vI x1), (2, vI x2), (3, vI ((x3 * 10) + ((h6 9 ((x1 + x4).toNat)) - 48))), (4, vI (x4 + 1))]) rfl ?_)
      refine w_goto (tgt := 5) rfl (by decide) ?_
      exact F
theorem s_Book_isFigure_0 {d : Nat}  (x1 : Int) (h : St) (K : Int → St → Prop) (F : (((inR x1) ∧ (inR (h 8 1)) ∧ (¬ ((h 8 1) ≤ x1) → ((0 ≤ x1 ∧ x1 < 200) ∧ (inR (h 9 x1.toNat)))))) ∧ (K (b2i (¬ ((h 8 1) ≤ x1) ∧ (¬ ((h 9 x1.toNat) < 48) ∧ (¬ (57 < (h 9 x1.toNat)))))) h)) : wI d m_Book_isFigure 0 [(0, vR 8), (1, vI x1)] [] h K := by
  refine w_iload_n rfl rfl ?_
  refine w_aload_n rfl rfl ?_
  refine w_getI rfl f_Book_15 rfl rfl rfl ?_
  obtain ⟨G, F⟩ := F
  have J : ∀ (t8 : Int), t8 = b2i (¬ ((h 8 1) ≤ x1) ∧ (¬ ((h 9 x1.toNat) < 48) ∧ (¬ (57 < (h 9 x1.toNat))))) → wI d m_Book_isFigure 35 [(0, vR 8), (1, vI x1)] [vI t8] h K := by
    intro t8 et8
    subst et8
    exact w_zret rfl rfl b2i_01 ⟨rfl, rfl, _, rfl, F⟩
  obtain ⟨b1, b2, gb_⟩ := G
  refine w_icmp_ge (tgt := 34) rfl (by decide) ⟨b1, b2⟩ (fun q3 => ?_) (fun q3 => ?_)
  · refine w_iconst rfl ?_
    exact J _ (b2i_f (fun z => z.1 q3)).symm
  · have G := gb_ q3
    obtain ⟨b4, b5⟩ := G
    refine w_aload_n rfl rfl ?_
    refine w_getR rfl f_Book_11 rfl rfl rfl rfl rfl ?_
    refine w_iload_n rfl rfl ?_
    refine w_baload rfl rfl rfl b4 ?_
    refine w_bipush (by decide) (by decide) rfl ?_
    refine w_icmp_lt (tgt := 34) rfl (by decide) ⟨b5, (r_lit rfl)⟩ (fun q6 => ?_) (fun q6 => ?_)
    · refine w_iconst rfl ?_
      exact J _ (b2i_f (fun z => (fun z => z.1 q6) z.2)).symm
    · refine w_aload_n rfl rfl ?_
      refine w_getR rfl f_Book_11 rfl rfl rfl rfl rfl ?_
      refine w_iload_n rfl rfl ?_
      refine w_baload rfl rfl rfl b4 ?_
      refine w_bipush (by decide) (by decide) rfl ?_
      refine w_icmp_gt (tgt := 34) rfl (by decide) ⟨b5, (r_lit rfl)⟩ (fun q7 => ?_) (fun q7 => ?_)
      · refine w_iconst rfl ?_
        exact J _ (b2i_f (fun z => (fun z => (fun z => z q7) z.2) z.2)).symm
      · refine w_iconst rfl ?_
        refine w_goto (tgt := 35) rfl (by decide) ?_
        exact J _ (b2i_t ⟨q3, ⟨q6, q7⟩⟩).symm
theorem s_Book_isSound_0 {d : Nat}  (x1 : Int) (h : St) (K : Int → St → Prop) (F : (inR (h 10 0)) ∧ ((0 ≤ (h 10 0) ∧ (h 10 0) ≤ 11 → (inR x1) ∧ ((x1 ≠ 107 → (inR (h 10 1)) ∧ ((0 ≤ (h 10 1) ∧ (h 10 1) ≤ 11 → ((x1 ≠ 120 → (((inR (and3 (shr3 (h 8 8) (h 10 0)) 1)) ∧ (¬ ((and3 (shr3 (h 8 8) (h 10 0)) 1) ≠ 0) → ((inR (and3 (shr3 (h 8 9) (h 10 1)) 1)))))) ∧ (K (b2i (¬ ((and3 (shr3 (h 8 8) (h 10 0)) 1) ≠ 0) ∧ (¬ ((and3 (shr3 (h 8 9) (h 10 1)) 1) ≠ 0)))) h)) ∧ (¬ (x1 ≠ 120) → (((h 10 0) = (h 10 1) → (K 0 h)) ∧ (¬ ((h 10 0) = (h 10 1)) → (mwpI (d + 2) m_Book_isChangeDay [vI (h 10 2)] h (fun z14 h14 => (((inR z14))) ∧ (K (b2i (¬ (z14 = 0))) h14)))))))) ∧ (¬ (0 ≤ (h 10 1) ∧ (h 10 1) ≤ 11) → (K 0 h)))) ∧ (¬ (x1 ≠ 107) → (mwpI (d + 2) m_Book_isChangeDay [vI (h 10 1)] h (fun z18 h18 => (z18 = 0 ∨ z18 = 1) ∧ (K z18 h18)))))) ∧ (¬ (0 ≤ (h 10 0) ∧ (h 10 0) ≤ 11) → (K 0 h)))) : wI (d + 2) m_Book_isSound 0 [(0, vR 8), (1, vI x1)] [] h K := by
  refine w_aload_n rfl rfl ?_
  refine w_getR rfl f_Book_19 rfl rfl rfl rfl rfl ?_
  refine w_iconst rfl ?_
  refine w_iaload rfl rfl rfl ⟨by decide, by decide⟩ ?_
  refine w_istore_n rfl rfl rfl rfl (w_ls (ls2 := [(0, vR 8), (1, vI x1), (2, vI (h 10 0))]) rfl ?_)
  refine w_aload_n rfl rfl ?_
  refine w_getR rfl f_Book_19 rfl rfl rfl rfl rfl ?_
  refine w_iconst rfl ?_
  refine w_iaload rfl rfl rfl ⟨by decide, by decide⟩ ?_
  refine w_istore_n rfl rfl rfl rfl (w_ls (ls2 := [(0, vR 8), (1, vI x1), (2, vI (h 10 0)), (3, vI (h 10 1))]) rfl ?_)
  refine w_iload_n rfl rfl ?_
  obtain ⟨b1, F⟩ := F
  refine c_SNI [vI (h 10 0)] [] rfl b_C_isName k_Book_83 rfl rfl rfl (c_C_isName b1 ?_)
  refine w_ifne_b (tgt := 23) rfl (by decide) (fun q2 => ?_) (fun q2 => ?_)
  · replace F := F.1 q2
    refine w_iload_n rfl rfl ?_
    refine w_bipush (by decide) (by decide) rfl ?_
    obtain ⟨b3, F⟩ := F
    refine w_icmp_ne (tgt := 34) rfl (by decide) ⟨b3, (r_lit rfl)⟩ (fun q4 => ?_) (fun q4 => ?_)
    · replace F := F.1 q4
      refine w_iload_n rfl rfl ?_
      obtain ⟨b5, F⟩ := F
      refine c_SNI [vI (h 10 1)] [] rfl b_C_isName k_Book_83 rfl rfl rfl (c_C_isName b5 ?_)
      refine w_ifne_b (tgt := 43) rfl (by decide) (fun q6 => ?_) (fun q6 => ?_)
      · replace F := F.1 q6
        refine w_iload_n rfl rfl ?_
        refine w_bipush (by decide) (by decide) rfl ?_
        refine w_icmp_ne (tgt := 72) rfl (by decide) ⟨b3, (r_lit rfl)⟩ (fun q7 => ?_) (fun q7 => ?_)
        · replace F := F.1 q7
          refine w_aload_n rfl rfl ?_
          refine w_getI rfl f_Book_38 rfl rfl rfl ?_
          refine w_iload_n rfl rfl ?_
          refine w_ishr rfl ?_
          refine w_iconst rfl ?_
          refine w_iand rfl ?_
          obtain ⟨G, F⟩ := F
          have J : ∀ (t12 : Int), t12 = b2i (¬ ((and3 (shr3 (h 8 8) (h 10 0)) 1) ≠ 0) ∧ (¬ ((and3 (shr3 (h 8 9) (h 10 1)) 1) ≠ 0))) → wI (d + 2) m_Book_isSound 99 [(0, vR 8), (1, vI x1), (2, vI (h 10 0)), (3, vI (h 10 1))] [vI t12] h K := by
            intro t12 et12
            subst et12
            exact w_zret rfl rfl b2i_01 ⟨rfl, rfl, _, rfl, F⟩
          obtain ⟨b8, gb_⟩ := G
          refine w_if_ne (tgt := 98) rfl (by decide) b8 (fun q9 => ?_) (fun q9 => ?_)
          · refine w_iconst rfl ?_
            exact J _ (b2i_f (fun z => z.1 q9)).symm
          · have G := gb_ q9
            have b10 := G
            refine w_aload_n rfl rfl ?_
            refine w_getI rfl f_Book_41 rfl rfl rfl ?_
            refine w_iload_n rfl rfl ?_
            refine w_ishr rfl ?_
            refine w_iconst rfl ?_
            refine w_iand rfl ?_
            refine w_if_ne (tgt := 98) rfl (by decide) b10 (fun q11 => ?_) (fun q11 => ?_)
            · refine w_iconst rfl ?_
              exact J _ (b2i_f (fun z => (fun z => z q11) z.2)).symm
            · refine w_iconst rfl ?_
              refine w_goto (tgt := 99) rfl (by decide) ?_
              exact J _ (b2i_t ⟨q9, q11⟩).symm
        · replace F := F.2 q7
          refine w_iload_n rfl rfl ?_
          refine w_iload_n rfl rfl ?_
          refine w_icmp_eq (tgt := 70) rfl (by decide) ⟨b1, b5⟩ (fun q13 => ?_) (fun q13 => ?_)
          · replace F := F.1 q13
            refine w_iconst rfl ?_
            exact w_zret rfl rfl (by decide) ⟨rfl, rfl, _, rfl, F⟩
          · replace F := F.2 q13
            refine w_aload_n rfl rfl ?_
            refine w_getR rfl f_Book_19 rfl rfl rfl rfl rfl ?_
            refine w_iconst rfl ?_
            refine w_iaload rfl rfl rfl ⟨by decide, by decide⟩ ?_
            refine c_SI [vI (h 10 2)] [] rfl b_Book_isChangeDay k_Book_86 rfl rfl rfl (mwpI_mono (fun z14 h14 F => ?_) F)
            obtain ⟨G, F⟩ := F
            have J : ∀ (t17 : Int), t17 = b2i (¬ (z14 = 0)) → wI (d + 2) m_Book_isSound 71 [(0, vR 8), (1, vI x1), (2, vI (h 10 0)), (3, vI (h 10 1))] [vI t17] h14 K := by
              intro t17 et17
              subst et17
              exact w_zret rfl rfl b2i_01 ⟨rfl, rfl, _, rfl, F⟩
            have b15 := G
            refine w_if_eq (tgt := 70) rfl (by decide) b15 (fun q16 => ?_) (fun q16 => ?_)
            · refine w_iconst rfl ?_
              exact J _ (b2i_f (fun z => z q16)).symm
            · refine w_iconst rfl ?_
              refine w_goto (tgt := 71) rfl (by decide) ?_
              exact J _ (b2i_t q16).symm
      · replace F := F.2 q6
        refine w_iconst rfl ?_
        exact w_zret rfl rfl (by decide) ⟨rfl, rfl, _, rfl, F⟩
    · replace F := F.2 q4
      refine w_iload_n rfl rfl ?_
      refine c_SI [vI (h 10 1)] [] rfl b_Book_isChangeDay k_Book_86 rfl rfl rfl (mwpI_mono (fun z18 h18 F => ?_) F)
      obtain ⟨b19, F⟩ := F
      exact w_zret rfl rfl b19 ⟨rfl, rfl, _, rfl, F⟩
  · replace F := F.2 q2
    refine w_iconst rfl ?_
    exact w_zret rfl rfl (by decide) ⟨rfl, rfl, _, rfl, F⟩
theorem s_Book_isChangeDay_0 {d : Nat}  (x0 : Int) (h : St) (K : Int → St → Prop) (F : (inR x0) ∧ (K (b2i (1 ≤ x0 ∧ x0 ≤ 19)) h)) : wI (d + 1) m_Book_isChangeDay 0 [(0, vI x0)] [] h K := by
  refine w_iload_n rfl rfl ?_
  refine w_iconst rfl ?_
  refine w_bipush (by decide) (by decide) rfl ?_
  obtain ⟨b1, F⟩ := F
  refine c_SNI [vI x0, vI 1, vI 19] [] rfl b_C_isAmong k_Book_89 rfl rfl rfl (c_C_isAmong b1 (r_lit rfl) (r_lit rfl) ?_)
  exact w_zret rfl rfl b2i_01 ⟨rfl, rfl, _, rfl, F⟩
theorem s_Book_addItem_0 {d : Nat}  (x1 : Int) (h : St) (K : St → Prop) (F : (0 ≤ h 8 7 ∧ h 8 7 < 40) ∧ (inR x1) ∧ ((x1 ≠ 112 → (K (up (up (up (up (up h 11 ((h 8 7).toNat) x1) 12 ((h 8 7).toNat) (h 10 0)) 13 ((h 8 7).toNat) (h 10 1)) 14 ((h 8 7).toNat) (h 10 2)) 8 7 ((h 8 7) + 1)))) ∧ (¬ (x1 ≠ 112) → (K (up (up (up (up (up (up (up h 11 ((h 8 7).toNat) x1) 12 ((h 8 7).toNat) (h 10 0)) 13 ((h 8 7).toNat) (h 10 1)) 14 ((h 8 7).toNat) (h 10 2)) 8 7 ((h 8 7) + 1)) 8 8 (or3 (h 8 8) (shl3 1 (h 10 0)))) 8 9 (or3 (h 8 9) (shl3 1 (h 10 1)))))))) : wV d m_Book_addItem 0 [(0, vR 8), (1, vI x1)] [] h K := by
  refine w_aload_n rfl rfl ?_
  refine w_getR rfl f_Book_23 rfl rfl rfl rfl rfl ?_
  refine w_aload_n rfl rfl ?_
  refine w_getI rfl f_Book_35 rfl rfl rfl ?_
  refine w_iload_n rfl rfl ?_
  obtain ⟨b1, F⟩ := F
  refine w_iastore rfl rfl rfl b1 ?_
  refine w_aload_n rfl rfl ?_
  refine w_getR rfl f_Book_26 rfl rfl rfl rfl rfl ?_
  refine w_aload_n rfl rfl ?_
  refine w_getI rfl f_Book_35 rfl rfl rfl ?_
  refine w_aload_n rfl rfl ?_
  refine w_getR rfl f_Book_19 rfl rfl rfl rfl rfl ?_
  refine w_iconst rfl ?_
  refine w_iaload rfl rfl rfl ⟨by decide, by decide⟩ ?_
  refine w_iastore rfl rfl rfl b1 ?_
  refine w_aload_n rfl rfl ?_
  refine w_getR rfl f_Book_29 rfl rfl rfl rfl rfl ?_
  refine w_aload_n rfl rfl ?_
  refine w_getI rfl f_Book_35 rfl rfl rfl ?_
  refine w_aload_n rfl rfl ?_
  refine w_getR rfl f_Book_19 rfl rfl rfl rfl rfl ?_
  refine w_iconst rfl ?_
  refine w_iaload rfl rfl rfl ⟨by decide, by decide⟩ ?_
  refine w_iastore rfl rfl rfl b1 ?_
  refine w_aload_n rfl rfl ?_
  refine w_getR rfl f_Book_32 rfl rfl rfl rfl rfl ?_
  refine w_aload_n rfl rfl ?_
  refine w_getI rfl f_Book_35 rfl rfl rfl ?_
  refine w_aload_n rfl rfl ?_
  refine w_getR rfl f_Book_19 rfl rfl rfl rfl rfl ?_
  refine w_iconst rfl ?_
  refine w_iaload rfl rfl rfl ⟨by decide, by decide⟩ ?_
  refine w_iastore rfl rfl rfl b1 ?_
  refine w_aload_n rfl rfl ?_
  refine w_dup rfl rfl ?_
  refine w_getI rfl f_Book_35 rfl rfl rfl ?_
  refine w_iconst rfl ?_
  refine w_iadd rfl ?_
  refine w_putI rfl f_Book_35 fw_0_7 rfl rfl rfl ?_
  refine w_iload_n rfl rfl ?_
  refine w_bipush (by decide) (by decide) rfl ?_
  obtain ⟨b2, F⟩ := F
  refine w_icmp_ne (tgt := 105) rfl (by decide) ⟨b2, (r_lit rfl)⟩ (fun q3 => ?_) (fun q3 => ?_)
  · replace F := F.1 q3
    exact w_vret rfl rfl ⟨rfl, rfl, rfl, F⟩
  · replace F := F.2 q3
    refine w_aload_n rfl rfl ?_
    refine w_dup rfl rfl ?_
    refine w_getI rfl f_Book_38 rfl rfl rfl ?_
    refine w_iconst rfl ?_
    refine w_aload_n rfl rfl ?_
    refine w_getR rfl f_Book_19 rfl rfl rfl rfl rfl ?_
    refine w_iconst rfl ?_
    refine w_iaload rfl rfl rfl ⟨by decide, by decide⟩ ?_
    refine w_ishl rfl ?_
    refine w_ior rfl ?_
    refine w_putI rfl f_Book_38 fw_0_8 rfl rfl rfl ?_
    refine w_aload_n rfl rfl ?_
    refine w_dup rfl rfl ?_
    refine w_getI rfl f_Book_41 rfl rfl rfl ?_
    refine w_iconst rfl ?_
    refine w_aload_n rfl rfl ?_
    refine w_getR rfl f_Book_19 rfl rfl rfl rfl rfl ?_
    refine w_iconst rfl ?_
    refine w_iaload rfl rfl rfl ⟨by decide, by decide⟩ ?_
    refine w_ishl rfl ?_
    refine w_ior rfl ?_
    refine w_putI rfl f_Book_41 fw_0_9 rfl rfl rfl ?_
    exact w_vret rfl rfl ⟨rfl, rfl, rfl, F⟩
def fgA (n : Nat) (tx : Nat → Int) (a : Nat) : Prop := a < n ∧ 48 ≤ tx a ∧ tx a ≤ 57
noncomputable def lnA (n : Nat) (tx : Nat → Int) (a : Nat) : Nat := lst (fun k => ¬ fgA n tx (a + k)) 201
theorem lnA_c {n : Nat} {tx : Nat → Int} {a : Nat} (hn : n ≤ 200) : (∀ k, k < lnA n tx a → fgA n tx (a + k)) ∧ ¬ fgA n tx (a + lnA n tx a) := by
  rcases lst_c (P := fun k => ¬ fgA n tx (a + k)) 201 with ⟨_, b, c⟩ | ⟨_, b⟩
  · exact ⟨fun k hk => Classical.not_not.mp (c k hk), b⟩
  · exact absurd (fun z => by have := z.1; omega) (b 200 (by omega))
theorem lnA_u {n : Nat} {tx : Nat → Int} {a k : Nat} (hn : n ≤ 200) (h1 : ∀ j, j < k → fgA n tx (a + j)) (h2 : ¬ fgA n tx (a + k)) : k = lnA n tx a := by
  obtain ⟨c1, c2⟩ := lnA_c (n := n) (tx := tx) (a := a) hn
  by_cases y : k < lnA n tx a
  · exact absurd (c1 k y) h2
  · by_cases z : lnA n tx a < k
    · exact absurd (h1 _ z) c2
    · omega
def vlA (tx : Nat → Int) (a : Nat) : Nat → Int
  | 0 => 0
  | k + 1 => 10 * vlA tx a k + (tx (a + k) - 48)
theorem vlA_R {n : Nat} {tx : Nat → Int} {a : Nat} : ∀ k, k ≤ 3 → (∀ j, j < k → fgA n tx (a + j)) → 0 ≤ vlA tx a k ∧ vlA tx a k < 10 ^ k
  | 0, _, _ => ⟨Int.le_refl _, by rw [vlA]; decide⟩
  | k + 1, hk, h => by
    have ih := vlA_R (n := n) (tx := tx) (a := a) k (by omega) (fun j hj => h j (by omega))
    have f := (h k (by omega)).2
    have e : (10 : Int) ^ (k + 1) = 10 * 10 ^ k := by rw [Int.pow_succ]; omega
    unfold vlA
    omega
def nkA (n : Nat) (tx : Nat → Int) (a : Nat) : Prop := 1 ≤ lnA n tx a ∧ lnA n tx a ≤ 3
theorem vl_R {n : Nat} {tx : Nat → Int} {a : Nat} (hn : n ≤ 200) (k : nkA n tx a) : 0 ≤ vlA tx a (lnA n tx a) ∧ vlA tx a (lnA n tx a) ≤ 999 := by
  have := vlA_R (n := n) (tx := tx) (a := a) _ k.2 (lnA_c hn).1
  have h3 : (10 : Int) ^ lnA n tx a ≤ 1000 := by
    rcases (show lnA n tx a = 1 ∨ lnA n tx a = 2 ∨ lnA n tx a = 3 by have := k.1; have := k.2; omega) with e | e | e <;> rw [e] <;> decide
  omega
def mkA (n : Nat) (tx : Nat → Int) (m : Int) (a : Nat) : Prop := a < n ∧ tx a = m
noncomputable def e1A (n : Nat) (tx : Nat → Int) (a : Nat) : Nat := a + 1 + lnA n tx (a + 1)
noncomputable def e2A (n : Nat) (tx : Nat → Int) (a : Nat) : Nat := e1A n tx a + 1 + lnA n tx (e1A n tx a + 1)
noncomputable def e3A (n : Nat) (tx : Nat → Int) (a : Nat) : Nat := e2A n tx a + 1 + lnA n tx (e2A n tx a + 1)
noncomputable def w1A (n : Nat) (tx : Nat → Int) (a : Nat) : Int := vlA tx (a + 1) (lnA n tx (a + 1))
noncomputable def w2A (n : Nat) (tx : Nat → Int) (a : Nat) : Int := vlA tx (e1A n tx a + 1) (lnA n tx (e1A n tx a + 1))
noncomputable def w3A (n : Nat) (tx : Nat → Int) (a : Nat) : Int := vlA tx (e2A n tx a + 1) (lnA n tx (e2A n tx a + 1))
def fmA (n : Nat) (tx : Nat → Int) (a : Nat) : Prop := ((tx a = 112 ∨ tx a = 107) ∧ (nkA n tx (a + 1) ∧ mkA n tx 44 (e1A n tx a)) ∧ (nkA n tx (e1A n tx a + 1) ∧ mkA n tx 59 (e2A n tx a))) ∨ (tx a = 120 ∧ (nkA n tx (a + 1) ∧ mkA n tx 44 (e1A n tx a)) ∧ (nkA n tx (e1A n tx a + 1) ∧ mkA n tx 44 (e2A n tx a)) ∧ (nkA n tx (e2A n tx a + 1) ∧ mkA n tx 59 (e3A n tx a)))
noncomputable def nxA (n : Nat) (tx : Nat → Int) (a : Nat) : Nat := nif (tx a = 120) (e3A n tx a + 1) (e2A n tx a + 1)
noncomputable def psA (n : Nat) (tx : Nat → Int) : Nat → Nat
  | 0 => 0
  | k + 1 => nxA n tx (psA n tx k)
def toP (n : Nat) (tx : Nat → Int) (r : Nat) (x : Int) : Prop := ∃ k, k < r ∧ tx (psA n tx k) = 112 ∧ w1A n tx (psA n tx k) = x
def toN (n : Nat) (tx : Nat → Int) (r : Nat) (x : Int) : Prop := ∃ k, k < r ∧ tx (psA n tx k) = 112 ∧ w2A n tx (psA n tx k) = x
def soA (n : Nat) (tx : Nat → Int) (r a : Nat) : Prop := (0 ≤ w1A n tx a ∧ w1A n tx a ≤ 11) ∧ (tx a = 107 → 1 ≤ w2A n tx a ∧ w2A n tx a ≤ 19) ∧ (tx a = 120 → (0 ≤ w2A n tx a ∧ w2A n tx a ≤ 11) ∧ w1A n tx a ≠ w2A n tx a ∧ (1 ≤ w3A n tx a ∧ w3A n tx a ≤ 19)) ∧ (tx a = 112 → (0 ≤ w2A n tx a ∧ w2A n tx a ≤ 11) ∧ ¬ toP n tx r (w1A n tx a) ∧ ¬ toN n tx r (w2A n tx a))
def okA (n : Nat) (tx : Nat → Int) (r : Nat) : Prop := fmA n tx (psA n tx r) ∧ soA n tx r (psA n tx r)
noncomputable def rdA (n : Nat) (tx : Nat → Int) : Nat := lst (fun r => n ≤ psA n tx r ∨ ¬ okA n tx r) 40
noncomputable def ftA (n : Nat) (tx : Nat → Int) : Int := cif (n ≤ psA n tx (rdA n tx)) (-4) (psA n tx (rdA n tx))
theorem fm_b {n : Nat} {tx : Nat → Int} {a : Nat} (f : fmA n tx a) : a + 5 ≤ nxA n tx a ∧ nxA n tx a ≤ n := by
  rcases f with ⟨f1, ⟨⟨a1, a2⟩, b1, b2⟩, ⟨c1, c2⟩, d1, d2⟩ | ⟨f1, ⟨⟨a1, a2⟩, b1, b2⟩, ⟨⟨c1, c2⟩, d1, d2⟩, ⟨g1, g2⟩, i1, i2⟩
  · rw [show nxA n tx a = e2A n tx a + 1 from nif_f (by omega)]
    unfold e2A at *
    unfold e1A at *
    omega
  · rw [show nxA n tx a = e3A n tx a + 1 from nif_t f1]
    unfold e3A at *
    unfold e2A at *
    unfold e1A at *
    omega
theorem ps_b {n : Nat} {tx : Nat → Int} : ∀ r, (∀ k, k < r → okA n tx k) → 5 * r ≤ psA n tx r ∧ psA n tx r ≤ n
  | 0, _ => ⟨Nat.le_refl _, Nat.zero_le _⟩
  | r + 1, h => by
    have ih := ps_b r (fun k hk => h k (by omega))
    have := fm_b (h r (by omega)).1
    rw [psA]
    omega
theorem c_Book_isFigure {D : Nat} {h : St} {K : Int → St → Prop} {n : Nat} {tx : Nat → Int} {a : Nat} (ct : CTxt h n tx) (vt : VTxt n tx) (ha : a ≤ 300) (k : K (b2i (fgA n tx a)) h) : mwpI (D + 1) m_Book_isFigure [vR 8, vI a] h K := by
  obtain ⟨c1, c2, c3⟩ := ct
  refine mI_intro b_Book_isFigure rfl (s_Book_isFigure_0 (d := D) _ h K ?_)
  rw [Int.toNat_natCast]
  by_cases y : a < n
  · have v := vt a y
    rw [c3 a y, c1]
    refine ⟨⟨⟨by omega, by omega⟩, ⟨by omega, by omega⟩, fun _ => ⟨⟨by omega, by omega⟩, ⟨by omega, by omega⟩⟩⟩, ?_⟩
    rw [b2i_congr (q := fgA n tx a) ⟨fun z => ⟨y, by omega, by omega⟩, fun z => by unfold fgA at z; omega⟩]
    exact k
  · refine ⟨⟨⟨by omega, by omega⟩, ⟨by omega, by omega⟩, fun z => by omega⟩, ?_⟩
    rw [b2i_congr (q := fgA n tx a) ⟨fun z => absurd z.1 (by omega), fun z => absurd z.1 y⟩]
    exact k
theorem C_rn_5 {D : Nat} {h : St} {K : Int → St → Prop} {n : Nat} {tx : Nat → Int} {a j : Nat} (ct : CTxt h n tx) (vt : VTxt n tx) (ha : a ≤ 201) (hj : j < 3) (k : ∀ m : Nat, m ≤ 3 → (∀ i, i < m → fgA n tx (a + i)) → (m < 3 → ¬ fgA n tx (a + m)) → K (cif (m ≠ 0) ((a + m : Nat) : Int) (-4)) (up h 10 j (vlA tx a m))) : ∀ (r m : Nat), m + r = 3 → (∀ i, i < m → fgA n tx (a + i)) → wI (D + 1) m_Book_readNumber 5 [(0, vR 8), (1, vI a), (2, vI j), (3, vI (vlA tx a m)), (4, vI m)] [] h K := by
  have ee : ∀ m : Nat, (cif ((m : Int) ≠ 0) ((a : Int) + m) (-4)) = cif (m ≠ 0) ((a + m : Nat) : Int) (-4) := fun m => by
    by_cases y : m = 0
    · rw [cif_f (by omega), cif_f (by omega)]
    · rw [cif_t (by omega), cif_t y]; omega
  intro r
  induction r with
  | zero =>
    intro m hm w
    have e : m = 3 := by omega
    subst e
    have kk := k 3 (by omega) w (by omega)
    rw [← ee 3] at kk
    exact s_Book_readNumber_5 _ _ _ _ h K ⟨by decide, fun _ => ⟨⟨by omega, by omega⟩, by rw [Int.toNat_natCast]; exact kk⟩, fun y => absurd (by decide) y⟩
  | succ r ih =>
    intro m hm w
    refine s_Book_readNumber_5 _ _ _ _ h K ⟨⟨by omega, by omega⟩, fun y => by omega, fun _ => ?_⟩
    rw [show ((a : Int) + (m : Int)) = ((a + m : Nat) : Int) by omega]
    refine c_Book_isFigure ct vt (by omega) ⟨b2i_R, fun z => ⟨⟨by omega, by omega⟩, ?_⟩, fun z => ?_⟩
    · have kk := k m (by omega) w (fun _ => b2i_eq0.mp z)
      rw [← ee m] at kk
      rw [Int.toNat_natCast, show ((a + m : Nat) : Int) = (a : Int) + (m : Int) by omega]; exact kk
    · have f := b2i_ne0.mp z
      have c2 := ct.2.1
      have f1 := f.1
      refine ⟨⟨by omega, by omega⟩, ?_⟩
      have := ih (m + 1) (by omega) (fun i hi => by
        by_cases e : i = m
        · subst e; exact f
        · exact w i (by omega))
      rw [Int.toNat_natCast, ct.2.2 _ f.1, show vlA tx a m * 10 + (tx (a + m) - 48) = vlA tx a (m + 1) by rw [vlA]; omega]
      exact this
theorem c_Book_readNumber {D : Nat} {h : St} {K : Int → St → Prop} {n : Nat} {tx : Nat → Int} {a j : Nat} (ct : CTxt h n tx) (vt : VTxt n tx) (ha : a ≤ 201) (hj : j < 3) (k : ∀ m : Nat, m ≤ 3 → (∀ i, i < m → fgA n tx (a + i)) → (m < 3 → ¬ fgA n tx (a + m)) → K (cif (m ≠ 0) ((a + m : Nat) : Int) (-4)) (up h 10 j (vlA tx a m))) : mwpI (D + 2) m_Book_readNumber [vR 8, vI a, vI j] h K :=
  mI_intro b_Book_readNumber rfl (s_Book_readNumber_0 (d := D) _ _ h K (C_rn_5 ct vt ha hj k 3 0 (by omega) (fun i hi => absurd hi (Nat.not_lt_zero _))))
theorem CTxt_c2 {h h2 : St} {n : Nat} {tx : Nat → Int} (g : ag (fun c k => c = 9 ∨ (c = 8 ∧ k = 1)) h h2) (a : CTxt h n tx) : CTxt h2 n tx := ⟨by rw [g 8 1 (by omega)]; exact a.1, a.2.1, fun i hi => by rw [g 9 i (by omega)]; exact a.2.2 i hi⟩
theorem C_ri_s {D : Nat} {h : St} {K : Int → St → Prop} {n : Nat} {tx : Nat → Int} {x1 : Int} {w p j : Nat} (ct : CTxt h n tx) (vt : VTxt n tx) (hw : w ≤ 3) (hj : j < w) (hp : p ≤ 201) (k1 : nkA n tx p → mkA n tx (cif (w ≤ j + 1) 59 44) (p + lnA n tx p) → wI (D + 3) m_Book_readItem 17 [(0, vR 8), (1, vI x1), (2, vI w), (3, vI ((p + lnA n tx p + 1 : Nat) : Int)), (4, vI ((j + 1 : Nat) : Int))] [] (up h 10 j (vlA tx p (lnA n tx p))) K) (k0 : ¬ (nkA n tx p ∧ mkA n tx (cif (w ≤ j + 1) 59 44) (p + lnA n tx p)) → ∀ h2, ag (fun c _ => c ≠ 10) h h2 → K (-4) h2) : wI (D + 3) m_Book_readItem 17 [(0, vR 8), (1, vI x1), (2, vI w), (3, vI p), (4, vI j)] [] h K := by
  have n2 := ct.2.1
  refine s_Book_readItem_17 _ _ _ _ h K ⟨⟨by omega, by omega⟩, ⟨by omega, by omega⟩, fun y => by omega, fun _ => c_Book_readNumber ct vt hp (by omega) (fun m m1 m2 m3 => ?_)⟩
  have g : ag (fun c _ => c ≠ 10) h (up h 10 j (vlA tx p m)) := ag_up (by omega) ag_rfl
  have ct2 := CTxt_c2 (ag_sub (fun c k p => by omega) g) ct
  have mr : inR (cif ((w : Int) ≤ (j : Int) + 1) 59 44) := cif_R (by decide) (by decide)
  have me : cif ((w : Int) ≤ (j : Int) + 1) 59 44 = cif (w ≤ j + 1) 59 44 := by
    by_cases y : w ≤ j + 1
    · rw [cif_t y, cif_t (by omega)]
    · rw [cif_f y, cif_f (by omega)]
  have m4 : cif (w ≤ j + 1) 59 44 = 59 ∨ cif (w ≤ j + 1) 59 44 = 44 := by
    by_cases y : w ≤ j + 1
    · rw [cif_t y]; exact Or.inl rfl
    · rw [cif_f y]; exact Or.inr rfl
  refine ⟨⟨by omega, by omega⟩, cif_R ⟨by omega, by omega⟩ (by decide), ?_⟩
  by_cases m0 : m = 0
  · subst m0
    have l0 : 0 = lnA n tx p := lnA_u n2 m2 (m3 (by omega))
    rw [cif_f (fun z => z rfl)]
    exact ⟨fun _ => k0 (fun z => by have := z.1.1; omega) _ g, fun y => absurd rfl y⟩
  · rw [cif_t m0, ct2.1]
    refine ⟨fun y => by omega, fun _ => ⟨⟨by omega, by omega⟩, fun y => ?_, fun y => ?_⟩⟩
    · refine k0 (fun z => ?_) _ g
      by_cases m5 : m < 3
      · have := lnA_u n2 m2 (m3 m5)
        have z2 := z.2.1
        omega
      · have l := lnA_c (n := n) (tx := tx) (a := p) n2
        have z2 := z.2.1
        have z1 := z.1
        unfold nkA at z1
        have e3 : lnA n tx p = m := by
          by_cases q : lnA n tx p < m
          · exact absurd (m2 _ q) l.2
          · omega
        omega
    · have pm : p + m < n := by omega
      rw [Int.toNat_natCast, ct2.2.2 _ pm, me]
      have v := vt _ pm
      refine ⟨⟨by omega, by omega⟩, ⟨by omega, by omega⟩, ⟨by omega, by omega⟩, fun z => ?_, fun z => ?_⟩
      · have nf : ¬ fgA n tx (p + m) := fun u => by have := u.2; omega
        have l := lnA_u n2 m2 nf
        rw [l] at z pm ⊢
        have := k1 ⟨by omega, by omega⟩ ⟨pm, z⟩
        exact this
      · refine k0 (fun u => ?_) _ g
        by_cases m5 : m < 3
        · have := lnA_u n2 m2 (m3 m5)
          have u2 := u.2.2
          rw [← this] at u2
          exact z u2
        · have l := lnA_c (n := n) (tx := tx) (a := p) n2
          have u1 := u.1
          unfold nkA at u1
          have e3 : lnA n tx p = m := by
            by_cases q : lnA n tx p < m
            · exact absurd (m2 _ q) l.2
            · omega
          have u2 := u.2.2
          rw [e3] at u2
          exact z u2
