theorem s_CallLog_sendersOn_0 {d : Nat}  (x1 : Int) (h : St) (K : Int → St → Prop) (F : (wI (d + 1) m_CallLog_sendersOn 4 [(0, vR 1), (1, vI x1), (2, vI 0), (3, vI 0)] [] h K)) : wI (d + 1) m_CallLog_sendersOn 0 [(0, vR 1), (1, vI x1)] [] h K := by
  refine w_iconst rfl ?_
  refine w_istore_n rfl rfl rfl rfl (w_ls (ls2 := [(0, vR 1), (1, vI x1), (2, vI 0)]) rfl ?_)
  refine w_iconst rfl ?_
  refine w_istore_n rfl rfl rfl rfl (w_ls (ls2 := [(0, vR 1), (1, vI x1), (2, vI 0), (3, vI 0)]) rfl ?_)
  exact F
theorem s_CallLog_sendersOn_4 {d : Nat}  (x1 x2 x3 : Int) (h : St) (K : Int → St → Prop) (F : (inR x3) ∧ (inR (h 1 6)) ∧ (((h 1 6) ≤ x3 → (K x2 h)) ∧ (¬ ((h 1 6) ≤ x3) → (mwpI (d + 1) m_CallLog_isOn [vR 1, vI x3, vI x1, vI x1] h (fun z4 h4 => (inR z4) ∧ ((z4 = 0 → (wI (d + 1) m_CallLog_sendersOn 4 [(0, vR 1), (1, vI x1), (2, vI x2), (3, vI (x3 + 1))] [] h4 K)) ∧ (¬ (z4 = 0) → (0 ≤ x3 ∧ x3 < 60) ∧ (wI (d + 1) m_CallLog_sendersOn 4 [(0, vR 1), (1, vI x1), (2, vI (or3 x2 (shl3 1 (h4 2 x3.toNat)))), (3, vI (x3 + 1))] [] h4 K)))))))) : wI (d + 1) m_CallLog_sendersOn 4 [(0, vR 1), (1, vI x1), (2, vI x2), (3, vI x3)] [] h K := by
  refine w_iload_n rfl rfl ?_
  refine w_aload_n rfl rfl ?_
  refine w_getI rfl f_CallLog_30 rfl rfl rfl ?_
  obtain ⟨b1, F⟩ := F
  obtain ⟨b2, F⟩ := F
  refine w_icmp_ge (tgt := 39) rfl (by decide) ⟨b1, b2⟩ (fun q3 => ?_) (fun q3 => ?_)
  · replace F := F.1 q3
    refine w_iload_n rfl rfl ?_
    exact w_iret rfl rfl ⟨rfl, rfl, _, rfl, F⟩
  · replace F := F.2 q3
    refine w_aload_n rfl rfl ?_
    refine w_iload_n rfl rfl ?_
    refine w_iload_n rfl rfl ?_
    refine w_iload_n rfl rfl ?_
    refine c_VI [vI x3, vI x1, vI x1] [] rfl b_CallLog_isOn k_CallLog_34 rfl rfl rfl rfl rfl rfl (mwpI_mono (fun z4 h4 F => ?_) F)
    obtain ⟨b5, F⟩ := F
    refine w_if_eq (tgt := 33) rfl (by decide) b5 (fun q6 => ?_) (fun q6 => ?_)
    · replace F := F.1 q6
      refine w_iinc rfl rfl rfl rfl rfl (w_ls (ls2 := [(0, vR 1), (1, vI x1), (2, vI x2), (3, vI (x3 + 1))]) rfl ?_)
      refine w_goto (tgt := 4) rfl (by decide) ?_
      exact F
    · replace F := F.2 q6
      refine w_iload_n rfl rfl ?_
      refine w_iconst rfl ?_
      refine w_aload_n rfl rfl ?_
      refine w_getR rfl f_CallLog_11 rfl rfl rfl rfl rfl ?_
      refine w_iload_n rfl rfl ?_
      obtain ⟨b7, F⟩ := F
      refine w_iaload rfl rfl rfl b7 ?_
      refine w_ishl rfl ?_
      refine w_ior rfl ?_
      refine w_istore_n rfl rfl rfl rfl (w_ls (ls2 := [(0, vR 1), (1, vI x1), (2, vI (or3 x2 (shl3 1 (h4 2 x3.toNat)))), (3, vI x3)]) rfl ?_)
      refine w_iinc rfl rfl rfl rfl rfl (w_ls (ls2 := [(0, vR 1), (1, vI x1), (2, vI (or3 x2 (shl3 1 (h4 2 x3.toNat)))), (3, vI (x3 + 1))]) rfl ?_)
      refine w_goto (tgt := 4) rfl (by decide) ?_
      exact F
theorem s_Trail_walk_0 {d : Nat}  (x4 : Int) (h : St) (K : St → Prop) (F : (mwpI (d + 5) m_CallLog_sendersOn [vR 1, vI x4] h (fun z1 h1 => (wV (d + 5) m_Trail_walk 11 [(0, vR 75), (1, vR 1), (2, vR 57), (3, vR 59), (4, vI x4), (5, vI z1), (6, vI 0)] [] h1 K)))) : wV (d + 5) m_Trail_walk 0 [(0, vR 75), (1, vR 1), (2, vR 57), (3, vR 59), (4, vI x4)] [] h K := by
  refine w_aload_n rfl rfl ?_
  refine w_iload rfl rfl ?_
  refine c_VI [vI x4] [] rfl b_CallLog_sendersOn k_Trail_15 rfl rfl rfl rfl rfl rfl (mwpI_mono (fun z1 h1 F => ?_) F)
  refine w_istore rfl rfl rfl rfl (w_ls (ls2 := [(0, vR 75), (1, vR 1), (2, vR 57), (3, vR 59), (4, vI x4), (5, vI z1)]) rfl ?_)
  refine w_iconst rfl ?_
  refine w_istore rfl rfl rfl rfl (w_ls (ls2 := [(0, vR 75), (1, vR 1), (2, vR 57), (3, vR 59), (4, vI x4), (5, vI z1), (6, vI 0)]) rfl ?_)
  exact F
theorem s_Trail_walk_11 {d : Nat}  (x4 x5 x6 : Int) (h : St) (K : St → Prop) (F : (inR x6) ∧ ((12 ≤ x6 → (wV (d + 5) m_Trail_walk 54 [(0, vR 75), (1, vR 1), (2, vR 57), (3, vR 59), (4, vI x4), (5, vI x5), (6, vI (x4 - 1))] [] h K)) ∧ (¬ (12 ≤ x6) → (((inR (and3 (shr3 x5 x6) 1)))) ∧ (0 ≤ x6 ∧ x6 < 12) ∧ (wV (d + 5) m_Trail_walk 11 [(0, vR 75), (1, vR 1), (2, vR 57), (3, vR 59), (4, vI x4), (5, vI x5), (6, vI (x6 + 1))] [] (up h 76 x6.toNat (cif ((and3 (shr3 x5 x6) 1) = 0) ((-4)) x6)) K)))) : wV (d + 5) m_Trail_walk 11 [(0, vR 75), (1, vR 1), (2, vR 57), (3, vR 59), (4, vI x4), (5, vI x5), (6, vI x6)] [] h K := by
  refine w_iload rfl rfl ?_
  refine w_bipush (by decide) (by decide) rfl ?_
  obtain ⟨b1, F⟩ := F
  refine w_icmp_ge (tgt := 48) rfl (by decide) ⟨b1, (r_lit rfl)⟩ (fun q2 => ?_) (fun q2 => ?_)
  · replace F := F.1 q2
    refine w_iload rfl rfl ?_
    refine w_iconst rfl ?_
    refine w_isub rfl ?_
    refine w_istore rfl rfl rfl rfl (w_ls (ls2 := [(0, vR 75), (1, vR 1), (2, vR 57), (3, vR 59), (4, vI x4), (5, vI x5), (6, vI (x4 - 1))]) rfl ?_)
    exact F
  · replace F := F.2 q2
    refine w_aload_n rfl rfl ?_
    refine w_getR rfl f_Trail_9 rfl rfl rfl rfl rfl ?_
    refine w_iload rfl rfl ?_
    refine w_iload rfl rfl ?_
    refine w_iload rfl rfl ?_
    refine w_ishr rfl ?_
    refine w_iconst rfl ?_
    refine w_iand rfl ?_
    obtain ⟨G, F⟩ := F
    have J : ∀ (t5 : Int), t5 = cif ((and3 (shr3 x5 x6) 1) = 0) ((-4)) x6 → wV (d + 5) m_Trail_walk 41 [(0, vR 75), (1, vR 1), (2, vR 57), (3, vR 59), (4, vI x4), (5, vI x5), (6, vI x6)] [vI t5, vI x6, vR 76] h K := by
      intro t5 et5
      subst et5
      obtain ⟨b6, F⟩ := F
      refine w_iastore rfl rfl rfl b6 ?_
      refine w_iinc rfl rfl rfl rfl rfl (w_ls (ls2 := [(0, vR 75), (1, vR 1), (2, vR 57), (3, vR 59), (4, vI x4), (5, vI x5), (6, vI (x6 + 1))]) rfl ?_)
      refine w_goto (tgt := 11) rfl (by decide) ?_
      exact F
    have b3 := G
    refine w_if_eq (tgt := 39) rfl (by decide) b3 (fun q4 => ?_) (fun q4 => ?_)
    · refine w_bipush (by decide) (by decide) rfl ?_
      exact J _ (cif_t q4).symm
    · refine w_iload rfl rfl ?_
      refine w_goto (tgt := 41) rfl (by decide) ?_
      exact J _ (cif_f q4).symm
theorem s_Trail_walk_54 {d : Nat}  (x4 x5 x6 : Int) (h : St) (K : St → Prop) (F : (inR x6) ∧ ((x6 < 0 → (K h)) ∧ (¬ (x6 < 0) → (mwpI (d + 5) m_Trail_isOpen [vR 75] h (fun z3 h3 => (inR z3) ∧ ((z3 = 0 → (K h3)) ∧ (¬ (z3 = 0) → (mwpI (d + 5) m_Pairing_solve [vR 59, vR 1, vR 57, vI x6] h3 (fun z6 h6 => (mwpV (d + 5) m_Trail_stepBack [vR 75, vR 59, vI z6] h6 (fun h7 => (wV (d + 5) m_Trail_walk 54 [(0, vR 75), (1, vR 1), (2, vR 57), (3, vR 59), (4, vI x4), (5, vI x5), (6, vI (x6 + (-1)))] [] h7 K)))))))))))) : wV (d + 5) m_Trail_walk 54 [(0, vR 75), (1, vR 1), (2, vR 57), (3, vR 59), (4, vI x4), (5, vI x5), (6, vI x6)] [] h K := by
  refine w_iload rfl rfl ?_
  obtain ⟨b1, F⟩ := F
  refine w_if_lt (tgt := 85) rfl (by decide) b1 (fun q2 => ?_) (fun q2 => ?_)
  · replace F := F.1 q2
    exact w_vret rfl rfl ⟨rfl, rfl, rfl, F⟩
  · replace F := F.2 q2
    refine w_aload_n rfl rfl ?_
    refine c_VI [] [] rfl b_Trail_isOpen k_Trail_21 rfl rfl rfl rfl rfl rfl (mwpI_mono (fun z3 h3 F => ?_) F)
    obtain ⟨b4, F⟩ := F
    refine w_if_eq (tgt := 85) rfl (by decide) b4 (fun q5 => ?_) (fun q5 => ?_)
    · replace F := F.1 q5
      exact w_vret rfl rfl ⟨rfl, rfl, rfl, F⟩
    · replace F := F.2 q5
      refine w_aload_n rfl rfl ?_
      refine w_aload_n rfl rfl ?_
      refine w_aload_n rfl rfl ?_
      refine w_aload_n rfl rfl ?_
      refine w_aload_n rfl rfl ?_
      refine w_iload rfl rfl ?_
      refine c_VI [vR 1, vR 57, vI x6] [vR 59, vR 75] rfl b_Pairing_solve k_Trail_25 rfl rfl rfl rfl rfl rfl (mwpI_mono (fun z6 h6 F => ?_) F)
      refine c_VV [vR 59, vI z6] [] rfl b_Trail_stepBack k_Trail_31 rfl rfl rfl rfl rfl rfl (mwpV_mono (fun h7 F => ?_) F)
      refine w_iinc rfl rfl rfl rfl rfl (w_ls (ls2 := [(0, vR 75), (1, vR 1), (2, vR 57), (3, vR 59), (4, vI x4), (5, vI x5), (6, vI (x6 + (-1)))]) rfl ?_)
      refine w_goto (tgt := 54) rfl (by decide) ?_
      exact F
theorem s_Trail_isOpen_0 {d : Nat}  (h : St) (K : Int → St → Prop) (F : (wI d m_Trail_isOpen 2 [(0, vR 75), (1, vI 0)] [] h K)) : wI d m_Trail_isOpen 0 [(0, vR 75)] [] h K := by
  refine w_iconst rfl ?_
  refine w_istore_n rfl rfl rfl rfl (w_ls (ls2 := [(0, vR 75), (1, vI 0)]) rfl ?_)
  exact F
theorem s_Trail_isOpen_2 {d : Nat}  (x1 : Int) (h : St) (K : Int → St → Prop) (F : (inR x1) ∧ ((12 ≤ x1 → (K 0 h)) ∧ (¬ (12 ≤ x1) → (0 ≤ x1 ∧ x1 < 12) ∧ (inR (h 76 x1.toNat)) ∧ (((h 76 x1.toNat) < 0 → (wI d m_Trail_isOpen 2 [(0, vR 75), (1, vI (x1 + 1))] [] h K)) ∧ (¬ ((h 76 x1.toNat) < 0) → (K 1 h)))))) : wI d m_Trail_isOpen 2 [(0, vR 75), (1, vI x1)] [] h K := by
  refine w_iload_n rfl rfl ?_
  refine w_bipush (by decide) (by decide) rfl ?_
  obtain ⟨b1, F⟩ := F
  refine w_icmp_ge (tgt := 25) rfl (by decide) ⟨b1, (r_lit rfl)⟩ (fun q2 => ?_) (fun q2 => ?_)
  · replace F := F.1 q2
    refine w_iconst rfl ?_
    exact w_zret rfl rfl (by decide) ⟨rfl, rfl, _, rfl, F⟩
  · replace F := F.2 q2
    refine w_aload_n rfl rfl ?_
    refine w_getR rfl f_Trail_9 rfl rfl rfl rfl rfl ?_
    refine w_iload_n rfl rfl ?_
    obtain ⟨b3, F⟩ := F
    refine w_iaload rfl rfl rfl b3 ?_
    obtain ⟨b4, F⟩ := F
    refine w_if_lt (tgt := 19) rfl (by decide) b4 (fun q5 => ?_) (fun q5 => ?_)
    · replace F := F.1 q5
      refine w_iinc rfl rfl rfl rfl rfl (w_ls (ls2 := [(0, vR 75), (1, vI (x1 + 1))]) rfl ?_)
      refine w_goto (tgt := 2) rfl (by decide) ?_
      exact F
    · replace F := F.2 q5
      refine w_iconst rfl ?_
      exact w_zret rfl rfl (by decide) ⟨rfl, rfl, _, rfl, F⟩
theorem s_Trail_stepBack_0 {d : Nat}  (x2 : Int) (h : St) (K : St → Prop) (F : (wV d m_Trail_stepBack 2 [(0, vR 75), (1, vR 59), (2, vI x2), (3, vI 0)] [] h K)) : wV d m_Trail_stepBack 0 [(0, vR 75), (1, vR 59), (2, vI x2)] [] h K := by
  refine w_iconst rfl ?_
  refine w_istore_n rfl rfl rfl rfl (w_ls (ls2 := [(0, vR 75), (1, vR 59), (2, vI x2), (3, vI 0)]) rfl ?_)
  exact F
theorem s_Trail_stepBack_2 {d : Nat}  (x2 x3 : Int) (h : St) (K : St → Prop) (F : (inR x3) ∧ ((12 ≤ x3 → (K h)) ∧ (¬ (12 ≤ x3) → (0 ≤ x3 ∧ x3 < 12) ∧ (inR (h 76 x3.toNat)) ∧ (((h 76 x3.toNat) < 0 → (wV d m_Trail_stepBack 2 [(0, vR 75), (1, vR 59), (2, vI x2), (3, vI (x3 + 1))] [] h K)) ∧ (¬ ((h 76 x3.toNat) < 0) → (((inR x2) ∧ (¬ (x2 = 0) → ((0 ≤ h 76 x3.toNat ∧ h 76 x3.toNat < 12))))) ∧ (wV d m_Trail_stepBack 2 [(0, vR 75), (1, vR 59), (2, vI x2), (3, vI (x3 + 1))] [] (up h 76 x3.toNat (cif (x2 = 0) ((-2)) (h 71 ((h 76 x3.toNat).toNat)))) K)))))) : wV d m_Trail_stepBack 2 [(0, vR 75), (1, vR 59), (2, vI x2), (3, vI x3)] [] h K := by
  refine w_iload_n rfl rfl ?_
  refine w_bipush (by decide) (by decide) rfl ?_
  obtain ⟨b1, F⟩ := F
  refine w_icmp_ge (tgt := 49) rfl (by decide) ⟨b1, (r_lit rfl)⟩ (fun q2 => ?_) (fun q2 => ?_)
  · replace F := F.1 q2
    exact w_vret rfl rfl ⟨rfl, rfl, rfl, F⟩
  · replace F := F.2 q2
    refine w_aload_n rfl rfl ?_
    refine w_getR rfl f_Trail_9 rfl rfl rfl rfl rfl ?_
    refine w_iload_n rfl rfl ?_
    obtain ⟨b3, F⟩ := F
    refine w_iaload rfl rfl rfl b3 ?_
    obtain ⟨b4, F⟩ := F
    refine w_if_lt (tgt := 43) rfl (by decide) b4 (fun q5 => ?_) (fun q5 => ?_)
    · replace F := F.1 q5
      refine w_iinc rfl rfl rfl rfl rfl (w_ls (ls2 := [(0, vR 75), (1, vR 59), (2, vI x2), (3, vI (x3 + 1))]) rfl ?_)
      refine w_goto (tgt := 2) rfl (by decide) ?_
      exact F
    · replace F := F.2 q5
      refine w_aload_n rfl rfl ?_
      refine w_getR rfl f_Trail_9 rfl rfl rfl rfl rfl ?_
      refine w_iload_n rfl rfl ?_
      refine w_iload_n rfl rfl ?_
      obtain ⟨G, F⟩ := F
      have J : ∀ (t9 : Int), t9 = cif (x2 = 0) ((-2)) (h 71 ((h 76 x3.toNat).toNat)) → wV d m_Trail_stepBack 42 [(0, vR 75), (1, vR 59), (2, vI x2), (3, vI x3)] [vI t9, vI x3, vR 76] h K := by
        intro t9 et9
        subst et9
        refine w_iastore rfl rfl rfl b3 ?_
        refine w_iinc rfl rfl rfl rfl rfl (w_ls (ls2 := [(0, vR 75), (1, vR 59), (2, vI x2), (3, vI (x3 + 1))]) rfl ?_)
        refine w_goto (tgt := 2) rfl (by decide) ?_
        exact F
      obtain ⟨b6, gb_⟩ := G
      refine w_if_eq (tgt := 40) rfl (by decide) b6 (fun q7 => ?_) (fun q7 => ?_)
      · refine w_bipush (by decide) (by decide) rfl ?_
        exact J _ (cif_t q7).symm
      · have G := gb_ q7
        have b8 := G
        refine w_aload_n rfl rfl ?_
        refine w_getR rfl f_Trail_35 rfl rfl rfl rfl rfl ?_
        refine w_aload_n rfl rfl ?_
        refine w_getR rfl f_Trail_9 rfl rfl rfl rfl rfl ?_
        refine w_iload_n rfl rfl ?_
        refine w_iaload rfl rfl rfl b3 ?_
        refine w_iaload rfl rfl rfl b8 ?_
        refine w_goto (tgt := 42) rfl (by decide) ?_
        exact J _ (cif_f q7).symm
theorem s_Trail_meetsNo_0 {d : Nat}  (h : St) (K : Int → St → Prop) (F : (wI d m_Trail_meetsNo 2 [(0, vR 75), (1, vI 0)] [] h K)) : wI d m_Trail_meetsNo 0 [(0, vR 75)] [] h K := by
  refine w_iconst rfl ?_
  refine w_istore_n rfl rfl rfl rfl (w_ls (ls2 := [(0, vR 75), (1, vI 0)]) rfl ?_)
  exact F
theorem s_Trail_meetsNo_2 {d : Nat}  (x1 : Int) (h : St) (K : Int → St → Prop) (F : (inR x1) ∧ ((12 ≤ x1 → (K 0 h)) ∧ (¬ (12 ≤ x1) → (0 ≤ x1 ∧ x1 < 12) ∧ (inR (h 76 x1.toNat)) ∧ (((h 76 x1.toNat) ≠ ((-2)) → (wI d m_Trail_meetsNo 2 [(0, vR 75), (1, vI (x1 + 1))] [] h K)) ∧ (¬ ((h 76 x1.toNat) ≠ ((-2))) → (K 1 h)))))) : wI d m_Trail_meetsNo 2 [(0, vR 75), (1, vI x1)] [] h K := by
  refine w_iload_n rfl rfl ?_
  refine w_bipush (by decide) (by decide) rfl ?_
  obtain ⟨b1, F⟩ := F
  refine w_icmp_ge (tgt := 27) rfl (by decide) ⟨b1, (r_lit rfl)⟩ (fun q2 => ?_) (fun q2 => ?_)
  · replace F := F.1 q2
    refine w_iconst rfl ?_
    exact w_zret rfl rfl (by decide) ⟨rfl, rfl, _, rfl, F⟩
  · replace F := F.2 q2
    refine w_aload_n rfl rfl ?_
    refine w_getR rfl f_Trail_9 rfl rfl rfl rfl rfl ?_
    refine w_iload_n rfl rfl ?_
    obtain ⟨b3, F⟩ := F
    refine w_iaload rfl rfl rfl b3 ?_
    refine w_bipush (by decide) (by decide) rfl ?_
    obtain ⟨b4, F⟩ := F
    refine w_icmp_ne (tgt := 21) rfl (by decide) ⟨b4, (r_lit rfl)⟩ (fun q5 => ?_) (fun q5 => ?_)
    · replace F := F.1 q5
      refine w_iinc rfl rfl rfl rfl rfl (w_ls (ls2 := [(0, vR 75), (1, vI (x1 + 1))]) rfl ?_)
      refine w_goto (tgt := 2) rfl (by decide) ?_
      exact F
    · replace F := F.2 q5
      refine w_iconst rfl ?_
      exact w_zret rfl rfl (by decide) ⟨rfl, rfl, _, rfl, F⟩
theorem s_M_traced_0 {d : Nat}  (x1 x2 : Int) (h : St) (K : Int → St → Prop) (F : (mwpI (d + 3) m_M_sends [vR 109, vI x2, vI x1] h (fun z1 h1 => (inR z1) ∧ ((z1 ≠ 0 → (wI (d + 3) m_M_traced 19 [(0, vR 109), (1, vI x1), (2, vI x2), (3, vI x2), (4, vI (x1 - 1))] [] h1 K)) ∧ (¬ (z1 ≠ 0) → (K ((-4)) h1)))))) : wI (d + 3) m_M_traced 0 [(0, vR 109), (1, vI x1), (2, vI x2)] [] h K := by
  refine w_aload_n rfl rfl ?_
  refine w_iload_n rfl rfl ?_
  refine w_iload_n rfl rfl ?_
  refine c_VI [vI x2, vI x1] [] rfl b_M_sends k_M_209 rfl rfl rfl rfl rfl rfl (mwpI_mono (fun z1 h1 F => ?_) F)
  obtain ⟨b2, F⟩ := F
  refine w_if_ne (tgt := 12) rfl (by decide) b2 (fun q3 => ?_) (fun q3 => ?_)
  · replace F := F.1 q3
    refine w_iload_n rfl rfl ?_
    refine w_istore_n rfl rfl rfl rfl (w_ls (ls2 := [(0, vR 109), (1, vI x1), (2, vI x2), (3, vI x2)]) rfl ?_)
    refine w_iload_n rfl rfl ?_
    refine w_iconst rfl ?_
    refine w_isub rfl ?_
    refine w_istore rfl rfl rfl rfl (w_ls (ls2 := [(0, vR 109), (1, vI x1), (2, vI x2), (3, vI x2), (4, vI (x1 - 1))]) rfl ?_)
    exact F
  · replace F := F.2 q3
    refine w_bipush (by decide) (by decide) rfl ?_
    exact w_iret rfl rfl ⟨rfl, rfl, _, rfl, F⟩
theorem s_M_traced_19 {d : Nat}  (x1 x2 x3 x4 : Int) (h : St) (K : Int → St → Prop) (F : (inR x4) ∧ ((x4 < 0 → (K x3 h)) ∧ (¬ (x4 < 0) → (mwpI (d + 3) m_M_lays [vR 109, vI x4] h (fun z3 h3 => (inR z3) ∧ ((0 ≤ z3 → (mwpV (d + 3) m_M_pairs [vR 109] h3 (fun h6 => (wI (d + 3) m_M_traced 47 [(0, vR 109), (1, vI x1), (2, vI x2), (3, vI x3), (4, vI x4), (5, vI ((-4))), (6, vI 0)] [] h6 K)))) ∧ (¬ (0 ≤ z3) → (K ((-2)) h3)))))))) : wI (d + 3) m_M_traced 19 [(0, vR 109), (1, vI x1), (2, vI x2), (3, vI x3), (4, vI x4)] [] h K := by
  refine w_iload rfl rfl ?_
  obtain ⟨b1, F⟩ := F
  refine w_if_lt (tgt := 119) rfl (by decide) b1 (fun q2 => ?_) (fun q2 => ?_)
  · replace F := F.1 q2
    refine w_iload_n rfl rfl ?_
    exact w_iret rfl rfl ⟨rfl, rfl, _, rfl, F⟩
  · replace F := F.2 q2
    refine w_aload_n rfl rfl ?_
    refine w_iload rfl rfl ?_
    refine c_VI [vI x4] [] rfl b_M_lays k_M_225 rfl rfl rfl rfl rfl rfl (mwpI_mono (fun z3 h3 F => ?_) F)
    obtain ⟨b4, F⟩ := F
    refine w_if_ge (tgt := 36) rfl (by decide) b4 (fun q5 => ?_) (fun q5 => ?_)
    · replace F := F.1 q5
      refine w_aload_n rfl rfl ?_
      refine c_VV [] [] rfl b_M_pairs k_M_231 rfl rfl rfl rfl rfl rfl (mwpV_mono (fun h6 F => ?_) F)
      refine w_bipush (by decide) (by decide) rfl ?_
      refine w_istore rfl rfl rfl rfl (w_ls (ls2 := [(0, vR 109), (1, vI x1), (2, vI x2), (3, vI x3), (4, vI x4), (5, vI ((-4)))]) rfl ?_)
      refine w_iconst rfl ?_
      refine w_istore rfl rfl rfl rfl (w_ls (ls2 := [(0, vR 109), (1, vI x1), (2, vI x2), (3, vI x3), (4, vI x4), (5, vI ((-4))), (6, vI 0)]) rfl ?_)
      exact F
    · replace F := F.2 q5
      refine w_bipush (by decide) (by decide) rfl ?_
      exact w_iret rfl rfl ⟨rfl, rfl, _, rfl, F⟩
theorem s_M_traced_47 {d : Nat}  (x1 x2 x3 x4 x5 x6 : Int) (h : St) (K : Int → St → Prop) (F : (inR x6) ∧ (inR (h 109 29)) ∧ (((h 109 29) ≤ x6 → (inR x5) ∧ ((0 ≤ x5 → (wI (d + 3) m_M_traced 19 [(0, vR 109), (1, vI x1), (2, vI x2), (3, vI x5), (4, vI (x4 + (-1)))] [] h K)) ∧ (¬ (0 ≤ x5) → (K ((-4)) h)))) ∧ (¬ ((h 109 29) ≤ x6) → (0 ≤ x6 ∧ x6 < 8) ∧ (((inR (h 136 x6.toNat)) ∧ (¬ ((h 136 x6.toNat) < 0) → ((0 ≤ h 136 x6.toNat ∧ h 136 x6.toNat < 12) ∧ (inR (h 133 ((h 136 x6.toNat).toNat))) ∧ (inR x3) ∧ (¬ ((h 133 ((h 136 x6.toNat).toNat)) ≠ x3) → ((0 ≤ x6 ∧ x6 < 12))))))) ∧ (wI (d + 3) m_M_traced 47 [(0, vR 109), (1, vI x1), (2, vI x2), (3, vI x3), (4, vI x4), (5, vI (cif ((h 136 x6.toNat) < 0) x5 (cif ((h 133 ((h 136 x6.toNat).toNat)) ≠ x3) x5 (h 132 x6.toNat)))), (6, vI (x6 + 1))] [] h K)))) : wI (d + 3) m_M_traced 47 [(0, vR 109), (1, vI x1), (2, vI x2), (3, vI x3), (4, vI x4), (5, vI x5), (6, vI x6)] [] h K := by
  refine w_iload rfl rfl ?_
  refine w_aload_n rfl rfl ?_
  refine w_getI rfl f_M_216 rfl rfl rfl ?_
  obtain ⟨b1, F⟩ := F
  obtain ⟨b2, F⟩ := F
  refine w_icmp_ge (tgt := 102) rfl (by decide) ⟨b1, b2⟩ (fun q3 => ?_) (fun q3 => ?_)
  · replace F := F.1 q3
    refine w_iload rfl rfl ?_
    obtain ⟨b4, F⟩ := F
    refine w_if_ge (tgt := 110) rfl (by decide) b4 (fun q5 => ?_) (fun q5 => ?_)
    · replace F := F.1 q5
      refine w_iload rfl rfl ?_
      refine w_istore_n rfl rfl rfl rfl (w_ls (ls2 := [(0, vR 109), (1, vI x1), (2, vI x2), (3, vI x5), (4, vI x4), (5, vI x5), (6, vI x6)]) rfl ?_)
      refine w_iinc rfl rfl rfl rfl rfl (w_ls (ls2 := [(0, vR 109), (1, vI x1), (2, vI x2), (3, vI x5), (4, vI (x4 + (-1))), (5, vI x5), (6, vI x6)]) rfl ?_)
      refine w_goto (tgt := 19) rfl (by decide) ?_
      exact w_kp [0, 1, 2, 3, 4] F
    · replace F := F.2 q5
      refine w_bipush (by decide) (by decide) rfl ?_
      exact w_iret rfl rfl ⟨rfl, rfl, _, rfl, F⟩
  · replace F := F.2 q3
    refine w_aload_n rfl rfl ?_
    refine w_getR rfl f_M_96 rfl rfl rfl rfl rfl ?_
    refine w_iload rfl rfl ?_
    obtain ⟨b6, F⟩ := F
    refine w_iaload rfl rfl rfl b6 ?_
    obtain ⟨G, F⟩ := F
    have J : ∀ (t14 : Int), t14 = cif ((h 136 x6.toNat) < 0) x5 (cif ((h 133 ((h 136 x6.toNat).toNat)) ≠ x3) x5 (h 132 x6.toNat)) → wI (d + 3) m_M_traced 94 [(0, vR 109), (1, vI x1), (2, vI x2), (3, vI x3), (4, vI x4), (5, vI x5), (6, vI x6)] [vI t14] h K := by
      intro t14 et14
      subst et14
      refine w_istore rfl rfl rfl rfl (w_ls (ls2 := [(0, vR 109), (1, vI x1), (2, vI x2), (3, vI x3), (4, vI x4), (5, vI (cif ((h 136 x6.toNat) < 0) x5 (cif ((h 133 ((h 136 x6.toNat).toNat)) ≠ x3) x5 (h 132 x6.toNat)))), (6, vI x6)]) rfl ?_)
      refine w_iinc rfl rfl rfl rfl rfl (w_ls (ls2 := [(0, vR 109), (1, vI x1), (2, vI x2), (3, vI x3), (4, vI x4), (5, vI (cif ((h 136 x6.toNat) < 0) x5 (cif ((h 133 ((h 136 x6.toNat).toNat)) ≠ x3) x5 (h 132 x6.toNat)))), (6, vI (x6 + 1))]) rfl ?_)
      refine w_goto (tgt := 47) rfl (by decide) ?_
      exact F
    obtain ⟨b7, gb_⟩ := G
    refine w_if_lt (tgt := 92) rfl (by decide) b7 (fun q8 => ?_) (fun q8 => ?_)
    · refine w_iload rfl rfl ?_
      exact J _ (cif_t q8).symm
    · have G := gb_ q8
      obtain ⟨b9, b10, b11, gb_⟩ := G
      refine w_aload_n rfl rfl ?_
      refine w_getR rfl f_M_87 rfl rfl rfl rfl rfl ?_
      refine w_aload_n rfl rfl ?_
      refine w_getR rfl f_M_96 rfl rfl rfl rfl rfl ?_
      refine w_iload rfl rfl ?_
      refine w_iaload rfl rfl rfl b6 ?_
      refine w_iaload rfl rfl rfl b9 ?_
      refine w_iload_n rfl rfl ?_
      refine w_icmp_ne (tgt := 92) rfl (by decide) ⟨b10, b11⟩ (fun q12 => ?_) (fun q12 => ?_)
      · refine w_iload rfl rfl ?_
        exact J _ ((cif_f q8).trans (cif_t q12)).symm
      · have G := gb_ q12
        have b13 := G
        refine w_aload_n rfl rfl ?_
        refine w_getR rfl f_M_84 rfl rfl rfl rfl rfl ?_
        refine w_iload rfl rfl ?_
        refine w_iaload rfl rfl rfl b13 ?_
        refine w_goto (tgt := 94) rfl (by decide) ?_
        exact J _ ((cif_f q8).trans (cif_f q12)).symm
theorem s_C_trace_0 {d : Nat}  (x1 x2 : Int) (h : St) (K : Int → St → Prop) (F : (inR x1) ∧ ((¬ (0 ≤ x1 ∧ x1 ≤ 19) → (K ((-1)) h)) ∧ (0 ≤ x1 ∧ x1 ≤ 19 → (inR x2) ∧ ((0 ≤ x2 ∧ x2 ≤ 11 → (mwpV (d + 6) m_Hands_group [vR 57, vR 1] h (fun h5 => (mwpV (d + 6) m_Trail_walk [vR 75, vR 1, vR 57, vR 59, vI x1] h5 (fun h6 => (0 ≤ x2 ∧ x2 < 12) ∧ (K (h6 76 x2.toNat) h6)))))) ∧ (¬ (0 ≤ x2 ∧ x2 ≤ 11) → (K ((-1)) h)))))) : wI (d + 6) m_C_trace 0 [(0, vR 0), (1, vI x1), (2, vI x2)] [] h K := by
  refine w_iload_n rfl rfl ?_
  obtain ⟨b1, F⟩ := F
  refine c_SI [vI x1] [] rfl b_C_isDay k_C_131 rfl rfl rfl (c_C_isDay b1 ?_)
  refine w_ifeq_b (tgt := 14) rfl (by decide) (fun q2 => ?_) (fun q2 => ?_)
  · replace F := F.1 q2
    refine w_iconst rfl ?_
    exact w_iret rfl rfl ⟨rfl, rfl, _, rfl, F⟩
  · replace F := F.2 q2
    refine w_iload_n rfl rfl ?_
    obtain ⟨b3, F⟩ := F
    refine c_SI [vI x2] [] rfl b_C_isName k_C_96 rfl rfl rfl (c_C_isName b3 ?_)
    refine w_ifne_b (tgt := 16) rfl (by decide) (fun q4 => ?_) (fun q4 => ?_)
    · replace F := F.1 q4
      refine w_aload_n rfl rfl ?_
      refine w_getR rfl f_C_26 rfl rfl rfl rfl rfl ?_
      refine w_aload_n rfl rfl ?_
      refine w_getR rfl f_C_10 rfl rfl rfl rfl rfl ?_
      refine c_VV [vR 1] [] rfl b_Hands_group k_C_147 rfl rfl rfl rfl rfl rfl (mwpV_mono (fun h5 F => ?_) F)
      refine w_aload_n rfl rfl ?_
      refine w_getR rfl f_C_40 rfl rfl rfl rfl rfl ?_
      refine w_aload_n rfl rfl ?_
      refine w_getR rfl f_C_10 rfl rfl rfl rfl rfl ?_
      refine w_aload_n rfl rfl ?_
      refine w_getR rfl f_C_26 rfl rfl rfl rfl rfl ?_
      refine w_aload_n rfl rfl ?_
      refine w_getR rfl f_C_33 rfl rfl rfl rfl rfl ?_
      refine w_iload_n rfl rfl ?_
      refine c_VV [vR 1, vR 57, vR 59, vI x1] [] rfl b_Trail_walk k_C_203 rfl rfl rfl rfl rfl rfl (mwpV_mono (fun h6 F => ?_) F)
      refine w_aload_n rfl rfl ?_
      refine w_getR rfl f_C_40 rfl rfl rfl rfl rfl ?_
      refine w_getR rfl f_C_207 rfl rfl rfl rfl rfl ?_
      refine w_iload_n rfl rfl ?_
      obtain ⟨b7, F⟩ := F
      refine w_iaload rfl rfl rfl b7 ?_
      exact w_iret rfl rfl ⟨rfl, rfl, _, rfl, F⟩
    · replace F := F.2 q4
      refine w_iconst rfl ?_
      exact w_iret rfl rfl ⟨rfl, rfl, _, rfl, F⟩
theorem s_M_trace_0 {d : Nat}  (x1 x2 : Int) (h : St) (K : Int → St → Prop) (F : (inR x1) ∧ ((¬ (0 ≤ x1 ∧ x1 ≤ 19) → (K ((-1)) h)) ∧ (0 ≤ x1 ∧ x1 ≤ 19 → (inR x2) ∧ ((¬ (0 ≤ x2 ∧ x2 ≤ 11) → (K ((-1)) h)) ∧ (0 ≤ x2 ∧ x2 ≤ 11 → (mwpI (d + 4) m_M_traced [vR 109, vI x1, vI x2] h (fun z5 h5 => (K z5 h5)))))))) : wI (d + 4) m_M_trace 0 [(0, vR 109), (1, vI x1), (2, vI x2)] [] h K := by
  refine w_iload_n rfl rfl ?_
  obtain ⟨b1, F⟩ := F
  refine c_SI [vI x1] [] rfl b_M_isDay k_M_138 rfl rfl rfl (c_M_isDay b1 ?_)
  refine w_ifeq_b (tgt := 23) rfl (by decide) (fun q2 => ?_) (fun q2 => ?_)
  · replace F := F.1 q2
    refine w_iconst rfl ?_
    exact w_iret rfl rfl ⟨rfl, rfl, _, rfl, F⟩
  · replace F := F.2 q2
    refine w_iload_n rfl rfl ?_
    obtain ⟨b3, F⟩ := F
    refine c_SI [vI x2] [] rfl b_M_isName k_M_142 rfl rfl rfl (c_M_isName b3 ?_)
    refine w_ifeq_b (tgt := 23) rfl (by decide) (fun q4 => ?_) (fun q4 => ?_)
    · replace F := F.1 q4
      refine w_iconst rfl ?_
      exact w_iret rfl rfl ⟨rfl, rfl, _, rfl, F⟩
    · replace F := F.2 q4
      refine w_aload_n rfl rfl ?_
      refine w_iload_n rfl rfl ?_
      refine w_iload_n rfl rfl ?_
      refine c_VI [vI x1, vI x2] [] rfl b_M_traced k_M_237 rfl rfl rfl rfl rfl rfl (mwpI_mono (fun z5 h5 F => ?_) F)
      refine w_goto (tgt := 24) rfl (by decide) ?_
      exact w_iret rfl rfl ⟨rfl, rfl, _, rfl, F⟩
def fR (p q : Nat) (L : Nat → Nat → Int) (N1 N2 : Nat → Nat) (c : Nat) (x z : Int) : Prop := (z = -4 ∧ ∀ i, i < c → bC p q L i < q → (N2 (bC p q L i) : Int) ≠ x) ∨ ∃ i, i < c ∧ bC p q L i < q ∧ (N2 (bC p q L i) : Int) = x ∧ z = N1 i
theorem fR_u {p q : Nat} {L : Nat → Nat → Int} {N1 N2 : Nat → Nat} {x z z2 : Int} (inj : ∀ i j, i < j → j < q → N2 i ≠ N2 j) (a : fR p q L N1 N2 p x z) (b : fR p q L N1 N2 p x z2) : z = z2 := by
  rcases a with ⟨a1, a2⟩ | ⟨i, a1, a2, a3, a4⟩ <;> rcases b with ⟨b1, b2⟩ | ⟨j, b1, b2, b3, b4⟩
  · omega
  · exact absurd b3 (a2 j b1 b2)
  · exact absurd a3 (b2 i a1 a2)
  · have e : bC p q L i = bC p q L j := by
      by_cases y : bC p q L i < bC p q L j
      · exact absurd (by omega) (inj _ _ y b2)
      · by_cases w : bC p q L j < bC p q L i
        · exact absurd (by omega) (inj _ _ w a2)
        · omega
    have e2 : i = j := by
      by_cases y : i < j
      · exact absurd e (bC_inj b1 y a2)
      · by_cases w : j < i
        · exact absurd e.symm (bC_inj a1 w b2)
        · omega
    rw [a4, b4, e2]
noncomputable def frA (p q : Nat) (L : Nat → Nat → Int) (N1 N2 : Nat → Nat) (x : Int) : Int := cif (lst (fun i => bC p q L i < q ∧ (N2 (bC p q L i) : Int) = x) p < p) (N1 (lst (fun i => bC p q L i < q ∧ (N2 (bC p q L i) : Int) = x) p)) (-4)
theorem frA_c {p q : Nat} {L : Nat → Nat → Int} {N1 N2 : Nat → Nat} {x : Int} : fR p q L N1 N2 p x (frA p q L N1 N2 x) := by
  unfold frA
  rcases lst_c (P := fun i => bC p q L i < q ∧ (N2 (bC p q L i) : Int) = x) p with ⟨a, b, _⟩ | ⟨a, b⟩
  · rw [cif_t a]; exact Or.inr ⟨_, a, b.1, b.2, rfl⟩
  · rw [cif_f (by omega)]; exact Or.inl ⟨rfl, fun i hi h1 h2 => b i hi ⟨h1, h2⟩⟩
noncomputable def cfV (n : Nat) (lg : Nat → Nat → Int) (fh : Nat → Nat) (d x : Int) : Int := cif (x < 0) x (cif (nP n lg d ≤ 8 ∧ nP n lg (d + 1) ≤ 8) (frA (nP n lg d) (nP n lg (d + 1)) (Lk n lg fh d) (nmS (sS n lg d)) (nmS (sS n lg (d + 1))) x) (-2))
noncomputable def trv (n : Nat) (lg : Nat → Nat → Int) (fh : Nat → Nat) : Nat → Int → Int
  | 0, x => x
  | m + 1, x => trv n lg fh m (cfV n lg fh m x)
theorem trv_n {n : Nat} {lg : Nat → Nat → Int} {fh : Nat → Nat} {x : Int} (hx : x < 0) : ∀ m, trv n lg fh m x = x
  | 0 => rfl
  | m + 1 => by rw [trv, show cfV n lg fh m x = x from cif_t hx]; exact trv_n hx m
theorem cfV_R {n : Nat} {lg : Nat → Nat → Int} {fh : Nat → Nat} {d x : Int} (hx : -4 ≤ x ∧ x < 12) : -4 ≤ cfV n lg fh d x ∧ cfV n lg fh d x < 12 := by
  unfold cfV
  by_cases y : x < 0
  · rw [cif_t y]; omega
  · rw [cif_f y]
    by_cases z : nP n lg d ≤ 8 ∧ nP n lg (d + 1) ≤ 8
    · rw [cif_t z]
      rcases frA_c (p := nP n lg d) (q := nP n lg (d + 1)) (L := Lk n lg fh d) (N1 := nmS (sS n lg d)) (N2 := nmS (sS n lg (d + 1))) (x := x) with ⟨a, _⟩ | ⟨i, a, _, _, b⟩
      · omega
      · have := (nmS_c a).1; omega
    · rw [cif_f z]; omega
theorem trv_R {n : Nat} {lg : Nat → Nat → Int} {fh : Nat → Nat} : ∀ (m : Nat) (x : Int), -4 ≤ x ∧ x < 12 → -4 ≤ trv n lg fh m x ∧ trv n lg fh m x < 12
  | 0, _, h => h
  | m + 1, _, h => trv_R m _ (cfV_R h)
noncomputable def orA (n : Nat) (lg : Nat → Nat → Int) (d : Int) (b : Nat) : Int := cif (sS n lg d b) (b : Int) (-4)
theorem orA_R {n : Nat} {lg : Nat → Nat → Int} {d : Int} {b : Nat} (hb : b < 12) : -4 ≤ orA n lg d b ∧ orA n lg d b < 12 := by
  unfold orA
  by_cases y : sS n lg d b
  · rw [cif_t y]; omega
  · rw [cif_f y]; omega
theorem C_so_4 {D : Nat} {h : St} {K : Int → St → Prop} {n : Nat} {lg : Nat → Nat → Int} {d : Int} (cl : CLog h n lg) (vl : VLog n lg) (rd : inR d) (k : K ((orB (fun i => onD lg i d d) (fun i => (lg 0 i).toNat) n : Nat) : Int) h) : ∀ (r c : Nat), c + r = n → wI (D + 1) m_CallLog_sendersOn 4 [(0, vR 1), (1, vI d), (2, vI ((orB (fun i => onD lg i d d) (fun i => (lg 0 i).toNat) c : Nat) : Int)), (3, vI c)] [] h K := by
  have hn := cl.2.1
  have h8 := cl.1
  intro r
  induction r with
  | zero =>
    intro c hc
    have e : c = n := by omega
    subst e
    exact s_CallLog_sendersOn_4 _ _ _ h K ⟨⟨by omega, by omega⟩, ⟨by omega, by omega⟩, fun _ => k, fun y => by omega⟩
  | succ r ih =>
    intro c hc
    have hc2 : c < n := by omega
    obtain ⟨a0, _⟩ := CLog_at cl hc2
    have q1 := (vl c hc2).1
    refine s_CallLog_sendersOn_4 _ _ _ h K ⟨⟨by omega, by omega⟩, ⟨by omega, by omega⟩, fun y => by omega, fun _ => c_CallLog_isOn cl vl hc2 rd rd ⟨b2i_R, fun z => ?_, fun z => ⟨⟨by omega, by omega⟩, ?_⟩⟩⟩
    · have := ih (c + 1) (by omega)
      rw [show orB (fun i => onD lg i d d) (fun i => (lg 0 i).toNat) (c + 1) = orB (fun i => onD lg i d d) (fun i => (lg 0 i).toNat) c from nif_f (b2i_eq0.mp z)] at this
      exact this
    · have b1 : orB (fun i => onD lg i d d) (fun i => (lg 0 i).toNat) c < 2 ^ 12 := orB_lt c (fun i hi => by have := (vl i (by omega)).1; omega)
      have hs : (lg 0 c).toNat < 12 := by omega
      have p2 : 2 ^ (lg 0 c).toNat < 2 ^ 12 := Nat.pow_lt_pow_right (by decide) hs
      have := ih (c + 1) (by omega)
      rw [show orB (fun i => onD lg i d d) (fun i => (lg 0 i).toNat) (c + 1) = (orB (fun i => onD lg i d d) (fun i => (lg 0 i).toNat) c ||| 2 ^ (lg 0 c).toNat) from nif_t (b2i_ne0.mp z)] at this
      rw [Int.toNat_natCast, a0, show lg 0 c = (((lg 0 c).toNat : Nat) : Int) by omega, shl_1 (by omega), or3_nat (by omega) (by omega)]
      exact this
theorem so_tb {n : Nat} {lg : Nat → Nat → Int} {d : Int} (vl : VLog n lg) {b : Nat} : (orB (fun i => onD lg i d d) (fun i => (lg 0 i).toNat) n).testBit b = true ↔ sS n lg d b := by
  rw [orB_tb]
  constructor
  · rintro ⟨i, i1, i2, i3⟩
    have := (vl i i1).1
    exact ⟨i, i1, by omega, onD_of.mp i2⟩
  · rintro ⟨i, i1, i2, i3⟩
    have : (lg 0 i) = (b : Int) := i2
    exact ⟨i, i1, onD_of.mpr i3, by omega⟩
theorem C_io {D : Nat} {h : St} {K : Int → St → Prop} (hR : ∀ b, b < 12 → -4 ≤ h 76 b ∧ h 76 b < 12) (k0 : (∀ b, b < 12 → h 76 b < 0) → K 0 h) (k1 : K 1 h) : ∀ (r c : Nat), c + r = 12 → (∀ b, b < c → h 76 b < 0) → wI D m_Trail_isOpen 2 [(0, vR 75), (1, vI c)] [] h K := by
  intro r
  induction r with
  | zero =>
    intro c hc w
    exact s_Trail_isOpen_2 _ h K ⟨⟨by omega, by omega⟩, fun _ => k0 (fun b hb => w b (by omega)), fun y => by omega⟩
  | succ r ih =>
    intro c hc w
    have hr := hR c (by omega)
    refine s_Trail_isOpen_2 _ h K ⟨⟨by omega, by omega⟩, fun y => by omega, fun _ => ⟨⟨by omega, by omega⟩, ?_⟩⟩
    rw [Int.toNat_natCast]
    refine ⟨⟨by omega, by omega⟩, fun z => ih (c + 1) (by omega) (fun b hb => ?_), fun _ => k1⟩
    by_cases e : b = c
    · subst e; exact z
    · exact w b (by omega)
theorem c_Trail_isOpen {D : Nat} {h : St} {K : Int → St → Prop} (hR : ∀ b, b < 12 → -4 ≤ h 76 b ∧ h 76 b < 12) (k0 : (∀ b, b < 12 → h 76 b < 0) → K 0 h) (k1 : K 1 h) : mwpI (D + 1) m_Trail_isOpen [vR 75] h K :=
  mI_intro b_Trail_isOpen rfl (s_Trail_isOpen_0 (d := D) h K (C_io hR k0 k1 12 0 (by omega) (fun b hb => absurd hb (Nat.not_lt_zero _))))
theorem C_mn {D : Nat} {h : St} {K : Int → St → Prop} (hR : ∀ b, b < 12 → -4 ≤ h 76 b ∧ h 76 b < 12) (k0 : (∀ b, b < 12 → h 76 b ≠ -2) → K 0 h) (k1 : (∃ b, b < 12 ∧ h 76 b = -2) → K 1 h) : ∀ (r c : Nat), c + r = 12 → (∀ b, b < c → h 76 b ≠ -2) → wI D m_Trail_meetsNo 2 [(0, vR 75), (1, vI c)] [] h K := by
  intro r
  induction r with
  | zero =>
    intro c hc w
    exact s_Trail_meetsNo_2 _ h K ⟨⟨by omega, by omega⟩, fun _ => k0 (fun b hb => w b (by omega)), fun y => by omega⟩
  | succ r ih =>
    intro c hc w
    have hr := hR c (by omega)
    refine s_Trail_meetsNo_2 _ h K ⟨⟨by omega, by omega⟩, fun y => by omega, fun _ => ⟨⟨by omega, by omega⟩, ?_⟩⟩
    rw [Int.toNat_natCast]
    refine ⟨⟨by omega, by omega⟩, fun z => ih (c + 1) (by omega) (fun b hb => ?_), fun z => k1 ⟨c, by omega, by omega⟩⟩
    by_cases e : b = c
    · subst e; exact z
    · exact w b (by omega)
theorem c_Trail_meetsNo {D : Nat} {h : St} {K : Int → St → Prop} (hR : ∀ b, b < 12 → -4 ≤ h 76 b ∧ h 76 b < 12) (k0 : (∀ b, b < 12 → h 76 b ≠ -2) → K 0 h) (k1 : (∃ b, b < 12 ∧ h 76 b = -2) → K 1 h) : mwpI (D + 1) m_Trail_meetsNo [vR 75] h K :=
  mI_intro b_Trail_meetsNo rfl (s_Trail_meetsNo_0 (d := D) h K (C_mn hR k0 k1 12 0 (by omega) (fun b hb => absurd hb (Nat.not_lt_zero _))))
theorem C_sb {D : Nat} {h0 : St} {K : St → Prop} {z : Int} {g : Int → Int} (rz : inR z) (hR : ∀ b, b < 12 → -4 ≤ h0 76 b ∧ h0 76 b < 12) (hg : ∀ x : Nat, x < 12 → cif (z = 0) (-2) (h0 71 x) = g x) (k : ∀ h2, ag (fun c _ => c ≠ 76) h0 h2 → (∀ b, b < 12 → h2 76 b = cif (h0 76 b < 0) (h0 76 b) (g (h0 76 b))) → K h2) : ∀ (r c : Nat) (h : St), c + r = 12 → ag (fun c _ => c ≠ 76) h0 h → (∀ b, b < c → h 76 b = cif (h0 76 b < 0) (h0 76 b) (g (h0 76 b))) → (∀ b, c ≤ b → h 76 b = h0 76 b) → wV D m_Trail_stepBack 2 [(0, vR 75), (1, vR 59), (2, vI z), (3, vI c)] [] h K := by
  intro r
  induction r with
  | zero =>
    intro c h hc g1 w1 w2
    exact s_Trail_stepBack_2 _ _ h K ⟨⟨by omega, by omega⟩, fun _ => k h g1 (fun b hb => w1 b (by omega)), fun y => by omega⟩
  | succ r ih =>
    intro c h hc g1 w1 w2
    have hr := hR c (by omega)
    have e0 := w2 c (Nat.le_refl _)
    refine s_Trail_stepBack_2 _ _ h K ⟨⟨by omega, by omega⟩, fun y => by omega, fun _ => ⟨⟨by omega, by omega⟩, ?_⟩⟩
    rw [Int.toNat_natCast, e0]
    refine ⟨⟨by omega, by omega⟩, fun y => ih (c + 1) h (by omega) g1 (fun b hb => ?_) (fun b hb => w2 b (by omega)), fun y => ⟨⟨rz, fun _ => ⟨by omega, by omega⟩⟩, ?_⟩⟩
    · by_cases e : b = c
      · subst e; rw [e0, cif_t y]
      · exact w1 b (by omega)
    · have hgx := hg (h0 76 c).toNat (by omega)
      rw [g1 71 _ (by omega), hgx, show (((h0 76 c).toNat : Nat) : Int) = h0 76 c by omega]
      refine ih (c + 1) _ (by omega) (ag_up (by omega) g1) (fun b hb => ?_) (fun b hb => by rw [up_ne (by omega)]; exact w2 b (by omega))
      by_cases e : b = c
      · subst e; rw [up_same, cif_f y]
      · rw [up_ne (by omega)]; exact w1 b (by omega)
theorem c_Trail_stepBack {D : Nat} {h : St} {K : St → Prop} {z : Int} {g : Int → Int} (rz : inR z) (hR : ∀ b, b < 12 → -4 ≤ h 76 b ∧ h 76 b < 12) (hg : ∀ x : Nat, x < 12 → cif (z = 0) (-2) (h 71 x) = g x) (k : ∀ h2, ag (fun c _ => c ≠ 76) h h2 → (∀ b, b < 12 → h2 76 b = cif (h 76 b < 0) (h 76 b) (g (h 76 b))) → K h2) : mwpV (D + 1) m_Trail_stepBack [vR 75, vR 59, vI z] h K :=
  mV_intro b_Trail_stepBack rfl (s_Trail_stepBack_0 (d := D) _ h K (C_sb rz hR hg k 12 0 h (by omega) ag_rfl (fun b hb => absurd hb (Nat.not_lt_zero _)) (fun b _ => rfl)))
theorem cmf_e {h : St} {p q : Nat} {L : Nat → Nat → Int} {N1 N2 : Nat → Nat} (inj : ∀ i j, i < j → j < q → N2 i ≠ N2 j) (a : cmf h p q L N1 N2 p) {x : Nat} (hx : x < 12) : h 71 x = frA p q L N1 N2 x := by
  refine fR_u inj ?_ frA_c
  by_cases ex : ∃ i, i < p ∧ bC p q L i < q ∧ N2 (bC p q L i) = x
  · obtain ⟨i, i1, i2, i3⟩ := ex
    refine Or.inr ⟨i, i1, i2, by omega, ?_⟩
    rw [← i3]; exact a.1 i i1 i2
  · exact Or.inl ⟨a.2 x hx (fun i i1 i2 i3 => ex ⟨i, i1, i2, i3⟩), fun i i1 i2 i3 => ex ⟨i, i1, i2, by omega⟩⟩
theorem C_wk_54 {D : Nat} {K : St → Prop} {n : Nat} {lg : Nat → Nat → Int} {fh : Nat → Nat} {x4 x5 : Int} {T : Nat → Int} (vl : VLog n lg) (fb : ∀ c, c < n → fh c < 60) : ∀ (m : Nat) (x : Int) (h : St), x = (m : Int) - 1 → m ≤ 20 → CLog h n lg → (∀ c, c < n → h 58 (paA lg c) = ((fh c : Nat) : Int)) → (∀ b, b < 12 → (-4 ≤ h 76 b ∧ h 76 b < 12) ∧ trv n lg fh m (h 76 b) = T b) → (∀ h2, ag (fun c k => (c < 60 ∨ 76 < c) ∧ ¬ (c = 59 ∧ k = 7)) h h2 → (∀ b, b < 12 → h2 76 b = T b) → K h2) → wV (D + 5) m_Trail_walk 54 [(0, vR 75), (1, vR 1), (2, vR 57), (3, vR 59), (4, vI x4), (5, vI x5), (6, vI x)] [] h K := by
  intro m
  induction m with
  | zero =>
    intro x h e hm cl hf w k
    exact s_Trail_walk_54 _ _ _ h K ⟨⟨by omega, by omega⟩, fun _ => k h ag_rfl (fun b hb => (w b hb).2), fun y => by omega⟩
  | succ m ih =>
    intro x h e hm cl hf w k
    have e2 : x = (m : Int) := by omega
    subst e2
    refine s_Trail_walk_54 _ _ _ h K ⟨⟨by omega, by omega⟩, fun y => by omega, fun _ => ?_⟩
    refine c_Trail_isOpen (fun b hb => (w b hb).1) (fun al => ⟨by decide, fun _ => k h ag_rfl (fun b hb => ?_), fun y => absurd rfl y⟩) ⟨by decide, fun y => absurd y (by decide), fun _ => ?_⟩
    · have := (w b hb).2
      rw [trv_n (al b hb)] at this; exact this
    · have go : ∀ (z : Int) (h2 : St), inR z → ag (fun c k => (c < 60 ∨ 74 < c) ∧ ¬ (c = 59 ∧ k = 7)) h h2 → (∀ x : Nat, x < 12 → cif (z = 0) (-2) (h2 71 x) = cfV n lg fh m x) → mwpV (D + 5) m_Trail_stepBack [vR 75, vR 59, vI z] h2 (fun h7 => (wV (D + 5) m_Trail_walk 54 [(0, vR 75), (1, vR 1), (2, vR 57), (3, vR 59), (4, vI x4), (5, vI x5), (6, vI ((m : Int) + (-1)))] [] h7 K)) := fun z h2 rz g2 hg => by
        have er : ∀ b, h2 76 b = h 76 b := fun b => g2 76 b (by omega)
        refine c_Trail_stepBack rz (fun b hb => by rw [er]; exact (w b hb).1) hg (fun h3 g3 w3 => ?_)
        have g23 : ag (fun c k => (c < 60 ∨ 76 < c) ∧ ¬ (c = 59 ∧ k = 7)) h h3 := ag_trans (ag_sub (fun c k p => by omega) g2) (ag_sub (fun c k p => by omega) g3)
        refine ih _ h3 (by omega) (by omega) (CLog_c (ag_sub (fun c k p => by omega) g23) cl) (fun c hc => by rw [g23 58 _ (by omega)]; exact hf c hc) (fun b hb => ?_) (fun h4 g4 => k h4 (ag_trans g23 g4))
        obtain ⟨y1, y2⟩ := w b hb
        have e3 : h3 76 b = cfV n lg fh m (h 76 b) := by
          rw [w3 b hb, er]
          by_cases y : h 76 b < 0
          · rw [cif_t y]; exact (cif_t y).symm
          · rw [cif_f y]
        rw [e3]
        exact ⟨cfV_R y1, y2⟩
      refine c_Pairing_solve cl vl (by omega) hf fb (fun no h2 g2 => go 0 h2 (by decide) g2 (fun x hx => ?_)) (fun p8 q8 h2 g2 sv => go 1 h2 (by decide) g2 (fun x hx => ?_))
      · unfold cfV
        rw [cif_t rfl, cif_f (by omega), cif_f no]
      · unfold cfV
        rw [cif_f (by decide), cif_f (by omega), cif_t ⟨p8, q8⟩]
        exact cmf_e (fun i j x y => nmS_ne x y) sv.2.2.1 hx
theorem C_wk_11 {D : Nat} {K : St → Prop} {n : Nat} {lg : Nat → Nat → Int} {x4 : Int} {so : Nat} (sb : so < 2 ^ 12) (st : ∀ b, so.testBit b = true ↔ sS n lg x4 b) : ∀ (r c : Nat) (h : St), c + r = 12 → (∀ b, b < c → h 76 b = orA n lg x4 b) → (∀ h2, ag (fun c _ => c ≠ 76) h h2 → (∀ b, b < 12 → h2 76 b = orA n lg x4 b) → wV (D + 5) m_Trail_walk 54 [(0, vR 75), (1, vR 1), (2, vR 57), (3, vR 59), (4, vI x4), (5, vI so), (6, vI (x4 - 1))] [] h2 K) → wV (D + 5) m_Trail_walk 11 [(0, vR 75), (1, vR 1), (2, vR 57), (3, vR 59), (4, vI x4), (5, vI so), (6, vI c)] [] h K := by
  intro r
  induction r with
  | zero =>
    intro c h hc w k
    exact s_Trail_walk_11 _ _ _ h K ⟨⟨by omega, by omega⟩, fun _ => k h ag_rfl (fun b hb => w b (by omega)), fun y => by omega⟩
  | succ r ih =>
    intro c h hc w k
    refine s_Trail_walk_11 _ _ _ h K ⟨⟨by omega, by omega⟩, fun y => by omega, fun _ => ?_⟩
    rw [has_nat (by omega) (by omega), Int.toNat_natCast]
    refine ⟨b2i_R, ⟨by omega, by omega⟩, ih (c + 1) _ (by omega) (fun b hb => ?_) (fun h2 g2 => k h2 (ag_trans (ag_up (by omega) ag_rfl) g2))⟩
    by_cases e : b = c
    · subst e
      rw [up_same]
      unfold orA
      by_cases y : sS n lg x4 b
      · rw [cif_t y, cif_f (fun z => b2i_eq0.mp z ((st b).mpr y))]
      · rw [cif_f y, cif_t (b2i_f (fun z => y ((st b).mp z)))]
    · rw [up_ne (by omega)]; exact w b (by omega)
theorem c_Trail_walk {D : Nat} {K : St → Prop} {n : Nat} {lg : Nat → Nat → Int} {fh : Nat → Nat} {m : Nat} {h : St} (cl : CLog h n lg) (vl : VLog n lg) (fb : ∀ c, c < n → fh c < 60) (hf : ∀ c, c < n → h 58 (paA lg c) = ((fh c : Nat) : Int)) (hm : m ≤ 19) (k : ∀ h2, ag (fun c k => (c < 60 ∨ 76 < c) ∧ ¬ (c = 59 ∧ k = 7)) h h2 → (∀ b, b < 12 → h2 76 b = trv n lg fh m (orA n lg m b)) → K h2) : mwpV (D + 6) m_Trail_walk [vR 75, vR 1, vR 57, vR 59, vI m] h K := by
  refine mV_intro b_Trail_walk rfl (s_Trail_walk_0 (d := D) _ h K ?_)
  refine mI_intro b_CallLog_sendersOn rfl (s_CallLog_sendersOn_0 (d := D + 3) _ h _ (C_so_4 cl vl ⟨by omega, by omega⟩ ?_ n 0 (by omega)))
  refine C_wk_11 (orB_lt n (fun i hi => by have := (vl i hi).1; omega)) (fun b => so_tb vl) 12 0 h (by omega) (fun b hb => absurd hb (Nat.not_lt_zero _)) (fun h2 g2 w2 => ?_)
  refine C_wk_54 vl fb m _ h2 rfl (by omega) (CLog_c (ag_sub (fun c k p => by omega) g2) cl) (fun c hc => by rw [g2 58 _ (by omega)]; exact hf c hc) (fun b hb => ⟨by rw [w2 b hb]; exact orA_R hb, by rw [w2 b hb]⟩) (fun h3 g3 w3 => k h3 (ag_trans (ag_sub (fun c k p => by omega) g2) g3) w3)
def agT (h h2 : St) : Prop := ag (fun c k => (c < 131 ∨ 136 < c) ∧ ¬ (c = 109 ∧ (k = 29 ∨ k = 30))) h h2
theorem M_tr_47 {D : Nat} {h : St} {K : Int → St → Prop} {x1 x2 x3 x4 : Int} {p q : Nat} {L : Nat → Nat → Int} {N1 N2 : Nat → Nat} (mq : Mq h p q L) (mn : MN h p q N1 N2) (mb : mbc h p q L p) (r3 : inR x3) (k : ∀ z, fR p q L N1 N2 p x3 z → (0 ≤ z → wI (D + 3) m_M_traced 19 [(0, vR 109), (1, vI x1), (2, vI x2), (3, vI z), (4, vI (x4 + (-1)))] [] h K) ∧ (¬ 0 ≤ z → K (-4) h)) : ∀ (r c : Nat) (z : Int), c + r = p → fR p q L N1 N2 c x3 z → wI (D + 3) m_M_traced 47 [(0, vR 109), (1, vI x1), (2, vI x2), (3, vI x3), (4, vI x4), (5, vI z), (6, vI c)] [] h K := by
  have a1 := mq.1
  have p8 := mq.2.2.1
  have q8 := mq.2.2.2.1
  intro r
  induction r with
  | zero =>
    intro c z hc w
    have e : c = p := by omega
    subst e
    have rz : -4 ≤ z ∧ z < 12 := by
      rcases w with ⟨w1, _⟩ | ⟨i, w1, _, _, w2⟩
      · omega
      · have := (mn.1 i w1).2; omega
    obtain ⟨k1, k2⟩ := k z w
    exact s_M_traced_47 _ _ _ _ _ _ h K ⟨⟨by omega, by omega⟩, ⟨by omega, by omega⟩, fun _ => ⟨⟨by omega, by omega⟩, k1, k2⟩, fun y => by omega⟩
  | succ r ih =>
    intro c z hc w
    have hcp : c < p := by omega
    have bl := bC_le (p := p) (q := q) (L := L) (i := c)
    refine s_M_traced_47 _ _ _ _ _ _ h K ⟨⟨by omega, by omega⟩, ⟨by omega, by omega⟩, fun y => by omega, fun _ => ⟨⟨by omega, by omega⟩, ?_⟩⟩
    rw [Int.toNat_natCast, mb c hcp]
    have ws : ¬ (bC p q L c < q ∧ (N2 (bC p q L c) : Int) = x3) → fR p q L N1 N2 (c + 1) x3 z := fun no => by
      rcases w with ⟨w1, w2⟩ | ⟨i, w1, w2⟩
      · refine Or.inl ⟨w1, fun i i1 i2 i3 => ?_⟩
        by_cases e : i = c
        · subst e; exact no ⟨i2, i3⟩
        · exact w2 i (by omega) i2 i3
      · exact Or.inr ⟨i, by omega, w2⟩
    by_cases y : bC p q L c < q
    · obtain ⟨n1, n2⟩ := mn.2 _ y
      rw [cif_t y, Int.toNat_natCast, n1]
      refine ⟨⟨⟨by omega, by omega⟩, fun _ => ⟨⟨by omega, by omega⟩, ⟨by omega, by omega⟩, r3, fun _ => ⟨by omega, by omega⟩⟩⟩, ih (c + 1) _ (by omega) ?_⟩
      rw [cif_f (show ¬ ((bC p q L c : Nat) : Int) < 0 by omega)]
      by_cases e : (N2 (bC p q L c) : Int) = x3
      · rw [cif_f (fun z => z e)]
        exact Or.inr ⟨c, by omega, y, e, (mn.1 c hcp).1⟩
      · rw [cif_t e]
        exact ws (fun z => e z.2)
    · rw [cif_f y]
      refine ⟨⟨by decide, fun z => absurd (by decide) z⟩, ih (c + 1) _ (by omega) ?_⟩
      rw [cif_t (by decide)]
      exact ws (fun z => y z.1)
theorem M_tr_19 {D : Nat} {K : Int → St → Prop} {n : Nat} {lg : Nat → Nat → Int} {fh : Nat → Nat} {x1 x2 t : Int} (vl : VLog n lg) (fb : ∀ c, c < n → fh c < 60) (rt : 0 ≤ t ∧ t ≤ 99) (hu : ∀ f, isHand lg n t f → ∀ c, c < n → f c = ((fh c : Nat) : Int)) : ∀ (m : Nat) (x x3 : Int) (h : St), x = (m : Int) - 1 → m ≤ 20 → 0 ≤ x3 ∧ x3 < 12 → MLog h n lg → h 109 14 = t → (∀ h2, agT h h2 → K (trv n lg fh m x3) h2) → wI (D + 3) m_M_traced 19 [(0, vR 109), (1, vI x1), (2, vI x2), (3, vI x3), (4, vI x)] [] h K := by
  intro m
  induction m with
  | zero =>
    intro x x3 h e hm hx ml et k
    exact s_M_traced_19 _ _ _ _ h K ⟨⟨by omega, by omega⟩, fun _ => k h ag_rfl, fun y => by omega⟩
  | succ m ih =>
    intro x x3 h e hm hx ml et k
    have e2 : x = (m : Int) := by omega
    subst e2
    refine s_M_traced_19 _ _ _ _ h K ⟨⟨by omega, by omega⟩, fun y => by omega, fun _ => ?_⟩
    refine c_M_lays ml vl fb (by omega) et rt hu (fun no h2 g2 => ⟨by decide, fun y => absurd y (by decide), fun _ => ?_⟩) (fun p8 q8 h2 g2 mq mn => ⟨by decide, fun _ => ?_, fun y => absurd (by decide) y⟩)
    · have := k h2 (ag_sub (fun c k p => by omega) g2)
      rw [trv, show cfV n lg fh m x3 = -2 by unfold cfV; rw [cif_f (by omega), cif_f no], trv_n (by decide)] at this
      exact this
    · refine c_M_pairs mq (fun h3 g3 mb => ?_)
      have g23 : agT h h3 := ag_trans (ag_sub (fun c k p => by omega) g2) (ag_sub (fun c k p => by omega) g3)
      refine M_tr_47 (Mq_c (ag_sub (fun c k p => by omega) g3) mq) (MN_c (ag_sub (fun c k p => by omega) g3) mn) mb ⟨by omega, by omega⟩ (fun z hz => ?_) _ 0 (-4) (Nat.zero_add _) (Or.inl ⟨rfl, fun i hi => absurd hi (Nat.not_lt_zero _)⟩)
      have ez : cfV n lg fh m x3 = z := by
        unfold cfV
        rw [cif_f (by omega), cif_t ⟨p8, q8⟩]
        exact fR_u (fun i j x y => nmS_ne x y) frA_c hz
      have rz := cfV_R (n := n) (lg := lg) (fh := fh) (d := m) (show -4 ≤ x3 ∧ x3 < 12 by omega)
      have kk : ∀ h2, agT h h2 → K (trv n lg fh m z) h2 := fun h2 g2 => by have := k h2 g2; rw [trv, ez] at this; exact this
      refine ⟨fun y => ih _ z h3 (by omega) (by omega) (by omega) (MLog_c (ag_sub (fun c k p => by omega) g23) ml) (by rw [g23 109 14 (by omega)]; exact et) (fun h4 g4 => kk h4 (ag_trans g23 g4)), fun y => ?_⟩
      have := kk h3 g23
      have z4 : z = -4 := by
        rcases hz with ⟨w1, _⟩ | ⟨i, w1, _, _, w2⟩
        · exact w1
        · omega
      rw [z4, trv_n (by decide)] at this
      exact this
theorem c_M_traced {D : Nat} {K : Int → St → Prop} {n : Nat} {lg : Nat → Nat → Int} {fh : Nat → Nat} {t : Int} {h : St} {m b : Nat} (vl : VLog n lg) (fb : ∀ c, c < n → fh c < 60) (rt : 0 ≤ t ∧ t ≤ 99) (hu : ∀ f, isHand lg n t f → ∀ c, c < n → f c = ((fh c : Nat) : Int)) (ml : MLog h n lg) (et : h 109 14 = t) (hm : m ≤ 19) (hb : b < 12) (k : ∀ h2, agT h h2 → K (trv n lg fh m (orA n lg m b)) h2) : mwpI (D + 4) m_M_traced [vR 109, vI m, vI b] h K := by
  refine mI_intro b_M_traced rfl (s_M_traced_0 (d := D) _ _ h K ?_)
  refine c_M_sends ml vl ⟨by omega, by omega⟩ ⟨by omega, by omega⟩ ⟨b2i_R, fun z => ?_, fun z => ?_⟩
  · refine M_tr_19 vl fb rt hu m _ _ h rfl (by omega) (by omega) ml et (fun h2 g2 => ?_)
    have := k h2 g2
    rw [show orA n lg m b = b from cif_t (b2i_ne0.mp z)] at this
    exact this
  · have := k h ag_rfl
    rw [show orA n lg m b = -4 from cif_f (fun y => z (b2i_ne0.mpr y)), trv_n (by decide)] at this
    exact this
theorem P_trace {KK : Int → Int → St → Prop} {h : St} (hr : Rel h) {a1 a2 : Int} (r1 : inR a1) (r2 : inR a2) (k : ∀ z h2, inR z → Rel h2 → KK z z h2) : mwpI 40 m_C_trace [vR 0, vI a1, vI a2] h (fun z h1 => mwpI 40 m_M_trace [vR 109, vI a1, vI a2] h1 (fun z2 h2 => KK z z2 h2)) := by
  have kb := k (-1) h (by decide) hr
  refine mI_intro b_C_trace rfl (s_C_trace_0 (d := 33) a1 a2 h _ ⟨r1, fun q => mI_intro b_M_trace rfl (s_M_trace_0 (d := 35) a1 a2 _ _ ⟨r1, fun _ => kb, fun y => absurd y q⟩), fun q1 => ⟨r2, fun q2 => ?_, fun q => mI_intro b_M_trace rfl (s_M_trace_0 (d := 35) a1 a2 _ _ ⟨r1, fun _ => kb, fun _ => ⟨r2, fun _ => kb, fun y => absurd y q⟩⟩)⟩⟩)
  obtain ⟨m, rfl⟩ : ∃ m : Nat, a1 = (m : Int) := ⟨a1.toNat, by omega⟩
  obtain ⟨b, rfl⟩ : ∃ b : Nat, a2 = (b : Int) := ⟨a2.toNat, by omega⟩
  refine C_grR hr (fun n lg fh h1 g1 cl ml vl hf fb hu ht hr1 => ?_)
  refine c_Trail_walk cl vl fb hf (by omega) (fun h2 g2 w2 => ⟨⟨by omega, by omega⟩, ?_⟩)
  rw [Int.toNat_natCast, w2 b (by omega)]
  have tr := trv_R (n := n) (lg := lg) (fh := fh) m _ (orA_R (n := n) (lg := lg) (d := m) (show b < 12 by omega))
  refine mI_intro b_M_trace rfl (s_M_trace_0 (d := 35) _ _ _ _ ⟨r1, fun y => absurd q1 y, fun _ => ⟨r2, fun y => absurd q2 y, fun _ => ?_⟩⟩)
  refine c_M_traced vl fb ht hu (MLog_c (ag_sub (fun c k p => by omega) g2) ml) (by rw [g2 109 14 (by omega), g1 109 14 (by omega)]) (by omega) (by omega) (fun h3 g3 => ?_)
  exact k _ _ ⟨by omega, by omega⟩ (Rel_c (ag_sub (fun c k p => by omega) g3) (Rel_c (ag_sub (fun c k p => by omega) g2) hr1))
