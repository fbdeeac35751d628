theorem s_C_rules_0 {d : Nat}  (x1 : Int) (h : St) (K : Int → St → Prop) (F : (inR x1) ∧ ((0 ≤ x1 ∧ x1 ≤ 18 → (mwpV (d + 5) m_Hands_group [vR 57, vR 1] h (fun h3 => (mwpI (d + 5) m_Pairing_solve [vR 59, vR 1, vR 57, vI x1] h3 (fun z4 h4 => (inR z4) ∧ ((z4 = 0 → (K ((-2)) h4)) ∧ (¬ (z4 = 0) → (mwpI (d + 5) m_Pairing_rulesLeft [vR 59] h4 (fun z7 h7 => (K z7 h7)))))))))) ∧ (¬ (0 ≤ x1 ∧ x1 ≤ 18) → (K ((-1)) h)))) : wI (d + 5) m_C_rules 0 [(0, vR 0), (1, vI x1)] [] h K := by
  refine w_iload_n rfl rfl ?_
  obtain ⟨b1, F⟩ := F
  refine c_SI [vI x1] [] rfl b_C_isMidnight k_C_164 rfl rfl rfl (c_C_isMidnight b1 ?_)
  refine w_ifne_b (tgt := 9) rfl (by decide) (fun q2 => ?_) (fun q2 => ?_)
  · replace F := F.1 q2
    refine w_aload_n rfl rfl ?_
    refine w_getR rfl f_C_26 rfl rfl rfl rfl rfl ?_
    refine w_aload_n rfl rfl ?_
    refine w_getR rfl f_C_10 rfl rfl rfl rfl rfl ?_
    refine c_VV [vR 1] [] rfl b_Hands_group k_C_147 rfl rfl rfl rfl rfl rfl (mwpV_mono (fun h3 F => ?_) F)
    refine w_aload_n rfl rfl ?_
    refine w_getR rfl f_C_33 rfl rfl rfl rfl rfl ?_
    refine w_aload_n rfl rfl ?_
    refine w_getR rfl f_C_10 rfl rfl rfl rfl rfl ?_
    refine w_aload_n rfl rfl ?_
    refine w_getR rfl f_C_26 rfl rfl rfl rfl rfl ?_
    refine w_iload_n rfl rfl ?_
    refine c_VI [vR 1, vR 57, vI x1] [] rfl b_Pairing_solve k_C_187 rfl rfl rfl rfl rfl rfl (mwpI_mono (fun z4 h4 F => ?_) F)
    obtain ⟨b5, F⟩ := F
    refine w_if_eq (tgt := 49) rfl (by decide) b5 (fun q6 => ?_) (fun q6 => ?_)
    · replace F := F.1 q6
      refine w_bipush (by decide) (by decide) rfl ?_
      exact w_iret rfl rfl ⟨rfl, rfl, _, rfl, F⟩
    · replace F := F.2 q6
      refine w_aload_n rfl rfl ?_
      refine w_getR rfl f_C_33 rfl rfl rfl rfl rfl ?_
      refine c_VI [] [] rfl b_Pairing_rulesLeft k_C_200 rfl rfl rfl rfl rfl rfl (mwpI_mono (fun z7 h7 F => ?_) F)
      refine w_goto (tgt := 51) rfl (by decide) ?_
      exact w_iret rfl rfl ⟨rfl, rfl, _, rfl, F⟩
  · replace F := F.2 q2
    refine w_iconst rfl ?_
    exact w_iret rfl rfl ⟨rfl, rfl, _, rfl, F⟩
theorem s_M_rules_0 {d : Nat}  (x1 : Int) (h : St) (K : Int → St → Prop) (F : (inR x1) ∧ ((0 ≤ x1 ∧ x1 ≤ 18 → (mwpI (d + 3) m_M_lays [vR 109, vI x1] h (fun z3 h3 => (inR z3) ∧ ((0 ≤ z3 → (mwpV (d + 3) m_M_pairs [vR 109] h3 (fun h6 => (wI (d + 3) m_M_rules 33 [(0, vR 109), (1, vI x1), (2, vI 0), (3, vI 0)] [] h6 K)))) ∧ (¬ (0 ≤ z3) → (K ((-2)) h3)))))) ∧ (¬ (0 ≤ x1 ∧ x1 ≤ 18) → (K ((-1)) h)))) : wI (d + 3) m_M_rules 0 [(0, vR 109), (1, vI x1)] [] h K := by
  refine w_iload_n rfl rfl ?_
  obtain ⟨b1, F⟩ := F
  refine w_i2l b1 rfl ?_
  refine w_lconst rfl ?_
  refine w_ldc2 (z := 18) kc_M_207 (by decide) rfl ?_
  refine c_SI [vJ x1, vJ 0, vJ 18] [] rfl b_M_in k_M_130 rfl rfl rfl (c_M_in (inL_of b1) (by decide) (by decide) ?_)
  refine w_ifne_b (tgt := 14) rfl (by decide) (fun q2 => ?_) (fun q2 => ?_)
  · replace F := F.1 q2
    refine w_aload_n rfl rfl ?_
    refine w_iload_n rfl rfl ?_
    refine c_VI [vI x1] [] rfl b_M_lays k_M_225 rfl rfl rfl rfl rfl rfl (mwpI_mono (fun z3 h3 F => ?_) F)
    obtain ⟨b4, F⟩ := F
    refine w_if_ge (tgt := 25) rfl (by decide) b4 (fun q5 => ?_) (fun q5 => ?_)
    · replace F := F.1 q5
      refine w_aload_n rfl rfl ?_
      refine c_VV [] [] rfl b_M_pairs k_M_231 rfl rfl rfl rfl rfl rfl (mwpV_mono (fun h6 F => ?_) F)
      refine w_iconst rfl ?_
      refine w_istore_n rfl rfl rfl rfl (w_ls (ls2 := [(0, vR 109), (1, vI x1), (2, vI 0)]) rfl ?_)
      refine w_iconst rfl ?_
      refine w_istore_n rfl rfl rfl rfl (w_ls (ls2 := [(0, vR 109), (1, vI x1), (2, vI 0), (3, vI 0)]) rfl ?_)
      exact F
    · replace F := F.2 q5
      refine w_bipush (by decide) (by decide) rfl ?_
      exact w_iret rfl rfl ⟨rfl, rfl, _, rfl, F⟩
  · replace F := F.2 q2
    refine w_iconst rfl ?_
    exact w_iret rfl rfl ⟨rfl, rfl, _, rfl, F⟩
theorem s_M_rules_33 {d : Nat}  (x1 x2 x3 : Int) (h : St) (K : Int → St → Prop) (F : (inR x3) ∧ ((12 ≤ x3 → (wI (d + 3) m_M_rules 53 [(0, vR 109), (1, vI x1), (2, vI x2), (3, vI 0)] [] h K)) ∧ (¬ (12 ≤ x3) → (wI (d + 3) m_M_rules 33 [(0, vR 109), (1, vI x1), (2, vI (or3 x2 (shl3 1 x3))), (3, vI (x3 + 1))] [] h K)))) : wI (d + 3) m_M_rules 33 [(0, vR 109), (1, vI x1), (2, vI x2), (3, vI x3)] [] h K := by
  refine w_iload_n rfl rfl ?_
  refine w_bipush (by decide) (by decide) rfl ?_
  obtain ⟨b1, F⟩ := F
  refine w_icmp_ge (tgt := 51) rfl (by decide) ⟨b1, (r_lit rfl)⟩ (fun q2 => ?_) (fun q2 => ?_)
  · replace F := F.1 q2
    refine w_iconst rfl ?_
    refine w_istore_n rfl rfl rfl rfl (w_ls (ls2 := [(0, vR 109), (1, vI x1), (2, vI x2), (3, vI 0)]) rfl ?_)
    exact F
  · replace F := F.2 q2
    refine w_iload_n rfl rfl ?_
    refine w_iconst rfl ?_
    refine w_iload_n rfl rfl ?_
    refine w_ishl rfl ?_
    refine w_ior rfl ?_
    refine w_istore_n rfl rfl rfl rfl (w_ls (ls2 := [(0, vR 109), (1, vI x1), (2, vI (or3 x2 (shl3 1 x3))), (3, vI x3)]) rfl ?_)
    refine w_iinc rfl rfl rfl rfl rfl (w_ls (ls2 := [(0, vR 109), (1, vI x1), (2, vI (or3 x2 (shl3 1 x3))), (3, vI (x3 + 1))]) rfl ?_)
    refine w_goto (tgt := 33) rfl (by decide) ?_
    exact F
theorem s_M_rules_53 {d : Nat}  (x1 x2 x3 : Int) (h : St) (K : Int → St → Prop) (F : (inR x3) ∧ (inR (h 109 29)) ∧ (((h 109 29) ≤ x3 → (K x2 h)) ∧ (¬ ((h 109 29) ≤ x3) → (0 ≤ x3 ∧ x3 < 8) ∧ (inR (h 136 x3.toNat)) ∧ (((h 136 x3.toNat) < 0 → (wI (d + 3) m_M_rules 53 [(0, vR 109), (1, vI x1), (2, vI x2), (3, vI (x3 + 1))] [] h K)) ∧ (¬ ((h 136 x3.toNat) < 0) → (mwpI (d + 3) m_M_isSure [vR 109, vI x3] h (fun z7 h7 => (inR z7) ∧ ((z7 = 0 → (wI (d + 3) m_M_rules 53 [(0, vR 109), (1, vI x1), (2, vI x2), (3, vI (x3 + 1))] [] h7 K)) ∧ (¬ (z7 = 0) → (0 ≤ h7 136 x3.toNat ∧ h7 136 x3.toNat < 12) ∧ (0 ≤ x3 ∧ x3 < 12) ∧ (inR (((h7 133 ((h7 136 x3.toNat).toNat)) - (h7 132 x3.toNat)) + 12)) ∧ (wI (d + 3) m_M_rules 53 [(0, vR 109), (1, vI x1), (2, vI (and3 x2 (shl3 1 ((((h7 133 ((h7 136 x3.toNat).toNat)) - (h7 132 x3.toNat)) + 12).tmod 12)))), (3, vI (x3 + 1))] [] h7 K)))))))))) : wI (d + 3) m_M_rules 53 [(0, vR 109), (1, vI x1), (2, vI x2), (3, vI x3)] [] h K := by
  refine w_iload_n rfl rfl ?_
  refine w_aload_n rfl rfl ?_
  refine w_getI rfl f_M_216 rfl rfl rfl ?_
  obtain ⟨b1, F⟩ := F
  obtain ⟨b2, F⟩ := F
  refine w_icmp_ge (tgt := 113) rfl (by decide) ⟨b1, b2⟩ (fun q3 => ?_) (fun q3 => ?_)
  · replace F := F.1 q3
    refine w_iload_n rfl rfl ?_
    exact w_iret rfl rfl ⟨rfl, rfl, _, rfl, F⟩
  · replace F := F.2 q3
    refine w_aload_n rfl rfl ?_
    refine w_getR rfl f_M_96 rfl rfl rfl rfl rfl ?_
    refine w_iload_n rfl rfl ?_
    obtain ⟨b4, F⟩ := F
    refine w_iaload rfl rfl rfl b4 ?_
    obtain ⟨b5, F⟩ := F
    refine w_if_lt (tgt := 107) rfl (by decide) b5 (fun q6 => ?_) (fun q6 => ?_)
    · replace F := F.1 q6
      refine w_iinc rfl rfl rfl rfl rfl (w_ls (ls2 := [(0, vR 109), (1, vI x1), (2, vI x2), (3, vI (x3 + 1))]) rfl ?_)
      refine w_goto (tgt := 53) rfl (by decide) ?_
      exact F
    · replace F := F.2 q6
      refine w_aload_n rfl rfl ?_
      refine w_iload_n rfl rfl ?_
      refine c_VI [vI x3] [] rfl b_M_isSure k_M_234 rfl rfl rfl rfl rfl rfl (mwpI_mono (fun z7 h7 F => ?_) F)
      obtain ⟨b8, F⟩ := F
      refine w_if_eq (tgt := 107) rfl (by decide) b8 (fun q9 => ?_) (fun q9 => ?_)
      · replace F := F.1 q9
        refine w_iinc rfl rfl rfl rfl rfl (w_ls (ls2 := [(0, vR 109), (1, vI x1), (2, vI x2), (3, vI (x3 + 1))]) rfl ?_)
        refine w_goto (tgt := 53) rfl (by decide) ?_
        exact F
      · replace F := F.2 q9
        refine w_iload_n rfl rfl ?_
        refine w_iconst rfl ?_
        refine w_aload_n rfl rfl ?_
        refine w_getR rfl f_M_87 rfl rfl rfl rfl rfl ?_
        refine w_aload_n rfl rfl ?_
        refine w_getR rfl f_M_96 rfl rfl rfl rfl rfl ?_
        refine w_iload_n rfl rfl ?_
        refine w_iaload rfl rfl rfl b4 ?_
        obtain ⟨b10, F⟩ := F
        refine w_iaload rfl rfl rfl b10 ?_
        refine w_aload_n rfl rfl ?_
        refine w_getR rfl f_M_84 rfl rfl rfl rfl rfl ?_
        refine w_iload_n rfl rfl ?_
        obtain ⟨b11, F⟩ := F
        refine w_iaload rfl rfl rfl b11 ?_
        refine w_isub rfl ?_
        refine w_bipush (by decide) (by decide) rfl ?_
        refine w_iadd rfl ?_
        refine w_bipush (by decide) (by decide) rfl ?_
        obtain ⟨b12, F⟩ := F
        refine w_irem ⟨b12, (r_lit rfl), (by decide)⟩ rfl ?_
        refine w_ishl rfl ?_
        refine w_iand rfl ?_
        refine w_istore_n rfl rfl rfl rfl (w_ls (ls2 := [(0, vR 109), (1, vI x1), (2, vI (and3 x2 (shl3 1 ((((h7 133 ((h7 136 x3.toNat).toNat)) - (h7 132 x3.toNat)) + 12).tmod 12)))), (3, vI x3)]) rfl ?_)
        refine w_iinc rfl rfl rfl rfl rfl (w_ls (ls2 := [(0, vR 109), (1, vI x1), (2, vI (and3 x2 (shl3 1 ((((h7 133 ((h7 136 x3.toNat).toNat)) - (h7 132 x3.toNat)) + 12).tmod 12)))), (3, vI (x3 + 1))]) rfl ?_)
        refine w_goto (tgt := 53) rfl (by decide) ?_
        exact F
theorem s_Pairing_rulesLeft_0 {d : Nat}  (h : St) (K : Int → St → Prop) (F : (wI (d + 1) m_Pairing_rulesLeft 6 [(0, vR 59), (1, vI 4095), (2, vI 0)] [] h K)) : wI (d + 1) m_Pairing_rulesLeft 0 [(0, vR 59)] [] h K := by
  refine w_sipush (by decide) (by decide) rfl ?_
  refine w_istore_n rfl rfl rfl rfl (w_ls (ls2 := [(0, vR 59), (1, vI 4095)]) rfl ?_)
  refine w_iconst rfl ?_
  refine w_istore_n rfl rfl rfl rfl (w_ls (ls2 := [(0, vR 59), (1, vI 4095), (2, vI 0)]) rfl ?_)
  exact F
theorem s_Pairing_rulesLeft_6 {d : Nat}  (x1 x2 : Int) (h : St) (K : Int → St → Prop) (F : (inR x2) ∧ ((12 ≤ x2 → (K x1 h)) ∧ (¬ (12 ≤ x2) → (mwpI (d + 1) m_Pairing_isSure [vR 59, vI x2] h (fun z3 h3 => (inR z3) ∧ ((z3 = 0 → (wI (d + 1) m_Pairing_rulesLeft 6 [(0, vR 59), (1, vI x1), (2, vI (x2 + 1))] [] h3 K)) ∧ (¬ (z3 = 0) → (0 ≤ x2 ∧ x2 < 12) ∧ (inR (((h3 70 x2.toNat) - x2) + 12)) ∧ (wI (d + 1) m_Pairing_rulesLeft 6 [(0, vR 59), (1, vI (and3 x1 (shl3 1 ((((h3 70 x2.toNat) - x2) + 12).tmod 12)))), (2, vI (x2 + 1))] [] h3 K)))))))) : wI (d + 1) m_Pairing_rulesLeft 6 [(0, vR 59), (1, vI x1), (2, vI x2)] [] h K := by
  refine w_iload_n rfl rfl ?_
  refine w_bipush (by decide) (by decide) rfl ?_
  obtain ⟨b1, F⟩ := F
  refine w_icmp_ge (tgt := 45) rfl (by decide) ⟨b1, (r_lit rfl)⟩ (fun q2 => ?_) (fun q2 => ?_)
  · replace F := F.1 q2
    refine w_iload_n rfl rfl ?_
    exact w_iret rfl rfl ⟨rfl, rfl, _, rfl, F⟩
  · replace F := F.2 q2
    refine w_aload_n rfl rfl ?_
    refine w_iload_n rfl rfl ?_
    refine c_VI [vI x2] [] rfl b_Pairing_isSure k_Pairing_66 rfl rfl rfl rfl rfl rfl (mwpI_mono (fun z3 h3 F => ?_) F)
    obtain ⟨b4, F⟩ := F
    refine w_if_eq (tgt := 39) rfl (by decide) b4 (fun q5 => ?_) (fun q5 => ?_)
    · replace F := F.1 q5
      refine w_iinc rfl rfl rfl rfl rfl (w_ls (ls2 := [(0, vR 59), (1, vI x1), (2, vI (x2 + 1))]) rfl ?_)
      refine w_goto (tgt := 6) rfl (by decide) ?_
      exact F
    · replace F := F.2 q5
      refine w_iload_n rfl rfl ?_
      refine w_iconst rfl ?_
      refine w_aload_n rfl rfl ?_
      refine w_getR rfl f_Pairing_21 rfl rfl rfl rfl rfl ?_
      refine w_iload_n rfl rfl ?_
      obtain ⟨b6, F⟩ := F
      refine w_iaload rfl rfl rfl b6 ?_
      refine w_iload_n rfl rfl ?_
      refine w_isub rfl ?_
      refine w_bipush (by decide) (by decide) rfl ?_
      refine w_iadd rfl ?_
      refine w_bipush (by decide) (by decide) rfl ?_
      obtain ⟨b7, F⟩ := F
      refine w_irem ⟨b7, (r_lit rfl), (by decide)⟩ rfl ?_
      refine w_ishl rfl ?_
      refine w_iand rfl ?_
      refine w_istore_n rfl rfl rfl rfl (w_ls (ls2 := [(0, vR 59), (1, vI (and3 x1 (shl3 1 ((((h3 70 x2.toNat) - x2) + 12).tmod 12)))), (2, vI x2)]) rfl ?_)
      refine w_iinc rfl rfl rfl rfl rfl (w_ls (ls2 := [(0, vR 59), (1, vI (and3 x1 (shl3 1 ((((h3 70 x2.toNat) - x2) + 12).tmod 12)))), (2, vI (x2 + 1))]) rfl ?_)
      refine w_goto (tgt := 6) rfl (by decide) ?_
      exact F
noncomputable def stp (p q : Nat) (L : Nat → Nat → Int) (N1 N2 : Nat → Nat) (i : Nat) : Nat := (N2 (bC p q L i) + 12 - N1 i) % 12
def rlB (p q : Nat) (L : Nat → Nat → Int) (N1 N2 : Nat → Nat) (P : Nat → Prop) (l : Nat) : Prop := l < 2 ^ 12 ∧ ∀ k, l.testBit k = true ↔ k < 12 ∧ ∀ i, i < p → P i → sureP p q L i → stp p q L N1 N2 i = k
theorem rl_n {p q : Nat} {L : Nat → Nat → Int} {N1 N2 : Nat → Nat} {P P2 : Nat → Prop} {l : Nat} (a : rlB p q L N1 N2 P l) (e : ∀ i, i < p → sureP p q L i → (P2 i ↔ P i)) : rlB p q L N1 N2 P2 l :=
  ⟨a.1, fun k => (a.2 k).trans ⟨fun y => ⟨y.1, fun i x1 x2 x3 => y.2 i x1 ((e i x1 x3).mp x2) x3⟩, fun y => ⟨y.1, fun i x1 x2 x3 => y.2 i x1 ((e i x1 x3).mpr x2) x3⟩⟩⟩
theorem rl_y {p q : Nat} {L : Nat → Nat → Int} {N1 N2 : Nat → Nat} {P P2 : Nat → Prop} {l i0 : Nat} (a : rlB p q L N1 N2 P l) (h0 : i0 < p) (s0 : sureP p q L i0) (e : ∀ i, i < p → (P2 i ↔ P i ∨ i = i0)) : rlB p q L N1 N2 P2 (l &&& 2 ^ stp p q L N1 N2 i0) := by
  refine ⟨Nat.lt_of_le_of_lt Nat.and_le_left a.1, fun k => ?_⟩
  rw [Nat.testBit_and, Bool.and_eq_true, a.2 k, Nat.testBit_two_pow, decide_eq_true_iff]
  constructor
  · rintro ⟨⟨y1, y2⟩, y3⟩
    refine ⟨y1, fun i x1 x2 x3 => ?_⟩
    rcases (e i x1).mp x2 with z | z
    · exact y2 i x1 z x3
    · rw [z]; exact y3
  · rintro ⟨y1, y2⟩
    exact ⟨⟨y1, fun i x1 x2 x3 => y2 i x1 ((e i x1).mpr (Or.inl x2)) x3⟩, y2 i0 h0 ((e i0 h0).mpr (Or.inr rfl)) s0⟩
theorem rl_0 {p q : Nat} {L : Nat → Nat → Int} {N1 N2 : Nat → Nat} {P : Nat → Prop} (no : ∀ i, ¬ P i) : rlB p q L N1 N2 P 4095 := by
  refine ⟨by decide, fun k => ?_⟩
  rw [show 4095 = 2 ^ 12 - 1 from rfl, Nat.testBit_two_pow_sub_one, decide_eq_true_iff]
  exact ⟨fun y => ⟨y, fun i _ x => absurd x (no i)⟩, fun y => y.1⟩
theorem rl_u {p q : Nat} {L : Nat → Nat → Int} {N1 N2 : Nat → Nat} {P P2 : Nat → Prop} {l l2 : Nat} (a : rlB p q L N1 N2 P l) (b : rlB p q L N1 N2 P2 l2) (e : ∀ i, i < p → sureP p q L i → (P2 i ↔ P i)) : l = l2 := by
  refine Nat.eq_of_testBit_eq (fun k => ?_)
  have y := ((rl_n a e).2 k).trans (b.2 k).symm
  exact Bool.eq_iff_iff.mpr y
theorem st_e {a b : Nat} (ha : a < 12) (hb : b < 12) : (((a : Int) - b) + 12).tmod 12 = (((a + 12 - b) % 12 : Nat) : Int) := by
  rw [Int.tmod_eq_emod_of_nonneg (by omega)]; omega
theorem C_rl_6 {D : Nat} {h : St} {K : Int → St → Prop} {p q : Nat} {L : Nat → Nat → Int} {N1 N2 : Nat → Nat} {sr : Nat} (n1r : ∀ i, i < p → N1 i < 12) (n2r : ∀ j, j < q → N2 j < 12) (inj : ∀ i j, i < j → j < p → N1 i ≠ N1 j) (b1 : bcm h p q L N1 N2 p) (s1 : h 59 7 = (sr : Int)) (s2 : sr < 2 ^ 12) (s3 : ∀ b, sr.testBit b = true ↔ ∃ i, i < p ∧ N1 i = b ∧ sureP p q L i) (k : ∀ l : Nat, rlB p q L N1 N2 (fun _ => True) l → K l h) : ∀ (r c l : Nat), c + r = 12 → rlB p q L N1 N2 (fun i => N1 i < c) l → wI (D + 1) m_Pairing_rulesLeft 6 [(0, vR 59), (1, vI l), (2, vI c)] [] h K := by
  intro r
  induction r with
  | zero =>
    intro c l hc a
    exact s_Pairing_rulesLeft_6 _ _ h K ⟨⟨by omega, by omega⟩, fun _ => k l (rl_n a (fun i x1 _ => ⟨fun _ => by have := n1r i x1; omega, fun _ => trivial⟩)), fun y => by omega⟩
  | succ r ih =>
    intro c l hc a
    refine s_Pairing_rulesLeft_6 _ _ h K ⟨⟨by omega, by omega⟩, fun y => by omega, fun _ => c_Pairing_isSure s1 s2 (by omega) ⟨b2i_R, fun z => ?_, fun z => ⟨⟨by omega, by omega⟩, ?_⟩⟩⟩
    · have no := b2i_eq0.mp z
      refine ih (c + 1) l (by omega) (rl_n a (fun i x1 x2 => ⟨fun y => ?_, fun y => by omega⟩))
      by_cases e : N1 i = c
      · exact absurd ((s3 c).mpr ⟨i, x1, e, x2⟩) no
      · omega
    · obtain ⟨i, i1, i2, i3⟩ := (s3 c).mp (b2i_ne0.mp z)
      have e70 : h 70 c = (N2 (bC p q L i) : Int) := by rw [← i2, b1.1 i i1, cif_t i3.1]
      have nr := n2r _ i3.1
      have al := a.1
      have sl : stp p q L N1 N2 i < 12 := Nat.mod_lt _ (by decide)
      have p2 : 2 ^ stp p q L N1 N2 i < 2 ^ 12 := Nat.pow_lt_pow_right (by decide) sl
      rw [Int.toNat_natCast, e70]
      refine ⟨⟨by omega, by omega⟩, ?_⟩
      rw [st_e nr (by omega), show (N2 (bC p q L i) + 12 - c) % 12 = stp p q L N1 N2 i by unfold stp; rw [i2], shl_1 (by omega), and3_nat (by omega) (by omega)]
      refine ih (c + 1) _ (by omega) (rl_y a i1 i3 (fun j x1 => ⟨fun y => ?_, fun y => ?_⟩))
      · by_cases e : j = i
        · exact Or.inr e
        · refine Or.inl ?_
          have : N1 j ≠ N1 i := by
            by_cases w : j < i
            · exact inj j i w i1
            · exact fun v => inj i j (by omega) x1 v.symm
          omega
      · rcases y with y | y
        · omega
        · rw [y, i2]; omega
theorem M_rl_53 {D : Nat} {K : Int → St → Prop} {d : Int} {p q : Nat} {L : Nat → Nat → Int} {N1 N2 : Nat → Nat} (n1r : ∀ i, i < p → N1 i < 12) (n2r : ∀ j, j < q → N2 j < 12) : ∀ (r c l : Nat) (h : St), c + r = p → Mq h p q L → MN h p q N1 N2 → mbc h p q L p → rlB p q L N1 N2 (fun i => i < c) l → (∀ (l2 : Nat) h2, ag (fun c _ => c ≠ 135) h h2 → rlB p q L N1 N2 (fun i => i < p) l2 → K l2 h2) → wI (D + 3) m_M_rules 53 [(0, vR 109), (1, vI d), (2, vI l), (3, vI c)] [] h K := by
  intro r
  induction r with
  | zero =>
    intro c l h hc mq mn mb a k
    have a1 := mq.1
    have p8 := mq.2.2.1
    have e : c = p := by omega
    subst e
    exact s_M_rules_53 _ _ _ h K ⟨⟨by omega, by omega⟩, ⟨by omega, by omega⟩, fun _ => k l h ag_rfl a, fun y => by omega⟩
  | succ r ih =>
    intro c l h hc mq mn mb a k
    have a1 := mq.1
    have p8 := mq.2.2.1
    have q8 := mq.2.2.2.1
    have hcp : c < p := by omega
    have bl := bC_le (p := p) (q := q) (L := L) (i := c)
    have no : ¬ sureP p q L c → rlB p q L N1 N2 (fun i => i < c + 1) l := fun ns => rl_n a (fun i x1 x2 => ⟨fun y => by
      by_cases e : i = c
      · subst e; exact absurd x2 ns
      · omega, fun y => by omega⟩)
    refine s_M_rules_53 _ _ _ h K ⟨⟨by omega, by omega⟩, ⟨by omega, by omega⟩, fun y => by omega, fun _ => ⟨⟨by omega, by omega⟩, ?_⟩⟩
    rw [Int.toNat_natCast, mb c hcp]
    refine ⟨cif_R ⟨by omega, by omega⟩ (by decide), ?_⟩
    by_cases y : bC p q L c < q
    · rw [cif_t y]
      refine ⟨fun z => by omega, fun _ => c_M_isSure mq mb hcp y (fun h2 g2 => ⟨b2i_R, fun z => ?_, fun z => ?_⟩)⟩
      · exact ih (c + 1) l h2 (by omega) (Mq_c (ag_sub (fun c k p => by omega) g2) mq) (MN_c (ag_sub (fun c k p => by omega) g2) mn) (fun i hi => by rw [g2 136 _ (by omega)]; exact mb i hi) (no (b2i_eq0.mp z)) (fun l2 h3 g3 => k l2 h3 (ag_trans g2 g3))
      · have su := b2i_ne0.mp z
        have mn2 := MN_c (ag_sub (fun c k p => by omega) g2) mn
        have mb2 : mbc h2 p q L p := fun i hi => by rw [g2 136 _ (by omega)]; exact mb i hi
        have n1 := n1r c hcp
        have n2 := n2r _ y
        have al := a.1
        have sl : stp p q L N1 N2 c < 12 := Nat.mod_lt _ (by decide)
        have p2 : 2 ^ stp p q L N1 N2 c < 2 ^ 12 := Nat.pow_lt_pow_right (by decide) sl
        rw [mb2 c hcp, cif_t y, Int.toNat_natCast, (mn2.1 c hcp).1, (mn2.2 _ y).1]
        refine ⟨⟨by omega, by omega⟩, ⟨by omega, by omega⟩, ⟨by omega, by omega⟩, ?_⟩
        rw [st_e n2 n1, show (N2 (bC p q L c) + 12 - N1 c) % 12 = stp p q L N1 N2 c from rfl, shl_1 (by omega), and3_nat (by omega) (by omega)]
        exact ih (c + 1) _ h2 (by omega) (Mq_c (ag_sub (fun c k p => by omega) g2) mq) mn2 mb2 (rl_y a hcp su (fun j x1 => by omega)) (fun l2 h3 g3 => k l2 h3 (ag_trans g2 g3))
    · rw [cif_f y]
      exact ⟨fun _ => ih (c + 1) l h (by omega) mq mn mb (no (fun z => y z.1)) k, fun z => absurd (by decide) z⟩
theorem p2_or : ∀ c, c < 12 → (2 ^ c - 1) ||| 2 ^ c = 2 ^ (c + 1) - 1 := by decide
theorem p2_12 : ∀ c, c < 12 → 2 ^ c ≤ 2048 := by decide
theorem M_rl_33 {D : Nat} {K : Int → St → Prop} {d : Int} {h : St} (k : wI (D + 3) m_M_rules 53 [(0, vR 109), (1, vI d), (2, vI ((4095 : Nat) : Int)), (3, vI 0)] [] h K) : ∀ (r c : Nat), c + r = 12 → wI (D + 3) m_M_rules 33 [(0, vR 109), (1, vI d), (2, vI ((2 ^ c - 1 : Nat) : Int)), (3, vI c)] [] h K := by
  intro r
  induction r with
  | zero =>
    intro c hc
    have e : c = 12 := by omega
    subst e
    exact s_M_rules_33 _ _ _ h K ⟨⟨by omega, by omega⟩, fun _ => k, fun y => by omega⟩
  | succ r ih =>
    intro c hc
    refine s_M_rules_33 _ _ _ h K ⟨⟨by omega, by omega⟩, fun y => by omega, fun _ => ?_⟩
    have b1 := p2_12 c (by omega)
    rw [shl_1 (by omega), or3_nat (by omega) (by omega), p2_or c (by omega)]
    exact ih (c + 1) (by omega)
theorem P_rules {KK : Int → Int → St → Prop} {h : St} (hr : Rel h) {a1 : Int} (r1 : inR a1) (k : ∀ z h2, inR z → Rel h2 → KK z z h2) : mwpI 40 m_C_rules [vR 0, vI a1] h (fun z h1 => mwpI 40 m_M_rules [vR 109, vI a1] h1 (fun z2 h2 => KK z z2 h2)) := by
  refine mI_intro b_C_rules rfl (s_C_rules_0 (d := 34) a1 h _ ⟨r1, fun q => ?_, fun q => ?_⟩)
  · refine C_grR hr (fun n lg fh h1 g1 cl ml vl hf fb hu ht hr1 => ?_)
    have cm : ∀ h2 : St, ag (fun c k => (c < 60 ∨ 74 < c) ∧ ¬ (c = 59 ∧ k = 7)) h1 h2 → Rel h2 ∧ MLog h2 n lg ∧ h2 109 14 = h 109 14 := fun h2 g2 => ⟨Rel_c (ag_sub (fun c k p => by omega) g2) hr1, MLog_c (ag_sub (fun c k p => by omega) g2) ml, by rw [g2 109 14 (by omega), g1 109 14 (by omega)]⟩
    refine c_Pairing_solve cl vl (by omega) hf fb (fun no h2 g2 => ?_) (fun p8 q8 h2 g2 sv => ?_)
    · obtain ⟨rl, ml2, et⟩ := cm h2 g2
      refine ⟨by decide, fun _ => ?_, fun y => absurd rfl y⟩
      refine mI_intro b_M_rules rfl (s_M_rules_0 (d := 36) a1 _ _ ⟨r1, fun _ => ?_, fun y => absurd q y⟩)
      exact c_M_lays ml2 vl fb (by omega) et ht hu (fun _ h3 g3 => ⟨by decide, fun y => absurd y (by decide), fun _ => k _ _ (by decide) (Rel_c (ag_sub (fun c k p => by omega) g3) rl)⟩) (fun x1 x2 => absurd ⟨x1, x2⟩ no)
    · obtain ⟨rl, ml2, et⟩ := cm h2 g2
      obtain ⟨v1, v2, v3, sr, s1, s2, s3⟩ := sv
      have n1r : ∀ i, i < nP n lg a1 → nmS (sS n lg a1) i < 12 := fun i hi => (nmS_c hi).1
      have n2r : ∀ i, i < nP n lg (a1 + 1) → nmS (sS n lg (a1 + 1)) i < 12 := fun i hi => (nmS_c hi).1
      refine ⟨by decide, fun y => absurd y (by decide), fun _ => mI_intro b_Pairing_rulesLeft rfl (s_Pairing_rulesLeft_0 (d := 37) h2 _ ?_)⟩
      refine C_rl_6 n1r n2r (fun i j x y => nmS_ne x y) v2 s1 s2 s3 (fun l rb => ?_) 12 0 4095 (by omega) (rl_0 (fun i => Nat.not_lt_zero _))
      have lb := rb.1
      refine mI_intro b_M_rules rfl (s_M_rules_0 (d := 36) a1 _ _ ⟨r1, fun _ => ?_, fun y => absurd q y⟩)
      refine c_M_lays ml2 vl fb (by omega) et ht hu (fun no => absurd ⟨p8, q8⟩ no) (fun _ _ h3 g3 mq mn => ⟨by decide, fun _ => ?_, fun y => absurd (by decide) y⟩)
      refine c_M_pairs mq (fun h4 g4 mb => ?_)
      refine M_rl_33 ?_ 12 0 (by omega)
      refine M_rl_53 n1r n2r _ 0 4095 h4 (Nat.zero_add _) (Mq_c (ag_sub (fun c k p => by omega) g4) mq) (MN_c (ag_sub (fun c k p => by omega) g4) mn) mb (rl_0 (fun i => Nat.not_lt_zero _)) (fun l2 h5 g5 rb2 => ?_)
      rw [← rl_u rb rb2 (fun i x _ => ⟨fun _ => trivial, fun _ => x⟩)]
      exact k _ _ ⟨by omega, by omega⟩ (Rel_c (ag_sub (fun c k p => by omega) g5) (Rel_c (ag_sub (fun c k p => by omega) g4) (Rel_c (ag_sub (fun c k p => by omega) g3) rl)))
  · exact mI_intro b_M_rules rfl (s_M_rules_0 (d := 36) a1 _ _ ⟨r1, fun y => absurd y q, fun _ => k _ _ (by decide) hr⟩)
