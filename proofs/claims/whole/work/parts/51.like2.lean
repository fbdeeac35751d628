theorem s_C_like_0 {d : Nat}  (x1 x2 x3 : Int) (h : St) (K : Int → St → Prop) (F : (inR x1) ∧ ((¬ (0 ≤ x1 ∧ x1 ≤ 18) → (K ((-1)) h)) ∧ (0 ≤ x1 ∧ x1 ≤ 18 → (inR x2) ∧ ((¬ (0 ≤ x2 ∧ x2 ≤ 11) → (K ((-1)) h)) ∧ (0 ≤ x2 ∧ x2 ≤ 11 → (inR x3) ∧ ((0 ≤ x3 ∧ x3 ≤ 11 → (mwpV (d + 3) m_Hands_group [vR 57, vR 1] h (fun h7 => (mwpV (d + 3) m_Pairing_hear [vR 59, vR 1, vR 57, vI x1] h7 (fun h8 => (mwpI (d + 3) m_Senders_sends [vR 60, vI x2] h8 (fun z9 h9 => (inR z9) ∧ ((z9 = 0 → (K ((-4)) h9)) ∧ (¬ (z9 = 0) → (mwpI (d + 3) m_Senders_sends [vR 65, vI x3] h9 (fun z12 h12 => (inR z12) ∧ ((z12 ≠ 0 → (mwpI (d + 3) m_Senders_likeTo [vR 60, vI x2, vR 65, vI x3] h12 (fun z15 h15 => (K z15 h15)))) ∧ (¬ (z12 ≠ 0) → (K ((-4)) h12)))))))))))))) ∧ (¬ (0 ≤ x3 ∧ x3 ≤ 11) → (K ((-1)) h)))))))) : wI (d + 3) m_C_like 0 [(0, vR 0), (1, vI x1), (2, vI x2), (3, vI x3)] [] h K := by
  refine w_iload_n rfl rfl ?_
  obtain ⟨b1, F⟩ := F
  refine c_SI [vI x1] [] rfl b_C_isMidnight k_C_164 rfl rfl rfl (c_C_isMidnight b1 ?_)
  refine w_ifeq_b (tgt := 21) rfl (by decide) (fun q2 => ?_) (fun q2 => ?_)
  · replace F := F.1 q2
    refine w_iconst rfl ?_
    exact w_iret rfl rfl ⟨rfl, rfl, _, rfl, F⟩
  · replace F := F.2 q2
    refine w_iload_n rfl rfl ?_
    obtain ⟨b3, F⟩ := F
    refine c_SI [vI x2] [] rfl b_C_isName k_C_96 rfl rfl rfl (c_C_isName b3 ?_)
    refine w_ifeq_b (tgt := 21) rfl (by decide) (fun q4 => ?_) (fun q4 => ?_)
    · replace F := F.1 q4
      refine w_iconst rfl ?_
      exact w_iret rfl rfl ⟨rfl, rfl, _, rfl, F⟩
    · replace F := F.2 q4
      refine w_iload_n rfl rfl ?_
      obtain ⟨b5, F⟩ := F
      refine c_SI [vI x3] [] rfl b_C_isName k_C_96 rfl rfl rfl (c_C_isName b5 ?_)
      refine w_ifne_b (tgt := 23) rfl (by decide) (fun q6 => ?_) (fun q6 => ?_)
      · replace F := F.1 q6
        refine w_aload_n rfl rfl ?_
        refine w_getR rfl f_C_26 rfl rfl rfl rfl rfl ?_
        refine w_aload_n rfl rfl ?_
        refine w_getR rfl f_C_10 rfl rfl rfl rfl rfl ?_
        refine c_VV [vR 1] [] rfl b_Hands_group k_C_147 rfl rfl rfl rfl rfl rfl (mwpV_mono (fun h7 F => ?_) F)
        refine w_aload_n rfl rfl ?_
        refine w_getR rfl f_C_33 rfl rfl rfl rfl rfl ?_
        refine w_aload_n rfl rfl ?_
        refine w_getR rfl f_C_10 rfl rfl rfl rfl rfl ?_
        refine w_aload_n rfl rfl ?_
        refine w_getR rfl f_C_26 rfl rfl rfl rfl rfl ?_
        refine w_iload_n rfl rfl ?_
        refine c_VV [vR 1, vR 57, vI x1] [] rfl b_Pairing_hear k_C_167 rfl rfl rfl rfl rfl rfl (mwpV_mono (fun h8 F => ?_) F)
        refine w_aload_n rfl rfl ?_
        refine w_getR rfl f_C_33 rfl rfl rfl rfl rfl ?_
        refine w_getR rfl f_C_171 rfl rfl rfl rfl rfl ?_
        refine w_iload_n rfl rfl ?_
        refine c_VI [vI x2] [] rfl b_Senders_sends k_C_175 rfl rfl rfl rfl rfl rfl (mwpI_mono (fun z9 h9 F => ?_) F)
        obtain ⟨b10, F⟩ := F
        refine w_if_eq (tgt := 78) rfl (by decide) b10 (fun q11 => ?_) (fun q11 => ?_)
        · replace F := F.1 q11
          refine w_bipush (by decide) (by decide) rfl ?_
          exact w_iret rfl rfl ⟨rfl, rfl, _, rfl, F⟩
        · replace F := F.2 q11
          refine w_aload_n rfl rfl ?_
          refine w_getR rfl f_C_33 rfl rfl rfl rfl rfl ?_
          refine w_getR rfl f_C_180 rfl rfl rfl rfl rfl ?_
          refine w_iload_n rfl rfl ?_
          refine c_VI [vI x3] [] rfl b_Senders_sends k_C_175 rfl rfl rfl rfl rfl rfl (mwpI_mono (fun z12 h12 F => ?_) F)
          obtain ⟨b13, F⟩ := F
          refine w_if_ne (tgt := 81) rfl (by decide) b13 (fun q14 => ?_) (fun q14 => ?_)
          · replace F := F.1 q14
            refine w_aload_n rfl rfl ?_
            refine w_getR rfl f_C_33 rfl rfl rfl rfl rfl ?_
            refine w_getR rfl f_C_171 rfl rfl rfl rfl rfl ?_
            refine w_iload_n rfl rfl ?_
            refine w_aload_n rfl rfl ?_
            refine w_getR rfl f_C_33 rfl rfl rfl rfl rfl ?_
            refine w_getR rfl f_C_180 rfl rfl rfl rfl rfl ?_
            refine w_iload_n rfl rfl ?_
            refine c_VI [vI x2, vR 65, vI x3] [] rfl b_Senders_likeTo k_C_183 rfl rfl rfl rfl rfl rfl (mwpI_mono (fun z15 h15 F => ?_) F)
            exact w_iret rfl rfl ⟨rfl, rfl, _, rfl, F⟩
          · replace F := F.2 q14
            refine w_bipush (by decide) (by decide) rfl ?_
            exact w_iret rfl rfl ⟨rfl, rfl, _, rfl, F⟩
      · replace F := F.2 q6
        refine w_iconst rfl ?_
        exact w_iret rfl rfl ⟨rfl, rfl, _, rfl, F⟩
theorem s_M_like_0 {d : Nat}  (x1 x2 x3 : Int) (h : St) (K : Int → St → Prop) (F : (inR x1) ∧ ((¬ (0 ≤ x1 ∧ x1 ≤ 18) → (K ((-1)) h)) ∧ (0 ≤ x1 ∧ x1 ≤ 18 → (inR x2) ∧ ((¬ (0 ≤ x2 ∧ x2 ≤ 11) → (K ((-1)) h)) ∧ (0 ≤ x2 ∧ x2 ≤ 11 → (inR x3) ∧ ((0 ≤ x3 ∧ x3 ≤ 11 → (mwpI (d + 2) m_M_sends [vR 109, vI x2, vI x1] h (fun z7 h7 => (inR z7) ∧ ((z7 = 0 → (K ((-4)) h7)) ∧ (¬ (z7 = 0) → (mwpI (d + 2) m_M_sends [vR 109, vI x3, vI (x1 + 1)] h7 (fun z10 h10 => (inR z10) ∧ ((z10 ≠ 0 → (mwpV (d + 2) m_M_handsOf [vR 109] h10 (fun h13 => (mwpI (d + 2) m_M_likeOf [vR 109, vI x1, vI x2, vI x3] h13 (fun z14 h14 => (K z14 h14)))))) ∧ (¬ (z10 ≠ 0) → (K ((-4)) h10)))))))))) ∧ (¬ (0 ≤ x3 ∧ x3 ≤ 11) → (K ((-1)) h)))))))) : wI (d + 2) m_M_like 0 [(0, vR 109), (1, vI x1), (2, vI x2), (3, vI x3)] [] h K := by
  refine w_iload_n rfl rfl ?_
  obtain ⟨b1, F⟩ := F
  refine w_i2l b1 rfl ?_
  refine w_lconst rfl ?_
  refine w_ldc2 (z := 18) kc_M_207 (by decide) rfl ?_
  refine c_SI [vJ x1, vJ 0, vJ 18] [] rfl b_M_in k_M_130 rfl rfl rfl (c_M_in (inL_of b1) (by decide) (by decide) ?_)
  refine w_ifeq_b (tgt := 26) rfl (by decide) (fun q2 => ?_) (fun q2 => ?_)
  · replace F := F.1 q2
    refine w_iconst rfl ?_
    exact w_iret rfl rfl ⟨rfl, rfl, _, rfl, F⟩
  · replace F := F.2 q2
    refine w_iload_n rfl rfl ?_
    obtain ⟨b3, F⟩ := F
    refine c_SI [vI x2] [] rfl b_M_isName k_M_142 rfl rfl rfl (c_M_isName b3 ?_)
    refine w_ifeq_b (tgt := 26) rfl (by decide) (fun q4 => ?_) (fun q4 => ?_)
    · replace F := F.1 q4
      refine w_iconst rfl ?_
      exact w_iret rfl rfl ⟨rfl, rfl, _, rfl, F⟩
    · replace F := F.2 q4
      refine w_iload_n rfl rfl ?_
      obtain ⟨b5, F⟩ := F
      refine c_SI [vI x3] [] rfl b_M_isName k_M_142 rfl rfl rfl (c_M_isName b5 ?_)
      refine w_ifne_b (tgt := 28) rfl (by decide) (fun q6 => ?_) (fun q6 => ?_)
      · replace F := F.1 q6
        refine w_aload_n rfl rfl ?_
        refine w_iload_n rfl rfl ?_
        refine w_iload_n rfl rfl ?_
        refine c_VI [vI x2, vI x1] [] rfl b_M_sends k_M_209 rfl rfl rfl rfl rfl rfl (mwpI_mono (fun z7 h7 F => ?_) F)
        obtain ⟨b8, F⟩ := F
        refine w_if_eq (tgt := 48) rfl (by decide) b8 (fun q9 => ?_) (fun q9 => ?_)
        · replace F := F.1 q9
          refine w_bipush (by decide) (by decide) rfl ?_
          exact w_iret rfl rfl ⟨rfl, rfl, _, rfl, F⟩
        · replace F := F.2 q9
          refine w_aload_n rfl rfl ?_
          refine w_iload_n rfl rfl ?_
          refine w_iload_n rfl rfl ?_
          refine w_iconst rfl ?_
          refine w_iadd rfl ?_
          refine c_VI [vI x3, vI (x1 + 1)] [] rfl b_M_sends k_M_209 rfl rfl rfl rfl rfl rfl (mwpI_mono (fun z10 h10 F => ?_) F)
          obtain ⟨b11, F⟩ := F
          refine w_if_ne (tgt := 51) rfl (by decide) b11 (fun q12 => ?_) (fun q12 => ?_)
          · replace F := F.1 q12
            refine w_aload_n rfl rfl ?_
            refine c_VV [] [] rfl b_M_handsOf k_M_200 rfl rfl rfl rfl rfl rfl (mwpV_mono (fun h13 F => ?_) F)
            refine w_aload_n rfl rfl ?_
            refine w_iload_n rfl rfl ?_
            refine w_iload_n rfl rfl ?_
            refine w_iload_n rfl rfl ?_
            refine c_VI [vI x1, vI x2, vI x3] [] rfl b_M_likeOf k_M_212 rfl rfl rfl rfl rfl rfl (mwpI_mono (fun z14 h14 F => ?_) F)
            exact w_iret rfl rfl ⟨rfl, rfl, _, rfl, F⟩
          · replace F := F.2 q12
            refine w_bipush (by decide) (by decide) rfl ?_
            exact w_iret rfl rfl ⟨rfl, rfl, _, rfl, F⟩
      · replace F := F.2 q6
        refine w_iconst rfl ?_
        exact w_iret rfl rfl ⟨rfl, rfl, _, rfl, F⟩
theorem s_Pairing_hear_0 {d : Nat}  (x3 : Int) (h : St) (K : St → Prop) (F : (mwpV (d + 2) m_Senders_hear [vR 60, vR 1, vR 57, vI x3] h (fun h1 => (mwpV (d + 2) m_Senders_hear [vR 65, vR 1, vR 57, vI (x3 + 1)] h1 (fun h2 => (K h2)))))) : wV (d + 2) m_Pairing_hear 0 [(0, vR 59), (1, vR 1), (2, vR 57), (3, vI x3)] [] h K := by
  refine w_aload_n rfl rfl ?_
  refine w_getR rfl f_Pairing_14 rfl rfl rfl rfl rfl ?_
  refine w_aload_n rfl rfl ?_
  refine w_aload_n rfl rfl ?_
  refine w_iload_n rfl rfl ?_
  refine c_VV [vR 1, vR 57, vI x3] [] rfl b_Senders_hear k_Pairing_42 rfl rfl rfl rfl rfl rfl (mwpV_mono (fun h1 F => ?_) F)
  refine w_aload_n rfl rfl ?_
  refine w_getR rfl f_Pairing_18 rfl rfl rfl rfl rfl ?_
  refine w_aload_n rfl rfl ?_
  refine w_aload_n rfl rfl ?_
  refine w_iload_n rfl rfl ?_
  refine w_iconst rfl ?_
  refine w_iadd rfl ?_
  refine c_VV [vR 1, vR 57, vI (x3 + 1)] [] rfl b_Senders_hear k_Pairing_42 rfl rfl rfl rfl rfl rfl (mwpV_mono (fun h2 F => ?_) F)
  exact w_vret rfl rfl ⟨rfl, rfl, rfl, F⟩
theorem vs_s {lg : Nat → Nat → Int} {v : Nat → Nat} {c : Nat} {d a : Int} {j : Nat} {x : Int} (hx : x = ((v c : Nat) : Int)) : b2i (b2i (vsA lg v c d a j) ≠ 0 ∨ ¬ b2i (ofA lg a d c) = 0 ∧ ¬ (x ≠ (j : Int))) = b2i (vsA lg v (c + 1) d a j) := b2i_congr (by
  unfold vsA
  rw [exA_s, b2i_ne0, b2i_eq0, Classical.not_not, Classical.not_not, hx]
  exact ⟨fun q => q.imp id (fun q => ⟨q.1, by omega⟩), fun q => q.imp id (fun q => ⟨q.1, by omega⟩)⟩)
theorem c3 {p q : Prop} : cif (b2i p = 0) 0 (cif (b2i q = 0) 0 3) = 3 * b2i (p ∧ q) ∧ cif (b2i p = 0) 0 (cif (b2i q = 0) 0 2) = 2 * b2i (p ∧ q) ∧ b2i (¬ b2i p = 0 ∧ ¬ b2i q = 0) = b2i (p ∧ q) := by
  by_cases hp : p <;> by_cases hq : q
  · rw [b2i_t hp, b2i_t hq, b2i_t ⟨hp, hq⟩, cif_f (by decide), cif_f (by decide), cif_f (by decide), cif_f (by decide), b2i_t (by decide)]; decide
  · rw [b2i_t hp, b2i_f hq, b2i_f (fun z : p ∧ q => hq z.2), cif_f (by decide), cif_t rfl, cif_f (by decide), cif_t rfl, b2i_f (by decide)]; decide
  · rw [b2i_f hp, b2i_f (fun z : p ∧ q => hp z.1), cif_t rfl, cif_t rfl, b2i_f (fun z => z.1 rfl)]; decide
  · rw [b2i_f hp, b2i_f (fun z : p ∧ q => hp z.1), cif_t rfl, cif_t rfl, b2i_f (fun z => z.1 rfl)]; decide
section M51
variable {D : Nat} {h : St} {K : Int → St → Prop} {n : Nat} {lg : Nat → Nat → Int} {fh : Nat → Nat} {d a b : Int}
theorem M_lo_34 (ml : MLog h n lg) (vl : VLog n lg) (hf : ∀ c, c < n → h 131 c = ((fh c : Nat) : Int)) (fb : ∀ c, c < n → fh c < 60) (ra : inR a) (rb : inR b) (rd : 0 ≤ d ∧ d ≤ 100) {j : Nat} (hj : j < 60) {x4 : Int} (k : wI (D + 1) m_M_likeOf 6 [(0, vR 109), (1, vI d), (2, vI a), (3, vI b), (4, vI (x4 + lvA lg fh n d a b j)), (5, vI ((j : Int) + 1))] [] h K) : ∀ (r c : Nat), c + r = n → wI (D + 1) m_M_likeOf 34 [(0, vR 109), (1, vI d), (2, vI a), (3, vI b), (4, vI x4), (5, vI (j : Int)), (6, vI (b2i (vsA lg fh c d a j))), (7, vI (b2i (vsA lg fh c (d + 1) b j))), (8, vI (b2i (vsA lg (wvA lg) c d a j))), (9, vI (b2i (vsA lg (wvA lg) c (d + 1) b j))), (10, vI (b2i (vsA lg (hrA lg) c d a j))), (11, vI (b2i (vsA lg (hrA lg) c (d + 1) b j))), (12, vI (c : Int))] [] h K := by
  have hn := ml.2.1
  have h8 := ml.1
  intro r
  induction r with
  | zero =>
    intro c hc
    have e : c = n := by omega
    subst e
    refine s_M_likeOf_34 _ _ _ _ _ _ _ _ _ _ _ _ h K ⟨⟨by omega, by omega⟩, ⟨by omega, by omega⟩, fun _ => ⟨⟨b2i_R, fun _ => b2i_R⟩, ⟨b2i_R, fun _ => b2i_R⟩, ⟨b2i_R, fun _ => b2i_R⟩, ?_⟩, fun z => absurd (by omega) z⟩
    rw [c3.1, c3.2.1, c3.2.2]
    exact k
  | succ r ih =>
    intro c hc
    have hc2 : c < n := by omega
    obtain ⟨a0, a1, a2, a3, a4, a5⟩ := ml.2.2 c hc2
    have q1 := vl c hc2
    have hr := hrA_R vl hc2
    have hh := fb c hc2
    refine s_M_likeOf_34 _ _ _ _ _ _ _ _ _ _ _ _ h K ⟨⟨by omega, by omega⟩, ⟨by omega, by omega⟩, fun z => by omega, fun _ => c_M_isOf ml vl hc2 ra ⟨by omega, by omega⟩ (c_M_isOf ml vl hc2 rb ⟨by omega, by omega⟩ ?_)⟩
    rw [Int.toNat_natCast, hf c hc2, a4, a2, hr.1, vs_s rfl, vs_s rfl, vs_s (v := wvA lg) (by unfold wvA; omega), vs_s (v := wvA lg) (by unfold wvA; omega), vs_s (v := hrA lg) rfl, vs_s (v := hrA lg) rfl]
    have i0 : inR ((fh c : Nat) : Int) := ⟨by omega, by omega⟩
    have i1 : inR (lg 4 c) := ⟨by omega, by omega⟩
    have i2 : inR (lg 2 c) := ⟨by omega, by omega⟩
    have i3 : inR ((hrA lg c : Nat) : Int) := ⟨by omega, by omega⟩
    have i5 : inR (j : Int) := ⟨by omega, by omega⟩
    exact ⟨⟨b2i_R, fun _ => ⟨b2i_R, fun _ => ⟨by omega, i0, i5⟩⟩⟩, ⟨b2i_R, fun _ => ⟨b2i_R, fun _ => ⟨by omega, i0, i5⟩⟩⟩, ⟨b2i_R, fun _ => ⟨b2i_R, fun _ => ⟨by omega, i1, i5⟩⟩⟩, ⟨b2i_R, fun _ => ⟨b2i_R, fun _ => ⟨by omega, i1, i5⟩⟩⟩, ⟨b2i_R, fun _ => ⟨b2i_R, fun _ => ⟨by omega, i2, i3, i5⟩⟩⟩, ⟨b2i_R, fun _ => ⟨b2i_R, fun _ => ⟨by omega, i2, i3, i5⟩⟩⟩, ih (c + 1) (by omega)⟩
theorem c_M_likeOf (ml : MLog h n lg) (vl : VLog n lg) (hf : ∀ c, c < n → h 131 c = ((fh c : Nat) : Int)) (fb : ∀ c, c < n → fh c < 60) (ra : inR a) (rb : inR b) (rd : 0 ≤ d ∧ d ≤ 100) (k : K (likA lg fh n d a b) h) : mwpI (D + 2) m_M_likeOf [vR 109, vI d, vI a, vI b] h K := by
  have v0 : ∀ (v : Nat → Nat) (d a : Int) (j : Nat), b2i (vsA lg v 0 d a j) = 0 := fun v d a j => b2i_f exA_0
  have lp : ∀ (r j : Nat), j + r = 60 → wI (D + 1) m_M_likeOf 6 [(0, vR 109), (1, vI d), (2, vI a), (3, vI b), (4, vI (sm (lvA lg fh n d a b) j)), (5, vI (j : Int))] [] h K := by
    intro r
    induction r with
    | zero =>
      intro j hj
      have e : j = 60 := by omega
      subst e
      exact s_M_likeOf_6 _ _ _ _ _ h K ⟨⟨by omega, by omega⟩, fun _ => k, fun z => absurd (by omega) z⟩
    | succ r ih =>
      intro j hj
      refine s_M_likeOf_6 _ _ _ _ _ h K ⟨⟨by omega, by omega⟩, fun z => by omega, fun _ => ?_⟩
      have q := M_lo_34 (D := D) (K := K) ml vl hf fb ra rb rd (j := j) (by omega) (ih (j + 1) (by omega)) n 0 (by omega)
      simp only [v0] at q
      exact q
  exact mI_intro b_M_likeOf rfl (s_M_likeOf_0 (d := D) _ _ _ h K (lp 60 0 (by omega)))
end M51
