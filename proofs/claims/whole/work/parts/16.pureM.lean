theorem inL_of {z : Int} (hz : inR z) : inL z := ⟨by have := hz.1; omega, by have := hz.2; omega⟩
theorem s_M_in_0 {d : Nat}  (x0 x2 x4 : Int) (h : St) (K : Int → St → Prop) (F : (inL x0) ∧ (inL x2) ∧ (((inR (cmp6 x0 x2)) ∧ (¬ ((cmp6 x0 x2) < 0) → ((inL x0) ∧ (inL x4) ∧ (inR (cmp6 x0 x4)))))) ∧ (K (b2i (¬ ((cmp6 x0 x2) < 0) ∧ (¬ (0 < (cmp6 x0 x4))))) h)) : wI d m_M_in 0 [(0, vJ x0), (2, vJ x2), (4, vJ x4)] [] h K := by
  refine w_lload_n rfl rfl ?_
  refine w_lload_n rfl rfl ?_
  obtain ⟨b1, F⟩ := F
  obtain ⟨b2, F⟩ := F
  refine w_lcmp ⟨b1, b2⟩ rfl ?_
  obtain ⟨G, F⟩ := F
  have J : ∀ (t9 : Int), t9 = b2i (¬ ((cmp6 x0 x2) < 0) ∧ (¬ (0 < (cmp6 x0 x4)))) → wI d m_M_in 18 [(0, vJ x0), (2, vJ x2), (4, vJ x4)] [vI t9] h K := by
    intro t9 et9
    subst et9
    exact w_zret rfl rfl b2i_01 ⟨rfl, rfl, _, rfl, F⟩
  obtain ⟨b3, gb_⟩ := G
  refine w_if_lt (tgt := 17) rfl (by decide) b3 (fun q4 => ?_) (fun q4 => ?_)
  · refine w_iconst rfl ?_
    exact J _ (b2i_f (fun z => z.1 q4)).symm
  · have G := gb_ q4
    obtain ⟨b5, b6, b7⟩ := G
    refine w_lload_n rfl rfl ?_
    refine w_lload rfl rfl ?_
    refine w_lcmp ⟨b5, b6⟩ rfl ?_
    refine w_if_gt (tgt := 17) rfl (by decide) b7 (fun q8 => ?_) (fun q8 => ?_)
    · refine w_iconst rfl ?_
      exact J _ (b2i_f (fun z => (fun z => z q8) z.2)).symm
    · refine w_iconst rfl ?_
      refine w_goto (tgt := 18) rfl (by decide) ?_
      exact J _ (b2i_t ⟨q4, q8⟩).symm
theorem cmp6_lt {a b : Int} : cmp6 a b < 0 ↔ a < b := by
  unfold cmp6
  split
  · omega
  · split <;> omega
theorem cmp6_gt {a b : Int} : 0 < cmp6 a b ↔ b < a := by
  unfold cmp6
  split
  · omega
  · split <;> omega
theorem cmp6_R {a b : Int} : inR (cmp6 a b) := by
  unfold cmp6
  split
  · decide
  · split <;> decide
theorem c_M_in {d : Nat} {h : St} {x l u : Int} {K : Int → St → Prop} (hx : inL x) (hl : inL l) (hu : inL u) (k : K (b2i (l ≤ x ∧ x ≤ u)) h) : mwpI (d + 1) m_M_in [vJ x, vJ l, vJ u] h K := by
  refine mI_intro b_M_in rfl (s_M_in_0 x l u h K ⟨hx, hl, ⟨cmp6_R, fun _ => ⟨hx, hu, cmp6_R⟩⟩, ?_⟩)
  rw [b2i_congr (q := l ≤ x ∧ x ≤ u) (by rw [cmp6_lt, cmp6_gt]; omega)]
  exact k
theorem s_M_isName_0 {d : Nat}  (x0 : Int) (h : St) (K : Int → St → Prop) (F : (inR x0) ∧ (K (b2i (0 ≤ x0 ∧ x0 ≤ 11)) h)) : wI (d + 1) m_M_isName 0 [(0, vI x0)] [] h K := by
  refine w_iload_n rfl rfl ?_
  obtain ⟨b1, F⟩ := F
  refine w_i2l b1 rfl ?_
  refine w_lconst rfl ?_
  refine w_ldc2 (z := 11) kc_M_128 (by decide) rfl ?_
  refine c_SI [vJ x0, vJ 0, vJ 11] [] rfl b_M_in k_M_130 rfl rfl rfl (c_M_in (inL_of b1) (by decide) (by decide) ?_)
  exact w_zret rfl rfl b2i_01 ⟨rfl, rfl, _, rfl, F⟩
theorem c_M_isName {d : Nat} {h : St} {x : Int} {K : Int → St → Prop} (hx : inR x) (k : K (b2i (0 ≤ x ∧ x ≤ 11)) h) : mwpI (d + 2) m_M_isName [vI x] h K := mI_intro b_M_isName rfl (s_M_isName_0 x h K ⟨hx, k⟩)
theorem s_M_isDay_0 {d : Nat}  (x0 : Int) (h : St) (K : Int → St → Prop) (F : (inR x0) ∧ (K (b2i (0 ≤ x0 ∧ x0 ≤ 19)) h)) : wI (d + 1) m_M_isDay 0 [(0, vI x0)] [] h K := by
  refine w_iload_n rfl rfl ?_
  obtain ⟨b1, F⟩ := F
  refine w_i2l b1 rfl ?_
  refine w_lconst rfl ?_
  refine w_ldc2 (z := 19) kc_M_134 (by decide) rfl ?_
  refine c_SI [vJ x0, vJ 0, vJ 19] [] rfl b_M_in k_M_130 rfl rfl rfl (c_M_in (inL_of b1) (by decide) (by decide) ?_)
  exact w_zret rfl rfl b2i_01 ⟨rfl, rfl, _, rfl, F⟩
theorem c_M_isDay {d : Nat} {h : St} {x : Int} {K : Int → St → Prop} (hx : inR x) (k : K (b2i (0 ≤ x ∧ x ≤ 19)) h) : mwpI (d + 2) m_M_isDay [vI x] h K := mI_intro b_M_isDay rfl (s_M_isDay_0 x h K ⟨hx, k⟩)
theorem s_M_isHour_0 {d : Nat}  (x0 : Int) (h : St) (K : Int → St → Prop) (F : (inR x0) ∧ (K (b2i (0 ≤ x0 ∧ x0 ≤ 479)) h)) : wI (d + 1) m_M_isHour 0 [(0, vI x0)] [] h K := by
  refine w_iload_n rfl rfl ?_
  obtain ⟨b1, F⟩ := F
  refine w_i2l b1 rfl ?_
  refine w_lconst rfl ?_
  refine w_ldc2 (z := 479) kc_M_136 (by decide) rfl ?_
  refine c_SI [vJ x0, vJ 0, vJ 479] [] rfl b_M_in k_M_130 rfl rfl rfl (c_M_in (inL_of b1) (by decide) (by decide) ?_)
  exact w_zret rfl rfl b2i_01 ⟨rfl, rfl, _, rfl, F⟩
theorem c_M_isHour {d : Nat} {h : St} {x : Int} {K : Int → St → Prop} (hx : inR x) (k : K (b2i (0 ≤ x ∧ x ≤ 479)) h) : mwpI (d + 2) m_M_isHour [vI x] h K := mI_intro b_M_isHour rfl (s_M_isHour_0 x h K ⟨hx, k⟩)
theorem s_M_size_0 {d : Nat}  (x0 : Int) (h : St) (K : Int → St → Prop) (F : (((inR x0))) ∧ (K (cif (0 ≤ x0) x0 (-x0)) h)) : wI d m_M_size 0 [(0, vI x0)] [] h K := by
  refine w_iload_n rfl rfl ?_
  obtain ⟨G, F⟩ := F
  have J : ∀ (t3 : Int), t3 = cif (0 ≤ x0) x0 (-x0) → wI d m_M_size 10 [(0, vI x0)] [vI t3] h K := by
    intro t3 et3
    subst et3
    exact w_iret rfl rfl ⟨rfl, rfl, _, rfl, F⟩
  have b1 := G
  refine w_if_ge (tgt := 9) rfl (by decide) b1 (fun q2 => ?_) (fun q2 => ?_)
  · refine w_iload_n rfl rfl ?_
    exact J _ (cif_t q2).symm
  · refine w_iload_n rfl rfl ?_
    refine w_ineg rfl ?_
    refine w_goto (tgt := 10) rfl (by decide) ?_
    exact J _ (cif_f q2).symm
theorem c_M_size {d : Nat} {h : St} {x : Int} {K : Int → St → Prop} (hx : -2147483648 < x ∧ x < 2147483648) (k : K (x.natAbs : Int) h) : mwpI (d + 1) m_M_size [vI x] h K := by
  refine mI_intro b_M_size rfl (s_M_size_0 x h K ⟨⟨by omega, by omega⟩, ?_⟩)
  rcases Classical.em (0 ≤ x) with q | q
  · rw [cif_t q]; rwa [show (x.natAbs : Int) = x by omega] at k
  · rw [cif_f q]; rwa [show (x.natAbs : Int) = -x by omega] at k
theorem s_M_isCall_0 {d : Nat}  (x1 : Int) (h : St) (K : Int → St → Prop) (F : (inR x1) ∧ (inR ((h 110 0) - 1)) ∧ (K (b2i (0 ≤ x1 ∧ x1 ≤ ((h 110 0) - 1))) h)) : wI (d + 1) m_M_isCall 0 [(0, vR 109), (1, vI x1)] [] h K := by
  refine w_iload_n rfl rfl ?_
  obtain ⟨b1, F⟩ := F
  refine w_i2l b1 rfl ?_
  refine w_lconst rfl ?_
  refine w_aload_n rfl rfl ?_
  refine w_getR rfl f_M_7 rfl rfl rfl rfl rfl ?_
  refine w_iconst rfl ?_
  refine w_iaload rfl rfl rfl ⟨by decide, by decide⟩ ?_
  refine w_iconst rfl ?_
  refine w_isub rfl ?_
  obtain ⟨b2, F⟩ := F
  refine w_i2l b2 rfl ?_
  refine c_SI [vJ x1, vJ 0, vJ ((h 110 0) - 1)] [] rfl b_M_in k_M_130 rfl rfl rfl (c_M_in (inL_of b1) (by decide) (inL_of b2) ?_)
  exact w_zret rfl rfl b2i_01 ⟨rfl, rfl, _, rfl, F⟩
theorem c_M_isCall {d : Nat} {h : St} {x : Int} {K : Int → St → Prop} (hx : inR x) (hn : 0 ≤ h 110 0 ∧ h 110 0 ≤ 60) (k : K (b2i (0 ≤ x ∧ x < h 110 0)) h) : mwpI (d + 2) m_M_isCall [vR 109, vI x] h K := by
  refine mI_intro b_M_isCall rfl (s_M_isCall_0 x h K ⟨hx, ⟨by omega, by omega⟩, ?_⟩)
  rw [b2i_congr (q := 0 ≤ x ∧ x < h 110 0) (by omega)]
  exact k
theorem s_M_isSpan_0 {d : Nat}  (x0 x1 : Int) (h : St) (K : Int → St → Prop) (F : (inR x0) ∧ (((0 ≤ x0 ∧ x0 ≤ 19 → ((inR x1))))) ∧ (K (b2i ((0 ≤ x0 ∧ x0 ≤ 19) ∧ (x0 ≤ x1 ∧ x1 ≤ 19))) h)) : wI (d + 2) m_M_isSpan 0 [(0, vI x0), (1, vI x1)] [] h K := by
  refine w_iload_n rfl rfl ?_
  obtain ⟨b1, F⟩ := F
  refine c_SI [vI x0] [] rfl b_M_isDay k_M_138 rfl rfl rfl (c_M_isDay b1 ?_)
  obtain ⟨G, F⟩ := F
  have J : ∀ (t5 : Int), t5 = b2i ((0 ≤ x0 ∧ x0 ≤ 19) ∧ (x0 ≤ x1 ∧ x1 ≤ 19)) → wI (d + 2) m_M_isSpan 25 [(0, vI x0), (1, vI x1)] [vI t5] h K := by
    intro t5 et5
    subst et5
    exact w_zret rfl rfl b2i_01 ⟨rfl, rfl, _, rfl, F⟩
  have ga_ := G
  refine w_ifeq_b (tgt := 24) rfl (by decide) (fun q2 => ?_) (fun q2 => ?_)
  · refine w_iconst rfl ?_
    exact J _ (b2i_f (fun z => q2 z.1)).symm
  · have G := ga_ q2
    have b3 := G
    refine w_iload_n rfl rfl ?_
    refine w_i2l b3 rfl ?_
    refine w_iload_n rfl rfl ?_
    refine w_i2l b1 rfl ?_
    refine w_ldc2 (z := 19) kc_M_134 (by decide) rfl ?_
    refine c_SI [vJ x1, vJ x0, vJ 19] [] rfl b_M_in k_M_130 rfl rfl rfl (c_M_in (inL_of b3) (inL_of b1) (by decide) ?_)
    refine w_ifeq_b (tgt := 24) rfl (by decide) (fun q4 => ?_) (fun q4 => ?_)
    · refine w_iconst rfl ?_
      exact J _ (b2i_f (fun z => q4 z.2)).symm
    · refine w_iconst rfl ?_
      refine w_goto (tgt := 25) rfl (by decide) ?_
      exact J _ (b2i_t ⟨q2, q4⟩).symm
theorem c_M_isSpan {d : Nat} {h : St} {x y : Int} {K : Int → St → Prop} (hx : inR x) (hy : inR y) (k : K (b2i (0 ≤ x ∧ x ≤ y ∧ y ≤ 19)) h) : mwpI (d + 3) m_M_isSpan [vI x, vI y] h K := by
  refine mI_intro b_M_isSpan rfl (s_M_isSpan_0 x y h K ⟨hx, fun _ => hy, ?_⟩)
  rw [b2i_congr (q := 0 ≤ x ∧ x ≤ y ∧ y ≤ 19) (by omega)]
  exact k
theorem s_M_isCell_0 {d : Nat}  (x0 x1 : Int) (h : St) (K : Int → St → Prop) (F : (inR x0) ∧ (((0 ≤ x0 ∧ x0 ≤ 15 → ((inR x1))))) ∧ (K (b2i ((0 ≤ x0 ∧ x0 ≤ 15) ∧ (0 ≤ x1 ∧ x1 ≤ 15))) h)) : wI (d + 1) m_M_isCell 0 [(0, vI x0), (1, vI x1)] [] h K := by
  refine w_iload_n rfl rfl ?_
  obtain ⟨b1, F⟩ := F
  refine w_i2l b1 rfl ?_
  refine w_lconst rfl ?_
  refine w_ldc2 (z := 15) kc_M_283 (by decide) rfl ?_
  refine c_SI [vJ x0, vJ 0, vJ 15] [] rfl b_M_in k_M_130 rfl rfl rfl (c_M_in (inL_of b1) (by decide) (by decide) ?_)
  obtain ⟨G, F⟩ := F
  have J : ∀ (t5 : Int), t5 = b2i ((0 ≤ x0 ∧ x0 ≤ 15) ∧ (0 ≤ x1 ∧ x1 ≤ 15)) → wI (d + 1) m_M_isCell 29 [(0, vI x0), (1, vI x1)] [vI t5] h K := by
    intro t5 et5
    subst et5
    exact w_zret rfl rfl b2i_01 ⟨rfl, rfl, _, rfl, F⟩
  have ga_ := G
  refine w_ifeq_b (tgt := 28) rfl (by decide) (fun q2 => ?_) (fun q2 => ?_)
  · refine w_iconst rfl ?_
    exact J _ (b2i_f (fun z => q2 z.1)).symm
  · have G := ga_ q2
    have b3 := G
    refine w_iload_n rfl rfl ?_
    refine w_i2l b3 rfl ?_
    refine w_lconst rfl ?_
    refine w_ldc2 (z := 15) kc_M_283 (by decide) rfl ?_
    refine c_SI [vJ x1, vJ 0, vJ 15] [] rfl b_M_in k_M_130 rfl rfl rfl (c_M_in (inL_of b3) (by decide) (by decide) ?_)
    refine w_ifeq_b (tgt := 28) rfl (by decide) (fun q4 => ?_) (fun q4 => ?_)
    · refine w_iconst rfl ?_
      exact J _ (b2i_f (fun z => q4 z.2)).symm
    · refine w_iconst rfl ?_
      refine w_goto (tgt := 29) rfl (by decide) ?_
      exact J _ (b2i_t ⟨q2, q4⟩).symm
theorem c_M_isCell {d : Nat} {h : St} {x y : Int} {K : Int → St → Prop} (hx : inR x) (hy : inR y) (k : K (b2i ((0 ≤ x ∧ x ≤ 15) ∧ (0 ≤ y ∧ y ≤ 15))) h) : mwpI (d + 2) m_M_isCell [vI x, vI y] h K := mI_intro b_M_isCell rfl (s_M_isCell_0 x y h K ⟨hx, fun _ => hy, k⟩)
