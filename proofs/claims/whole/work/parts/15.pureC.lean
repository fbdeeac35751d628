theorem s_C_isAmong_0 {d : Nat}  (x0 x1 x2 : Int) (h : St) (K : Int → St → Prop) (F : (((inR x0) ∧ (inR x1) ∧ (¬ (x0 < x1) → ((inR x2))))) ∧ (K (b2i (¬ (x0 < x1) ∧ (¬ (x2 < x0)))) h)) : wI d m_C_isAmong 0 [(0, vI x0), (1, vI x1), (2, vI x2)] [] h K := by
  refine w_iload_n rfl rfl ?_
  refine w_iload_n rfl rfl ?_
  obtain ⟨G, F⟩ := F
  have J : ∀ (t6 : Int), t6 = b2i (¬ (x0 < x1) ∧ (¬ (x2 < x0))) → wI d m_C_isAmong 15 [(0, vI x0), (1, vI x1), (2, vI x2)] [vI t6] h K := by
    intro t6 et6
    subst et6
    exact w_zret rfl rfl b2i_01 ⟨rfl, rfl, _, rfl, F⟩
  obtain ⟨b1, b2, gb_⟩ := G
  refine w_icmp_lt (tgt := 14) rfl (by decide) ⟨b1, b2⟩ (fun q3 => ?_) (fun q3 => ?_)
  · refine w_iconst rfl ?_
    exact J _ (b2i_f (fun z => z.1 q3)).symm
  · have G := gb_ q3
    have b4 := G
    refine w_iload_n rfl rfl ?_
    refine w_iload_n rfl rfl ?_
    refine w_icmp_gt (tgt := 14) rfl (by decide) ⟨b1, b4⟩ (fun q5 => ?_) (fun q5 => ?_)
    · refine w_iconst rfl ?_
      exact J _ (b2i_f (fun z => (fun z => z q5) z.2)).symm
    · refine w_iconst rfl ?_
      refine w_goto (tgt := 15) rfl (by decide) ?_
      exact J _ (b2i_t ⟨q3, q5⟩).symm
theorem c_C_isAmong {d : Nat} {h : St} {x l u : Int} {K : Int → St → Prop} (hx : inR x) (hl : inR l) (hu : inR u) (k : K (b2i (l ≤ x ∧ x ≤ u)) h) : mwpI (d + 1) m_C_isAmong [vI x, vI l, vI u] h K := by
  refine mI_intro b_C_isAmong rfl (s_C_isAmong_0 x l u h K ⟨⟨hx, hl, fun _ => hu⟩, ?_⟩)
  rw [b2i_congr (q := l ≤ x ∧ x ≤ u) (by omega)]
  exact k
theorem s_C_isName_0 {d : Nat}  (x0 : Int) (h : St) (K : Int → St → Prop) (F : (inR x0) ∧ (K (b2i (0 ≤ x0 ∧ x0 ≤ 11)) h)) : wI (d + 1) m_C_isName 0 [(0, vI x0)] [] h K := by
  refine w_iload_n rfl rfl ?_
  refine w_iconst rfl ?_
  refine w_bipush (by decide) (by decide) rfl ?_
  obtain ⟨b1, F⟩ := F
  refine c_SI [vI x0, vI 0, vI 11] [] rfl b_C_isAmong k_C_103 rfl rfl rfl (c_C_isAmong b1 (r_lit rfl) (r_lit rfl) ?_)
  exact w_zret rfl rfl b2i_01 ⟨rfl, rfl, _, rfl, F⟩
theorem c_C_isName {d : Nat} {h : St} {x : Int} {K : Int → St → Prop} (hx : inR x) (k : K (b2i (0 ≤ x ∧ x ≤ 11)) h) : mwpI (d + 2) m_C_isName [vI x] h K := mI_intro b_C_isName rfl (s_C_isName_0 x h K ⟨hx, k⟩)
theorem s_C_isWave_0 {d : Nat}  (x0 : Int) (h : St) (K : Int → St → Prop) (F : (inR x0) ∧ (K (b2i (0 ≤ x0 ∧ x0 ≤ 7)) h)) : wI (d + 1) m_C_isWave 0 [(0, vI x0)] [] h K := by
  refine w_iload_n rfl rfl ?_
  refine w_iconst rfl ?_
  refine w_bipush (by decide) (by decide) rfl ?_
  obtain ⟨b1, F⟩ := F
  refine c_SI [vI x0, vI 0, vI 7] [] rfl b_C_isAmong k_C_103 rfl rfl rfl (c_C_isAmong b1 (r_lit rfl) (r_lit rfl) ?_)
  exact w_zret rfl rfl b2i_01 ⟨rfl, rfl, _, rfl, F⟩
theorem c_C_isWave {d : Nat} {h : St} {x : Int} {K : Int → St → Prop} (hx : inR x) (k : K (b2i (0 ≤ x ∧ x ≤ 7)) h) : mwpI (d + 2) m_C_isWave [vI x] h K := mI_intro b_C_isWave rfl (s_C_isWave_0 x h K ⟨hx, k⟩)
theorem s_C_isHour_0 {d : Nat}  (x0 : Int) (h : St) (K : Int → St → Prop) (F : (inR x0) ∧ (K (b2i (0 ≤ x0 ∧ x0 ≤ 479)) h)) : wI (d + 1) m_C_isHour 0 [(0, vI x0)] [] h K := by
  refine w_iload_n rfl rfl ?_
  refine w_iconst rfl ?_
  refine w_sipush (by decide) (by decide) rfl ?_
  obtain ⟨b1, F⟩ := F
  refine c_SI [vI x0, vI 0, vI 479] [] rfl b_C_isAmong k_C_103 rfl rfl rfl (c_C_isAmong b1 (r_lit rfl) (r_lit rfl) ?_)
  exact w_zret rfl rfl b2i_01 ⟨rfl, rfl, _, rfl, F⟩
theorem c_C_isHour {d : Nat} {h : St} {x : Int} {K : Int → St → Prop} (hx : inR x) (k : K (b2i (0 ≤ x ∧ x ≤ 479)) h) : mwpI (d + 2) m_C_isHour [vI x] h K := mI_intro b_C_isHour rfl (s_C_isHour_0 x h K ⟨hx, k⟩)
theorem s_C_isDay_0 {d : Nat}  (x0 : Int) (h : St) (K : Int → St → Prop) (F : (inR x0) ∧ (K (b2i (0 ≤ x0 ∧ x0 ≤ 19)) h)) : wI (d + 1) m_C_isDay 0 [(0, vI x0)] [] h K := by
  refine w_iload_n rfl rfl ?_
  refine w_iconst rfl ?_
  refine w_bipush (by decide) (by decide) rfl ?_
  obtain ⟨b1, F⟩ := F
  refine c_SI [vI x0, vI 0, vI 19] [] rfl b_C_isAmong k_C_103 rfl rfl rfl (c_C_isAmong b1 (r_lit rfl) (r_lit rfl) ?_)
  exact w_zret rfl rfl b2i_01 ⟨rfl, rfl, _, rfl, F⟩
theorem c_C_isDay {d : Nat} {h : St} {x : Int} {K : Int → St → Prop} (hx : inR x) (k : K (b2i (0 ≤ x ∧ x ≤ 19)) h) : mwpI (d + 2) m_C_isDay [vI x] h K := mI_intro b_C_isDay rfl (s_C_isDay_0 x h K ⟨hx, k⟩)
theorem s_C_isMidnight_0 {d : Nat}  (x0 : Int) (h : St) (K : Int → St → Prop) (F : (inR x0) ∧ (K (b2i (0 ≤ x0 ∧ x0 ≤ 18)) h)) : wI (d + 1) m_C_isMidnight 0 [(0, vI x0)] [] h K := by
  refine w_iload_n rfl rfl ?_
  refine w_iconst rfl ?_
  refine w_bipush (by decide) (by decide) rfl ?_
  obtain ⟨b1, F⟩ := F
  refine c_SI [vI x0, vI 0, vI 18] [] rfl b_C_isAmong k_C_103 rfl rfl rfl (c_C_isAmong b1 (r_lit rfl) (r_lit rfl) ?_)
  exact w_zret rfl rfl b2i_01 ⟨rfl, rfl, _, rfl, F⟩
theorem c_C_isMidnight {d : Nat} {h : St} {x : Int} {K : Int → St → Prop} (hx : inR x) (k : K (b2i (0 ≤ x ∧ x ≤ 18)) h) : mwpI (d + 2) m_C_isMidnight [vI x] h K := mI_intro b_C_isMidnight rfl (s_C_isMidnight_0 x h K ⟨hx, k⟩)
theorem s_C_isHearer_0 {d : Nat}  (x0 : Int) (h : St) (K : Int → St → Prop) (F : (inR x0) ∧ (K (b2i (0 ≤ x0 ∧ x0 ≤ 3)) h)) : wI (d + 1) m_C_isHearer 0 [(0, vI x0)] [] h K := by
  refine w_iload_n rfl rfl ?_
  refine w_iconst rfl ?_
  refine w_iconst rfl ?_
  obtain ⟨b1, F⟩ := F
  refine c_SI [vI x0, vI 0, vI 3] [] rfl b_C_isAmong k_C_103 rfl rfl rfl (c_C_isAmong b1 (r_lit rfl) (r_lit rfl) ?_)
  exact w_zret rfl rfl b2i_01 ⟨rfl, rfl, _, rfl, F⟩
theorem c_C_isHearer {d : Nat} {h : St} {x : Int} {K : Int → St → Prop} (hx : inR x) (k : K (b2i (0 ≤ x ∧ x ≤ 3)) h) : mwpI (d + 2) m_C_isHearer [vI x] h K := mI_intro b_C_isHearer rfl (s_C_isHearer_0 x h K ⟨hx, k⟩)
theorem s_C_isSilence_0 {d : Nat}  (x0 : Int) (h : St) (K : Int → St → Prop) (F : (inR x0) ∧ (K (b2i (1 ≤ x0 ∧ x0 ≤ 48)) h)) : wI (d + 1) m_C_isSilence 0 [(0, vI x0)] [] h K := by
  refine w_iload_n rfl rfl ?_
  refine w_iconst rfl ?_
  refine w_bipush (by decide) (by decide) rfl ?_
  obtain ⟨b1, F⟩ := F
  refine c_SI [vI x0, vI 1, vI 48] [] rfl b_C_isAmong k_C_103 rfl rfl rfl (c_C_isAmong b1 (r_lit rfl) (r_lit rfl) ?_)
  exact w_zret rfl rfl b2i_01 ⟨rfl, rfl, _, rfl, F⟩
theorem c_C_isSilence {d : Nat} {h : St} {x : Int} {K : Int → St → Prop} (hx : inR x) (k : K (b2i (1 ≤ x ∧ x ≤ 48)) h) : mwpI (d + 2) m_C_isSilence [vI x] h K := mI_intro b_C_isSilence rfl (s_C_isSilence_0 x h K ⟨hx, k⟩)
theorem s_C_isCell_0 {d : Nat}  (x0 x1 : Int) (h : St) (K : Int → St → Prop) (F : (inR x0) ∧ (((0 ≤ x0 ∧ x0 ≤ 15 → ((inR x1))))) ∧ (K (b2i ((0 ≤ x0 ∧ x0 ≤ 15) ∧ (0 ≤ x1 ∧ x1 ≤ 15))) h)) : wI (d + 1) m_C_isCell 0 [(0, vI x0), (1, vI x1)] [] h K := by
  refine w_iload_n rfl rfl ?_
  refine w_iconst rfl ?_
  refine w_bipush (by decide) (by decide) rfl ?_
  obtain ⟨b1, F⟩ := F
  refine c_SI [vI x0, vI 0, vI 15] [] rfl b_C_isAmong k_C_103 rfl rfl rfl (c_C_isAmong b1 (r_lit rfl) (r_lit rfl) ?_)
  obtain ⟨G, F⟩ := F
  have J : ∀ (t5 : Int), t5 = b2i ((0 ≤ x0 ∧ x0 ≤ 15) ∧ (0 ≤ x1 ∧ x1 ≤ 15)) → wI (d + 1) m_C_isCell 25 [(0, vI x0), (1, vI x1)] [vI t5] h K := by
    intro t5 et5
    subst et5
    exact w_zret rfl rfl b2i_01 ⟨rfl, rfl, _, rfl, F⟩
  have ga_ := G
  refine w_ifeq_b (tgt := 24) rfl (by decide) (fun q2 => ?_) (fun q2 => ?_)
  · refine w_iconst rfl ?_
    exact J _ (b2i_f (fun z => q2 z.1)).symm
  · have G := ga_ q2
    have b3 := G
    refine w_iload_n rfl rfl ?_
    refine w_iconst rfl ?_
    refine w_bipush (by decide) (by decide) rfl ?_
    refine c_SI [vI x1, vI 0, vI 15] [] rfl b_C_isAmong k_C_103 rfl rfl rfl (c_C_isAmong b3 (r_lit rfl) (r_lit rfl) ?_)
    refine w_ifeq_b (tgt := 24) rfl (by decide) (fun q4 => ?_) (fun q4 => ?_)
    · refine w_iconst rfl ?_
      exact J _ (b2i_f (fun z => q4 z.2)).symm
    · refine w_iconst rfl ?_
      refine w_goto (tgt := 25) rfl (by decide) ?_
      exact J _ (b2i_t ⟨q2, q4⟩).symm
theorem c_C_isCell {d : Nat} {h : St} {x y : Int} {K : Int → St → Prop} (hx : inR x) (hy : inR y) (k : K (b2i ((0 ≤ x ∧ x ≤ 15) ∧ (0 ≤ y ∧ y ≤ 15))) h) : mwpI (d + 2) m_C_isCell [vI x, vI y] h K := mI_intro b_C_isCell rfl (s_C_isCell_0 x y h K ⟨hx, fun _ => hy, k⟩)
theorem s_C_isSpan_0 {d : Nat}  (x0 x1 : Int) (h : St) (K : Int → St → Prop) (F : (inR x0) ∧ (((0 ≤ x0 ∧ x0 ≤ 19 → ((inR x1))))) ∧ (K (b2i ((0 ≤ x0 ∧ x0 ≤ 19) ∧ ((0 ≤ x1 ∧ x1 ≤ 19) ∧ (¬ (x1 < x0))))) h)) : wI (d + 2) m_C_isSpan 0 [(0, vI x0), (1, vI x1)] [] h K := by
  refine w_iload_n rfl rfl ?_
  obtain ⟨b1, F⟩ := F
  refine c_SI [vI x0] [] rfl b_C_isDay k_C_131 rfl rfl rfl (c_C_isDay b1 ?_)
  obtain ⟨G, F⟩ := F
  have J : ∀ (t6 : Int), t6 = b2i ((0 ≤ x0 ∧ x0 ≤ 19) ∧ ((0 ≤ x1 ∧ x1 ≤ 19) ∧ (¬ (x1 < x0)))) → wI (d + 2) m_C_isSpan 24 [(0, vI x0), (1, vI x1)] [vI t6] h K := by
    intro t6 et6
    subst et6
    exact w_zret rfl rfl b2i_01 ⟨rfl, rfl, _, rfl, F⟩
  have ga_ := G
  refine w_ifeq_b (tgt := 23) rfl (by decide) (fun q2 => ?_) (fun q2 => ?_)
  · refine w_iconst rfl ?_
    exact J _ (b2i_f (fun z => q2 z.1)).symm
  · have G := ga_ q2
    have b3 := G
    refine w_iload_n rfl rfl ?_
    refine c_SI [vI x1] [] rfl b_C_isDay k_C_131 rfl rfl rfl (c_C_isDay b3 ?_)
    refine w_ifeq_b (tgt := 23) rfl (by decide) (fun q4 => ?_) (fun q4 => ?_)
    · refine w_iconst rfl ?_
      exact J _ (b2i_f (fun z => (fun z => q4 z.1) z.2)).symm
    · refine w_iload_n rfl rfl ?_
      refine w_iload_n rfl rfl ?_
      refine w_icmp_gt (tgt := 23) rfl (by decide) ⟨b1, b3⟩ (fun q5 => ?_) (fun q5 => ?_)
      · refine w_iconst rfl ?_
        exact J _ (b2i_f (fun z => (fun z => (fun z => z q5) z.2) z.2)).symm
      · refine w_iconst rfl ?_
        refine w_goto (tgt := 24) rfl (by decide) ?_
        exact J _ (b2i_t ⟨q2, ⟨q4, q5⟩⟩).symm
theorem c_C_isSpan {d : Nat} {h : St} {x y : Int} {K : Int → St → Prop} (hx : inR x) (hy : inR y) (k : K (b2i (0 ≤ x ∧ x ≤ y ∧ y ≤ 19)) h) : mwpI (d + 3) m_C_isSpan [vI x, vI y] h K := by
  refine mI_intro b_C_isSpan rfl (s_C_isSpan_0 x y h K ⟨hx, fun _ => hy, ?_⟩)
  rw [b2i_congr (q := 0 ≤ x ∧ x ≤ y ∧ y ≤ 19) (by omega)]
  exact k
theorem s_C_isDirection_0 {d : Nat}  (x0 x1 : Int) (h : St) (K : Int → St → Prop) (F : (inR x0) ∧ (((((-9)) ≤ x0 ∧ x0 ≤ 9 → ((inR x1))))) ∧ (K (b2i ((((-9)) ≤ x0 ∧ x0 ≤ 9) ∧ ((((-9)) ≤ x1 ∧ x1 ≤ 9) ∧ ((x0 ≠ 0) ∨ (¬ (x1 = 0)))))) h)) : wI (d + 1) m_C_isDirection 0 [(0, vI x0), (1, vI x1)] [] h K := by
  refine w_iload_n rfl rfl ?_
  refine w_bipush (by decide) (by decide) rfl ?_
  refine w_bipush (by decide) (by decide) rfl ?_
  obtain ⟨b1, F⟩ := F
  refine c_SI [vI x0, vI ((-9)), vI 9] [] rfl b_C_isAmong k_C_103 rfl rfl rfl (c_C_isAmong b1 (r_lit rfl) (r_lit rfl) ?_)
  obtain ⟨G, F⟩ := F
  have J : ∀ (t7 : Int), t7 = b2i ((((-9)) ≤ x0 ∧ x0 ≤ 9) ∧ ((((-9)) ≤ x1 ∧ x1 ≤ 9) ∧ ((x0 ≠ 0) ∨ (¬ (x1 = 0))))) → wI (d + 1) m_C_isDirection 35 [(0, vI x0), (1, vI x1)] [vI t7] h K := by
    intro t7 et7
    subst et7
    exact w_zret rfl rfl b2i_01 ⟨rfl, rfl, _, rfl, F⟩
  have ga_ := G
  refine w_ifeq_b (tgt := 34) rfl (by decide) (fun q2 => ?_) (fun q2 => ?_)
  · refine w_iconst rfl ?_
    exact J _ (b2i_f (fun z => q2 z.1)).symm
  · have G := ga_ q2
    have b3 := G
    refine w_iload_n rfl rfl ?_
    refine w_bipush (by decide) (by decide) rfl ?_
    refine w_bipush (by decide) (by decide) rfl ?_
    refine c_SI [vI x1, vI ((-9)), vI 9] [] rfl b_C_isAmong k_C_103 rfl rfl rfl (c_C_isAmong b3 (r_lit rfl) (r_lit rfl) ?_)
    refine w_ifeq_b (tgt := 34) rfl (by decide) (fun q4 => ?_) (fun q4 => ?_)
    · refine w_iconst rfl ?_
      exact J _ (b2i_f (fun z => (fun z => q4 z.1) z.2)).symm
    · refine w_iload_n rfl rfl ?_
      refine w_if_ne (tgt := 30) rfl (by decide) b1 (fun q5 => ?_) (fun q5 => ?_)
      · refine w_iconst rfl ?_
        refine w_goto (tgt := 35) rfl (by decide) ?_
        exact J _ (b2i_t ⟨q2, ⟨q4, (Or.inl q5)⟩⟩).symm
      · refine w_iload_n rfl rfl ?_
        refine w_if_eq (tgt := 34) rfl (by decide) b3 (fun q6 => ?_) (fun q6 => ?_)
        · refine w_iconst rfl ?_
          exact J _ (b2i_f (fun z => (fun z => (fun z => z.elim q5 (fun z => z q6)) z.2) z.2)).symm
        · refine w_iconst rfl ?_
          refine w_goto (tgt := 35) rfl (by decide) ?_
          exact J _ (b2i_t ⟨q2, ⟨q4, (Or.inr q6)⟩⟩).symm
theorem c_C_isDirection {d : Nat} {h : St} {x y : Int} {K : Int → St → Prop} (hx : inR x) (hy : inR y) (k : K (b2i ((-9 ≤ x ∧ x ≤ 9) ∧ (-9 ≤ y ∧ y ≤ 9) ∧ (x ≠ 0 ∨ y ≠ 0))) h) : mwpI (d + 2) m_C_isDirection [vI x, vI y] h K := by
  refine mI_intro b_C_isDirection rfl (s_C_isDirection_0 x y h K ⟨hx, fun _ => hy, ?_⟩)
  rw [b2i_congr (q := (-9 ≤ x ∧ x ≤ 9) ∧ (-9 ≤ y ∧ y ≤ 9) ∧ (x ≠ 0 ∨ y ≠ 0)) (by omega)]
  exact k
theorem s_C_isCall_0 {d : Nat}  (x1 : Int) (h : St) (K : Int → St → Prop) (F : (inR x1) ∧ (inR ((h 1 6) - 1)) ∧ (K (b2i (0 ≤ x1 ∧ x1 ≤ ((h 1 6) - 1))) h)) : wI (d + 1) m_C_isCall 0 [(0, vR 0), (1, vI x1)] [] h K := by
  refine w_iload_n rfl rfl ?_
  refine w_iconst rfl ?_
  refine w_aload_n rfl rfl ?_
  refine w_getR rfl f_C_10 rfl rfl rfl rfl rfl ?_
  refine w_getI rfl f_C_110 rfl rfl rfl ?_
  refine w_iconst rfl ?_
  refine w_isub rfl ?_
  obtain ⟨b1, F⟩ := F
  obtain ⟨b2, F⟩ := F
  refine c_SI [vI x1, vI 0, vI ((h 1 6) - 1)] [] rfl b_C_isAmong k_C_103 rfl rfl rfl (c_C_isAmong b1 (r_lit rfl) b2 ?_)
  exact w_zret rfl rfl b2i_01 ⟨rfl, rfl, _, rfl, F⟩
theorem c_C_isCall {d : Nat} {h : St} {x : Int} {K : Int → St → Prop} (hx : inR x) (hn : 0 ≤ h 1 6 ∧ h 1 6 ≤ 60) (k : K (b2i (0 ≤ x ∧ x < h 1 6)) h) : mwpI (d + 2) m_C_isCall [vR 0, vI x] h K := by
  refine mI_intro b_C_isCall rfl (s_C_isCall_0 x h K ⟨hx, ⟨by omega, by omega⟩, ?_⟩)
  rw [b2i_congr (q := 0 ≤ x ∧ x < h 1 6) (by omega)]
  exact k
theorem s_JM_abs_0 {d : Nat}  (x0 : Int) (h : St) (K : Int → St → Prop) (F : (((inR x0))) ∧ (K (cif (0 ≤ x0) x0 (-x0)) h)) : wI d m_JM_abs 0 [(0, vI x0)] [] h K := by
  refine w_iload_n rfl rfl ?_
  obtain ⟨G, F⟩ := F
  have J : ∀ (t3 : Int), t3 = cif (0 ≤ x0) x0 (-x0) → wI d m_JM_abs 10 [(0, vI x0)] [vI t3] h K := by
    intro t3 et3
    subst et3
    exact w_iret rfl rfl ⟨rfl, rfl, _, rfl, F⟩
  have b1 := G
  refine w_if_ge (tgt := 9) rfl (by decide) b1 (fun q2 => ?_) (fun q2 => ?_)
  · refine w_iload_n rfl rfl ?_
    exact J _ (cif_t q2).symm
  · refine w_iload_n rfl rfl ?_
    refine w_ineg rfl ?_
    refine w_goto (tgt := 10) rfl (by decide) ?_
    exact J _ (cif_f q2).symm
theorem c_JM_abs {d : Nat} {h : St} {x : Int} {K : Int → St → Prop} (hx : -2147483648 < x ∧ x < 2147483648) (k : K (x.natAbs : Int) h) : mwpI (d + 1) m_JM_abs [vI x] h K := by
  refine mI_intro b_JM_abs rfl (s_JM_abs_0 x h K ⟨⟨by omega, by omega⟩, ?_⟩)
  rcases Classical.em (0 ≤ x) with q | q
  · rw [cif_t q]; rwa [show (x.natAbs : Int) = x by omega] at k
  · rw [cif_f q]; rwa [show (x.natAbs : Int) = -x by omega] at k
theorem s_JM_max_0 {d : Nat}  (x0 x1 : Int) (h : St) (K : Int → St → Prop) (F : (((inR x0) ∧ (inR x1))) ∧ (K (cif (x0 < x1) x1 x0) h)) : wI d m_JM_max 0 [(0, vI x0), (1, vI x1)] [] h K := by
  refine w_iload_n rfl rfl ?_
  refine w_iload_n rfl rfl ?_
  obtain ⟨G, F⟩ := F
  have J : ∀ (t4 : Int), t4 = cif (x0 < x1) x1 x0 → wI d m_JM_max 10 [(0, vI x0), (1, vI x1)] [vI t4] h K := by
    intro t4 et4
    subst et4
    exact w_iret rfl rfl ⟨rfl, rfl, _, rfl, F⟩
  obtain ⟨b1, b2⟩ := G
  refine w_icmp_lt (tgt := 9) rfl (by decide) ⟨b1, b2⟩ (fun q3 => ?_) (fun q3 => ?_)
  · refine w_iload_n rfl rfl ?_
    exact J _ (cif_t q3).symm
  · refine w_iload_n rfl rfl ?_
    refine w_goto (tgt := 10) rfl (by decide) ?_
    exact J _ (cif_f q3).symm
theorem c_JM_max {d : Nat} {h : St} {x y : Int} {K : Int → St → Prop} (hx : inR x) (hy : inR y) (k : K (max x y) h) : mwpI (d + 1) m_JM_max [vI x, vI y] h K := by
  refine mI_intro b_JM_max rfl (s_JM_max_0 x y h K ⟨⟨hx, hy⟩, ?_⟩)
  rcases Classical.em (x < y) with q | q
  · rw [cif_t q]; rwa [show max x y = y by omega] at k
  · rw [cif_f q]; rwa [show max x y = x by omega] at k
theorem s_JM_min_0 {d : Nat}  (x0 x1 : Int) (h : St) (K : Int → St → Prop) (F : (((inR x0) ∧ (inR x1))) ∧ (K (cif (x1 < x0) x1 x0) h)) : wI d m_JM_min 0 [(0, vI x0), (1, vI x1)] [] h K := by
  refine w_iload_n rfl rfl ?_
  refine w_iload_n rfl rfl ?_
  obtain ⟨G, F⟩ := F
  have J : ∀ (t4 : Int), t4 = cif (x1 < x0) x1 x0 → wI d m_JM_min 10 [(0, vI x0), (1, vI x1)] [vI t4] h K := by
    intro t4 et4
    subst et4
    exact w_iret rfl rfl ⟨rfl, rfl, _, rfl, F⟩
  obtain ⟨b1, b2⟩ := G
  refine w_icmp_gt (tgt := 9) rfl (by decide) ⟨b1, b2⟩ (fun q3 => ?_) (fun q3 => ?_)
  · refine w_iload_n rfl rfl ?_
    exact J _ (cif_t q3).symm
  · refine w_iload_n rfl rfl ?_
    refine w_goto (tgt := 10) rfl (by decide) ?_
    exact J _ (cif_f q3).symm
theorem c_JM_min {d : Nat} {h : St} {x y : Int} {K : Int → St → Prop} (hx : inR x) (hy : inR y) (k : K (min x y) h) : mwpI (d + 1) m_JM_min [vI x, vI y] h K := by
  refine mI_intro b_JM_min rfl (s_JM_min_0 x y h K ⟨⟨hx, hy⟩, ?_⟩)
  rcases Classical.em (y < x) with q | q
  · rw [cif_t q]; rwa [show min x y = y by omega] at k
  · rw [cif_f q]; rwa [show min x y = x by omega] at k
