theorem s_C_hand_0 {d : Nat}  (x1 : Int) (h : St) (K : Int → St → Prop) (F : (inR x1) ∧ (0 ≤ h 1 6 ∧ h 1 6 ≤ 60) ∧ ((0 ≤ x1 ∧ x1 < h 1 6 → (mwpV (d + 3) m_Hands_group [vR 57, vR 1] h (fun h4 => (mwpI (d + 3) m_Hands_handOf [vR 57, vR 1, vI x1] h4 (fun z5 h5 => (K z5 h5)))))) ∧ (¬ (0 ≤ x1 ∧ x1 < h 1 6) → (K ((-1)) h)))) : wI (d + 3) m_C_hand 0 [(0, vR 0), (1, vI x1)] [] h K := by
  refine w_aload_n rfl rfl ?_
  refine w_iload_n rfl rfl ?_
  obtain ⟨b1, F⟩ := F
  obtain ⟨b2, F⟩ := F
  refine c_VI [vI x1] [] rfl b_C_isCall k_C_144 rfl rfl rfl rfl rfl rfl (c_C_isCall b1 b2 ?_)
  refine w_ifne_b (tgt := 10) rfl (by decide) (fun q3 => ?_) (fun q3 => ?_)
  · replace F := F.1 q3
    refine w_aload_n rfl rfl ?_
    refine w_getR rfl f_C_26 rfl rfl rfl rfl rfl ?_
    refine w_aload_n rfl rfl ?_
    refine w_getR rfl f_C_10 rfl rfl rfl rfl rfl ?_
    refine c_VV [vR 1] [] rfl b_Hands_group k_C_147 rfl rfl rfl rfl rfl rfl (mwpV_mono (fun h4 F => ?_) F)
    refine w_aload_n rfl rfl ?_
    refine w_getR rfl f_C_26 rfl rfl rfl rfl rfl ?_
    refine w_aload_n rfl rfl ?_
    refine w_getR rfl f_C_10 rfl rfl rfl rfl rfl ?_
    refine w_iload_n rfl rfl ?_
    refine c_VI [vR 1, vI x1] [] rfl b_Hands_handOf k_C_151 rfl rfl rfl rfl rfl rfl (mwpI_mono (fun z5 h5 F => ?_) F)
    exact w_iret rfl rfl ⟨rfl, rfl, _, rfl, F⟩
  · replace F := F.2 q3
    refine w_iconst rfl ?_
    exact w_iret rfl rfl ⟨rfl, rfl, _, rfl, F⟩
theorem s_C_hands_0 {d : Nat}  (h : St) (K : Int → St → Prop) (F : (mwpV (d + 3) m_Hands_group [vR 57, vR 1] h (fun h1 => (K (h1 57 1) h1)))) : wI (d + 3) m_C_hands 0 [(0, vR 0)] [] h K := by
  refine w_aload_n rfl rfl ?_
  refine w_getR rfl f_C_26 rfl rfl rfl rfl rfl ?_
  refine w_aload_n rfl rfl ?_
  refine w_getR rfl f_C_10 rfl rfl rfl rfl rfl ?_
  refine c_VV [vR 1] [] rfl b_Hands_group k_C_147 rfl rfl rfl rfl rfl rfl (mwpV_mono (fun h1 F => ?_) F)
  refine w_aload_n rfl rfl ?_
  refine w_getR rfl f_C_26 rfl rfl rfl rfl rfl ?_
  refine w_getI rfl f_C_155 rfl rfl rfl ?_
  exact w_iret rfl rfl ⟨rfl, rfl, _, rfl, F⟩
theorem sm_comm {R : Nat → Nat → Int} {m : Nat} : ∀ n : Nat, sm (fun i => sm (fun j => R i j) m) n = sm (fun j => sm (fun i => R i j) n) m
  | 0 => by
    show 0 = sm (fun _ => 0) m
    rw [sm_zero]
  | n + 1 => by
    show sm (fun i => sm (fun j => R i j) m) n + sm (fun j => R n j) m = sm (fun j => sm (fun i => R i j) n + R n j) m
    rw [sm_comm n, sm_add]
theorem sm_one {f : Nat → Int} {i n : Nat} (hi : i < n) (h1 : f i = 1) (h0 : ∀ j, j < n → j ≠ i → f j = 0) : sm f n = 1 := by
  have e := sm_set (f := fun _ => 0) (g := f) n hi h0
  rw [e, sm_zero, h1]
  rfl
theorem sm_none {f : Nat → Int} {n : Nat} (h0 : ∀ j, j < n → f j = 0) : sm f n = 0 := by
  rw [sm_congr (g := fun _ => 0) n h0, sm_zero]
noncomputable def giA (lg : Nat → Nat → Int) (n : Nat) (t : Int) (p : Nat) : Int := sm (fun q => b2i (staA lg n t q)) (p + 1)
theorem gi_same {lg : Nat → Nat → Int} {n : Nat} {t : Int} {p : Nat} (o : occA lg n p) : ∀ m : Nat, (m : Int) ≤ t → giA lg n t (p + m) = giA lg n t p
  | 0, _ => rfl
  | m + 1, hm => by
    have ih := gi_same (t := t) o m (by omega)
    unfold giA at *
    rw [show p + (m + 1) + 1 = (p + m + 1) + 1 by omega, sm_succ, ih, b2i_f (fun q => by have := q.2 p (by omega) o; omega), Int.add_zero]
theorem gi_mono {lg : Nat → Nat → Int} {n : Nat} {t : Int} {p : Nat} : ∀ m : Nat, giA lg n t p ≤ giA lg n t (p + m)
  | 0 => Int.le_refl _
  | m + 1 => by
    have ih := gi_mono (lg := lg) (n := n) (t := t) (p := p) m
    have b := b2i_B (p := staA lg n t (p + m + 1))
    unfold giA at *
    rw [show p + (m + 1) + 1 = (p + m + 1) + 1 by omega, sm_succ _ (p + m + 1)]
    omega
theorem gi_lt {lg : Nat → Nat → Int} {n : Nat} {t : Int} {p q : Nat} (hpq : p < q) (s : staA lg n t q) : giA lg n t p < giA lg n t q := by
  have m := gi_mono (lg := lg) (n := n) (t := t) (p := p) (q - 1 - p)
  rw [show p + (q - 1 - p) = q - 1 by omega] at m
  have e : giA lg n t q = giA lg n t (q - 1) + 1 := by
    unfold giA
    rw [sm_succ, b2i_t s, show q - 1 + 1 = q by omega]
  omega
theorem gi_cld {lg : Nat → Nat → Int} {n : Nat} (vl : VLog n lg) {t : Int} : cldA lg n t (fun c => giA lg n t (paA lg c)) := by
  have key : ∀ x y, x < n → y < n → gapA lg x y ≤ t → paA lg x ≤ paA lg y → giA lg n t (paA lg x) = giA lg n t (paA lg y) := by
    intro x y hx hy hg hle
    have g := (gap_pa vl hx hy).mp hg
    have e := gi_same (lg := lg) (n := n) (t := t) (p := paA lg x) ⟨x, hx, rfl⟩ (paA lg y - paA lg x) (by omega)
    rw [show paA lg x + (paA lg y - paA lg x) = paA lg y by omega] at e
    exact e.symm
  intro x y hx hy hg
  by_cases q : paA lg x ≤ paA lg y
  · exact key x y hx hy hg q
  · exact (key y x hy hx (by rw [gapA_sym]; exact hg) (by omega)).symm
theorem has_sta {lg : Nat → Nat → Int} {n : Nat} (vl : VLog n lg) {t : Int} (rt : 0 ≤ t) {f : Nat → Int} (cf : cldA lg n t f) : ∀ (m c : Nat), paA lg c < m → c < n → ∃ c0, c0 < n ∧ staA lg n t (paA lg c0) ∧ giA lg n t (paA lg c0) = giA lg n t (paA lg c) ∧ f c = f c0 := by
  intro m
  induction m with
  | zero => intro c h; omega
  | succ m ih =>
    intro c hm hc
    by_cases q : ∃ c2, c2 < n ∧ paA lg c2 < paA lg c ∧ (paA lg c : Int) - paA lg c2 ≤ t
    · obtain ⟨c2, h1, h2, h3⟩ := q
      obtain ⟨c0, a1, a2, a3, a4⟩ := ih c2 (by omega) h1
      have hg : gapA lg c c2 ≤ t := (gap_pa vl hc h1).mpr (by omega)
      exact ⟨c0, a1, a2, by rw [a3]; exact (gi_cld vl c c2 hc h1 hg).symm, by rw [cf c c2 hc h1 hg]; exact a4⟩
    · refine ⟨c, hc, ⟨⟨c, hc, rfl⟩, fun q2 h1 h2 => ?_⟩, rfl, rfl⟩
      obtain ⟨c2, h3, h4⟩ := h2
      have h5 : ¬ ((paA lg c : Int) - paA lg c2 ≤ t) := fun z => q ⟨c2, h3, by omega, z⟩
      omega
theorem gi_f {lg : Nat → Nat → Int} {n : Nat} (vl : VLog n lg) {t : Int} (rt : 0 ≤ t) {f : Nat → Int} (cf : cldA lg n t f) {a b : Nat} (ha : a < n) (hb : b < n) (e : giA lg n t (paA lg a) = giA lg n t (paA lg b)) : f a = f b := by
  obtain ⟨a0, a1, a2, a3, a4⟩ := has_sta vl rt cf _ a (Nat.lt_succ_self _) ha
  obtain ⟨b0, b1, b2, b3, b4⟩ := has_sta vl rt cf _ b (Nat.lt_succ_self _) hb
  have e2 : paA lg a0 = paA lg b0 := by
    by_cases q1 : paA lg a0 < paA lg b0
    · have := gi_lt q1 b2; omega
    · by_cases q2 : paA lg b0 < paA lg a0
      · have := gi_lt q2 a2; omega
      · omega
  rw [a4, b4]
  exact cf a0 b0 a1 b1 ((gap_pa vl a1 b1).mpr (by omega))
theorem hand_cnt {lg : Nat → Nat → Int} {n : Nat} (vl : VLog n lg) {t : Int} (rt : 0 ≤ t) {f : Nat → Int} (hf : isHand lg n t f) : sm (fun c => b2i (f c = (c : Int))) n = sm (fun q => b2i (staA lg n t q)) 100 := by
  have row : ∀ c, c < n → b2i (f c = (c : Int)) = sm (fun q => b2i (f c = (c : Int) ∧ staA lg n t q ∧ giA lg n t q = giA lg n t (paA lg c))) 100 := by
    intro c hc
    by_cases q : f c = (c : Int)
    · rw [b2i_t q]
      obtain ⟨c0, a1, a2, a3, a4⟩ := has_sta vl rt hf.1 _ c (Nat.lt_succ_self _) hc
      refine (sm_one (i := paA lg c0) (paA_R vl a1).1 (b2i_t ⟨q, a2, a3⟩) (fun j hj hne => b2i_f (fun z => ?_))).symm
      by_cases w : j < paA lg c0
      · have := gi_lt w a2; have := z.2.2; omega
      · have := gi_lt (p := paA lg c0) (q := j) (by omega) z.2.1; have := z.2.2; omega
    · rw [b2i_f q]
      exact (sm_none (fun j _ => b2i_f (fun z => q z.1))).symm
  have col : ∀ q, q < 100 → b2i (staA lg n t q) = sm (fun c => b2i (f c = (c : Int) ∧ staA lg n t q ∧ giA lg n t q = giA lg n t (paA lg c))) n := by
    intro q hq
    by_cases s : staA lg n t q
    · rw [b2i_t s]
      obtain ⟨c0, h0, e0⟩ := s.1
      obtain ⟨k1, k2, k3⟩ := hf.2 c0 h0
      have f1 := k3 f hf.1
      have g1 : giA lg n t (paA lg (f c0).toNat) = giA lg n t (paA lg c0) := k3 (fun c => giA lg n t (paA lg c)) (gi_cld vl)
      refine (sm_one (i := (f c0).toNat) (by omega) (b2i_t ⟨by omega, s, by rw [g1, e0]⟩) (fun j hj hne => b2i_f (fun z => ?_))).symm
      have e1 := gi_f vl rt hf.1 hj h0 (by rw [← z.2.2, e0])
      have := z.1
      omega
    · rw [b2i_f s]
      exact (sm_none (fun j _ => b2i_f (fun z => s z.2.1))).symm
  rw [sm_congr n row, sm_comm, ← sm_congr 100 col]
theorem P_hand {KK : Int → Int → St → Prop} {h : St} (hr : Rel h) {a1 : Int} (r1 : inR a1) (k : ∀ z h2, inR z → Rel h2 → KK z z h2) : mwpI 40 m_C_hand [vR 0, vI a1] h (fun z h1 => mwpI 40 m_M_hand [vR 109, vI a1] h1 (fun z2 h2 => KK z z2 h2)) := by
  obtain ⟨⟨n, lg, cl, ml, vl⟩, c2, c3, ⟨t1, t2, t3, t4⟩, c9⟩ := id hr
  have hn := cl.2.1
  have w1 := cl.1
  have w2 := ml.1
  refine mI_intro b_C_hand rfl (s_C_hand_0 (d := 36) a1 h _ ⟨r1, by omega, fun q => ?_, fun q => ?_⟩)
  · refine c_Hands_group cl vl rfl t2 (fun h1 g1 _ hh => ?_)
    have hr1 : Rel h1 := Rel_c (ag_sub (fun c k p => by omega) g1) hr
    obtain ⟨a, rfl⟩ : ∃ a : Nat, a1 = (a : Int) := ⟨a1.toNat, by omega⟩
    refine c_Hands_handOf (CLog_c (ag_sub (fun c k p => by omega) g1) cl) vl (by omega) ?_
    have ml1 : MLog h1 n lg := MLog_c (ag_sub (fun c k p => by omega) g1) ml
    have w3 := ml1.1
    refine mI_intro b_M_hand rfl (s_M_hand_0 (d := 37) _ h1 _ ⟨r1, by omega, fun _ => ?_, fun z => absurd (by omega) z⟩)
    refine c_M_handsOf (t := h 57 0) ml1 vl (by rw [g1 109 14 (by omega)]; exact t1.symm) t2 (fun h2 g2 hh2 => ⟨by omega, ?_⟩)
    have e := isHand_uni hh2 hh a (by omega)
    have hb := hh2.2 a (by omega)
    rw [Int.toNat_natCast, ← show h2 131 a = h1 58 (paA lg a) from e]
    have b1 := hb.1
    have b2 := hb.2.1
    exact k _ _ ⟨by omega, by omega⟩ (Rel_c (ag_sub (fun c k p => by omega) g2) hr1)
  · exact mI_intro b_M_hand rfl (s_M_hand_0 (d := 37) _ h _ ⟨r1, by omega, fun z => absurd z (by omega), fun _ => k _ _ (by decide) hr⟩)
theorem P_hands {KK : Int → Int → St → Prop} {h : St} (hr : Rel h) (k : ∀ z h2, inR z → Rel h2 → KK z z h2) : mwpI 40 m_C_hands [vR 0] h (fun z h1 => mwpI 40 m_M_hands [vR 109] h1 (fun z2 h2 => KK z z2 h2)) := by
  obtain ⟨⟨n, lg, cl, ml, vl⟩, c2, c3, ⟨t1, t2, t3, t4⟩, c9⟩ := id hr
  have hn := cl.2.1
  refine mI_intro b_C_hands rfl (s_C_hands_0 (d := 36) h _ ?_)
  refine c_Hands_group cl vl rfl t2 (fun h1 g1 s1 _ => ?_)
  have hr1 : Rel h1 := Rel_c (ag_sub (fun c k p => by omega) g1) hr
  have ml1 : MLog h1 n lg := MLog_c (ag_sub (fun c k p => by omega) g1) ml
  refine mI_intro b_M_hands rfl (s_M_hands_0 (d := 37) h1 _ ?_)
  refine c_M_handsOf (t := h 57 0) ml1 vl (by rw [g1 109 14 (by omega)]; exact t1.symm) t2 (fun h2 g2 hh2 => ?_)
  have w3 : h2 110 0 = n := (MLog_c (ag_sub (fun c k p => by omega) g2) ml1).1
  have bS := sm_bnd (f := fun q => b2i (staA lg n (h 57 0) q)) (u := 1) (by omega) 100 (fun i _ => b2i_B)
  have lp : ∀ (r c : Nat), c + r = n → wI 39 m_M_hands 8 [(0, vR 109), (1, vI (sm (fun c => b2i (h2 131 c = (c : Int))) c)), (2, vI (c : Int))] [] h2 (fun z2 h3 => KK (h1 57 1) z2 h3) := by
    intro r
    induction r with
    | zero =>
      intro c hc
      have e : c = n := by omega
      subst e
      refine s_M_hands_8 (d := 37) _ _ h2 _ ⟨⟨by omega, by omega⟩, ⟨by omega, by omega⟩, fun _ => ?_, fun z => absurd (by omega) z⟩
      rw [hand_cnt vl t2.1 hh2, s1]
      exact k _ _ ⟨by omega, by omega⟩ (Rel_c (ag_sub (fun c k p => by omega) g2) hr1)
    | succ r ih =>
      intro c hc
      have hb := hh2.2 c (by omega)
      have b1 := hb.1
      have b2 := hb.2.1
      refine s_M_hands_8 (d := 37) _ _ h2 _ ⟨⟨by omega, by omega⟩, ⟨by omega, by omega⟩, fun z => by omega, fun _ => ⟨by omega, ?_, ?_⟩⟩
      · rw [Int.toNat_natCast]; exact ⟨by omega, by omega⟩
      · rw [Int.toNat_natCast, b2i_congr (q := h2 131 c = (c : Int)) Classical.not_not]
        exact ih (c + 1) (by omega)
  exact lp n 0 (by omega)
