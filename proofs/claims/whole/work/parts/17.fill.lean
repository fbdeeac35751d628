def fillC (h : St) (c n : Nat) (v : Int) : St := fun i j => if i = c then (if j < n then v else h i j) else h i j
theorem fillC_in {h : St} {c n j : Nat} {v : Int} (hj : j < n) : fillC h c n v c j = v := by simp [fillC, hj]
theorem fillC_out {h : St} {c n i j : Nat} {v : Int} (hi : i ≠ c) : fillC h c n v i j = h i j := by simp [fillC, hi]
theorem fillC_row {h : St} {c n i : Nat} {v : Int} (hi : i ≠ c) : fillC h c n v i = h i := by funext j; simp [fillC, hi]
theorem fillC_zero (h : St) (c : Nat) (v : Int) : fillC h c 0 v = h := by
  funext i j
  simp [fillC]
theorem fillC_succ (h : St) (c n : Nat) (v : Int) : up (fillC h c n v) c n v = fillC h c (n + 1) v := by
  funext i j
  by_cases hi : i = c
  · subst hi
    by_cases hj : j = n
    · subst hj; simp [up, fillC]
    · by_cases hl : j < n
      · simp [up, fillC, hj, hl, Nat.lt_succ_of_lt hl]
      · simp [up, fillC, hj, hl, show ¬ j < n + 1 by omega]
  · simp [up, fillC, hi]
theorem fill_loop {d nM : Nat} {n : Nat} {rf : RF} {c len : Nat} {v : Int} {Q : Option Vv → Nat → RF → St → Prop} (hs : shp c = .inl (.int, len, 0)) (hc : Nat.blt c n = true) (hl : len < 2147483648) :
    ∀ (k i : Nat) (h : St), i + k = len → Q none n rf (fillC h c len v) → wp d nM m_JA_fill 5 [(0, vR c), (1, vI v), (2, vI (i : Int)), (3, vI (len : Int))] [] n rf (fillC h c i v) Q := by
  intro k
  induction k with
  | zero =>
    intro i h hi hq
    refine w_iload_n rfl rfl ?_
    refine w_iload_n rfl rfl ?_
    refine w_icmp_ge (tgt := 20) rfl (by decide) ⟨⟨by omega, by omega⟩, ⟨by omega, by omega⟩⟩ (fun q => ?_) (fun q => absurd (by omega) q)
    have e : i = len := by omega
    subst e
    exact w_vret rfl rfl hq
  | succ k ih =>
    intro i h hi hq
    refine w_iload_n rfl rfl ?_
    refine w_iload_n rfl rfl ?_
    refine w_icmp_ge (tgt := 20) rfl (by decide) ⟨⟨by omega, by omega⟩, ⟨by omega, by omega⟩⟩ (fun q => absurd q (by omega)) (fun q => ?_)
    refine w_aload_n rfl rfl ?_
    refine w_iload_n rfl rfl ?_
    refine w_iload_n rfl rfl ?_
    refine w_iastore rfl hs hc ⟨by omega, by omega⟩ ?_
    refine w_iinc rfl rfl rfl rfl rfl (w_ls (ls2 := [(0, vR c), (1, vI v), (2, vI ((i : Int) + 1)), (3, vI (len : Int))]) rfl ?_)
    refine w_goto (tgt := 5) rfl (by decide) ?_
    have e2 : up (fillC h c i v) c (Int.toNat (i : Int)) v = fillC h c (i + 1) v := fillC_succ h c i v
    rw [e2]
    exact ih (i + 1) h (by omega) hq
theorem fill_any {d n : Nat} {rf : RF} {h : St} {c len : Nat} {v : Int} (hs : shp c = .inl (.int, len, 0)) (hc : Nat.blt c n = true) (h9 : n ≤ 9000) : mwp (d + 1) m_JA_fill [vR c, vI v] n rf h n (fun r rf2 h2 => r = none ∧ rf2 = rf ∧ h2 = fillC h c len v) := by
  refine mwp_intro b_JA_fill.1 (Nat.le_refl _) h9 rfl ?_
  refine w_iconst rfl ?_
  refine w_istore_n rfl rfl rfl rfl (w_ls (ls2 := [(0, vR c), (1, vI v), (2, vI 0)]) rfl ?_)
  refine w_aload_n rfl rfl ?_
  refine w_alen (t0 := 0) rfl hs (fun _ => rfl) hc ?_
  refine w_istore_n rfl rfl rfl rfl (w_ls (ls2 := [(0, vR c), (1, vI v), (2, vI 0), (3, vI (len : Int))]) rfl ?_)
  have w := fill_loop (d := d) (nM := n) (rf := rf) (v := v) (Q := fun r n2 rf2 h2 => n2 = n ∧ r = none ∧ rf2 = rf ∧ h2 = fillC h c len v) hs hc (shp_len hs) len 0 h (by omega) ⟨rfl, rfl, rfl, rfl⟩
  rw [fillC_zero] at w
  exact w
theorem c_JA_fill {d : Nat} {h : St} {c len : Nat} {v : Int} {K : St → Prop} (hs : shp c = .inl (.int, len, 0)) (hc : Nat.blt c nC = true) (k : K (fillC h c len v)) : mwpV (d + 1) m_JA_fill [vR c, vI v] h K :=
  mwp_mono (fun _ _ _ ⟨q1, q2, q3⟩ => ⟨q2, q1, q3 ▸ k⟩) (fill_any (rf := rfA) hs hc (by decide))
theorem fillJ_loop {d nM : Nat} {n : Nat} {rf : RF} {c len : Nat} {v : Int} {Q : Option Vv → Nat → RF → St → Prop} (hs : shp c = .inl (.long, len, 0)) (hc : Nat.blt c n = true) (hl : len < 2147483648) :
    ∀ (k i : Nat) (h : St), i + k = len → Q none n rf (fillC h c len v) → wp d nM m_JA_fillJ 6 [(0, vR c), (1, vJ v), (3, vI (i : Int)), (4, vI (len : Int))] [] n rf (fillC h c i v) Q := by
  intro k
  induction k with
  | zero =>
    intro i h hi hq
    refine w_iload_n rfl rfl ?_
    refine w_iload rfl rfl ?_
    refine w_icmp_ge (tgt := 22) rfl (by decide) ⟨⟨by omega, by omega⟩, ⟨by omega, by omega⟩⟩ (fun q => ?_) (fun q => absurd (by omega) q)
    have e : i = len := by omega
    subst e
    exact w_vret rfl rfl hq
  | succ k ih =>
    intro i h hi hq
    refine w_iload_n rfl rfl ?_
    refine w_iload rfl rfl ?_
    refine w_icmp_ge (tgt := 22) rfl (by decide) ⟨⟨by omega, by omega⟩, ⟨by omega, by omega⟩⟩ (fun q => absurd q (by omega)) (fun q => ?_)
    refine w_aload_n rfl rfl ?_
    refine w_iload_n rfl rfl ?_
    refine w_lload_n rfl rfl ?_
    refine w_lastore rfl hs hc ⟨by omega, by omega⟩ ?_
    refine w_iinc rfl rfl rfl rfl rfl (w_ls (ls2 := [(0, vR c), (1, vJ v), (3, vI ((i : Int) + 1)), (4, vI (len : Int))]) rfl ?_)
    refine w_goto (tgt := 6) rfl (by decide) ?_
    have e2 : up (fillC h c i v) c (Int.toNat (i : Int)) v = fillC h c (i + 1) v := fillC_succ h c i v
    rw [e2]
    exact ih (i + 1) h (by omega) hq
theorem c_JA_fillJ {d : Nat} {h : St} {c len : Nat} {v : Int} {K : St → Prop} (hs : shp c = .inl (.long, len, 0)) (hc : Nat.blt c nC = true) (k : K (fillC h c len v)) : mwpV (d + 1) m_JA_fillJ [vR c, vJ v] h K := by
  refine mV_intro b_JA_fillJ rfl ?_
  refine w_iconst rfl ?_
  refine w_istore_n rfl rfl rfl rfl (w_ls (ls2 := [(0, vR c), (1, vJ v), (3, vI 0)]) rfl ?_)
  refine w_aload_n rfl rfl ?_
  refine w_alen (t0 := 3) rfl hs (fun _ => rfl) hc ?_
  refine w_istore rfl rfl rfl rfl (w_ls (ls2 := [(0, vR c), (1, vJ v), (3, vI 0), (4, vI (len : Int))]) rfl ?_)
  have w := fillJ_loop (d := d) (nM := nC) (rf := rfA) (v := v) (Q := fun r n2 rf2 h2 => n2 = nC ∧ rf2 = rfA ∧ r = none ∧ K h2) hs hc (shp_len hs) len 0 h (by omega) ⟨rfl, rfl, rfl, k⟩
  rw [fillC_zero] at w
  exact w
