abbrev dLog (c _k : Nat) : Prop := c = 1 ∨ (2 ≤ c ∧ c ≤ 7) ∨ (110 ≤ c ∧ c ≤ 116)
abbrev dTxt (c k : Nat) : Prop := (c = 8 ∧ k = 1) ∨ c = 9 ∨ (c = 109 ∧ k = 18) ∨ c = 125
abbrev dBk (c k : Nat) : Prop := (c = 8 ∧ k = 12) ∨ (16 ≤ c ∧ c ≤ 35) ∨ (37 ≤ c ∧ c ≤ 56) ∨ (c = 109 ∧ k = 20) ∨ c = 126
abbrev dTH (c k : Nat) : Prop := (c = 57 ∧ k = 0) ∨ (c = 77 ∧ k = 0) ∨ (c = 109 ∧ (k = 14 ∨ k = 15))
abbrev dHr (c _k : Nat) : Prop := c = 86 ∨ c = 87 ∨ c = 123 ∨ c = 124
abbrev dBr (c k : Nat) : Prop := (c = 85 ∧ k = 8) ∨ (88 ≤ c ∧ c ≤ 93) ∨ c = 117 ∨ c = 118
abbrev dLs (c k : Nat) : Prop := (c = 96 ∧ k = 0) ∨ (97 ≤ c ∧ c ≤ 99) ∨ c = 119 ∨ c = 120
abbrev dEv (c k : Nat) : Prop := (c = 96 ∧ k = 1) ∨ c = 100 ∨ c = 121 ∨ c = 122
abbrev dKp (c k : Nat) : Prop := (c = 0 ∧ k = 14) ∨ (105 ≤ c ∧ c ≤ 108) ∨ (c = 109 ∧ k = 13)
abbrev pers (c k : Nat) : Prop := dLog c k ∨ dTxt c k ∨ dBk c k ∨ dTH c k ∨ dHr c k ∨ dBr c k ∨ dLs c k ∨ dEv c k ∨ dKp c k
def ag (P : Nat → Nat → Prop) (h h2 : St) : Prop := ∀ c k, P c k → h2 c k = h c k
theorem ag_rfl {P : Nat → Nat → Prop} {h : St} : ag P h h := fun _ _ _ => rfl
theorem ag_trans {P : Nat → Nat → Prop} {h h2 h3 : St} (a : ag P h h2) (b : ag P h2 h3) : ag P h h3 := fun c k p => (b c k p).trans (a c k p)
theorem ag_sub {P P2 : Nat → Nat → Prop} {h h2 : St} (hp : ∀ c k, P2 c k → P c k) (a : ag P h h2) : ag P2 h h2 := fun c k p => a c k (hp c k p)
theorem up_ne {h : St} {c1 k1 c k : Nat} {v : Int} (hn : ¬ (c = c1 ∧ k = k1)) : up h c1 k1 v c k = h c k := by
  by_cases hc : c = c1
  · subst hc
    exact up_idx _ _ _ _ _ (fun q => hn ⟨rfl, q⟩)
  · exact up_cell _ _ _ _ _ _ hc
theorem ag_up {P : Nat → Nat → Prop} {h h2 : St} {c k : Nat} {v : Int} (hn : ¬ P c k) (a : ag P h h2) : ag P h (up h2 c k v) := fun c2 k2 p => by
  rw [up_ne (fun q => hn (by rw [← q.1, ← q.2]; exact p))]
  exact a c2 k2 p
theorem ag_fill {P : Nat → Nat → Prop} {h h2 : St} {c n : Nat} {v : Int} (hn : ∀ k, ¬ P c k) (a : ag P h h2) : ag P h (fillC h2 c n v) := fun c2 k2 p => by
  by_cases q : c2 = c
  · subst q
    exact absurd p (hn k2)
  · rw [fillC_out q]
    exact a c2 k2 p
def CLog (h : St) (n : Nat) (lg : Nat → Nat → Int) : Prop := h 1 6 = n ∧ n ≤ 60 ∧ ∀ i, i < n → h 2 i = lg 0 i ∧ h 3 i = lg 1 i ∧ h 4 i = lg 2 i ∧ h 5 i = lg 3 i ∧ h 6 i = lg 4 i ∧ h 7 i = lg 5 i
def MLog (h : St) (n : Nat) (lg : Nat → Nat → Int) : Prop := h 110 0 = n ∧ n ≤ 60 ∧ ∀ i, i < n → h 111 i = lg 0 i ∧ h 112 i = lg 1 i ∧ h 113 i = lg 2 i ∧ h 114 i = lg 3 i ∧ h 115 i = lg 4 i ∧ h 116 i = lg 5 i
def VLog (n : Nat) (lg : Nat → Nat → Int) : Prop := ∀ i, i < n → (0 ≤ lg 0 i ∧ lg 0 i ≤ 11) ∧ (0 ≤ lg 1 i ∧ lg 1 i ≤ 11) ∧ lg 0 i ≠ lg 1 i ∧ (0 ≤ lg 2 i ∧ lg 2 i ≤ 479) ∧ (1 ≤ lg 3 i ∧ lg 3 i ≤ 99) ∧ (0 ≤ lg 4 i ∧ lg 4 i ≤ 7) ∧ (0 ≤ lg 5 i ∧ lg 5 i ≤ 99)
def RLog (h : St) : Prop := ∃ n lg, CLog h n lg ∧ MLog h n lg ∧ VLog n lg
def CTxt (h : St) (n : Nat) (tx : Nat → Int) : Prop := h 8 1 = n ∧ n ≤ 200 ∧ ∀ i, i < n → h 9 i = tx i
def MTxt (h : St) (n : Nat) (tx : Nat → Int) : Prop := h 109 18 = n ∧ n ≤ 200 ∧ ∀ i, i < n → h 125 i = tx i
def VTxt (n : Nat) (tx : Nat → Int) : Prop := ∀ i, i < n → -128 ≤ tx i ∧ tx i ≤ 127
def RTxt (h : St) : Prop := ∃ n tx, CTxt h n tx ∧ MTxt h n tx ∧ VTxt n tx
def lastP (f : Nat → Int) (v : Int) : Nat → Int
  | 0 => -4
  | n + 1 => if f n = v then n else lastP f v n
def CBk (h : St) (ni : Int) (bk : Nat → Nat → Int) : Prop := h 8 12 = ni ∧ (∀ d, d < 20 → ∀ p, p < 12 → h (16 + d) p = bk d p) ∧ (∀ d, d < 20 → ∀ m, m < 12 → h (37 + d) m = lastP (bk d) m 12)
def MBk (h : St) (ni : Int) (bk : Nat → Nat → Int) : Prop := h 109 20 = ni ∧ (∀ d, d < 20 → ∀ p, p < 12 → h 126 (12 * d + p) = bk d p)
def VBk (ni : Int) (bk : Nat → Nat → Int) : Prop := (0 ≤ ni ∧ ni ≤ 40) ∧ ∀ d, d < 20 → ∀ p, p < 12 → bk d p = -4 ∨ (0 ≤ bk d p ∧ bk d p ≤ 11)
def RBk (h : St) : Prop := ∃ ni bk, CBk h ni bk ∧ MBk h ni bk ∧ VBk ni bk
def RTH (h : St) : Prop := h 57 0 = h 109 14 ∧ (0 ≤ h 57 0 ∧ h 57 0 ≤ 99) ∧ h 77 0 = h 109 15 ∧ (1 ≤ h 77 0 ∧ h 77 0 ≤ 23)
def RHr (h : St) : Prop := ∀ i, i < 4 → h 86 i = h 123 i ∧ h 87 i = h 124 i ∧ (0 ≤ h 86 i ∧ h 86 i ≤ 15) ∧ (0 ≤ h 87 i ∧ h 87 i ≤ 15)
def CBr (h : St) (n : Nat) (bg : Nat → Nat → Int) : Prop := h 85 8 = n ∧ n ≤ 40 ∧ ∀ i, i < n → h 88 i = bg 0 i ∧ h 89 i = bg 1 i ∧ h 90 i = bg 2 i ∧ h 91 i = bg 3 i ∧ h 92 i = bg 4 i ∧ h 93 i = bg 5 i
def MBr (h : St) (n : Nat) (bg : Nat → Nat → Int) : Prop := h 117 0 = n ∧ n ≤ 40 ∧ ∀ i, i < n → h 118 (6 * i) = bg 0 i ∧ h 118 (6 * i + 1) = bg 1 i ∧ h 118 (6 * i + 2) = bg 2 i ∧ h 118 (6 * i + 3) = bg 3 i ∧ h 118 (6 * i + 4) = bg 4 i ∧ h 118 (6 * i + 5) = bg 5 i
def VBr (n : Nat) (bg : Nat → Nat → Int) : Prop := ∀ i, i < n → (0 ≤ bg 0 i ∧ bg 0 i ≤ 3) ∧ (0 ≤ bg 1 i ∧ bg 1 i ≤ 11) ∧ (0 ≤ bg 2 i ∧ bg 2 i ≤ 19) ∧ (-9 ≤ bg 3 i ∧ bg 3 i ≤ 9) ∧ (-9 ≤ bg 4 i ∧ bg 4 i ≤ 9) ∧ (1 ≤ bg 5 i ∧ bg 5 i ≤ 20)
def RBr (h : St) : Prop := ∃ n bg, CBr h n bg ∧ MBr h n bg ∧ VBr n bg
def CLs (h : St) (n : Nat) (ls : Nat → Nat → Int) : Prop := h 96 0 = n ∧ n ≤ 20 ∧ ∀ i, i < n → h 97 i = ls 0 i ∧ h 98 i = ls 1 i ∧ h 99 i = ls 2 i
def MLs (h : St) (n : Nat) (ls : Nat → Nat → Int) : Prop := h 119 0 = n ∧ n ≤ 20 ∧ ∀ i, i < n → h 120 (3 * i) = ls 0 i ∧ h 120 (3 * i + 1) = ls 1 i ∧ h 120 (3 * i + 2) = ls 2 i
def VLs (n : Nat) (ls : Nat → Nat → Int) : Prop := ∀ i, i < n → (0 ≤ ls 0 i ∧ ls 0 i ≤ 7) ∧ 0 ≤ ls 1 i ∧ ls 1 i ≤ ls 2 i ∧ ls 2 i ≤ 479
def RLs (h : St) : Prop := ∃ n ls, CLs h n ls ∧ MLs h n ls ∧ VLs n ls
def CEv (h : St) (n : Nat) (ev : Nat → Int) : Prop := h 96 1 = n ∧ n ≤ 10 ∧ ∀ i, i < n → h 100 i = ev i
def MEv (h : St) (n : Nat) (ev : Nat → Int) : Prop := h 121 0 = n ∧ n ≤ 10 ∧ ∀ i, i < n → h 122 i = ev i
def VEv (n : Nat) (ev : Nat → Int) : Prop := ∀ i, i < n → 0 ≤ ev i ∧ ev i ≤ 479
def REv (h : St) : Prop := ∃ n ev, CEv h n ev ∧ MEv h n ev ∧ VEv n ev
def kNext (h : St) (c cur : Nat) (curk : Nat) (j k : Nat) : Int := if j + 1 < k then h c (j + 1) else h cur curk
def RKp (h : St) : Prop := ∃ k : Nat, h 0 14 = k ∧ h 109 13 = k ∧ k ≤ 2 ∧ ∀ j, j < k →
  (h 105 j = h 110 (1 + j) ∧ 0 ≤ h 105 j ∧ h 105 j ≤ kNext h 105 1 6 j k ∧ ∀ i : Nat, (i : Int) < h 105 j → h 111 (60 * (1 + j) + i) = h 111 i ∧ h 112 (60 * (1 + j) + i) = h 112 i ∧ h 113 (60 * (1 + j) + i) = h 113 i ∧ h 114 (60 * (1 + j) + i) = h 114 i ∧ h 115 (60 * (1 + j) + i) = h 115 i ∧ h 116 (60 * (1 + j) + i) = h 116 i) ∧
  (h 106 j = h 117 (1 + j) ∧ 0 ≤ h 106 j ∧ h 106 j ≤ kNext h 106 85 8 j k ∧ ∀ i : Nat, (i : Int) < 6 * h 106 j → h 118 (240 * (1 + j) + i) = h 118 i) ∧
  (h 107 j = h 119 (1 + j) ∧ 0 ≤ h 107 j ∧ h 107 j ≤ kNext h 107 96 0 j k ∧ ∀ i : Nat, (i : Int) < 3 * h 107 j → h 120 (60 * (1 + j) + i) = h 120 i) ∧
  (h 108 j = h 121 (1 + j) ∧ 0 ≤ h 108 j ∧ h 108 j ≤ kNext h 108 96 1 j k ∧ ∀ i : Nat, (i : Int) < h 108 j → h 122 (10 * (1 + j) + i) = h 122 i)
def Rel (h : St) : Prop := RLog h ∧ RTxt h ∧ RBk h ∧ RTH h ∧ RHr h ∧ RBr h ∧ RLs h ∧ REv h ∧ RKp h
theorem CLog_c {h h2 : St} {n : Nat} {lg : Nat → Nat → Int} (a : ag dLog h h2) (r : CLog h n lg) : CLog h2 n lg := by
  obtain ⟨r1, r2, r3⟩ := r
  refine ⟨by rw [a 1 6 (by omega)]; exact r1, r2, fun i hi => ?_⟩
  rw [a 2 i (by omega), a 3 i (by omega), a 4 i (by omega), a 5 i (by omega), a 6 i (by omega), a 7 i (by omega)]
  exact r3 i hi
theorem MLog_c {h h2 : St} {n : Nat} {lg : Nat → Nat → Int} (a : ag dLog h h2) (r : MLog h n lg) : MLog h2 n lg := by
  obtain ⟨r1, r2, r3⟩ := r
  refine ⟨by rw [a 110 0 (by omega)]; exact r1, r2, fun i hi => ?_⟩
  rw [a 111 i (by omega), a 112 i (by omega), a 113 i (by omega), a 114 i (by omega), a 115 i (by omega), a 116 i (by omega)]
  exact r3 i hi
theorem RLog_c {h h2 : St} (a : ag dLog h h2) (r : RLog h) : RLog h2 := by
  obtain ⟨n, lg, r1, r2, r3⟩ := r
  exact ⟨n, lg, CLog_c a r1, MLog_c a r2, r3⟩
theorem CTxt_c {h h2 : St} {n : Nat} {tx : Nat → Int} (a : ag dTxt h h2) (r : CTxt h n tx) : CTxt h2 n tx :=
  ⟨by rw [a 8 1 (by omega)]; exact r.1, r.2.1, fun i hi => by rw [a 9 i (by omega)]; exact r.2.2 i hi⟩
theorem MTxt_c {h h2 : St} {n : Nat} {tx : Nat → Int} (a : ag dTxt h h2) (r : MTxt h n tx) : MTxt h2 n tx :=
  ⟨by rw [a 109 18 (by omega)]; exact r.1, r.2.1, fun i hi => by rw [a 125 i (by omega)]; exact r.2.2 i hi⟩
theorem RTxt_c {h h2 : St} (a : ag dTxt h h2) (r : RTxt h) : RTxt h2 := by
  obtain ⟨n, tx, r1, r2, r3⟩ := r
  exact ⟨n, tx, CTxt_c a r1, MTxt_c a r2, r3⟩
theorem RBk_c {h h2 : St} (a : ag dBk h h2) (r : RBk h) : RBk h2 := by
  obtain ⟨ni, bk, ⟨a1, a2, a3⟩, ⟨b1, b2⟩, r3⟩ := r
  exact ⟨ni, bk, ⟨by rw [a 8 12 (by omega)]; exact a1, fun d hd p hp => by rw [a (16 + d) p (by omega)]; exact a2 d hd p hp, fun d hd p hp => by rw [a (37 + d) p (by omega)]; exact a3 d hd p hp⟩, ⟨by rw [a 109 20 (by omega)]; exact b1, fun d hd p hp => by rw [a 126 _ (by omega)]; exact b2 d hd p hp⟩, r3⟩
theorem RTH_c {h h2 : St} (a : ag dTH h h2) (r : RTH h) : RTH h2 := by
  unfold RTH
  rw [a 57 0 (by omega), a 77 0 (by omega), a 109 14 (by omega), a 109 15 (by omega)]
  exact r
theorem RHr_c {h h2 : St} (a : ag dHr h h2) (r : RHr h) : RHr h2 := by
  intro i hi
  rw [a 86 i (by omega), a 87 i (by omega), a 123 i (by omega), a 124 i (by omega)]
  exact r i hi
theorem CBr_c {h h2 : St} {n : Nat} {bg : Nat → Nat → Int} (a : ag dBr h h2) (r : CBr h n bg) : CBr h2 n bg := by
  obtain ⟨r1, r2, r3⟩ := r
  refine ⟨by rw [a 85 8 (by omega)]; exact r1, r2, fun i hi => ?_⟩
  rw [a 88 i (by omega), a 89 i (by omega), a 90 i (by omega), a 91 i (by omega), a 92 i (by omega), a 93 i (by omega)]
  exact r3 i hi
theorem MBr_c {h h2 : St} {n : Nat} {bg : Nat → Nat → Int} (a : ag dBr h h2) (r : MBr h n bg) : MBr h2 n bg := by
  obtain ⟨r1, r2, r3⟩ := r
  refine ⟨by rw [a 117 0 (by omega)]; exact r1, r2, fun i hi => ?_⟩
  rw [a 118 _ (by omega), a 118 _ (by omega), a 118 _ (by omega), a 118 _ (by omega), a 118 _ (by omega), a 118 _ (by omega)]
  exact r3 i hi
theorem RBr_c {h h2 : St} (a : ag dBr h h2) (r : RBr h) : RBr h2 := by
  obtain ⟨n, bg, r1, r2, r3⟩ := r
  exact ⟨n, bg, CBr_c a r1, MBr_c a r2, r3⟩
theorem CLs_c {h h2 : St} {n : Nat} {ls : Nat → Nat → Int} (a : ag dLs h h2) (r : CLs h n ls) : CLs h2 n ls := by
  obtain ⟨r1, r2, r3⟩ := r
  refine ⟨by rw [a 96 0 (by omega)]; exact r1, r2, fun i hi => ?_⟩
  rw [a 97 i (by omega), a 98 i (by omega), a 99 i (by omega)]
  exact r3 i hi
theorem MLs_c {h h2 : St} {n : Nat} {ls : Nat → Nat → Int} (a : ag dLs h h2) (r : MLs h n ls) : MLs h2 n ls := by
  obtain ⟨r1, r2, r3⟩ := r
  refine ⟨by rw [a 119 0 (by omega)]; exact r1, r2, fun i hi => ?_⟩
  rw [a 120 _ (by omega), a 120 _ (by omega), a 120 _ (by omega)]
  exact r3 i hi
theorem RLs_c {h h2 : St} (a : ag dLs h h2) (r : RLs h) : RLs h2 := by
  obtain ⟨n, ls, r1, r2, r3⟩ := r
  exact ⟨n, ls, CLs_c a r1, MLs_c a r2, r3⟩
theorem CEv_c {h h2 : St} {n : Nat} {ev : Nat → Int} (a : ag dEv h h2) (r : CEv h n ev) : CEv h2 n ev :=
  ⟨by rw [a 96 1 (by omega)]; exact r.1, r.2.1, fun i hi => by rw [a 100 i (by omega)]; exact r.2.2 i hi⟩
theorem MEv_c {h h2 : St} {n : Nat} {ev : Nat → Int} (a : ag dEv h h2) (r : MEv h n ev) : MEv h2 n ev :=
  ⟨by rw [a 121 0 (by omega)]; exact r.1, r.2.1, fun i hi => by rw [a 122 i (by omega)]; exact r.2.2 i hi⟩
theorem REv_c {h h2 : St} (a : ag dEv h h2) (r : REv h) : REv h2 := by
  obtain ⟨n, ev, r1, r2, r3⟩ := r
  exact ⟨n, ev, CEv_c a r1, MEv_c a r2, r3⟩
theorem RKp_c {h h2 : St} (a : ag (fun c k => dKp c k ∨ dLog c k ∨ dBr c k ∨ dLs c k ∨ dEv c k) h h2) (r : RKp h) : RKp h2 := by
  obtain ⟨k, r1, r2, r3, r4⟩ := r
  refine ⟨k, by rw [a 0 14 (by omega)]; exact r1, by rw [a 109 13 (by omega)]; exact r2, r3, fun j hj => ?_⟩
  obtain ⟨⟨a1, a2, a3, a4⟩, ⟨b1, b2, b3, b4⟩, ⟨c1, c2, c3, c4⟩, ⟨d1, d2, d3, d4⟩⟩ := r4 j hj
  have f1 : ∀ i, h2 111 i = h 111 i := fun i => a 111 i (by omega)
  have f2 : ∀ i, h2 112 i = h 112 i := fun i => a 112 i (by omega)
  have f3 : ∀ i, h2 113 i = h 113 i := fun i => a 113 i (by omega)
  have f4 : ∀ i, h2 114 i = h 114 i := fun i => a 114 i (by omega)
  have f5 : ∀ i, h2 115 i = h 115 i := fun i => a 115 i (by omega)
  have f6 : ∀ i, h2 116 i = h 116 i := fun i => a 116 i (by omega)
  have f7 : ∀ i, h2 118 i = h 118 i := fun i => a 118 i (by omega)
  have f8 : ∀ i, h2 120 i = h 120 i := fun i => a 120 i (by omega)
  have f9 : ∀ i, h2 122 i = h 122 i := fun i => a 122 i (by omega)
  have e1 : kNext h2 105 1 6 j k = kNext h 105 1 6 j k := by unfold kNext; rw [a 105 _ (by omega), a 1 6 (by omega)]
  have e2 : kNext h2 106 85 8 j k = kNext h 106 85 8 j k := by unfold kNext; rw [a 106 _ (by omega), a 85 8 (by omega)]
  have e3 : kNext h2 107 96 0 j k = kNext h 107 96 0 j k := by unfold kNext; rw [a 107 _ (by omega), a 96 0 (by omega)]
  have e4 : kNext h2 108 96 1 j k = kNext h 108 96 1 j k := by unfold kNext; rw [a 108 _ (by omega), a 96 1 (by omega)]
  rw [e1, e2, e3, e4, a 105 j (by omega), a 106 j (by omega), a 107 j (by omega), a 108 j (by omega), a 110 _ (by omega), a 117 _ (by omega), a 119 _ (by omega), a 121 _ (by omega)]
  refine ⟨⟨a1, a2, a3, fun i hi => ?_⟩, ⟨b1, b2, b3, fun i hi => ?_⟩, ⟨c1, c2, c3, fun i hi => ?_⟩, ⟨d1, d2, d3, fun i hi => ?_⟩⟩
  · simp only [f1, f2, f3, f4, f5, f6]
    exact a4 i hi
  · simp only [f7]
    exact b4 i hi
  · simp only [f8]
    exact c4 i hi
  · simp only [f9]
    exact d4 i hi
theorem Rel_c {h h2 : St} (a : ag pers h h2) (r : Rel h) : Rel h2 := by
  obtain ⟨r1, r2, r3, r4, r5, r6, r7, r8, r9⟩ := r
  refine ⟨RLog_c (ag_sub (fun c k p => Or.inl p) a) r1, RTxt_c (ag_sub (fun c k p => Or.inr (Or.inl p)) a) r2, RBk_c (ag_sub (fun c k p => Or.inr (Or.inr (Or.inl p))) a) r3, RTH_c (ag_sub (fun c k p => Or.inr (Or.inr (Or.inr (Or.inl p)))) a) r4, RHr_c (ag_sub (fun c k p => Or.inr (Or.inr (Or.inr (Or.inr (Or.inl p))))) a) r5, RBr_c (ag_sub (fun c k p => Or.inr (Or.inr (Or.inr (Or.inr (Or.inr (Or.inl p)))))) a) r6, RLs_c (ag_sub (fun c k p => Or.inr (Or.inr (Or.inr (Or.inr (Or.inr (Or.inr (Or.inl p))))))) a) r7, REv_c (ag_sub (fun c k p => Or.inr (Or.inr (Or.inr (Or.inr (Or.inr (Or.inr (Or.inr (Or.inl p)))))))) a) r8, RKp_c (ag_sub (fun c k p => ?_) a) r9⟩
  rcases p with p | p | p | p | p
  · exact Or.inr (Or.inr (Or.inr (Or.inr (Or.inr (Or.inr (Or.inr (Or.inr p)))))))
  · exact Or.inl p
  · exact Or.inr (Or.inr (Or.inr (Or.inr (Or.inr (Or.inl p)))))
  · exact Or.inr (Or.inr (Or.inr (Or.inr (Or.inr (Or.inr (Or.inl p))))))
  · exact Or.inr (Or.inr (Or.inr (Or.inr (Or.inr (Or.inr (Or.inr (Or.inl p)))))))
theorem Rel_hF : Rel hF := by
  refine ⟨⟨0, fun _ _ => 0, ⟨by decide +kernel, by decide, fun i hi => absurd hi (Nat.not_lt_zero i)⟩, ⟨by decide +kernel, by decide, fun i hi => absurd hi (Nat.not_lt_zero i)⟩, fun i hi => absurd hi (Nat.not_lt_zero i)⟩, ⟨0, fun _ => 0, ⟨by decide +kernel, by decide, fun i hi => absurd hi (Nat.not_lt_zero i)⟩, ⟨by decide +kernel, by decide, fun i hi => absurd hi (Nat.not_lt_zero i)⟩, fun i hi => absurd hi (Nat.not_lt_zero i)⟩, ⟨0, fun _ _ => -4, ⟨by decide +kernel, by decide +kernel, by decide +kernel⟩, ⟨by decide +kernel, by decide +kernel⟩, ⟨by decide, by decide⟩, fun _ _ _ _ => Or.inl rfl⟩, by unfold RTH; decide +kernel, by unfold RHr; decide +kernel, ⟨0, fun _ _ => 0, ⟨by decide +kernel, by decide, fun i hi => absurd hi (Nat.not_lt_zero i)⟩, ⟨by decide +kernel, by decide, fun i hi => absurd hi (Nat.not_lt_zero i)⟩, fun i hi => absurd hi (Nat.not_lt_zero i)⟩, ⟨0, fun _ _ => 0, ⟨by decide +kernel, by decide, fun i hi => absurd hi (Nat.not_lt_zero i)⟩, ⟨by decide +kernel, by decide, fun i hi => absurd hi (Nat.not_lt_zero i)⟩, fun i hi => absurd hi (Nat.not_lt_zero i)⟩, ⟨0, fun _ => 0, ⟨by decide +kernel, by decide, fun i hi => absurd hi (Nat.not_lt_zero i)⟩, ⟨by decide +kernel, by decide, fun i hi => absurd hi (Nat.not_lt_zero i)⟩, fun i hi => absurd hi (Nat.not_lt_zero i)⟩, ⟨0, by decide +kernel, by decide +kernel, by decide, fun j hj => absurd hj (Nat.not_lt_zero j)⟩⟩
