def mxA : Nat → (Nat → Int) → Int → Int
  | 0, _, v => v
  | n + 1, f, v => max (mxA n f v) (f n)
theorem mxA_v {f : Nat → Int} {v : Int} : ∀ n, v ≤ mxA n f v
  | 0 => Int.le_refl _
  | n + 1 => by have := mxA_v (f := f) (v := v) n; unfold mxA; omega
theorem mxA_j {f : Nat → Int} {v : Int} {j : Nat} : ∀ n, j < n → f j ≤ mxA n f v
  | 0, q => absurd q (Nat.not_lt_zero _)
  | n + 1, q => by
    unfold mxA
    by_cases e : j = n
    · subst e; omega
    · have := mxA_j (f := f) (v := v) (j := j) n (by omega); omega
theorem mxA_or {f : Nat → Int} {v : Int} : ∀ n, mxA n f v = v ∨ ∃ j, j < n ∧ mxA n f v = f j
  | 0 => Or.inl rfl
  | n + 1 => by
    unfold mxA
    by_cases e : mxA n f v ≤ f n
    · exact Or.inr ⟨n, by omega, by omega⟩
    · rcases mxA_or (f := f) (v := v) n with q | ⟨j, q1, q2⟩
      · left; omega
      · exact Or.inr ⟨j, by omega, by omega⟩
noncomputable def pV (p q : Nat) (L : Nat → Nat → Int) (A : Nat → Nat → Prop) : Nat → Nat → Int
  | 0, _ => 0
  | m + 1, s => mxA q (fun j => cif (A (p - (m + 1)) j ∧ s.testBit j = false) (L (p - (m + 1)) j + pV p q L A m (s ||| 2 ^ j)) 0) (pV p q L A m s)
noncomputable def vB (p q : Nat) (L : Nat → Nat → Int) (A : Nat → Nat → Prop) (i s : Nat) : Int := pV p q L A (p - i) s
def LR (L : Nat → Nat → Int) : Prop := ∀ i j, 0 ≤ L i j ∧ L i j ≤ 1000
theorem vB_top {p q : Nat} {L : Nat → Nat → Int} {A : Nat → Nat → Prop} {s : Nat} : vB p q L A p s = 0 := by
  unfold vB; rw [Nat.sub_self]; rfl
theorem vB_e {p q : Nat} {L : Nat → Nat → Int} {A : Nat → Nat → Prop} {i s : Nat} (hi : i < p) : vB p q L A i s = mxA q (fun j => cif (A i j ∧ s.testBit j = false) (L i j + vB p q L A (i + 1) (s ||| 2 ^ j)) 0) (vB p q L A (i + 1) s) := by
  unfold vB
  obtain ⟨m, hm⟩ : ∃ m, p - i = m + 1 := ⟨p - i - 1, by omega⟩
  have e1 : p - (i + 1) = m := by omega
  have e2 : p - (m + 1) = i := by omega
  rw [hm, e1, pV, e2]
theorem pV_0 {p q : Nat} {L : Nat → Nat → Int} {A : Nat → Nat → Prop} : ∀ (m s : Nat), 0 ≤ pV p q L A m s
  | 0, _ => Int.le_refl _
  | m + 1, s => by rw [pV]; exact Int.le_trans (pV_0 m s) (mxA_v q)
theorem vB_0 {p q : Nat} {L : Nat → Nat → Int} {A : Nat → Nat → Prop} {i s : Nat} : 0 ≤ vB p q L A i s := pV_0 _ _
theorem vB_none {p q : Nat} {L : Nat → Nat → Int} {A : Nat → Nat → Prop} {i s : Nat} (hi : i < p) : vB p q L A (i + 1) s ≤ vB p q L A i s := by rw [vB_e hi]; exact mxA_v q
theorem vB_with {p q : Nat} {L : Nat → Nat → Int} {A : Nat → Nat → Prop} {i s j : Nat} (hi : i < p) (hj : j < q) (ha : A i j) (hs : s.testBit j = false) : L i j + vB p q L A (i + 1) (s ||| 2 ^ j) ≤ vB p q L A i s := by
  rw [vB_e hi]
  refine Int.le_trans (Int.le_of_eq ?_) (mxA_j q hj)
  exact (cif_t ⟨ha, hs⟩).symm
theorem vB_or {p q : Nat} {L : Nat → Nat → Int} {A : Nat → Nat → Prop} {i s : Nat} (hi : i < p) : vB p q L A i s = vB p q L A (i + 1) s ∨ ∃ j, j < q ∧ A i j ∧ s.testBit j = false ∧ vB p q L A i s = L i j + vB p q L A (i + 1) (s ||| 2 ^ j) := by
  have n1 := vB_none (q := q) (L := L) (A := A) (s := s) hi
  have n2 := vB_0 (p := p) (q := q) (L := L) (A := A) (i := i + 1) (s := s)
  have e := vB_e (q := q) (L := L) (A := A) (s := s) hi
  rcases mxA_or (f := fun j => cif (A i j ∧ s.testBit j = false) (L i j + vB p q L A (i + 1) (s ||| 2 ^ j)) 0) (v := vB p q L A (i + 1) s) q with y | ⟨j, y1, y2⟩
  · left; omega
  · by_cases z : A i j ∧ s.testBit j = false
    · exact Or.inr ⟨j, y1, z.1, z.2, by rw [e, y2]; exact cif_t z⟩
    · have : vB p q L A i s = 0 := by rw [e, y2]; exact cif_f z
      left; omega
theorem vB_uni {p q : Nat} {L : Nat → Nat → Int} {A : Nat → Nat → Prop} {i s : Nat} {z : Int} (hi : i < p) (h1 : vB p q L A (i + 1) s ≤ z) (h2 : ∀ j, j < q → A i j → s.testBit j = false → L i j + vB p q L A (i + 1) (s ||| 2 ^ j) ≤ z) (h3 : z ≤ vB p q L A i s) : z = vB p q L A i s := by
  rcases vB_or (q := q) (L := L) (A := A) (s := s) hi with e | ⟨j, a, b, c, d⟩
  · omega
  · have := h2 j a b c; omega
theorem pV_le {p q : Nat} {L : Nat → Nat → Int} {A : Nat → Nat → Prop} (hL : LR L) : ∀ (m s : Nat), pV p q L A m s ≤ 1000 * m
  | 0, _ => Int.le_refl _
  | m + 1, s => by
    rw [pV]
    have i1 := pV_le (p := p) (q := q) (A := A) hL m s
    rcases mxA_or (f := fun j => cif (A (p - (m + 1)) j ∧ s.testBit j = false) (L (p - (m + 1)) j + pV p q L A m (s ||| 2 ^ j)) 0) (v := pV p q L A m s) q with y | ⟨j, y1, y2⟩
    · rw [y]; omega
    · rw [y2]
      have i2 := pV_le (p := p) (q := q) (A := A) hL m (s ||| 2 ^ j)
      have i3 := hL (p - (m + 1)) j
      by_cases z : A (p - (m + 1)) j ∧ s.testBit j = false
      · rw [cif_t z]; omega
      · rw [cif_f z]; omega
theorem vB_R {p q : Nat} {L : Nat → Nat → Int} {A : Nat → Nat → Prop} (hL : LR L) (hp : p ≤ 8) {i s : Nat} : 0 ≤ vB p q L A i s ∧ vB p q L A i s ≤ 8000 := by
  have := pV_le (p := p) (q := q) (A := A) hL (p - i) s
  refine ⟨vB_0, ?_⟩
  unfold vB; omega
def aX (L : Nat → Nat → Int) (o1 o2 : Int) (i j : Nat) : Prop := L i j ≠ 0 ∧ ¬ ((i : Int) = o1 ∧ (j : Int) = o2)
noncomputable def W0 (p q : Nat) (L : Nat → Nat → Int) (i s : Nat) : Int := vB p q L (aX L (-1) (-1)) i s
def kB (p q : Nat) (L : Nat → Nat → Int) (i u j : Nat) : Prop := (j = q ∧ W0 p q L i u = W0 p q L (i + 1) u) ∨ (j < q ∧ L i j ≠ 0 ∧ u.testBit j = false ∧ W0 p q L i u = L i j + W0 p q L (i + 1) (u ||| 2 ^ j))
noncomputable def uW (q u j : Nat) : Nat := nif (j < q) (u ||| 2 ^ j) u
def Rc (p q : Nat) (L : Nat → Nat → Int) : Nat → Nat → Prop
  | 0, u => u = 0
  | i + 1, u2 => ∃ u j, Rc p q L i u ∧ kB p q L i u j ∧ uW q u j = u2
theorem aX_n {L : Nat → Nat → Int} {i j : Nat} : aX L (-1) (-1) i j ↔ L i j ≠ 0 := ⟨fun q => q.1, fun q => ⟨q, fun z => by omega⟩⟩
theorem kB_or {p q : Nat} {L : Nat → Nat → Int} {i u : Nat} (hi : i < p) : ∃ j, j ≤ q ∧ kB p q L i u j := by
  rcases vB_or (q := q) (L := L) (A := aX L (-1) (-1)) (s := u) hi with e | ⟨j, a, b, c, d⟩
  · exact ⟨q, Nat.le_refl _, Or.inl ⟨rfl, e⟩⟩
  · exact ⟨j, by omega, Or.inr ⟨a, b.1, c, d⟩⟩
-- values with one pair out, against values without
theorem vX_le {p q : Nat} {L : Nat → Nat → Int} {o1 o2 : Int} : ∀ (m i s : Nat), p - i = m → vB p q L (aX L o1 o2) i s ≤ W0 p q L i s := by
  intro m
  induction m with
  | zero => intro i s hm; unfold W0 vB; rw [hm]; exact Int.le_refl _
  | succ m ih =>
    intro i s hm
    have hi : i < p := by omega
    rcases vB_or (q := q) (L := L) (A := aX L o1 o2) (s := s) hi with e | ⟨j, a, b, c, d⟩
    · rw [e]; exact Int.le_trans (ih (i + 1) s (by omega)) (vB_none hi)
    · have := ih (i + 1) (s ||| 2 ^ j) (by omega)
      have w := vB_with (q := q) (L := L) (A := aX L (-1) (-1)) (s := s) hi a (aX_n.mpr b.1) c
      unfold W0 at this ⊢
      omega
theorem vX_hi {p q : Nat} {L : Nat → Nat → Int} {o1 o2 : Int} : ∀ (m i s : Nat), p - i = m → o1 < i → vB p q L (aX L o1 o2) i s = W0 p q L i s := by
  intro m
  induction m with
  | zero => intro i s hm _; unfold W0 vB; rw [hm]; rfl
  | succ m ih =>
    intro i s hm ho
    have hi : i < p := by omega
    have l1 := vX_le (q := q) (L := L) (o1 := o1) (o2 := o2) (m + 1) i s hm
    rcases vB_or (q := q) (L := L) (A := aX L (-1) (-1)) (s := s) hi with e | ⟨j, a, b, c, d⟩
    · have n1 := vB_none (q := q) (L := L) (A := aX L o1 o2) (s := s) hi
      have i1 := ih (i + 1) s (by omega) (by omega)
      unfold W0 at *
      omega
    · have w := vB_with (q := q) (L := L) (A := aX L o1 o2) (s := s) hi a ⟨b.1, fun z => by omega⟩ c
      have i1 := ih (i + 1) (s ||| 2 ^ j) (by omega) (by omega)
      unfold W0 at *
      omega
theorem kB_q {p q : Nat} {L : Nat → Nat → Int} {i u j : Nat} (k : kB p q L i u j) : j ≤ q := by rcases k with a | a <;> omega
theorem kB_V {p q : Nat} {L : Nat → Nat → Int} {o1 o2 : Int} {i u j : Nat} (hi : i < p) (k : kB p q L i u j) (no : ¬ ((i : Int) = o1 ∧ (j : Int) = o2)) (e : vB p q L (aX L o1 o2) (i + 1) (uW q u j) = W0 p q L (i + 1) (uW q u j)) : vB p q L (aX L o1 o2) i u = W0 p q L i u := by
  have l1 := vX_le (q := q) (L := L) (o1 := o1) (o2 := o2) (p - i) i u rfl
  rcases k with ⟨a, b⟩ | ⟨a, b, c, d⟩
  · have f : uW q u j = u := nif_f (by omega)
    rw [f] at e
    have n1 := vB_none (q := q) (L := L) (A := aX L o1 o2) (s := u) hi
    omega
  · have f : uW q u j = u ||| 2 ^ j := nif_t a
    rw [f] at e
    have w := vB_with (q := q) (L := L) (A := aX L o1 o2) (s := u) hi a ⟨b, no⟩ c
    omega
theorem kB_ex {p q : Nat} {L : Nat → Nat → Int} {o1 o2 : Int} {i u : Nat} (hq : o2 < q) (hi : i < p) (e : vB p q L (aX L o1 o2) i u = W0 p q L i u) : ∃ j, kB p q L i u j ∧ ¬ ((i : Int) = o1 ∧ (j : Int) = o2) ∧ vB p q L (aX L o1 o2) (i + 1) (uW q u j) = W0 p q L (i + 1) (uW q u j) := by
  rcases vB_or (q := q) (L := L) (A := aX L o1 o2) (s := u) hi with y | ⟨j, a, b, c, d⟩
  · have l1 := vX_le (q := q) (L := L) (o1 := o1) (o2 := o2) (p - (i + 1)) (i + 1) u rfl
    have n1 : W0 p q L (i + 1) u ≤ W0 p q L i u := vB_none hi
    have f : uW q u q = u := nif_f (by omega)
    refine ⟨q, Or.inl ⟨rfl, by omega⟩, fun z => by omega, by rw [f]; omega⟩
  · have l1 := vX_le (q := q) (L := L) (o1 := o1) (o2 := o2) (p - (i + 1)) (i + 1) (u ||| 2 ^ j) rfl
    have n1 : L i j + W0 p q L (i + 1) (u ||| 2 ^ j) ≤ W0 p q L i u := vB_with hi a (aX_n.mpr b.1) c
    have f : uW q u j = u ||| 2 ^ j := nif_t a
    refine ⟨j, Or.inr ⟨a, b.1, c, by omega⟩, b.2, by rw [f]; omega⟩
theorem Rc_dn {p q : Nat} {L : Nat → Nat → Int} {o1 o2 : Nat} (h1 : o1 < p) (h2 : o2 < q) (e : vB p q L (aX L o1 o2) 0 0 = W0 p q L 0 0) : ∀ i, i ≤ o1 → ∃ u, Rc p q L i u ∧ vB p q L (aX L o1 o2) i u = W0 p q L i u := by
  intro i
  induction i with
  | zero => intro _; exact ⟨0, rfl, e⟩
  | succ i ih =>
    intro hi
    obtain ⟨u, r, e1⟩ := ih (by omega)
    obtain ⟨j, k, _, e2⟩ := kB_ex (by omega) (by omega) e1
    exact ⟨_, ⟨u, j, r, k, rfl⟩, e2⟩
theorem Rc_up {p q : Nat} {L : Nat → Nat → Int} {o1 o2 : Nat} (h1 : o1 < p) : ∀ i, i ≤ o1 → ∀ u, Rc p q L i u → vB p q L (aX L o1 o2) i u = W0 p q L i u → vB p q L (aX L o1 o2) 0 0 = W0 p q L 0 0 := by
  intro i
  induction i with
  | zero => intro _ u r e; have z : u = 0 := r; subst z; exact e
  | succ i ih =>
    intro hi u r e
    obtain ⟨u2, j, r2, k2, f⟩ := r
    subst f
    exact ih (by omega) u2 r2 (kB_V (by omega) k2 (fun z => by omega) e)
theorem sure_iff {p q : Nat} {L : Nat → Nat → Int} {o1 o2 : Nat} (h1 : o1 < p) (h2 : o2 < q) : vB p q L (aX L o1 o2) 0 0 < W0 p q L 0 0 ↔ ∀ u j, Rc p q L o1 u → kB p q L o1 u j → j = o2 := by
  have l1 := vX_le (q := q) (L := L) (o1 := o1) (o2 := o2) (p - 0) 0 0 rfl
  constructor
  · intro lt u j r k
    by_cases e : j = o2
    · exact e
    · exfalso
      have no : ¬ (((o1 : Nat) : Int) = o1 ∧ (j : Int) = o2) := fun z => by omega
      have := Rc_up h1 o1 (Nat.le_refl _) u r (kB_V h1 k no (vX_hi _ (o1 + 1) _ rfl (by omega)))
      omega
  · intro al
    by_cases e : vB p q L (aX L o1 o2) 0 0 = W0 p q L 0 0
    · exfalso
      obtain ⟨u, r, e1⟩ := Rc_dn h1 h2 e o1 (Nat.le_refl _)
      obtain ⟨j, k, no, _⟩ := kB_ex (by omega) h1 e1
      have := al u j r k
      omega
    · omega
-- least below n
noncomputable def lst (P : Nat → Prop) : Nat → Nat
  | 0 => 0
  | n + 1 => nif (lst P n < n) (lst P n) (nif (P n) n (n + 1))
theorem lst_c {P : Nat → Prop} : ∀ n, (lst P n < n ∧ P (lst P n) ∧ ∀ j, j < lst P n → ¬ P j) ∨ (lst P n = n ∧ ∀ j, j < n → ¬ P j)
  | 0 => Or.inr ⟨rfl, fun j hj => absurd hj (Nat.not_lt_zero _)⟩
  | n + 1 => by
    rcases lst_c (P := P) n with ⟨a, b, c⟩ | ⟨a, b⟩
    · have e : lst P (n + 1) = lst P n := by rw [lst]; exact nif_t a
      rw [e]; exact Or.inl ⟨by omega, b, c⟩
    · by_cases y : P n
      · have e : lst P (n + 1) = n := by rw [lst, nif_f (by omega)]; exact nif_t y
        rw [e]; exact Or.inl ⟨by omega, y, b⟩
      · have e : lst P (n + 1) = n + 1 := by rw [lst, nif_f (by omega)]; exact nif_f y
        rw [e]; refine Or.inr ⟨rfl, fun j hj => ?_⟩
        by_cases z : j = n
        · rw [z]; exact y
        · exact b j (by omega)
theorem lst_u {P : Nat → Prop} {n x : Nat} (h : (x < n ∧ P x ∧ ∀ j, j < x → ¬ P j) ∨ (x = n ∧ ∀ j, j < n → ¬ P j)) : x = lst P n := by
  rcases lst_c (P := P) n with ⟨a, b, c⟩ | ⟨a, b⟩ <;> rcases h with ⟨d, e, f⟩ | ⟨d, e⟩
  · by_cases y : x < lst P n
    · exact absurd e (c x y)
    · by_cases z : lst P n < x
      · exact absurd b (f _ z)
      · omega
  · exact absurd b (e _ a)
  · exact absurd e (b _ d)
  · omega
theorem lst_le {P : Nat → Prop} {n : Nat} : lst P n ≤ n := by rcases lst_c (P := P) n with a | a <;> omega
-- the way that is chosen
noncomputable def uS (p q : Nat) (L : Nat → Nat → Int) : Nat → Nat
  | 0 => 0
  | i + 1 => uW q (uS p q L i) (lst (kB p q L i (uS p q L i)) q)
noncomputable def bC (p q : Nat) (L : Nat → Nat → Int) (i : Nat) : Nat := lst (kB p q L i (uS p q L i)) q
theorem uS_s {p q : Nat} {L : Nat → Nat → Int} {i : Nat} : uS p q L (i + 1) = uW q (uS p q L i) (bC p q L i) := rfl
theorem bC_le {p q : Nat} {L : Nat → Nat → Int} {i : Nat} : bC p q L i ≤ q := lst_le
theorem bC_k {p q : Nat} {L : Nat → Nat → Int} {i : Nat} (hi : i < p) : kB p q L i (uS p q L i) (bC p q L i) := by
  rcases lst_c (P := kB p q L i (uS p q L i)) q with ⟨_, b, _⟩ | ⟨a, b⟩
  · exact b
  · obtain ⟨j, h1, h2⟩ := kB_or (q := q) (L := L) (u := uS p q L i) hi
    by_cases e : j < q
    · exact absurd h2 (b j e)
    · have : j = q := by omega
      subst this
      unfold bC
      rw [a]; exact h2
theorem uS_r {p q : Nat} {L : Nat → Nat → Int} : ∀ i, i ≤ p → Rc p q L i (uS p q L i)
  | 0, _ => rfl
  | i + 1, h => ⟨_, _, uS_r i (by omega), bC_k (by omega), rfl⟩
theorem tb_or {u j k : Nat} : (u ||| 2 ^ j).testBit k = true ↔ u.testBit k = true ∨ j = k := by
  rw [Nat.testBit_or, Nat.testBit_two_pow, Bool.or_eq_true]
  exact or_congr Iff.rfl decide_eq_true_iff
theorem uW_tb {q u j k : Nat} : (uW q u j).testBit k = true ↔ u.testBit k = true ∨ (j < q ∧ j = k) := by
  by_cases y : j < q
  · rw [show uW q u j = u ||| 2 ^ j from nif_t y, tb_or]
    exact or_congr Iff.rfl ⟨fun z => ⟨y, z⟩, fun z => z.2⟩
  · rw [show uW q u j = u from nif_f y]
    exact ⟨Or.inl, fun z => z.elim id (fun z => absurd z.1 y)⟩
theorem uS_tb {p q : Nat} {L : Nat → Nat → Int} {k : Nat} : ∀ i, (uS p q L i).testBit k = true ↔ ∃ a, a < i ∧ bC p q L a = k ∧ k < q
  | 0 => by
    rw [uS, Nat.zero_testBit]
    exact ⟨fun z => Bool.noConfusion z, fun ⟨a, z, _⟩ => absurd z (Nat.not_lt_zero _)⟩
  | i + 1 => by
    rw [uS_s, uW_tb, uS_tb i]
    constructor
    · rintro (⟨a, b, c, d⟩ | ⟨a, b⟩)
      · exact ⟨a, by omega, c, d⟩
      · exact ⟨i, by omega, b, by omega⟩
    · rintro ⟨a, b, c, d⟩
      by_cases e : a = i
      · subst e; exact Or.inr ⟨by omega, c⟩
      · exact Or.inl ⟨a, by omega, c, d⟩
theorem bC_inj {p q : Nat} {L : Nat → Nat → Int} {a b : Nat} (hb : b < p) (ab : a < b) (ha : bC p q L a < q) : bC p q L a ≠ bC p q L b := by
  intro e
  rcases bC_k (q := q) (L := L) hb with ⟨k1, _⟩ | ⟨_, _, k3, _⟩
  · omega
  · have := (uS_tb (p := p) (q := q) (L := L) (k := bC p q L b) b).mpr ⟨a, ab, e, by omega⟩
    rw [k3] at this; exact Bool.noConfusion this
theorem uW_lt {q u j : Nat} (hu : u < 2 ^ q) : uW q u j < 2 ^ q := by
  by_cases y : j < q
  · rw [show uW q u j = u ||| 2 ^ j from nif_t y]
    exact Nat.or_lt_two_pow hu (Nat.pow_lt_pow_right (by decide) y)
  · rw [show uW q u j = u from nif_f y]; exact hu
theorem Rc_lt {p q : Nat} {L : Nat → Nat → Int} : ∀ i u, Rc p q L i u → u < 2 ^ q
  | 0, u, r => by have z : u = 0 := r; rw [z]; exact Nat.two_pow_pos q
  | i + 1, u2, r => by
    obtain ⟨u, j, r1, _, r3⟩ := r
    rw [← r3]; exact uW_lt (Rc_lt i u r1)
