theorem pig : ∀ (n : Nat) (f : Nat → Nat), (∀ i, i ≤ n → f i < n) → ∃ i j, i < j ∧ j ≤ n ∧ f i = f j
  | 0, f, h => absurd (h 0 (Nat.le_refl _)) (Nat.not_lt_zero _)
  | n + 1, f, h => by
    by_cases ex : ∃ i, i ≤ n ∧ f i = f (n + 1)
    · obtain ⟨i, i1, i2⟩ := ex
      exact ⟨i, n + 1, by omega, Nat.le_refl _, i2⟩
    · have g : ∀ i, i ≤ n → nif (f i = n) (f (n + 1)) (f i) < n := fun i hi => by
        have b1 := h i (by omega)
        have b2 := h (n + 1) (Nat.le_refl _)
        by_cases y : f i = n
        · rw [nif_t y]
          by_cases z : f (n + 1) = n
          · exact absurd ⟨i, hi, by omega⟩ ex
          · omega
        · rw [nif_f y]; omega
      obtain ⟨i, j, i1, i2, i3⟩ := pig n (fun i => nif (f i = n) (f (n + 1)) (f i)) g
      refine ⟨i, j, i1, by omega, ?_⟩
      have e : nif (f i = n) (f (n + 1)) (f i) = nif (f j = n) (f (n + 1)) (f j) := i3
      by_cases y : f i = n
      · by_cases z : f j = n
        · omega
        · rw [nif_t y, nif_f z] at e
          exact absurd ⟨j, by omega, by omega⟩ ex
      · by_cases z : f j = n
        · rw [nif_f y, nif_t z] at e
          exact absurd ⟨i, by omega, by omega⟩ ex
        · rw [nif_f y, nif_f z] at e; exact e
noncomputable def nxT (N m : Nat) (w : Nat → Nat) (v : Nat) : Nat := nif (v < m) (w v) N
noncomputable def itT (N m : Nat) (w : Nat → Nat) : Nat → Nat → Nat
  | 0, v => v
  | s + 1, v => itT N m w s (nxT N m w v)
theorem itT_a {N m : Nat} {w : Nat → Nat} : ∀ (a b v : Nat), itT N m w (a + b) v = itT N m w b (itT N m w a v)
  | 0, b, v => by rw [Nat.zero_add]; rfl
  | a + 1, b, v => by rw [show a + 1 + b = (a + b) + 1 by omega]; exact itT_a a b _
theorem itT_s {N m : Nat} {w : Nat → Nat} (s v : Nat) : itT N m w (s + 1) v = nxT N m w (itT N m w s v) := itT_a s 1 v
theorem itT_N {N m : Nat} {w : Nat → Nat} (hm : m ≤ N) : ∀ s, itT N m w s N = N
  | 0 => rfl
  | s + 1 => by rw [itT, show nxT N m w N = N from nif_f (by omega)]; exact itT_N hm s
theorem itT_ab {N m : Nat} {w : Nat → Nat} (hm : m ≤ N) {s t v : Nat} (e : itT N m w s v = N) (st : s ≤ t) : itT N m w t v = N := by
  rw [show t = s + (t - s) by omega, itT_a, e]; exact itT_N hm _
theorem nxT_le {N m : Nat} {w : Nat → Nat} (hw : ∀ k, k < m → w k ≤ N) (v : Nat) : nxT N m w v ≤ N := by
  unfold nxT
  by_cases y : v < m
  · rw [nif_t y]; exact hw v y
  · rw [nif_f y]; omega
theorem itT_le {N m : Nat} {w : Nat → Nat} (hw : ∀ k, k < m → w k ≤ N) : ∀ (s v : Nat), v ≤ N → itT N m w s v ≤ N
  | 0, _, h => h
  | s + 1, v, _ => itT_le hw s _ (nxT_le hw v)
theorem itT_cy {N m : Nat} {w : Nat → Nat} {p v : Nat} (e : itT N m w p v = v) : ∀ t, itT N m w (t * p) v = v
  | 0 => by rw [Nat.zero_mul]; rfl
  | t + 1 => by rw [Nat.succ_mul, itT_a, itT_cy e t]; exact e
theorem no_cy {N m : Nat} {w : Nat → Nat} (hm : m ≤ N) {p v s : Nat} (hp : 1 ≤ p) (hv : v < N) (e : itT N m w p v = v) : itT N m w s v ≠ N := fun q => by
  have a := itT_cy e s
  have b : itT N m w (s * p) v = N := itT_ab hm q (Nat.le_mul_of_pos_right s hp)
  omega
theorem itT_end {N m : Nat} {w : Nat → Nat} (hm : m ≤ N) (hw : ∀ k, k < m → w k ≤ N) {v s : Nat} (hv : v ≤ N) (e : itT N m w s v = N) : itT N m w N v = N := by
  by_cases y : itT N m w N v = N
  · exact y
  · exfalso
    have f : ∀ i, i ≤ N → itT N m w i v < N := fun i hi => by
      have a := itT_le hw i v hv
      have b : itT N m w i v ≠ N := fun q => y (itT_ab hm q hi)
      omega
    obtain ⟨i, j, i1, i2, i3⟩ := pig N (fun i => itT N m w i v) f
    have i4 : itT N m w i v = itT N m w j v := i3
    have c : itT N m w (j - i) (itT N m w i v) = itT N m w i v := by
      rw [← itT_a, show i + (j - i) = j by omega]; exact i4.symm
    refine no_cy hm (s := s) (by omega) (f i (by omega)) c ?_
    rw [← itT_a]
    exact itT_ab hm e (by omega)
def AcT (N m : Nat) (w : Nat → Nat) : Prop := ∀ v, v ≤ N → ∃ s, itT N m w s v = N
theorem Ac_0 {N : Nat} {w : Nat → Nat} : AcT N 0 w := fun v _ => ⟨1, nif_f (Nat.not_lt_zero _)⟩
theorem it_av {N m : Nat} {w w2 : Nat → Nat} (hw : ∀ k, k < m → w2 k = w k) : ∀ (s v : Nat), (∀ t, itT N m w t v ≠ m) → itT N (m + 1) w2 s v = itT N m w s v
  | 0, _, _ => rfl
  | s + 1, v, h => by
    have h0 : v ≠ m := h 0
    have e : nxT N (m + 1) w2 v = nxT N m w v := by
      unfold nxT
      by_cases y : v < m
      · rw [nif_t y, nif_t (by omega)]; exact hw v y
      · rw [nif_f y, nif_f (by omega)]
    rw [itT, itT, e]
    exact it_av hw s _ (fun t => h (t + 1))
theorem Ac_ext {N m : Nat} {w w2 : Nat → Nat} (hw : ∀ k, k < m → w2 k = w k) (ac : AcT N m w) (ho : w2 m ≤ N) (hu : ∀ t, itT N m w t (w2 m) ≠ m) : AcT N (m + 1) w2 := by
  have key : ∀ s v, itT N m w s v = N → ∃ t, itT N (m + 1) w2 t v = N := by
    intro s
    induction s with
    | zero => intro v e; exact ⟨0, e⟩
    | succ s ih =>
      intro v e
      by_cases y : v = m
      · obtain ⟨t, ht⟩ := ac (w2 m) ho
        refine ⟨t + 1, ?_⟩
        rw [itT, y, show nxT N (m + 1) w2 m = w2 m from nif_t (by omega), it_av hw t _ hu]
        exact ht
      · have e1 : nxT N (m + 1) w2 v = nxT N m w v := by
          unfold nxT
          by_cases z : v < m
          · rw [nif_t z, nif_t (by omega)]; exact hw v z
          · rw [nif_f z, nif_f (by omega)]
        obtain ⟨t, ht⟩ := ih (nxT N m w v) e
        exact ⟨t + 1, by rw [itT, e1]; exact ht⟩
  intro v hv
  obtain ⟨s, hs⟩ := ac v hv
  exact key s v hs
def TrT (N : Nat) (w : Nat → Nat) : Prop := (∀ k, k < N → w k ≠ k) ∧ sm (fun k => b2i (w k = N)) N = 1 ∧ ∀ k, k < N → itT N N w (N + 1) k = N
theorem un_cy {N m : Nat} {w w2 : Nat → Nat} (hm : m < N) (hw : ∀ k, k < m → w2 k = w k) : ∀ (s v : Nat), itT N m w s v = m → ∃ t, itT N N w2 t v = m := by
  intro s
  induction s with
  | zero => intro v e; exact ⟨0, e⟩
  | succ s ih =>
    intro v e
    by_cases y : v = m
    · exact ⟨0, y⟩
    · rw [itT] at e
      by_cases z : v < m
      · have e1 : nxT N N w2 v = nxT N m w v := by unfold nxT; rw [nif_t z, nif_t (by omega)]; exact hw v z
        obtain ⟨t, ht⟩ := ih _ e
        exact ⟨t + 1, by rw [itT, e1]; exact ht⟩
      · rw [show nxT N m w v = N from nif_f z, itT_N (by omega)] at e
        omega
theorem un_no {N m s : Nat} {w w2 : Nat → Nat} (hm : m < N) (hw : ∀ k, k < m → w2 k = w k) (e : itT N m w s (w2 m) = m) : ¬ TrT N w2 := fun tr => by
  obtain ⟨t, ht⟩ := un_cy hm hw s _ e
  have c : itT N N w2 (t + 1) m = m := by rw [itT, show nxT N N w2 m = w2 m from nif_t hm]; exact ht
  exact no_cy (Nat.le_refl _) (by omega) hm c (tr.2.2 m hm)
theorem ro_ex {N : Nat} {w : Nat → Nat} (hw : ∀ k, k < N → w k ≤ N) : ∀ (s v : Nat), v < N → itT N N w s v = N → ∃ u, u < N ∧ w u = N := by
  intro s
  induction s with
  | zero => intro v hv e; have : v = N := e; omega
  | succ s ih =>
    intro v hv e
    rw [itT, show nxT N N w v = w v from nif_t hv] at e
    by_cases y : w v = N
    · exact ⟨v, hv, y⟩
    · exact ih (w v) (by have := hw v hv; omega) e
theorem ro_two {N : Nat} {w : Nat → Nat} {i j : Nat} (tr : TrT N w) (hi : i < N) (hj : j < N) (wi : w i = N) (wj : w j = N) : i = j := by
  by_cases e : i = j
  · exact e
  · exfalso
    have e1 := tr.2.1
    have e2 : sm (fun k => b2i (w k = N ∧ k ≠ i)) N = sm (fun k => b2i (w k = N)) N + (b2i (w i = N ∧ i ≠ i) - b2i (w i = N)) := sm_set N hi (fun k _ ne => b2i_congr ⟨fun z => z.1, fun z => ⟨z, ne⟩⟩)
    rw [b2i_f (fun z => z.2 rfl), b2i_t wi] at e2
    have e3 : b2i (w j = N ∧ j ≠ i) ≤ sm (fun k => b2i (w k = N ∧ k ≠ i)) N := sm_ge (f := fun k => b2i (w k = N ∧ k ≠ i)) (fun i => b2i_B.1) N hj
    rw [b2i_t ⟨wj, fun z => e z.symm⟩] at e3
    omega
theorem tr_leaf {N : Nat} {w : Nat → Nat} (hN : 0 < N) (hw : ∀ k, k < N → w k ≤ N) (ne : ∀ k, k < N → w k ≠ k) (ac : AcT N N w) (ur : ∀ i j, i < N → j < N → w i = N → w j = N → i = j) : TrT N w := by
  refine ⟨ne, ?_, fun k hk => ?_⟩
  · obtain ⟨s, hs⟩ := ac 0 (by omega)
    obtain ⟨u, u1, u2⟩ := ro_ex hw s 0 hN hs
    exact sm_one u1 (b2i_t u2) (fun j hj nj => b2i_f (fun z => nj (ur j u hj u1 z u2)))
  · obtain ⟨s, hs⟩ := ac k (by omega)
    exact itT_ab (Nat.le_refl _) (itT_end (Nat.le_refl _) hw (by omega) hs) (by omega)
def dgT (N m P k : Nat) : Nat := (P / (N + 1) ^ (m - 1 - k)) % (N + 1)
theorem dg_le {N m P k : Nat} : dgT N m P k ≤ N := by have := Nat.mod_lt (P / (N + 1) ^ (m - 1 - k)) (show N + 1 > 0 by omega); unfold dgT; omega
theorem dg_ch {N m P j k : Nat} (hj : j ≤ N) (hk : k < m) : dgT N (m + 1) (P * (N + 1) + j) k = dgT N m P k := by
  unfold dgT
  rw [show m + 1 - 1 - k = (m - 1 - k) + 1 by omega, Nat.pow_succ, Nat.mul_comm ((N + 1) ^ (m - 1 - k)) (N + 1), ← Nat.div_div_eq_div_mul, Nat.mul_comm P (N + 1), Nat.mul_add_div (by omega), Nat.div_eq_of_lt (show j < N + 1 by omega), Nat.add_zero]
theorem dg_la {N m P j : Nat} (hj : j ≤ N) : dgT N (m + 1) (P * (N + 1) + j) m = j := by
  unfold dgT
  rw [show m + 1 - 1 - m = 0 by omega, Nat.pow_zero, Nat.div_one, Nat.mul_comm P (N + 1), Nat.mul_add_mod, Nat.mod_eq_of_lt (by omega)]
theorem dg_rg {N m r Q c k : Nat} (hm : m + r = N) (hk : k < m) (h1 : Q * (N + 1) ^ r ≤ c) (h2 : c < (Q + 1) * (N + 1) ^ r) : dgT N N c k = dgT N m Q k := by
  unfold dgT
  have e : c / (N + 1) ^ r = Q := by
    apply Nat.div_eq_of_lt_le
    · exact h1
    · exact h2
  rw [show N - 1 - k = r + (m - 1 - k) by omega, Nat.pow_add, ← Nat.div_div_eq_div_mul, e]
abbrev Stt : Type := Int × (Nat → Nat) × (Nat → Int)
noncomputable def svT (N : Nat) (S : Nat → Nat → Int) (w : Nat → Nat) (k : Nat) : Int := cif (w k < N) (S (w k) k) 0
noncomputable def smT (N : Nat) (S : Nat → Nat → Int) (w : Nat → Nat) (m : Nat) : Int := sm (svT N S w) m
noncomputable def wgT (N : Nat) (w : Nat → Nat) (s : Int) (st : Stt) : Stt := (cif (st.1 < s) s st.1, fun k => nif (st.1 < s) (w k) (st.2.1 k), fun k => cif (st.1 < s) (cif (k < N ∧ w k ≠ N) 1 0) (cif (s = st.1 ∧ w k ≠ st.2.1 k) 0 (st.2.2 k)))
noncomputable def stT (N : Nat) (S : Nat → Nat → Int) (c : Nat) (st : Stt) : Stt := @ite Stt (TrT N (dgT N N c)) (Classical.propDecidable _) (wgT N (dgT N N c) (smT N S (dgT N N c) N) st) st
theorem stT_y {N : Nat} {S : Nat → Nat → Int} {c : Nat} {st : Stt} (h : TrT N (dgT N N c)) : stT N S c st = wgT N (dgT N N c) (smT N S (dgT N N c) N) st := by unfold stT; exact if_pos h
theorem stT_n {N : Nat} {S : Nat → Nat → Int} {c : Nat} {st : Stt} (h : ¬ TrT N (dgT N N c)) : stT N S c st = st := by unfold stT; exact if_neg h
noncomputable def tA (N : Nat) (S : Nat → Nat → Int) : Nat → Stt
  | 0 => (-1, fun _ => 0, fun _ => 0)
  | c + 1 => stT N S c (tA N S c)
theorem tA_sk {N : Nat} {S : Nat → Nat → Int} {a : Nat} : ∀ n, (∀ c, a ≤ c → c < a + n → stT N S c (tA N S a) = tA N S a) → tA N S (a + n) = tA N S a
  | 0, _ => rfl
  | n + 1, h => by
    rw [show a + (n + 1) = (a + n) + 1 by omega, tA, tA_sk n (fun c h1 h2 => h c h1 (by omega))]
    exact h (a + n) (by omega) (by omega)
theorem wg_va {N : Nat} {w : Nat → Nat} {s H : Int} {st : Stt} (hs : s ≤ H) (hv : H < st.1 ∨ (H = st.1 ∧ ∀ k, st.2.2 k = 0)) : wgT N w s st = st := by
  obtain ⟨b, e, u⟩ := st
  unfold wgT
  have nl : ¬ b < s := by rcases hv with y | y <;> simp only at y <;> omega
  refine Prod.ext ?_ (Prod.ext ?_ ?_)
  · exact cif_f nl
  · funext k; exact nif_f nl
  · funext k
    show cif (b < s) _ _ = u k
    rw [cif_f nl]
    by_cases y : s = b ∧ w k ≠ e k
    · rw [cif_t y]
      rcases hv with z | z
      · simp only at z; omega
      · exact (z.2 k).symm
    · exact cif_f y
noncomputable def mxS (N : Nat) (S : Nat → Nat → Int) (k : Nat) : Int := mxA N (fun o => S o k) 0
theorem sm_tl {f g : Nat → Int} {m : Nat} : ∀ r, (∀ k, m ≤ k → k < m + r → f k ≤ g k) → sm f (m + r) - sm f m ≤ sm g (m + r) - sm g m
  | 0, _ => by rw [Nat.add_zero]; omega
  | r + 1, h => by
    have ih := sm_tl (f := f) (g := g) (m := m) r (fun k h1 h2 => h k h1 (by omega))
    have := h (m + r) (by omega) (by omega)
    rw [show m + (r + 1) = (m + r) + 1 by omega, sm_succ, sm_succ]
    omega
theorem sv_mx {N : Nat} {S : Nat → Nat → Int} {w : Nat → Nat} {k : Nat} : svT N S w k ≤ mxS N S k := by
  unfold svT mxS
  by_cases y : w k < N
  · rw [cif_t y]; exact mxA_j (f := fun o => S o k) N y
  · rw [cif_f y]; exact mxA_v N
theorem smT_c {N : Nat} {S : Nat → Nat → Int} {w w2 : Nat → Nat} {m : Nat} (h : ∀ k, k < m → w2 k = w k) : smT N S w2 m = smT N S w m := sm_congr m (fun k hk => by unfold svT; rw [h k hk])
theorem sm_hp {N : Nat} {S : Nat → Nat → Int} {w : Nat → Nat} {m : Nat} (hm : m ≤ N) : smT N S w N ≤ smT N S w m + (sm (mxS N S) N - sm (mxS N S) m) := by
  have := sm_tl (f := svT N S w) (g := mxS N S) (m := m) (N - m) (fun k _ _ => sv_mx)
  rw [show m + (N - m) = N by omega] at this
  unfold smT
  omega
