theorem mwp_mono {d : Nat} {M : MI} {as : List Vv} {n : Nat} {rf : RF} {h : St} {n1 : Nat} {K K2 : Option Vv → RF → St → Prop} (hk : ∀ r rf2 h2, K r rf2 h2 → K2 r rf2 h2) (hm : mwp d M as n rf h n1 K) : mwp d M as n rf h n1 K2 := by
  refine ⟨hm.1, fun l dC dI cA b0 bs => ?_⟩
  intro p e a1 a2 a3 s m args below hf ha hp ht
  obtain ⟨k, o, h1, h2, h3, ⟨⟨⟨r, rf2, h9, q1, q2, q3⟩, q4⟩, q5⟩⟩ := hm.2 l dC dI cA b0 bs p e a1 a2 a3 s m args below hf ha hp ht
  exact ⟨k, o, h1, h2, h3, ⟨⟨⟨r, rf2, h9, q1, hk _ _ _ q2, q3⟩, q4⟩, q5⟩⟩
def mwpI (d : Nat) (M : MI) (as : List Vv) (h : St) (K : Int → St → Prop) : Prop := mwp d M as nC rfA h nC (fun r rf2 h2 => rf2 = rfA ∧ ∃ z, r = some (vI z) ∧ K z h2)
def mwpV (d : Nat) (M : MI) (as : List Vv) (h : St) (K : St → Prop) : Prop := mwp d M as nC rfA h nC (fun r rf2 h2 => rf2 = rfA ∧ r = none ∧ K h2)
abbrev wI (d : Nat) (M : MI) (pc : Nat) (ls : Lv) (st : List Vv) (h : St) (K : Int → St → Prop) : Prop := wp d nC M pc ls st nC rfA h (fun r n2 rf2 h2 => n2 = nC ∧ rf2 = rfA ∧ ∃ z, r = some (vI z) ∧ K z h2)
abbrev wV (d : Nat) (M : MI) (pc : Nat) (ls : Lv) (st : List Vv) (h : St) (K : St → Prop) : Prop := wp d nC M pc ls st nC rfA h (fun r n2 rf2 h2 => n2 = nC ∧ rf2 = rfA ∧ r = none ∧ K h2)
theorem mwpI_mono {d : Nat} {M : MI} {as : List Vv} {h : St} {K K2 : Int → St → Prop} (hk : ∀ z h2, K z h2 → K2 z h2) (hm : mwpI d M as h K) : mwpI d M as h K2 := mwp_mono (fun _ _ _ ⟨q1, z, q2, q3⟩ => ⟨q1, z, q2, hk z _ q3⟩) hm
theorem mwpV_mono {d : Nat} {M : MI} {as : List Vv} {h : St} {K K2 : St → Prop} (hk : ∀ h2, K h2 → K2 h2) (hm : mwpV d M as h K) : mwpV d M as h K2 := mwp_mono (fun _ _ _ ⟨q1, q2, q3⟩ => ⟨q1, q2, hk _ q3⟩) hm
theorem mI_intro {d np : Nat} {M : MI} {as : List Vv} {h : St} {K : Int → St → Prop} (hb : LkB M np) (hw : Nat.ble (wid as) (mL M) = true) (body : wI d M 0 (entL 0 as) [] h K) : mwpI (d + 1) M as h K :=
  mwp_intro hb.1 (Nat.le_refl _) (by decide) hw (w_mono (fun _ _ _ _ ⟨q1, q2, z, q3, q4⟩ => ⟨q1, q2, z, q3, q4⟩) body)
theorem mV_intro {d np : Nat} {M : MI} {as : List Vv} {h : St} {K : St → Prop} (hb : LkB M np) (hw : Nat.ble (wid as) (mL M) = true) (body : wV d M 0 (entL 0 as) [] h K) : mwpV (d + 1) M as h K :=
  mwp_intro hb.1 (Nat.le_refl _) (by decide) hw (w_mono (fun _ _ _ _ ⟨q1, q2, q3, q4⟩ => ⟨q1, q2, q3, q4⟩) body)
theorem w_ls {d nM : Nat} {M : MI} {pc : Nat} {ls : Lv} {st : List Vv} {n : Nat} {rf : RF} {h : St} {Q : Option Vv → Nat → RF → St → Prop} {ls2 : Lv} (e : ls = ls2) (k : wp d nM M pc ls2 st n rf h Q) : wp d nM M pc ls st n rf h Q := e ▸ k
section R14
variable {d : Nat} {M : MI} {pc : Nat} {ls : Lv} {st : List Vv} {h : St} {Q : Option Vv → Nat → RF → St → Prop}
theorem c_VI {idx np c ci : Nat} {fs : List (Option Nat)} {M2 : MI} (As rest : List Vv) (hd : mD M pc = some (.invokevirtual idx, 3)) (hb : LkB M2 np) (hk : Cond.methodLink (mY M).cls idx (mY M2) ∈ lw_good ∧ Cond.instanceMethod (mY M2) ∈ lw_good ∧ Cond.selects (mY M2).cls (mY M2) (mY M2) ∈ lw_good) (he : st = As.reverse ++ vR c :: rest) (hnp : As.length = np) (hs : shp c = .inr (ci, fs)) (hci : (jcl[ci]?).map (fun q => q.1) = some (mY M2).cls) (hc : Nat.blt c nC = true) (hr : Nat.ble (wid rest) 8 = true) (hm : mwpI d M2 (vR c :: As) h (fun z h2 => wp d nC M (pc + 3) ls (vI z :: rest) nC rfA h2 Q)) : wp d nC M pc ls st nC rfA h Q :=
  w_callV hd hb hk he hnp hs hci hc hr (Nat.ble_eq_true_of_le (Nat.le_refl _)) hm (fun _ _ _ ⟨q1, z, q2, q3⟩ => by subst q1; subst q2; exact q3)
theorem c_VV {idx np c ci : Nat} {fs : List (Option Nat)} {M2 : MI} (As rest : List Vv) (hd : mD M pc = some (.invokevirtual idx, 3)) (hb : LkB M2 np) (hk : Cond.methodLink (mY M).cls idx (mY M2) ∈ lw_good ∧ Cond.instanceMethod (mY M2) ∈ lw_good ∧ Cond.selects (mY M2).cls (mY M2) (mY M2) ∈ lw_good) (he : st = As.reverse ++ vR c :: rest) (hnp : As.length = np) (hs : shp c = .inr (ci, fs)) (hci : (jcl[ci]?).map (fun q => q.1) = some (mY M2).cls) (hc : Nat.blt c nC = true) (hr : Nat.ble (wid rest) 8 = true) (hm : mwpV d M2 (vR c :: As) h (fun h2 => wp d nC M (pc + 3) ls rest nC rfA h2 Q)) : wp d nC M pc ls st nC rfA h Q :=
  w_callV hd hb hk he hnp hs hci hc hr (Nat.ble_eq_true_of_le (Nat.le_refl _)) hm (fun _ _ _ ⟨q1, q2, q3⟩ => by subst q1; subst q2; exact q3)
theorem c_SI {idx np : Nat} {M2 : MI} (As rest : List Vv) (hd : mD M pc = some (.invokestatic idx, 3)) (hb : LkB M2 np) (hk : Cond.methodLink (mY M).cls idx (mY M2) ∈ lw_good ∧ Cond.static (mY M2) ∈ lw_good) (he : st = As.reverse ++ rest) (hnp : As.length = np) (hr : Nat.ble (wid rest) 8 = true) (hm : mwpI d M2 As h (fun z h2 => wp d nC M (pc + 3) ls (vI z :: rest) nC rfA h2 Q)) : wp d nC M pc ls st nC rfA h Q :=
  w_callS hd hb hk he hnp hr (Nat.ble_eq_true_of_le (Nat.le_refl _)) hm (fun _ _ _ ⟨q1, z, q2, q3⟩ => by subst q1; subst q2; exact q3)
theorem c_SV {idx np : Nat} {M2 : MI} (As rest : List Vv) (hd : mD M pc = some (.invokestatic idx, 3)) (hb : LkB M2 np) (hk : Cond.methodLink (mY M).cls idx (mY M2) ∈ lw_good ∧ Cond.static (mY M2) ∈ lw_good) (he : st = As.reverse ++ rest) (hnp : As.length = np) (hr : Nat.ble (wid rest) 8 = true) (hm : mwpV d M2 As h (fun h2 => wp d nC M (pc + 3) ls rest nC rfA h2 Q)) : wp d nC M pc ls st nC rfA h Q :=
  w_callS hd hb hk he hnp hr (Nat.ble_eq_true_of_le (Nat.le_refl _)) hm (fun _ _ _ ⟨q1, q2, q3⟩ => by subst q1; subst q2; exact q3)
theorem c_SNI {idx np : Nat} {M2 : MI} (As rest : List Vv) (hd : mD M pc = some (.invokestatic idx, 3)) (hb : LkB M2 np) (hk : Cond.methodLinkNest (mY M).cls idx (mY M2) "CallSigns" ∈ lw_nest ∧ Cond.static (mY M2) ∈ lw_good) (he : st = As.reverse ++ rest) (hnp : As.length = np) (hr : Nat.ble (wid rest) 8 = true) (hm : mwpI d M2 As h (fun z h2 => wp d nC M (pc + 3) ls (vI z :: rest) nC rfA h2 Q)) : wp d nC M pc ls st nC rfA h Q :=
  w_callSN hd hb hk he hnp hr (Nat.ble_eq_true_of_le (Nat.le_refl _)) hm (fun _ _ _ ⟨q1, z, q2, q3⟩ => by subst q1; subst q2; exact q3)
end R14
noncomputable def cif (p : Prop) (a b : Int) : Int := @ite Int p (Classical.propDecidable p) a b
theorem cif_t {p : Prop} {a b : Int} (hp : p) : cif p a b = a := by unfold cif; exact if_pos hp
theorem cif_f {p : Prop} {a b : Int} (hp : ¬ p) : cif p a b = b := by unfold cif; exact if_neg hp
noncomputable def b2i (p : Prop) : Int := cif p 1 0
theorem b2i_t {p : Prop} (hp : p) : b2i p = 1 := cif_t hp
theorem b2i_f {p : Prop} (hp : ¬ p) : b2i p = 0 := cif_f hp
theorem b2i_01 {p : Prop} : b2i p = 0 ∨ b2i p = 1 := (Classical.em p).elim (fun hp => Or.inr (b2i_t hp)) (fun hp => Or.inl (b2i_f hp))
theorem b2i_R {p : Prop} : inR (b2i p) := by
  rcases b2i_01 (p := p) with q | q <;> rw [q] <;> decide
theorem b2i_eq0 {p : Prop} : b2i p = 0 ↔ ¬ p := ⟨fun q hp => absurd (q.symm.trans (b2i_t hp)) (by decide), b2i_f⟩
theorem b2i_ne0 {p : Prop} : b2i p ≠ 0 ↔ p := ⟨fun q => (Classical.em p).elim id (fun hp => absurd (b2i_f hp) q), fun hp q => absurd (q.symm.trans (b2i_t hp)) (by decide)⟩
theorem b2i_congr {p q : Prop} (hpq : p ↔ q) : b2i p = b2i q := by
  rcases Classical.em p with hp | hp
  · rw [b2i_t hp, b2i_t (hpq.mp hp)]
  · rw [b2i_f hp, b2i_f (fun z => hp (hpq.mpr z))]
theorem cif_R {p : Prop} {a b : Int} (ha : inR a) (hb : inR b) : inR (cif p a b) := (Classical.em p).elim (fun hp => by rw [cif_t hp]; exact ha) (fun hp => by rw [cif_f hp]; exact hb)
section B14
variable {p : Prop} {d nM : Nat} {M : MI} {pc : Nat} {ls : Lv} {st : List Vv} {n : Nat} {rf : RF} {h : St} {Q : Option Vv → Nat → RF → St → Prop}
theorem w_ifeq_b {off : Int} {tgt : Nat} (hd : mD M pc = some (.ifCond .eq off, 3)) (ht : (pc : Int) + off = (tgt : Int)) (kt : ¬ p → wp d nM M tgt ls st n rf h Q) (kf : p → wp d nM M (pc + 3) ls st n rf h Q) : wp d nM M pc ls (vI (b2i p) :: st) n rf h Q :=
  w_if_eq hd ht b2i_R (fun q => kt (b2i_eq0.mp q)) (fun q => kf (b2i_ne0.mp q))
theorem w_ifne_b {off : Int} {tgt : Nat} (hd : mD M pc = some (.ifCond .ne off, 3)) (ht : (pc : Int) + off = (tgt : Int)) (kt : p → wp d nM M tgt ls st n rf h Q) (kf : ¬ p → wp d nM M (pc + 3) ls st n rf h Q) : wp d nM M pc ls (vI (b2i p) :: st) n rf h Q :=
  w_if_ne hd ht b2i_R (fun q => kt (b2i_ne0.mp q)) (fun q => kf (fun hp => q (b2i_ne0.mpr hp)))
end B14
theorem r_lit {z : Int} (hz : decide (inR z) = true) : inR z := of_decide_eq_true hz
theorem r_nat {n : Nat} (hz : Nat.ble n 1000000 = true) : inR (n : Int) := by
  have := Nat.le_of_ble_eq_true hz
  exact ⟨by omega, by omega⟩
theorem rw_16 {i : Int} (hi : 0 ≤ i ∧ i < ((20 : Nat) : Int)) : shp (16 + i.toNat) = .inl (.int, 12, 0) ∧ Nat.blt (16 + i.toNat) nC = true := by
  have key : ∀ k, k < 20 → shp (16 + k) = .inl (.int, 12, 0) ∧ Nat.blt (16 + k) nC = true := by decide +kernel
  exact key i.toNat (by omega)
theorem rw_37 {i : Int} (hi : 0 ≤ i ∧ i < ((20 : Nat) : Int)) : shp (37 + i.toNat) = .inl (.int, 12, 0) ∧ Nat.blt (37 + i.toNat) nC = true := by
  have key : ∀ k, k < 20 → shp (37 + k) = .inl (.int, 12, 0) ∧ Nat.blt (37 + k) nC = true := by decide +kernel
  exact key i.toNat (by omega)
