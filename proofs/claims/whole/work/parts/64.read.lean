def sdA (l v1 v2 v3 : Int) (P N : Int → Prop) : Prop := (0 ≤ v1 ∧ v1 ≤ 11) ∧ (l = 107 → 1 ≤ v2 ∧ v2 ≤ 19) ∧ (l = 120 → (0 ≤ v2 ∧ v2 ≤ 11) ∧ v1 ≠ v2 ∧ (1 ≤ v3 ∧ v3 ≤ 19)) ∧ (l = 112 → (0 ≤ v2 ∧ v2 ≤ 11) ∧ ¬ P v1 ∧ ¬ N v2)
theorem c_Book_isChangeDay {D : Nat} {h : St} {K : Int → St → Prop} {x : Int} (rx : inR x) (k : K (b2i (1 ≤ x ∧ x ≤ 19)) h) : mwpI (D + 2) m_Book_isChangeDay [vI x] h K := mI_intro b_Book_isChangeDay rfl (s_Book_isChangeDay_0 (d := D) _ h K ⟨rx, k⟩)
theorem c_Book_isSound {D : Nat} {h : St} {K : Int → St → Prop} {l v1 v2 v3 : Int} {pt nt : Nat} {P N : Int → Prop} (ll : l = 112 ∨ l = 107 ∨ l = 120) (e0 : h 10 0 = v1) (e1 : h 10 1 = v2) (R1 : 0 ≤ v1 ∧ v1 ≤ 999) (R2 : 0 ≤ v2 ∧ v2 ≤ 999) (e3 : l = 120 → h 10 2 = v3 ∧ 0 ≤ v3 ∧ v3 ≤ 999) (p1 : h 8 8 = (pt : Int)) (p2 : pt < 2 ^ 12) (p3 : ∀ x : Nat, pt.testBit x = true ↔ P x) (q1 : h 8 9 = (nt : Int)) (q2 : nt < 2 ^ 12) (q3 : ∀ x : Nat, nt.testBit x = true ↔ N x) (k : K (b2i (sdA l v1 v2 v3 P N)) h) : mwpI (D + 3) m_Book_isSound [vR 8, vI l] h K := by
  have no : ¬ sdA l v1 v2 v3 P N → K 0 h := fun z => by rw [b2i_f z] at k; exact k
  refine mI_intro b_Book_isSound rfl (s_Book_isSound_0 (d := D) _ h K ?_)
  rw [e0, e1, p1, q1]
  refine ⟨⟨by omega, by omega⟩, fun y1 => ⟨⟨by omega, by omega⟩, fun y2 => ⟨⟨by omega, by omega⟩, fun y3 => ⟨fun y4 => ?_, fun y4 => ⟨fun y5 => no (fun z => (z.2.2.1 (by omega)).2.1 y5), fun y5 => ?_⟩⟩, fun y3 => no (fun z => ?_)⟩, fun y2 => ?_⟩, fun y1 => no (fun z => y1 z.1)⟩
  · obtain ⟨a, rfl⟩ : ∃ a : Nat, v1 = (a : Int) := ⟨v1.toNat, by omega⟩
    obtain ⟨b, rfl⟩ : ∃ b : Nat, v2 = (b : Int) := ⟨v2.toNat, by omega⟩
    rw [has_nat (by omega) (by omega), has_nat (by omega) (by omega)]
    refine ⟨⟨b2i_R, fun _ => b2i_R⟩, ?_⟩
    rw [b2i_congr (q := sdA l a b v3 P N) ⟨fun z => ⟨y1, fun u => by omega, fun u => by omega, fun u => ⟨y3, fun v => z.1 (b2i_ne0.mpr ((p3 a).mpr v)), fun v => z.2 (b2i_ne0.mpr ((q3 b).mpr v))⟩⟩, fun z => ?_⟩]
    · exact k
    · have u := z.2.2.2 (by omega)
      exact ⟨fun v => u.2.1 ((p3 a).mp (b2i_ne0.mp v)), fun v => u.2.2 ((q3 b).mp (b2i_ne0.mp v))⟩
  · obtain ⟨u1, u2⟩ := e3 (by omega)
    rw [u1]
    refine c_Book_isChangeDay ⟨by omega, by omega⟩ ⟨b2i_R, ?_⟩
    rw [bb, b2i_congr (q := sdA l v1 v2 v3 P N) ⟨fun z => ⟨y1, fun u => by omega, fun u => ⟨y3, y5, z⟩, fun u => by omega⟩, fun z => (z.2.2.1 (by omega)).2.2⟩]
    exact k
  · rcases ll with u | u | u
    · exact y3 (z.2.2.2 u).1
    · exact y2 u
    · exact y3 (z.2.2.1 u).1
  · refine c_Book_isChangeDay ⟨by omega, by omega⟩ ⟨b2i_01, ?_⟩
    rw [b2i_congr (q := sdA l v1 v2 v3 P N) ⟨fun z => ⟨y1, fun _ => z, fun u => by omega, fun u => by omega⟩, fun z => z.2.1 (by omega)⟩]
    exact k
def CIt (h : St) (n : Nat) (tx : Nat → Int) (r : Nat) : Prop := h 8 7 = (r : Int) ∧ (∀ k, k < r → h 11 k = tx (psA n tx k) ∧ h 12 k = w1A n tx (psA n tx k) ∧ h 13 k = w2A n tx (psA n tx k) ∧ (tx (psA n tx k) = 120 → h 14 k = w3A n tx (psA n tx k))) ∧ (∃ pt : Nat, h 8 8 = (pt : Int) ∧ pt < 2 ^ 12 ∧ ∀ x : Nat, pt.testBit x = true ↔ toP n tx r x) ∧ (∃ nt : Nat, h 8 9 = (nt : Int) ∧ nt < 2 ^ 12 ∧ ∀ x : Nat, nt.testBit x = true ↔ toN n tx r x)
def agB (h h2 : St) : Prop := ag (fun c k => (c < 10 ∨ 14 < c) ∧ ¬ (c = 8 ∧ (k = 7 ∨ k = 8 ∨ k = 9))) h h2
theorem CIt_c {h h2 : St} {n : Nat} {tx : Nat → Int} {r : Nat} (g : ag (fun c _ => c ≠ 10) h h2) (a : CIt h n tx r) : CIt h2 n tx r := by
  obtain ⟨a1, a2, ⟨pt, a3⟩, nt, a4⟩ := a
  refine ⟨by rw [g 8 7 (by omega)]; exact a1, fun k hk => ?_, ⟨pt, by rw [g 8 8 (by omega)]; exact a3⟩, nt, by rw [g 8 9 (by omega)]; exact a4⟩
  rw [g 11 k (by omega), g 12 k (by omega), g 13 k (by omega), g 14 k (by omega)]; exact a2 k hk
theorem to_n {n : Nat} {tx : Nat → Int} {r : Nat} (no : tx (psA n tx r) ≠ 112) (x : Int) : (toP n tx (r + 1) x ↔ toP n tx r x) ∧ (toN n tx (r + 1) x ↔ toN n tx r x) := by
  refine ⟨⟨fun ⟨k, a, b⟩ => ⟨k, ?_, b⟩, fun ⟨k, a, b⟩ => ⟨k, by omega, b⟩⟩, ⟨fun ⟨k, a, b⟩ => ⟨k, ?_, b⟩, fun ⟨k, a, b⟩ => ⟨k, by omega, b⟩⟩⟩
  · by_cases e : k = r
    · subst e; exact absurd b.1 no
    · omega
  · by_cases e : k = r
    · subst e; exact absurd b.1 no
    · omega
theorem to_y {n : Nat} {tx : Nat → Int} {r : Nat} (y : tx (psA n tx r) = 112) (x : Int) : (toP n tx (r + 1) x ↔ toP n tx r x ∨ w1A n tx (psA n tx r) = x) ∧ (toN n tx (r + 1) x ↔ toN n tx r x ∨ w2A n tx (psA n tx r) = x) := by
  refine ⟨⟨fun ⟨k, a, b⟩ => ?_, fun z => z.elim (fun ⟨k, a, b⟩ => ⟨k, by omega, b⟩) (fun z => ⟨r, by omega, y, z⟩)⟩, ⟨fun ⟨k, a, b⟩ => ?_, fun z => z.elim (fun ⟨k, a, b⟩ => ⟨k, by omega, b⟩) (fun z => ⟨r, by omega, y, z⟩)⟩⟩
  · by_cases e : k = r
    · subst e; exact Or.inr b.2
    · exact Or.inl ⟨k, by omega, b⟩
  · by_cases e : k = r
    · subst e; exact Or.inr b.2
    · exact Or.inl ⟨k, by omega, b⟩
theorem c_Book_addItem {D : Nat} {h : St} {K : St → Prop} {n : Nat} {tx : Nat → Int} {r : Nat} (ci : CIt h n tx r) (hr : r < 40) (rl : inR (tx (psA n tx r))) (e0 : h 10 0 = w1A n tx (psA n tx r)) (e1 : h 10 1 = w2A n tx (psA n tx r)) (e3 : tx (psA n tx r) = 120 → h 10 2 = w3A n tx (psA n tx r)) (so : soA n tx r (psA n tx r)) (k : ∀ h2, agB h h2 → CIt h2 n tx (r + 1) → K h2) : mwpV (D + 1) m_Book_addItem [vR 8, vI (tx (psA n tx r))] h K := by
  obtain ⟨a1, a2, ⟨pt, p1, p2, p3⟩, nt, q1, q2, q3⟩ := ci
  refine mV_intro b_Book_addItem rfl (s_Book_addItem_0 (d := D) _ h K ?_)
  rw [a1, Int.toNat_natCast, e0, e1, p1, q1]
  refine ⟨⟨by omega, by omega⟩, rl, fun y => ?_, fun y => ?_⟩
  · refine k _ (ag_up (by omega) (ag_up (by omega) (ag_up (by omega) (ag_up (by omega) (ag_up (by omega) ag_rfl))))) ⟨up_same _ _ _ _, fun j hj => ?_, ⟨pt, ?_, p2, fun x => (p3 x).trans (to_n y x).1.symm⟩, nt, ?_, q2, fun x => (q3 x).trans (to_n y x).2.symm⟩
    · by_cases e : j = r
      · subst e
        refine ⟨?_, ?_, ?_, fun z => ?_⟩
        · rw [up_ne (by omega), up_ne (by omega), up_ne (by omega), up_ne (by omega), up_same]
        · rw [up_ne (by omega), up_ne (by omega), up_ne (by omega), up_same]
        · rw [up_ne (by omega), up_ne (by omega), up_same]
        · rw [up_ne (by omega), up_same]; exact e3 z
      · rw [up_ne (by omega), up_ne (by omega), up_ne (by omega), up_ne (by omega), up_ne (by omega), up_ne (by omega), up_ne (by omega), up_ne (by omega), up_ne (by omega), up_ne (by omega), up_ne (by omega), up_ne (by omega), up_ne (by omega), up_ne (by omega), up_ne (by omega), up_ne (by omega), up_ne (by omega), up_ne (by omega), up_ne (by omega), up_ne (by omega)]
        exact a2 j (by omega)
    · rw [up_ne (by omega), up_ne (by omega), up_ne (by omega), up_ne (by omega), up_ne (by omega)]; exact p1
    · rw [up_ne (by omega), up_ne (by omega), up_ne (by omega), up_ne (by omega), up_ne (by omega)]; exact q1
  · have y2 : tx (psA n tx r) = 112 := by omega
    have s1 := so.1
    have s2 := (so.2.2.2 y2).1
    obtain ⟨a, ea⟩ : ∃ a : Nat, w1A n tx (psA n tx r) = (a : Int) := ⟨(w1A n tx (psA n tx r)).toNat, by omega⟩
    obtain ⟨b, eb⟩ : ∃ b : Nat, w2A n tx (psA n tx r) = (b : Int) := ⟨(w2A n tx (psA n tx r)).toNat, by omega⟩
    have pa : 2 ^ a < 2 ^ 12 := Nat.pow_lt_pow_right (by decide) (by omega)
    have pb2 : 2 ^ b < 2 ^ 12 := Nat.pow_lt_pow_right (by decide) (by omega)
    have o1 : or3 (pt : Int) (shl3 1 (w1A n tx (psA n tx r))) = ((pt ||| 2 ^ a : Nat) : Int) := by rw [ea, shl_1 (by omega), or3_nat (by omega) (by omega)]
    have o2 : or3 (nt : Int) (shl3 1 (w2A n tx (psA n tx r))) = ((nt ||| 2 ^ b : Nat) : Int) := by rw [eb, shl_1 (by omega), or3_nat (by omega) (by omega)]
    rw [o1, o2]
    refine k _ (ag_up (by omega) (ag_up (by omega) (ag_up (by omega) (ag_up (by omega) (ag_up (by omega) (ag_up (by omega) (ag_up (by omega) ag_rfl))))))) ⟨?_, fun j hj => ?_, ⟨pt ||| 2 ^ a, ?_, Nat.or_lt_two_pow p2 pa, fun x => ?_⟩, nt ||| 2 ^ b, ?_, Nat.or_lt_two_pow q2 pb2, fun x => ?_⟩
    · rw [up_ne (by omega), up_ne (by omega), up_same]; rfl
    · by_cases e : j = r
      · subst e
        refine ⟨?_, ?_, ?_, fun z => by omega⟩
        · rw [up_ne (by omega), up_ne (by omega), up_ne (by omega), up_ne (by omega), up_ne (by omega), up_ne (by omega), up_same]
        · rw [up_ne (by omega), up_ne (by omega), up_ne (by omega), up_ne (by omega), up_ne (by omega), up_same]
        · rw [up_ne (by omega), up_ne (by omega), up_ne (by omega), up_ne (by omega), up_same]
      · rw [up_ne (by omega), up_ne (by omega), up_ne (by omega), up_ne (by omega), up_ne (by omega), up_ne (by omega), up_ne (by omega), up_ne (by omega), up_ne (by omega), up_ne (by omega), up_ne (by omega), up_ne (by omega), up_ne (by omega), up_ne (by omega), up_ne (by omega), up_ne (by omega), up_ne (by omega), up_ne (by omega), up_ne (by omega), up_ne (by omega), up_ne (by omega), up_ne (by omega), up_ne (by omega), up_ne (by omega), up_ne (by omega), up_ne (by omega), up_ne (by omega), up_ne (by omega)]
        exact a2 j (by omega)
    · rw [up_ne (by omega), up_same]
    · rw [tb_or, p3 x, (to_y y2 x).1]
      exact or_congr Iff.rfl (by omega)
    · rw [up_same]
    · rw [tb_or, q3 x, (to_y y2 x).2]
      exact or_congr Iff.rfl (by omega)
theorem C_ri_f {D : Nat} {h : St} {K : Int → St → Prop} {n : Nat} {tx : Nat → Int} {r w p : Nat} (ct : CTxt h n tx) (vt : VTxt n tx) (ci : CIt h n tx r) (hr : r < 40) (hn : psA n tx r < n) (hw : 0 < w ∧ w ≤ 3) (fm : fmA n tx (psA n tx r)) (ep : p = nxA n tx (psA n tx r)) (e0 : h 10 0 = w1A n tx (psA n tx r)) (e1 : h 10 1 = w2A n tx (psA n tx r)) (e3 : tx (psA n tx r) = 120 → h 10 2 = w3A n tx (psA n tx r)) (R1 : 0 ≤ w1A n tx (psA n tx r) ∧ w1A n tx (psA n tx r) ≤ 999) (R2 : 0 ≤ w2A n tx (psA n tx r) ∧ w2A n tx (psA n tx r) ≤ 999) (R3 : tx (psA n tx r) = 120 → 0 ≤ w3A n tx (psA n tx r) ∧ w3A n tx (psA n tx r) ≤ 999) (k1 : okA n tx r → ∀ h2, agB h h2 → CIt h2 n tx (r + 1) → K (psA n tx (r + 1)) h2) (k0 : ¬ okA n tx r → K (-4) h) : wI (D + 3) m_Book_readItem 17 [(0, vR 8), (1, vI (psA n tx r : Nat)), (2, vI w), (3, vI p), (4, vI w)] [] h K := by
  have n2 := ct.2.1
  have v := vt _ hn
  have ll : tx (psA n tx r) = 112 ∨ tx (psA n tx r) = 107 ∨ tx (psA n tx r) = 120 := by
    rcases fm with ⟨z, _⟩ | ⟨z, _⟩
    · omega
    · omega
  obtain ⟨a1, a2, ⟨pt, p1, p2, p3⟩, nt, q1, q2, q3⟩ := id ci
  refine s_Book_readItem_17 _ _ _ _ h K ⟨⟨by omega, by omega⟩, ⟨by omega, by omega⟩, fun _ => ⟨fun y => by omega, fun _ => ⟨⟨by omega, by omega⟩, ?_⟩⟩, fun y => by omega⟩
  rw [Int.toNat_natCast, ct.2.2 _ hn]
  refine c_Book_isSound (P := toP n tx r) (N := toN n tx r) (v3 := w3A n tx (psA n tx r)) ll e0 e1 R1 R2 (fun z => ⟨e3 z, R3 z⟩) p1 p2 p3 q1 q2 q3 ⟨b2i_R, fun z => ?_, fun z => k0 (fun u => z (b2i_ne0.mpr u.2))⟩
  have so : soA n tx r (psA n tx r) := b2i_ne0.mp z
  rw [ct.2.2 _ hn]
  refine c_Book_addItem ci hr ⟨by omega, by omega⟩ e0 e1 e3 so (fun h2 g2 c2 => ?_)
  rw [ep]
  exact k1 ⟨fm, so⟩ h2 g2 c2
theorem c_Book_readItem {D : Nat} {h : St} {K : Int → St → Prop} {n : Nat} {tx : Nat → Int} {r : Nat} (ct : CTxt h n tx) (vt : VTxt n tx) (ci : CIt h n tx r) (hr : r < 40) (hn : psA n tx r < n) (k1 : okA n tx r → ∀ h2, agB h h2 → CIt h2 n tx (r + 1) → K (psA n tx (r + 1)) h2) (k0 : ¬ okA n tx r → ∀ h2, agB h h2 → CIt h2 n tx r → K (-4) h2) : mwpI (D + 4) m_Book_readItem [vR 8, vI (psA n tx r : Nat)] h K := by
  have n2 := ct.2.1
  have v := vt _ hn
  generalize ea : psA n tx r = a at *
  have k0' : ¬ fmA n tx a → ∀ h2, ag (fun c _ => c ≠ 10) h h2 → K (-4) h2 := fun z h2 g2 => k0 (fun u => z (by have := u.1; rw [ea] at this; exact this)) h2 (ag_sub (fun c k p => by omega) g2) (CIt_c g2 ci)
  refine mI_intro b_Book_readItem rfl (s_Book_readItem_0 (d := D) _ h K ⟨⟨by omega, by omega⟩, ?_⟩)
  rw [Int.toNat_natCast, ct.2.2 _ hn]
  have ln1 := (lnA_c (n := n) (tx := tx) (a := a + 1) n2).1
  have two : ∀ (u : Nat), tx a = 112 ∨ tx a = 107 → wI (D + 3) m_Book_readItem 17 [(0, vR 8), (1, vI (a : Int)), (2, vI 2), (3, vI ((a : Int) + 1)), (4, vI 0)] [] h K := fun _ u => by
    refine C_ri_s (w := 2) (p := a + 1) (j := 0) ct vt (by omega) (by omega) (by omega) (fun nk mk => ?_) (fun no h2 g2 => k0' (fun f => no ?_) h2 g2)
    · rw [cif_f (by decide)] at mk
      have b1 := mk.1
      have g1 : ag (fun c _ => c ≠ 10) h (up h 10 0 (vlA tx (a + 1) (lnA n tx (a + 1)))) := ag_up (by omega) ag_rfl
      refine C_ri_s (w := 2) (p := a + 1 + lnA n tx (a + 1) + 1) (j := 1) (CTxt_c2 (ag_sub (fun c k p => by omega) g1) ct) vt (by omega) (by omega) (by omega) (fun nk2 mk2 => ?_) (fun no h2 g2 => k0' (fun f => no ?_) h2 (ag_trans g1 g2))
      · rw [cif_t (by decide)] at mk2
        have g2 : ag (fun c _ => c ≠ 10) h (up (up h 10 0 (vlA tx (a + 1) (lnA n tx (a + 1)))) 10 1 (vlA tx (a + 1 + lnA n tx (a + 1) + 1) (lnA n tx (a + 1 + lnA n tx (a + 1) + 1)))) := ag_up (by omega) g1
        have fm : fmA n tx a := Or.inl ⟨u, ⟨nk, mk⟩, nk2, mk2⟩
        have := C_ri_f (D := D) (K := K) (r := r) (w := 2) (p := a + 1 + lnA n tx (a + 1) + 1 + lnA n tx (a + 1 + lnA n tx (a + 1) + 1) + 1) (CTxt_c2 (ag_sub (fun c k p => by omega) g2) ct) vt (CIt_c g2 ci) hr (by rw [ea]; exact hn) (by omega) (by rw [ea]; exact fm) (by rw [ea]; exact (nif_f (by omega)).symm) (by rw [ea, up_ne (by omega), up_same]; rfl) (by rw [ea, up_same]; rfl) (fun z => by rw [ea] at z; omega) (by rw [ea]; exact vl_R n2 nk) (by rw [ea]; exact vl_R n2 nk2) (fun z => by rw [ea] at z; omega) (fun ok h3 g3 => k1 ok h3 (ag_trans (ag_sub (fun c k p => by omega) g2) g3)) (fun no => k0 no _ (ag_sub (fun c k p => by omega) g2) (CIt_c g2 ci))
        rw [ea] at this
        exact this
      · rw [cif_t (by decide)]
        rcases f with ⟨_, _, f⟩ | ⟨f, _⟩
        · exact f
        · omega
    · rw [cif_f (by decide)]
      rcases f with ⟨_, f, _⟩ | ⟨f, _⟩
      · exact f
      · omega
  refine mI_intro b_Book_numbersBehind rfl (s_Book_numbersBehind_0 (d := D + 2) _ h _ ⟨⟨by omega, by omega⟩, fun y => two 0 (Or.inl y), fun y => ⟨fun y2 => ?_, fun y2 => two 0 (Or.inr (by omega))⟩⟩)
  by_cases y3 : tx a = 120
  · rw [cif_f (fun z => z y3)]
    refine C_ri_s (w := 3) (p := a + 1) (j := 0) ct vt (by omega) (by omega) (by omega) (fun nk mk => ?_) (fun no h2 g2 => k0' (fun f => no ?_) h2 g2)
    · rw [cif_f (by decide)] at mk
      have b1 := mk.1
      have g1 : ag (fun c _ => c ≠ 10) h (up h 10 0 (vlA tx (a + 1) (lnA n tx (a + 1)))) := ag_up (by omega) ag_rfl
      refine C_ri_s (w := 3) (p := a + 1 + lnA n tx (a + 1) + 1) (j := 1) (CTxt_c2 (ag_sub (fun c k p => by omega) g1) ct) vt (by omega) (by omega) (by omega) (fun nk2 mk2 => ?_) (fun no h2 g2 => k0' (fun f => no ?_) h2 (ag_trans g1 g2))
      · rw [cif_f (by decide)] at mk2
        have b2 := mk2.1
        have g2 : ag (fun c _ => c ≠ 10) h (up (up h 10 0 (vlA tx (a + 1) (lnA n tx (a + 1)))) 10 1 (vlA tx (a + 1 + lnA n tx (a + 1) + 1) (lnA n tx (a + 1 + lnA n tx (a + 1) + 1)))) := ag_up (by omega) g1
        refine C_ri_s (w := 3) (p := a + 1 + lnA n tx (a + 1) + 1 + lnA n tx (a + 1 + lnA n tx (a + 1) + 1) + 1) (j := 2) (CTxt_c2 (ag_sub (fun c k p => by omega) g2) ct) vt (by omega) (by omega) (by omega) (fun nk3 mk3 => ?_) (fun no h2 g3 => k0' (fun f => no ?_) h2 (ag_trans g2 g3))
        · rw [cif_t (by decide)] at mk3
          have fm : fmA n tx a := Or.inr ⟨y3, ⟨nk, mk⟩, ⟨nk2, mk2⟩, nk3, mk3⟩
          have g3 := ag_up (P := fun c _ => c ≠ 10) (c := 10) (k := 2) (v := vlA tx (a + 1 + lnA n tx (a + 1) + 1 + lnA n tx (a + 1 + lnA n tx (a + 1) + 1) + 1) (lnA n tx (a + 1 + lnA n tx (a + 1) + 1 + lnA n tx (a + 1 + lnA n tx (a + 1) + 1) + 1))) (by omega) g2
          have := C_ri_f (D := D) (K := K) (r := r) (w := 3) (p := a + 1 + lnA n tx (a + 1) + 1 + lnA n tx (a + 1 + lnA n tx (a + 1) + 1) + 1 + lnA n tx (a + 1 + lnA n tx (a + 1) + 1 + lnA n tx (a + 1 + lnA n tx (a + 1) + 1) + 1) + 1) (CTxt_c2 (ag_sub (fun c k p => by omega) g3) ct) vt (CIt_c g3 ci) hr (by rw [ea]; exact hn) (by omega) (by rw [ea]; exact fm) (by rw [ea]; exact (nif_t y3).symm) (by rw [ea, up_ne (by omega), up_ne (by omega), up_same]; rfl) (by rw [ea, up_ne (by omega), up_same]; rfl) (fun z => by rw [ea, up_same]; rfl) (by rw [ea]; exact vl_R n2 nk) (by rw [ea]; exact vl_R n2 nk2) (fun z => by rw [ea]; exact vl_R n2 nk3) (fun ok h3 g4 => k1 ok h3 (ag_trans (ag_sub (fun c k p => by omega) g3) g4)) (fun no => k0 no _ (ag_sub (fun c k p => by omega) g3) (CIt_c g3 ci))
          rw [ea] at this
          exact this
        · rw [cif_t (by decide)]
          rcases f with ⟨f, _⟩ | ⟨_, _, _, f⟩
          · omega
          · exact f
      · rw [cif_f (by decide)]
        rcases f with ⟨f, _⟩ | ⟨_, _, f, _⟩
        · omega
        · exact f
    · rw [cif_f (by decide)]
      rcases f with ⟨f, _⟩ | ⟨_, f, _⟩
      · omega
      · exact f
  · rw [cif_t y3]
    refine s_Book_readItem_17 _ _ _ _ h K ⟨by decide, by decide, fun _ => ⟨fun _ => k0' (fun f => ?_) h ag_rfl, fun z => absurd rfl z⟩, fun z => absurd (by decide) z⟩
    rcases f with ⟨f, _⟩ | ⟨f, _⟩
    · omega
    · omega
theorem C_rd_19 {D : Nat} {K : Int → St → Prop} {n : Nat} {tx : Nat → Int} (vt : VTxt n tx) : ∀ (m r : Nat) (h : St), r + m = 40 → CTxt h n tx → CIt h n tx r → (∀ k, k < r → okA n tx k ∧ psA n tx k < n) → (∀ h2, agB h h2 → CIt h2 n tx (rdA n tx) → (∀ k, k < rdA n tx → okA n tx k ∧ psA n tx k < n) → K (ftA n tx) h2) → wI (D + 4) m_Book_read 19 [(0, vR 8), (1, vI (psA n tx r : Nat)), (2, vI r)] [] h K := by
  intro m
  induction m with
  | zero =>
    intro r h hr ct ci al k
    have n2 := ct.2.1
    have pb := ps_b r (fun k hk => (al k hk).1)
    have er : r = rdA n tx := lst_u (Or.inr ⟨by omega, fun j hj z => z.elim (fun z => by have := (al j (by omega)).2; omega) (fun z => z (al j (by omega)).1)⟩)
    have kk := k h ag_rfl (by rw [← er]; exact ci) (by rw [← er]; exact al)
    unfold ftA at kk
    rw [← er, cif_t (by omega)] at kk
    exact s_Book_read_19 _ _ h K ⟨⟨by omega, by omega⟩, fun _ => kk, fun y => by omega⟩
  | succ m ih =>
    intro r h hr ct ci al k
    have n2 := ct.2.1
    have c1 := ct.1
    have pb := ps_b r (fun k hk => (al k hk).1)
    have nol : ∀ j, j < r → ¬ (n ≤ psA n tx j ∨ ¬ okA n tx j) := fun j hj z => z.elim (fun z => by have := (al j hj).2; omega) (fun z => z (al j hj).1)
    refine s_Book_read_19 _ _ h K ⟨⟨by omega, by omega⟩, fun y => by omega, fun _ => ⟨⟨by omega, by omega⟩, ⟨by omega, by omega⟩, fun y => ?_, fun y => ?_⟩⟩
    · have er : r = rdA n tx := lst_u (Or.inl ⟨by omega, Or.inl (by omega), nol⟩)
      have kk := k h ag_rfl (by rw [← er]; exact ci) (by rw [← er]; exact al)
      unfold ftA at kk
      rw [← er, cif_t (by omega)] at kk
      exact kk
    · refine c_Book_readItem ct vt ci (by omega) (by omega) (fun ok h2 g2 c2 => ?_) (fun no h2 g2 c2 => ?_)
      · have pb2 := ps_b (n := n) (tx := tx) (r + 1) (fun k hk => by
          by_cases e : k = r
          · subst e; exact ok
          · exact (al k (by omega)).1)
        refine ⟨⟨by omega, by omega⟩, fun _ => ih (r + 1) h2 (by omega) (CTxt_c2 (ag_sub (fun c k p => by omega) g2) ct) c2 (fun j hj => ?_) (fun h3 g3 => k h3 (ag_trans g2 g3)), fun z => absurd (by omega) z⟩
        by_cases e : j = r
        · subst e; exact ⟨ok, by omega⟩
        · exact al j (by omega)
      · have er : r = rdA n tx := lst_u (Or.inl ⟨by omega, Or.inr no, nol⟩)
        have kk := k h2 g2 (by rw [← er]; exact c2) (by rw [← er]; exact al)
        unfold ftA at kk
        rw [← er, cif_f (by omega)] at kk
        exact ⟨by decide, fun z => absurd rfl z, fun _ => kk⟩
theorem c_Book_read {D : Nat} {h : St} {K : Int → St → Prop} {n : Nat} {tx : Nat → Int} (ct : CTxt h n tx) (vt : VTxt n tx) (k : ∀ h2, agB h h2 → CIt h2 n tx (rdA n tx) → (∀ k, k < rdA n tx → okA n tx k ∧ psA n tx k < n) → K (ftA n tx) h2) : mwpI (D + 5) m_Book_read [vR 8] h K := by
  refine mI_intro b_Book_read rfl (s_Book_read_0 (d := D) h K ?_)
  have g : agB h (up (up (up h 8 7 0) 8 8 0) 8 9 0) := ag_up (by omega) (ag_up (by omega) (ag_up (by omega) ag_rfl))
  refine C_rd_19 vt 40 0 _ (by omega) (CTxt_c2 (ag_sub (fun c k p => by omega) g) ct) ⟨by rw [up_ne (by omega), up_ne (by omega), up_same]; rfl, fun k hk => absurd hk (Nat.not_lt_zero _), ⟨0, by rw [up_ne (by omega), up_same]; rfl, by decide, fun x => ?_⟩, 0, by rw [up_same]; rfl, by decide, fun x => ?_⟩ (fun k hk => absurd hk (Nat.not_lt_zero _)) (fun h2 g2 => k h2 (ag_trans g g2))
  · rw [Nat.zero_testBit]
    exact ⟨fun z => Bool.noConfusion z, fun ⟨u, z, _⟩ => absurd z (Nat.not_lt_zero _)⟩
  · rw [Nat.zero_testBit]
    exact ⟨fun z => Bool.noConfusion z, fun ⟨u, z, _⟩ => absurd z (Nat.not_lt_zero _)⟩
