def chb (a b : Nat) : Int := max (((((a / 16 : Nat) : Int) - ((b / 16 : Nat) : Int)).natAbs : Nat) : Int) (((((a % 16 : Nat) : Int) - ((b % 16 : Nat) : Int)).natAbs : Nat) : Int)
theorem mt_iff {P O : Nat → Nat → Prop} {w : Nat} : mtQ (itQ P w) O ↔ ∃ a b, a < 256 ∧ b < 256 ∧ P (a / 16) (a % 16) ∧ O (b / 16) (b % 16) ∧ chb a b ≤ w := by
  constructor
  · rintro ⟨x, y, hx, hy, q, o⟩
    obtain ⟨u, v, hu, hv, h1, h2, p⟩ := (itQ_iff w x y hx hy).mp q
    refine ⟨16 * u + v, 16 * x + y, by omega, by omega, ?_, ?_, ?_⟩
    · rw [show (16 * u + v) / 16 = u by omega, show (16 * u + v) % 16 = v by omega]; exact p
    · rw [show (16 * x + y) / 16 = x by omega, show (16 * x + y) % 16 = y by omega]; exact o
    · unfold chb
      rw [show (16 * u + v) / 16 = u by omega, show (16 * u + v) % 16 = v by omega, show (16 * x + y) / 16 = x by omega, show (16 * x + y) % 16 = y by omega]
      omega
  · rintro ⟨a, b, ha, hb, p, o, h1⟩
    unfold chb at h1
    exact ⟨b / 16, b % 16, by omega, by omega, (itQ_iff w _ _ (by omega) (by omega)).mpr ⟨a / 16, a % 16, by omega, by omega, by omega, by omega, p⟩, o⟩
theorem chb_R {a b : Nat} (ha : a < 256) (hb : b < 256) : 0 ≤ chb a b ∧ chb a b ≤ 15 := by unfold chb; omega
def CP (P O : Nat → Nat → Prop) (z : Int) : Prop := (z = -4 ∧ ∀ w : Nat, w < 16 → ¬ mtQ (itQ P w) O) ∨ ∃ w : Nat, w < 16 ∧ z = w ∧ mtQ (itQ P w) O ∧ ∀ w2 : Nat, w2 < w → ¬ mtQ (itQ P w2) O
def LsM (P O : Nat → Nat → Prop) (S : Nat → Nat → Prop) (v : Int) : Prop := (v = -4 ∧ ∀ a b, a < 256 → b < 256 → S a b → ¬ (P (a / 16) (a % 16) ∧ O (b / 16) (b % 16))) ∨ (0 ≤ v ∧ v ≤ 15 ∧ (∃ a b, a < 256 ∧ b < 256 ∧ P (a / 16) (a % 16) ∧ O (b / 16) (b % 16) ∧ chb a b = v) ∧ ∀ a b, a < 256 → b < 256 → S a b → P (a / 16) (a % 16) → O (b / 16) (b % 16) → v ≤ chb a b)
theorem LsM_R {P O S : Nat → Nat → Prop} {v : Int} (l : LsM P O S v) : -4 ≤ v ∧ v ≤ 15 := by
  rcases l with l | l
  · have := l.1; omega
  · have := l.1; have := l.2.1; omega
theorem CP_LsM {P O : Nat → Nat → Prop} {z v : Int} (c : CP P O z) (l : LsM P O (fun a _ => a < 256) v) : z = v := by
  rcases l with ⟨l1, l2⟩ | ⟨l1, l2, ⟨a, b, ha, hb, pa, ob, e⟩, l4⟩
  · rcases c with ⟨c1, _⟩ | ⟨w, _, _, c3, _⟩
    · omega
    · obtain ⟨a, b, ha, hb, pa, ob, _⟩ := mt_iff.mp c3
      exact absurd ⟨pa, ob⟩ (l2 a b ha hb ha)
  · have m : mtQ (itQ P v.toNat) O := mt_iff.mpr ⟨a, b, ha, hb, pa, ob, by omega⟩
    rcases c with ⟨_, c2⟩ | ⟨w, c1, c2, c3, c4⟩
    · exact absurd m (c2 v.toNat (by omega))
    · obtain ⟨a2, b2, ha2, hb2, pa2, ob2, e2⟩ := mt_iff.mp c3
      have h1 := l4 a2 b2 ha2 hb2 ha2 pa2 ob2
      by_cases q : v.toNat < w
      · exact absurd m (c4 v.toNat q)
      · omega
theorem LsM_sub {P O S S2 : Nat → Nat → Prop} {v : Int} (hs : ∀ a b, a < 256 → b < 256 → S2 a b → S a b ∨ ¬ (P (a / 16) (a % 16) ∧ O (b / 16) (b % 16))) (l : LsM P O S v) : LsM P O S2 v := by
  rcases l with ⟨l1, l2⟩ | ⟨l1, l2, l3, l4⟩
  · exact Or.inl ⟨l1, fun a b ha hb s => (hs a b ha hb s).elim (l2 a b ha hb) id⟩
  · exact Or.inr ⟨l1, l2, l3, fun a b ha hb s p o => (hs a b ha hb s).elim (fun s2 => l4 a b ha hb s2 p o) (fun n => absurd ⟨p, o⟩ n)⟩
theorem LsM_step {P O S S2 : Nat → Nat → Prop} {v : Int} {a b : Nat} (ha : a < 256) (hb : b < 256) (pa : P (a / 16) (a % 16)) (ob : O (b / 16) (b % 16)) (hs : ∀ a2 b2, S2 a2 b2 → S a2 b2 ∨ (a2 = a ∧ b2 = b)) (l : LsM P O S v) : LsM P O S2 (cif (v < 0) (chb a b) (cif (v ≤ chb a b) v (chb a b))) := by
  have r := chb_R ha hb
  rcases l with ⟨l1, l2⟩ | ⟨l1, l2, l3, l4⟩
  · rw [cif_t (by omega)]
    refine Or.inr ⟨r.1, r.2, ⟨a, b, ha, hb, pa, ob, rfl⟩, fun a2 b2 h1 h2 s p o => ?_⟩
    rcases hs a2 b2 s with s | ⟨e1, e2⟩
    · exact absurd ⟨p, o⟩ (l2 a2 b2 h1 h2 s)
    · subst e1; subst e2; omega
  · rw [cif_f (by omega)]
    by_cases q : v ≤ chb a b
    · rw [cif_t q]
      refine Or.inr ⟨l1, l2, l3, fun a2 b2 h1 h2 s p o => ?_⟩
      rcases hs a2 b2 s with s | ⟨e1, e2⟩
      · exact l4 a2 b2 h1 h2 s p o
      · subst e1; subst e2; exact q
    · rw [cif_f q]
      refine Or.inr ⟨r.1, r.2, ⟨a, b, ha, hb, pa, ob, rfl⟩, fun a2 b2 h1 h2 s p o => ?_⟩
      rcases hs a2 b2 s with s | ⟨e1, e2⟩
      · have := l4 a2 b2 h1 h2 s p o
        omega
      · subst e1; subst e2; omega
theorem C_lw {D : Nat} {K : Int → St → Prop} {P O : Nat → Nat → Prop} {x1 x2 x3 : Int} {h0 : St} (k : ∀ z h2, CP P O z → ag (fun c _ => c ≠ 94) h0 h2 → K z h2) : ∀ (r w : Nat) (h : St), w + r = 16 → ag (fun c _ => c ≠ 94) h0 h → (∀ u : Nat, u < 16 → h 94 u = ((rwA (itQ P w) u 16 : Nat) : Int)) → (∀ u : Nat, u < 16 → h 95 u = ((rwA O u 16 : Nat) : Int)) → (∀ w2 : Nat, w2 < w → ¬ mtQ (itQ P w2) O) → wI (D + 4) m_Places_leastWay 23 [(0, vR 85), (1, vI x1), (2, vI x2), (3, vI x3), (4, vI (w : Int))] [] h K := by
  intro r
  induction r with
  | zero =>
    intro w h hw g f1 f2 no
    have e : w = 16 := by omega
    subst e
    exact s_Places_leastWay_23 _ _ _ _ h K ⟨⟨by omega, by omega⟩, fun _ => k _ h (Or.inl ⟨rfl, no⟩) g, fun z => absurd (by omega) z⟩
  | succ r ih =>
    intro w h hw g f1 f2 no
    refine s_Places_leastWay_23 _ _ _ _ h K ⟨⟨by omega, by omega⟩, fun z => by omega, fun _ => c_Places_doMeet f1 f2 ⟨b2i_R, fun z => c_Places_widen f1 (fun h2 g2 f3 => ?_), fun z => k _ h (Or.inr ⟨w, by omega, rfl, b2i_ne0.mp z, no⟩) g⟩⟩
    refine ih (w + 1) h2 (by omega) (ag_trans g g2) f3 (fun u hu => by rw [g2 _ _ (by omega)]; exact f2 u hu) (fun w2 hw2 => ?_)
    by_cases q : w2 = w
    · subst q; exact b2i_eq0.mp z
    · exact no w2 (by omega)
section M39
variable {D : Nat} {K : Int → St → Prop} {P O : Nat → Nat → Prop} {x1 x2 x3 : Int} {h : St}
theorem M_mv_104 (f1 : ∀ c : Nat, c < 256 → h 142 c = b2i (P (c / 16) (c % 16))) (f2 : ∀ c : Nat, c < 256 → h 143 c = b2i (O (c / 16) (c % 16))) {a : Nat} (ha : a < 256) (k : ∀ v, LsM P O (fun a2 _ => a2 < a + 1) v → wI (D + 2) m_M_moved 93 [(0, vR 109), (1, vI x1), (2, vI x2), (3, vI x3), (4, vI v), (5, vI ((a : Int) + 1))] [] h K) : ∀ (r b : Nat) (v : Int), b + r = 256 → LsM P O (fun a2 b2 => a2 < a ∨ (a2 = a ∧ b2 < b)) v → wI (D + 2) m_M_moved 104 [(0, vR 109), (1, vI x1), (2, vI x2), (3, vI x3), (4, vI v), (5, vI (a : Int)), (6, vI (b : Int))] [] h K := by
  intro r
  induction r with
  | zero =>
    intro b v hb l
    refine s_M_moved_104 _ _ _ _ _ _ h K ⟨⟨by omega, by omega⟩, fun _ => k v (LsM_sub (fun a2 b2 h1 h2 s => Or.inl (by omega)) l), fun z => absurd (by omega) z⟩
  | succ r ih =>
    intro b v hb l
    have rl := LsM_R l
    have d1 : (a : Int).tdiv 16 = ((a / 16 : Nat) : Int) := by rw [Int.tdiv_eq_ediv_of_nonneg (by omega)]; omega
    have d2 : (a : Int).tmod 16 = ((a % 16 : Nat) : Int) := by rw [Int.tmod_eq_emod_of_nonneg (by omega)]; omega
    have d3 : (b : Int).tdiv 16 = ((b / 16 : Nat) : Int) := by rw [Int.tdiv_eq_ediv_of_nonneg (by omega)]; omega
    have d4 : (b : Int).tmod 16 = ((b % 16 : Nat) : Int) := by rw [Int.tmod_eq_emod_of_nonneg (by omega)]; omega
    have ec : cif ((((((a / 16 : Nat) : Int) - ((b / 16 : Nat) : Int)).natAbs : Nat) : Int) ≤ (((((a % 16 : Nat) : Int) - ((b % 16 : Nat) : Int)).natAbs : Nat) : Int)) (((((a % 16 : Nat) : Int) - ((b % 16 : Nat) : Int)).natAbs : Nat) : Int) (((((a / 16 : Nat) : Int) - ((b / 16 : Nat) : Int)).natAbs : Nat) : Int) = chb a b := by
      unfold chb
      by_cases q : (((((a / 16 : Nat) : Int) - ((b / 16 : Nat) : Int)).natAbs : Nat) : Int) ≤ (((((a % 16 : Nat) : Int) - ((b % 16 : Nat) : Int)).natAbs : Nat) : Int)
      · rw [cif_t q]; omega
      · rw [cif_f q]; omega
    have rc := chb_R ha (show b < 256 by omega)
    refine s_M_moved_104 _ _ _ _ _ _ h K ?_
    rw [d1, d2, d3, d4, ec, Int.toNat_natCast, Int.toNat_natCast, f1 a ha, f2 b (by omega)]
    refine ⟨⟨by omega, by omega⟩, fun z => by omega, fun _ => ⟨by omega, b2i_R, fun z => k v (LsM_sub (fun a2 b2 h1 h2 s => ?_) l), fun z => ⟨by omega, by omega, ⟨⟨by omega, by omega⟩, ⟨by omega, by omega⟩⟩, by omega, ⟨b2i_R, fun _ => ⟨⟨by omega, by omega⟩, fun _ => ⟨by omega, by omega⟩⟩⟩, ?_⟩⟩⟩
    · by_cases q : a2 = a
      · subst q; exact Or.inr (fun z2 => b2i_eq0.mp z z2.1)
      · exact Or.inl (by omega)
    · have pa : P (a / 16) (a % 16) := b2i_ne0.mp z
      by_cases q : O (b / 16) (b % 16)
      · rw [cif_f (fun z2 => b2i_eq0.mp z2 q)]
        exact ih (b + 1) _ (by omega) (LsM_step ha (by omega) pa q (fun a2 b2 s => by omega) l)
      · rw [cif_t (b2i_f q)]
        refine ih (b + 1) _ (by omega) (LsM_sub (fun a2 b2 h1 h2 s => ?_) l)
        by_cases q2 : b2 = b
        · subst q2; exact Or.inr (fun z2 => q z2.2)
        · exact Or.inl (by omega)
theorem M_mv_93 (f1 : ∀ c : Nat, c < 256 → h 142 c = b2i (P (c / 16) (c % 16))) (f2 : ∀ c : Nat, c < 256 → h 143 c = b2i (O (c / 16) (c % 16))) (k : ∀ v, LsM P O (fun a2 _ => a2 < 256) v → K v h) : ∀ (r a : Nat) (v : Int), a + r = 256 → LsM P O (fun a2 _ => a2 < a) v → wI (D + 2) m_M_moved 93 [(0, vR 109), (1, vI x1), (2, vI x2), (3, vI x3), (4, vI v), (5, vI (a : Int))] [] h K := by
  intro r
  induction r with
  | zero =>
    intro a v ha l
    have e : a = 256 := by omega
    subst e
    exact s_M_moved_93 _ _ _ _ _ h K ⟨⟨by omega, by omega⟩, fun _ => k v l, fun z => absurd (by omega) z⟩
  | succ r ih =>
    intro a v ha l
    exact s_M_moved_93 _ _ _ _ _ h K ⟨⟨by omega, by omega⟩, fun z => by omega, fun _ => M_mv_104 f1 f2 (by omega) (fun v2 l2 => ih (a + 1) v2 (by omega) l2) 256 0 v (by omega) (LsM_sub (fun a2 b2 h1 h2 s => Or.inl (by omega)) l)⟩
end M39
theorem M_mv_26 {D : Nat} {K : Int → St → Prop} {n : Nat} {bg : Nat → Nat → Int} {hx hy : Nat → Int} {nm d e : Int} (vb : VBr n bg) (hh : hrOk hx hy) (r1 : inR nm) (r2 : inR d) (r3 : inR e) : ∀ (r c : Nat) (h : St), c + r = 256 → MBr h n bg → (∀ i, i < 4 → h 123 i = hx i ∧ h 124 i = hy i) → (∀ b : Nat, b < c → h 142 b = b2i (fP hx hy n bg nm d (b / 16) (b % 16))) → (∀ b : Nat, b < c → h 143 b = b2i (fP hx hy n bg nm e (b / 16) (b % 16))) → (∀ v h2, ag (fun c _ => c ≠ 142 ∧ c ≠ 143) h h2 → LsM (fP hx hy n bg nm d) (fP hx hy n bg nm e) (fun a2 _ => a2 < 256) v → K v h2) → wI (D + 2) m_M_moved 26 [(0, vR 109), (1, vI nm), (2, vI d), (3, vI e), (4, vI (c : Int))] [] h K := by
  intro r
  induction r with
  | zero =>
    intro c h hc mb ex f1 f2 k
    have e : c = 256 := by omega
    subst e
    refine s_M_moved_26 _ _ _ _ h K ⟨⟨by omega, by omega⟩, fun _ => ?_, fun z => absurd (by omega) z⟩
    exact M_mv_93 f1 f2 (fun v l => k v h ag_rfl l) 256 0 _ (by omega) (Or.inl ⟨rfl, fun a b _ _ s => absurd s (Nat.not_lt_zero a)⟩)
  | succ r ih =>
    intro c h hc mb ex f1 f2 k
    have d1 : (c : Int).tdiv 16 = ((c / 16 : Nat) : Int) := by rw [Int.tdiv_eq_ediv_of_nonneg (by omega)]; omega
    have d2 : (c : Int).tmod 16 = ((c % 16 : Nat) : Int) := by rw [Int.tmod_eq_emod_of_nonneg (by omega)]; omega
    refine s_M_moved_26 _ _ _ _ h K ⟨⟨by omega, by omega⟩, fun z => by omega, fun _ => ?_⟩
    rw [d1, d2, Int.toNat_natCast]
    refine c_M_fits mb vb hh ex r1 r2 (by omega) (by omega) ⟨by omega, b2i_01, ?_⟩
    have ex2 : ∀ v, ∀ i, i < 4 → up h 142 c v 123 i = hx i ∧ up h 142 c v 124 i = hy i := fun v i hi => by rw [up_ne (by omega), up_ne (by omega)]; exact ex i hi
    refine c_M_fits (MBr_c (ag_up (by omega) ag_rfl) mb) vb hh (ex2 _) r1 r3 (by omega) (by omega) ⟨b2i_01, ?_⟩
    refine ih (c + 1) _ (by omega) (MBr_c (ag_up (by omega) (ag_up (by omega) ag_rfl)) mb) (fun i hi => ⟨by rw [up_ne (by omega)]; exact (ex2 _ i hi).1, by rw [up_ne (by omega)]; exact (ex2 _ i hi).2⟩) (fun b hb => ?_) (fun b hb => ?_) (fun v h2 g l => k v h2 (ag_trans (ag_up (by omega) (ag_up (by omega) ag_rfl)) g) l)
    · rw [up_ne (by omega)]
      by_cases q : b = c
      · subst q; rw [up_same]; rfl
      · rw [up_ne (by omega)]; exact f1 b (by omega)
    · by_cases q : b = c
      · subst q; rw [up_same]; rfl
      · rw [up_ne (by omega), up_ne (by omega)]; exact f2 b (by omega)
theorem P_moved {KK : Int → Int → St → Prop} {h : St} (hr : Rel h) {a1 a2 a3 : Int} (r1 : inR a1) (r2 : inR a2) (r3 : inR a3) (k : ∀ z h2, inR z → Rel h2 → KK z z h2) : mwpI 40 m_C_moved [vR 0, vI a1, vI a2, vI a3] h (fun z h1 => mwpI 40 m_M_moved [vR 109, vI a1, vI a2, vI a3] h1 (fun z2 h2 => KK z z2 h2)) := by
  obtain ⟨c1, c2, c3, c4, c5, ⟨n, bg, cb, mb, vb⟩, c9⟩ := id hr
  obtain ⟨hh, ex⟩ := RHr_ok c5
  have kb := k (-1) h (by decide) hr
  have bad : ¬ ((0 ≤ a1 ∧ a1 ≤ 11) ∧ (0 ≤ a2 ∧ a2 ≤ 19) ∧ (0 ≤ a3 ∧ a3 ≤ 19)) → mwpI 40 m_M_moved [vR 109, vI a1, vI a2, vI a3] h (fun z2 h2 => KK (-1) z2 h2) := fun q =>
    mI_intro b_M_moved rfl (s_M_moved_0 (d := 37) a1 a2 a3 _ _ ⟨r1, fun _ => kb, fun q1 => ⟨r2, fun _ => kb, fun q2 => ⟨r3, fun q3 => absurd ⟨q1, q2, q3⟩ q, fun _ => kb⟩⟩⟩)
  refine mI_intro b_C_moved rfl (s_C_moved_0 (d := 34) a1 a2 a3 h _ ⟨r1, fun q => bad (fun z => q z.1), fun q1 => ⟨r2, fun q => bad (fun z => q z.2.1), fun q2 => ⟨r3, fun q3 => ?_, fun q => bad (fun z => q z.2.2)⟩⟩⟩)
  refine mI_intro b_Places_leastWay rfl (s_Places_leastWay_0 (d := 34) a1 a2 a3 h _ ?_)
  refine c_Places_fit (nc := 16) rfl (by decide) (Or.inl rfl) rfl cb vb rfl rfl hh r1 r2 (fun h1 g1 f1 => ?_)
  refine c_Places_fit (nc := 16) rfl (by decide) (Or.inr rfl) rfl (CBr_c (ag_sub (fun c k p => by omega) g1) cb) vb (funext (fun j => g1 86 j (by omega))) (funext (fun j => g1 87 j (by omega))) hh r1 r3 (fun h2 g2 f2 => ?_)
  refine C_lw (P := fP (h 86) (h 87) n bg a1 a2) (O := fP (h 86) (h 87) n bg a1 a3) (h0 := h2) (fun z h3 cp g3 => ?_) 16 0 h2 (by omega) ag_rfl (fun u hu => by rw [g2 94 u (by omega)]; exact f1 u hu) f2 (fun w hw => absurd hw (Nat.not_lt_zero w))
  have g9 : ag (fun c _ => c ≠ 94 ∧ c ≠ 95) h h3 := ag_trans (ag_trans (ag_sub (fun c k p => by omega) g1) (ag_sub (fun c k p => by omega) g2)) (ag_sub (fun c k p => by omega) g3)
  have hr3 : Rel h3 := Rel_c (ag_sub (fun c k p => by omega) g9) hr
  refine mI_intro b_M_moved rfl (s_M_moved_0 (d := 37) a1 a2 a3 _ _ ⟨r1, fun q => absurd q1 q, fun _ => ⟨r2, fun q => absurd q2 q, fun _ => ⟨r3, fun _ => ?_, fun q => absurd q3 q⟩⟩⟩)
  refine M_mv_26 (hx := h 86) (hy := h 87) vb hh r1 r2 r3 256 0 h3 (by omega) (MBr_c (ag_sub (fun c k p => by omega) g9) mb) (fun i hi => by rw [g9 123 i (by omega), g9 124 i (by omega)]; exact ex i hi) (fun b hb => absurd hb (Nat.not_lt_zero b)) (fun b hb => absurd hb (Nat.not_lt_zero b)) (fun v h4 g4 l => ?_)
  have e := CP_LsM cp l
  subst e
  have rl := LsM_R l
  exact k _ _ ⟨by omega, by omega⟩ (Rel_c (ag_sub (fun c k p => by omega) g4) hr3)
