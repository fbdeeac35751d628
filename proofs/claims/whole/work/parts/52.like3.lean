theorem c_Pairing_hear {D : Nat} {K : St → Prop} {n : Nat} {lg : Nat → Nat → Int} {fh : Nat → Nat} {d : Int} {h : St} (cl : CLog h n lg) (vl : VLog n lg) (rd : 0 ≤ d ∧ d ≤ 100) (hf : ∀ c, c < n → h 58 (paA lg c) = ((fh c : Nat) : Int)) (fb : ∀ c, c < n → fh c < 60) (k : ∀ h2, ag (fun c _ => c < 60 ∨ 69 < c) h h2 → Snd60 h2 lg fh n d n → Snd65 h2 lg fh n (d + 1) n → h2 60 1 = ((cS (fun a => exA n (onS lg d a)) 12 : Nat) : Int) → (∀ b, b < 12 → exA n (onS lg d b) → h2 61 (cS (fun a => exA n (onS lg d a)) b) = b) → h2 65 1 = ((cS (fun a => exA n (onS lg (d + 1) a)) 12 : Nat) : Int) → (∀ b, b < 12 → exA n (onS lg (d + 1) b) → h2 66 (cS (fun a => exA n (onS lg (d + 1) a)) b) = b) → K h2) : mwpV (D + 3) m_Pairing_hear [vR 59, vR 1, vR 57, vI d] h K := by
  refine mV_intro b_Pairing_hear rfl (s_Pairing_hear_0 (d := D) _ h K ?_)
  refine c_Senders_hear_60 cl vl ⟨by omega, by omega⟩ hf fb (fun h1 g1 s1 z1 n1 => ?_)
  refine c_Senders_hear_65 (CLog_c (ag_sub (fun c k p => by omega) g1) cl) vl ⟨by omega, by omega⟩ (fun c hc => by rw [g1 _ _ (by omega)]; exact hf c hc) fb (fun h2 g2 s2 z2 n2 => ?_)
  refine k h2 (ag_trans (ag_sub (fun c k p => by omega) g1) (ag_sub (fun c k p => by omega) g2)) (fun a ha => ?_) s2 (by rw [g2 _ _ (by omega)]; exact z1) (fun b hb e => by rw [g2 _ _ (by omega)]; exact n1 b hb e) z2 n2
  rw [g2 62 a (by omega), g2 63 a (by omega), g2 64 a (by omega)]
  exact s1 a ha
theorem wv8 {n : Nat} {lg : Nat → Nat → Int} (vl : VLog n lg) : ∀ i, i < n → wvA lg i < 8 := fun i hi => by have := (vl i hi).2.2.2.2.2.1; unfold wvA; omega
theorem P_like {KK : Int → Int → St → Prop} {h : St} (hr : Rel h) {a1 a2 a3 : Int} (r1 : inR a1) (r2 : inR a2) (r3 : inR a3) (k : ∀ z h2, inR z → Rel h2 → KK z z h2) : mwpI 40 m_C_like [vR 0, vI a1, vI a2, vI a3] h (fun z h1 => mwpI 40 m_M_like [vR 109, vI a1, vI a2, vI a3] h1 (fun z2 h2 => KK z z2 h2)) := by
  obtain ⟨⟨n, lg, cl, ml, vl⟩, c2, c3, ⟨t1, t2, t3, t4⟩, c9⟩ := id hr
  have hn := cl.2.1
  have kb := k (-1) h (by decide) hr
  have bad : ¬ ((0 ≤ a1 ∧ a1 ≤ 18) ∧ (0 ≤ a2 ∧ a2 ≤ 11) ∧ (0 ≤ a3 ∧ a3 ≤ 11)) → mwpI 40 m_M_like [vR 109, vI a1, vI a2, vI a3] h (fun z2 h2 => KK (-1) z2 h2) := fun q =>
    mI_intro b_M_like rfl (s_M_like_0 (d := 37) a1 a2 a3 _ _ ⟨r1, fun _ => kb, fun q1 => ⟨r2, fun _ => kb, fun q2 => ⟨r3, fun q3 => absurd ⟨q1, q2, q3⟩ q, fun _ => kb⟩⟩⟩)
  refine mI_intro b_C_like rfl (s_C_like_0 (d := 36) a1 a2 a3 h _ ⟨r1, fun q => bad (fun z => q z.1), fun q1 => ⟨r2, fun q => bad (fun z => q z.2.1), fun q2 => ⟨r3, fun q3 => ?_, fun q => bad (fun z => q z.2.2)⟩⟩⟩)
  refine c_Hands_group cl vl rfl t2 (fun h1 g1 _ hh => ?_)
  have fb : ∀ c, c < n → (h1 58 (paA lg c)).toNat < 60 := fun c hc => by have q1 : 0 ≤ h1 58 (paA lg c) := (hh.2 c hc).1; have q2 : h1 58 (paA lg c) ≤ c := (hh.2 c hc).2.1; omega
  have fe : ∀ c, c < n → h1 58 (paA lg c) = (((h1 58 (paA lg c)).toNat : Nat) : Int) := fun c hc => by have q1 : 0 ≤ h1 58 (paA lg c) := (hh.2 c hc).1; omega
  refine c_Pairing_hear (fh := fun c => (h1 58 (paA lg c)).toNat) (CLog_c (ag_sub (fun c k p => by omega) g1) cl) vl (by omega) fe fb (fun h2 g2 s1 s2 _ _ _ _ => ?_)
  have g9 : ag (fun c k => c ≠ 58 ∧ ¬ (c = 57 ∧ k = 1) ∧ (c < 60 ∨ 69 < c)) h h2 := ag_trans (ag_sub (fun c k p => by omega) g1) (ag_sub (fun c k p => by omega) g2)
  have hr2 : Rel h2 := Rel_c (ag_sub (fun c k p => by omega) g9) hr
  have ml2 : MLog h2 n lg := MLog_c (ag_sub (fun c k p => by omega) g9) ml
  obtain ⟨a, rfl⟩ : ∃ a : Nat, a2 = (a : Int) := ⟨a2.toNat, by omega⟩
  obtain ⟨b, rfl⟩ : ∃ b : Nat, a3 = (b : Int) := ⟨a3.toNat, by omega⟩
  have mm : ∀ K : Int → St → Prop, (¬ (exA n (ofA lg a a1) ∧ exA n (ofA lg b (a1 + 1))) → K (-4) h2) → (exA n (ofA lg a a1) ∧ exA n (ofA lg b (a1 + 1)) → ∀ h3, ag (fun c _ => c ≠ 131) h2 h3 → K (likA lg (fun c => (h1 58 (paA lg c)).toNat) n a1 a b) h3) → mwpI 40 m_M_like [vR 109, vI a1, vI a, vI b] h2 K := fun K k1 k2 => by
    refine mI_intro b_M_like rfl (s_M_like_0 (d := 37) a1 _ _ _ _ ⟨r1, fun q => absurd q1 q, fun _ => ⟨r2, fun q => absurd q2 q, fun _ => ⟨r3, fun _ => ?_, fun q => absurd q3 q⟩⟩⟩)
    refine c_M_sends ml2 vl r2 r1 ⟨b2i_R, fun z => k1 (fun q => b2i_eq0.mp z q.1), fun z => c_M_sends ml2 vl r3 ⟨by omega, by omega⟩ ⟨b2i_R, fun z2 => ?_, fun z2 => k1 (fun q => z2 (b2i_ne0.mpr q.2))⟩⟩
    refine c_M_handsOf (t := h 57 0) ml2 vl (by rw [g9 109 14 (by omega)]; exact t1.symm) t2 (fun h3 g3 hh3 => ?_)
    exact c_M_likeOf (fh := fun c => (h1 58 (paA lg c)).toNat) (MLog_c (ag_sub (fun c k p => by omega) g3) ml2) vl (fun c hc => by rw [isHand_uni hh3 hh c hc]; exact fe c hc) fb r2 r3 (by omega) (k2 ⟨b2i_ne0.mp (fun y => z y), b2i_ne0.mp z2⟩ h3 g3)
  have lr := likA_R (lg := lg) (fh := fun c => (h1 58 (paA lg c)).toNat) (n := n) (d := a1) (a := a) (b := b)
  have o1 := (s1 a (by omega)).2.1
  have o2 := (s2 b (by omega)).2.1
  have x1 := orB_0 (S := onS lg a1 a) (v := wvA lg) n
  have x2 := orB_0 (S := onS lg (a1 + 1) b) (v := wvA lg) n
  refine c_Senders_sends_60 (by omega) o1 (orB_lt (m := 8) n (wv8 vl)) ⟨b2i_R, fun z => ?_, fun z => c_Senders_sends_65 (by omega) o2 (orB_lt (m := 8) n (wv8 vl)) ⟨b2i_R, fun z2 => ?_, fun z2 => ?_⟩⟩
  · have no : ¬ exA n (onS lg a1 a) := fun q => b2i_eq0.mp z (x1.mpr q)
    exact mm _ (fun _ => k _ _ (by decide) hr2) (fun q => absurd q.1 no)
  · have y1 : exA n (onS lg a1 a) := x1.mp (b2i_ne0.mp (fun y => z y))
    have y2 : exA n (onS lg (a1 + 1) b) := x2.mp (b2i_ne0.mp z2)
    refine c_Senders_likeTo vl fb s1 s2 (by omega) (by omega) ?_
    exact mm _ (fun q => absurd ⟨y1, y2⟩ q) (fun _ h3 g3 => k _ _ ⟨by omega, by omega⟩ (Rel_c (ag_sub (fun c k p => by omega) g3) hr2))
  · have no : ¬ exA n (onS lg (a1 + 1) b) := fun q => z2 (b2i_ne0.mpr (x2.mpr q))
    exact mm _ (fun _ => k _ _ (by decide) hr2) (fun q => absurd q.2 no)
