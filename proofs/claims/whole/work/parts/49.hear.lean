theorem C_hear_60_27 {D : Nat} {K : St → Prop} {n : Nat} {lg : Nat → Nat → Int} {fh : Nat → Nat} {d : Int} (vl : VLog n lg) (r2 : inR d) (fb : ∀ c, c < n → fh c < 60) : ∀ (r c : Nat) (h : St), c + r = n → CLog h n lg → (∀ c, c < n → h 58 (paA lg c) = ((fh c : Nat) : Int)) → Snd60 h lg fh n d c → (∀ h2, ag (fun c k => ¬ (c = 60 ∧ k = 1) ∧ c ≠ 61 ∧ c ≠ 62 ∧ c ≠ 63 ∧ c ≠ 64) h h2 → Snd60 h2 lg fh n d n → h2 60 1 = ((cS (fun a => exA n (onS lg d a)) 12 : Nat) : Int) → (∀ b, b < 12 → exA n (onS lg d b) → h2 61 (cS (fun a => exA n (onS lg d a)) b) = b) → K h2) → wV (D + 1) m_Senders_hear 27 [(0, vR 60), (1, vR 1), (2, vR 57), (3, vI d), (4, vI (c : Int))] [] h K := by
  intro r
  induction r with
  | zero =>
    intro c h hc cl hf sn k
    have hn := cl.2.1
    have h8 := cl.1
    have e : c = n := by omega
    subst e
    refine s_Senders_hear_27 _ _ h K ⟨⟨by omega, by omega⟩, ⟨by omega, by omega⟩, fun _ => ?_, fun z => absurd (by omega) z⟩
    refine C_hear_60_130 (h0 := up h 60 1 0) (S := fun a => exA c (onS lg d a)) (bt := fun a => orB (onS lg d a) (wvA lg) c) (fun h2 g2 s2 n2 => k h2 (ag_trans (ag_up (by omega) ag_rfl) (ag_sub (fun c k p => by omega) g2)) (fun a ha => ?_) s2 n2) (fun a ha => ⟨?_, orB_0 c⟩) 12 0 _ (by omega) ag_rfl (fun b hb => by rw [up_ne (by omega)]; exact (sn b hb).2.1) (by rw [up_same]; rfl) (fun b hb => absurd hb (Nat.not_lt_zero b))
    · rw [g2 62 a (by omega), g2 63 a (by omega), g2 64 a (by omega), up_ne (by omega), up_ne (by omega), up_ne (by omega)]
      exact sn a ha
    · exact orB_lt (m := 8) c (fun i hi => by have := (vl i hi).2.2.2.2.2.1; unfold wvA; omega)
  | succ r ih =>
    intro c h hc cl hf sn k
    have hn := cl.2.1
    have h8 := cl.1
    have hc2 : c < n := by omega
    obtain ⟨a0, a1, a2, a3, a4, a5⟩ := CLog_at cl hc2
    have q1 := vl c hc2
    refine s_Senders_hear_27 _ _ h K ⟨⟨by omega, by omega⟩, ⟨by omega, by omega⟩, fun z => by omega, fun _ => c_CallLog_isOn cl vl hc2 r2 r2 ⟨b2i_R, fun z => ?_, fun z => ⟨by omega, ?_, c_Hands_handOf cl vl hc2 ⟨?_, ?_⟩⟩⟩⟩
    · have no : ∀ a, ¬ onS lg d a c := fun a q => b2i_eq0.mp z (onD_of.mpr q.2)
      refine ih (c + 1) h (by omega) cl hf (fun a ha => ?_) k
      rw [show orB (onS lg d a) fh (c + 1) = orB (onS lg d a) fh c from nif_f (no a), show orB (onS lg d a) (wvA lg) (c + 1) = orB (onS lg d a) (wvA lg) c from nif_f (no a), show orB (onS lg d a) (hrA lg) (c + 1) = orB (onS lg d a) (hrA lg) c from nif_f (no a)]
      exact sn a ha
    · rw [Int.toNat_natCast, a0]; omega
    · rw [Int.toNat_natCast, a2]; exact ⟨by omega, by omega⟩
    · have od : (lg 2 c).tdiv 24 = d := onD_of.mp (b2i_ne0.mp z)
      have hs : (lg 0 c).toNat < 12 := by omega
      obtain ⟨n1, n2, n3⟩ := sn (lg 0 c).toNat hs
      have hr := hrA_R vl hc2
      have hh := fb c hc2
      have b1 : orB (onS lg d (lg 0 c).toNat) fh c < 2 ^ 60 := orB_lt c (fun i hi => fb i (by omega))
      have b2 : orB (onS lg d (lg 0 c).toNat) (wvA lg) c < 2 ^ 8 := orB_lt c (fun i hi => by have := (vl i (by omega)).2.2.2.2.2.1; unfold wvA; omega)
      have b3 : orB (onS lg d (lg 0 c).toNat) (hrA lg) c < 2 ^ 24 := orB_lt c (fun i hi => (hrA_R vl (show i < n by omega)).2)
      have p1 := p2_60 (fh c) hh
      have w8 : wvA lg c < 8 := by unfold wvA; omega
      have p2 := p2_8 (wvA lg c) w8
      have p3 := p2_24 (hrA lg c) hr.2
      rw [Int.toNat_natCast, a0, a2, a4, n1, n2, n3, hf c hc2, hr.1, show lg 4 c = ((wvA lg c : Nat) : Int) by unfold wvA; omega, shl_1 (by omega), shl_1 (by omega), shl_1L (by omega), or6_nat (by omega) (by omega), or3_nat (by omega) (by omega), or3_nat (by omega) (by omega)]
      refine ih (c + 1) _ (by omega) (CLog_c (ag_up (by omega) (ag_up (by omega) (ag_up (by omega) ag_rfl))) cl) (fun i hi => by rw [up_ne (by omega), up_ne (by omega), up_ne (by omega)]; exact hf i hi) (fun a ha => ?_) (fun h2 g2 => k h2 (ag_trans (ag_up (by omega) (ag_up (by omega) (ag_up (by omega) ag_rfl))) g2))
      by_cases q : a = (lg 0 c).toNat
      · subst q
        have os : onS lg d (lg 0 c).toNat c := ⟨by omega, od⟩
        refine ⟨?_, ?_, ?_⟩
        · rw [up_ne (by omega), up_ne (by omega), up_same, show orB (onS lg d (lg 0 c).toNat) fh (c + 1) = (orB (onS lg d (lg 0 c).toNat) fh c ||| 2 ^ fh c) from nif_t os]
        · rw [up_ne (by omega), up_same, show orB (onS lg d (lg 0 c).toNat) (wvA lg) (c + 1) = (orB (onS lg d (lg 0 c).toNat) (wvA lg) c ||| 2 ^ wvA lg c) from nif_t os]
        · rw [up_same, show orB (onS lg d (lg 0 c).toNat) (hrA lg) (c + 1) = (orB (onS lg d (lg 0 c).toNat) (hrA lg) c ||| 2 ^ hrA lg c) from nif_t os]
      · have no : ¬ onS lg d a c := fun y => q (by have := y.1; omega)
        obtain ⟨m1, m2, m3⟩ := sn a ha
        refine ⟨?_, ?_, ?_⟩
        · rw [up_ne (by omega), up_ne (by omega), up_ne (by omega), show orB (onS lg d a) fh (c + 1) = orB (onS lg d a) fh c from nif_f no]; exact m1
        · rw [up_ne (by omega), up_ne (by omega), up_ne (by omega), show orB (onS lg d a) (wvA lg) (c + 1) = orB (onS lg d a) (wvA lg) c from nif_f no]; exact m2
        · rw [up_ne (by omega), up_ne (by omega), up_ne (by omega), show orB (onS lg d a) (hrA lg) (c + 1) = orB (onS lg d a) (hrA lg) c from nif_f no]; exact m3
theorem c_Senders_hear_60 {D : Nat} {K : St → Prop} {n : Nat} {lg : Nat → Nat → Int} {fh : Nat → Nat} {d : Int} {h : St} (cl : CLog h n lg) (vl : VLog n lg) (r2 : inR d) (hf : ∀ c, c < n → h 58 (paA lg c) = ((fh c : Nat) : Int)) (fb : ∀ c, c < n → fh c < 60) (k : ∀ h2, ag (fun c k => ¬ (c = 60 ∧ k = 1) ∧ c ≠ 61 ∧ c ≠ 62 ∧ c ≠ 63 ∧ c ≠ 64) h h2 → Snd60 h2 lg fh n d n → h2 60 1 = ((cS (fun a => exA n (onS lg d a)) 12 : Nat) : Int) → (∀ b, b < 12 → exA n (onS lg d b) → h2 61 (cS (fun a => exA n (onS lg d a)) b) = b) → K h2) : mwpV (D + 2) m_Senders_hear [vR 60, vR 1, vR 57, vI d] h K := by
  refine mV_intro b_Senders_hear rfl (s_Senders_hear_0 (d := D) _ h K (c_JA_fillJ (len := 12) rfl (by decide) (c_JA_fill (len := 12) rfl (by decide) (c_JA_fill (len := 12) rfl (by decide) ?_))))
  refine C_hear_60_27 vl r2 fb n 0 _ (by omega) (CLog_c (ag_fill (by omega) (ag_fill (by omega) (ag_fill (by omega) ag_rfl))) cl) (fun c hc => by rw [fillC_out (by decide), fillC_out (by decide), fillC_out (by decide)]; exact hf c hc) (fun a ha => ⟨?_, ?_, ?_⟩) (fun h2 g2 => k h2 (ag_trans (ag_fill (by omega) (ag_fill (by omega) (ag_fill (by omega) ag_rfl))) g2))
  · rw [fillC_out (by decide), fillC_out (by decide), fillC_in ha]; rfl
  · rw [fillC_out (by decide), fillC_in ha]; rfl
  · rw [fillC_in ha]; rfl
theorem C_hear_65_27 {D : Nat} {K : St → Prop} {n : Nat} {lg : Nat → Nat → Int} {fh : Nat → Nat} {d : Int} (vl : VLog n lg) (r2 : inR d) (fb : ∀ c, c < n → fh c < 60) : ∀ (r c : Nat) (h : St), c + r = n → CLog h n lg → (∀ c, c < n → h 58 (paA lg c) = ((fh c : Nat) : Int)) → Snd65 h lg fh n d c → (∀ h2, ag (fun c k => ¬ (c = 65 ∧ k = 1) ∧ c ≠ 66 ∧ c ≠ 67 ∧ c ≠ 68 ∧ c ≠ 69) h h2 → Snd65 h2 lg fh n d n → h2 65 1 = ((cS (fun a => exA n (onS lg d a)) 12 : Nat) : Int) → (∀ b, b < 12 → exA n (onS lg d b) → h2 66 (cS (fun a => exA n (onS lg d a)) b) = b) → K h2) → wV (D + 1) m_Senders_hear 27 [(0, vR 65), (1, vR 1), (2, vR 57), (3, vI d), (4, vI (c : Int))] [] h K := by
  intro r
  induction r with
  | zero =>
    intro c h hc cl hf sn k
    have hn := cl.2.1
    have h8 := cl.1
    have e : c = n := by omega
    subst e
    refine s_Senders_hear_65_27 _ _ h K ⟨⟨by omega, by omega⟩, ⟨by omega, by omega⟩, fun _ => ?_, fun z => absurd (by omega) z⟩
    refine C_hear_65_130 (h0 := up h 65 1 0) (S := fun a => exA c (onS lg d a)) (bt := fun a => orB (onS lg d a) (wvA lg) c) (fun h2 g2 s2 n2 => k h2 (ag_trans (ag_up (by omega) ag_rfl) (ag_sub (fun c k p => by omega) g2)) (fun a ha => ?_) s2 n2) (fun a ha => ⟨?_, orB_0 c⟩) 12 0 _ (by omega) ag_rfl (fun b hb => by rw [up_ne (by omega)]; exact (sn b hb).2.1) (by rw [up_same]; rfl) (fun b hb => absurd hb (Nat.not_lt_zero b))
    · rw [g2 67 a (by omega), g2 68 a (by omega), g2 69 a (by omega), up_ne (by omega), up_ne (by omega), up_ne (by omega)]
      exact sn a ha
    · exact orB_lt (m := 8) c (fun i hi => by have := (vl i hi).2.2.2.2.2.1; unfold wvA; omega)
  | succ r ih =>
    intro c h hc cl hf sn k
    have hn := cl.2.1
    have h8 := cl.1
    have hc2 : c < n := by omega
    obtain ⟨a0, a1, a2, a3, a4, a5⟩ := CLog_at cl hc2
    have q1 := vl c hc2
    refine s_Senders_hear_65_27 _ _ h K ⟨⟨by omega, by omega⟩, ⟨by omega, by omega⟩, fun z => by omega, fun _ => c_CallLog_isOn cl vl hc2 r2 r2 ⟨b2i_R, fun z => ?_, fun z => ⟨by omega, ?_, c_Hands_handOf cl vl hc2 ⟨?_, ?_⟩⟩⟩⟩
    · have no : ∀ a, ¬ onS lg d a c := fun a q => b2i_eq0.mp z (onD_of.mpr q.2)
      refine ih (c + 1) h (by omega) cl hf (fun a ha => ?_) k
      rw [show orB (onS lg d a) fh (c + 1) = orB (onS lg d a) fh c from nif_f (no a), show orB (onS lg d a) (wvA lg) (c + 1) = orB (onS lg d a) (wvA lg) c from nif_f (no a), show orB (onS lg d a) (hrA lg) (c + 1) = orB (onS lg d a) (hrA lg) c from nif_f (no a)]
      exact sn a ha
    · rw [Int.toNat_natCast, a0]; omega
    · rw [Int.toNat_natCast, a2]; exact ⟨by omega, by omega⟩
    · have od : (lg 2 c).tdiv 24 = d := onD_of.mp (b2i_ne0.mp z)
      have hs : (lg 0 c).toNat < 12 := by omega
      obtain ⟨n1, n2, n3⟩ := sn (lg 0 c).toNat hs
      have hr := hrA_R vl hc2
      have hh := fb c hc2
      have b1 : orB (onS lg d (lg 0 c).toNat) fh c < 2 ^ 60 := orB_lt c (fun i hi => fb i (by omega))
      have b2 : orB (onS lg d (lg 0 c).toNat) (wvA lg) c < 2 ^ 8 := orB_lt c (fun i hi => by have := (vl i (by omega)).2.2.2.2.2.1; unfold wvA; omega)
      have b3 : orB (onS lg d (lg 0 c).toNat) (hrA lg) c < 2 ^ 24 := orB_lt c (fun i hi => (hrA_R vl (show i < n by omega)).2)
      have p1 := p2_60 (fh c) hh
      have w8 : wvA lg c < 8 := by unfold wvA; omega
      have p2 := p2_8 (wvA lg c) w8
      have p3 := p2_24 (hrA lg c) hr.2
      rw [Int.toNat_natCast, a0, a2, a4, n1, n2, n3, hf c hc2, hr.1, show lg 4 c = ((wvA lg c : Nat) : Int) by unfold wvA; omega, shl_1 (by omega), shl_1 (by omega), shl_1L (by omega), or6_nat (by omega) (by omega), or3_nat (by omega) (by omega), or3_nat (by omega) (by omega)]
      refine ih (c + 1) _ (by omega) (CLog_c (ag_up (by omega) (ag_up (by omega) (ag_up (by omega) ag_rfl))) cl) (fun i hi => by rw [up_ne (by omega), up_ne (by omega), up_ne (by omega)]; exact hf i hi) (fun a ha => ?_) (fun h2 g2 => k h2 (ag_trans (ag_up (by omega) (ag_up (by omega) (ag_up (by omega) ag_rfl))) g2))
      by_cases q : a = (lg 0 c).toNat
      · subst q
        have os : onS lg d (lg 0 c).toNat c := ⟨by omega, od⟩
        refine ⟨?_, ?_, ?_⟩
        · rw [up_ne (by omega), up_ne (by omega), up_same, show orB (onS lg d (lg 0 c).toNat) fh (c + 1) = (orB (onS lg d (lg 0 c).toNat) fh c ||| 2 ^ fh c) from nif_t os]
        · rw [up_ne (by omega), up_same, show orB (onS lg d (lg 0 c).toNat) (wvA lg) (c + 1) = (orB (onS lg d (lg 0 c).toNat) (wvA lg) c ||| 2 ^ wvA lg c) from nif_t os]
        · rw [up_same, show orB (onS lg d (lg 0 c).toNat) (hrA lg) (c + 1) = (orB (onS lg d (lg 0 c).toNat) (hrA lg) c ||| 2 ^ hrA lg c) from nif_t os]
      · have no : ¬ onS lg d a c := fun y => q (by have := y.1; omega)
        obtain ⟨m1, m2, m3⟩ := sn a ha
        refine ⟨?_, ?_, ?_⟩
        · rw [up_ne (by omega), up_ne (by omega), up_ne (by omega), show orB (onS lg d a) fh (c + 1) = orB (onS lg d a) fh c from nif_f no]; exact m1
        · rw [up_ne (by omega), up_ne (by omega), up_ne (by omega), show orB (onS lg d a) (wvA lg) (c + 1) = orB (onS lg d a) (wvA lg) c from nif_f no]; exact m2
        · rw [up_ne (by omega), up_ne (by omega), up_ne (by omega), show orB (onS lg d a) (hrA lg) (c + 1) = orB (onS lg d a) (hrA lg) c from nif_f no]; exact m3
theorem c_Senders_hear_65 {D : Nat} {K : St → Prop} {n : Nat} {lg : Nat → Nat → Int} {fh : Nat → Nat} {d : Int} {h : St} (cl : CLog h n lg) (vl : VLog n lg) (r2 : inR d) (hf : ∀ c, c < n → h 58 (paA lg c) = ((fh c : Nat) : Int)) (fb : ∀ c, c < n → fh c < 60) (k : ∀ h2, ag (fun c k => ¬ (c = 65 ∧ k = 1) ∧ c ≠ 66 ∧ c ≠ 67 ∧ c ≠ 68 ∧ c ≠ 69) h h2 → Snd65 h2 lg fh n d n → h2 65 1 = ((cS (fun a => exA n (onS lg d a)) 12 : Nat) : Int) → (∀ b, b < 12 → exA n (onS lg d b) → h2 66 (cS (fun a => exA n (onS lg d a)) b) = b) → K h2) : mwpV (D + 2) m_Senders_hear [vR 65, vR 1, vR 57, vI d] h K := by
  refine mV_intro b_Senders_hear rfl (s_Senders_hear_65_0 (d := D) _ h K (c_JA_fillJ (len := 12) rfl (by decide) (c_JA_fill (len := 12) rfl (by decide) (c_JA_fill (len := 12) rfl (by decide) ?_))))
  refine C_hear_65_27 vl r2 fb n 0 _ (by omega) (CLog_c (ag_fill (by omega) (ag_fill (by omega) (ag_fill (by omega) ag_rfl))) cl) (fun c hc => by rw [fillC_out (by decide), fillC_out (by decide), fillC_out (by decide)]; exact hf c hc) (fun a ha => ⟨?_, ?_, ?_⟩) (fun h2 g2 => k h2 (ag_trans (ag_fill (by omega) (ag_fill (by omega) (ag_fill (by omega) ag_rfl))) g2))
  · rw [fillC_out (by decide), fillC_out (by decide), fillC_in ha]; rfl
  · rw [fillC_out (by decide), fillC_in ha]; rfl
  · rw [fillC_in ha]; rfl
