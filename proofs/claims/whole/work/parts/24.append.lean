theorem kp_le {h : St} {k j c cur curk : Nat} (hk : k ≤ 2) (hj : j < k) (hh : ∀ j, j < k → h c j ≤ kNext h c cur curk j k) : h c j ≤ h cur curk := by
  have h1 := hh j hj
  unfold kNext at h1
  by_cases q : j + 1 < k
  · rw [if_pos q] at h1
    have h2 := hh (j + 1) q
    unfold kNext at h2
    rw [if_neg (by omega)] at h2
    omega
  · rw [if_neg q] at h1
    exact h1
theorem kNext_mono {h h2 : St} {c cur curk j k : Nat} (hc : ∀ j, h2 c j = h c j) (hs : h cur curk ≤ h2 cur curk) : kNext h c cur curk j k ≤ kNext h2 c cur curk j k := by
  unfold kNext
  by_cases q : j + 1 < k
  · rw [if_pos q, if_pos q, hc]; exact Int.le_refl _
  · rw [if_neg q, if_neg q]; exact hs
theorem RKp_app {h h2 : St} (r : RKp h) (e0 : h2 0 14 = h 0 14) (e1 : h2 109 13 = h 109 13) (e5 : ∀ c j, 105 ≤ c → c ≤ 108 → h2 c j = h c j)
    (f0 : ∀ j, h2 110 (1 + j) = h 110 (1 + j)) (f1 : ∀ j, h2 117 (1 + j) = h 117 (1 + j)) (f2 : ∀ j, h2 119 (1 + j) = h 119 (1 + j)) (f3 : ∀ j, h2 121 (1 + j) = h 121 (1 + j))
    (g0 : h 1 6 ≤ h2 1 6) (g1 : h 85 8 ≤ h2 85 8) (g2 : h 96 0 ≤ h2 96 0) (g3 : h 96 1 ≤ h2 96 1)
    (i0 : ∀ c i : Nat, 111 ≤ c → c ≤ 116 → ((i : Int) < h 1 6 ∨ 60 ≤ i) → h2 c i = h c i) (i1 : ∀ i : Nat, ((i : Int) < 6 * h 85 8 ∨ 240 ≤ i) → h2 118 i = h 118 i) (i2 : ∀ i : Nat, ((i : Int) < 3 * h 96 0 ∨ 60 ≤ i) → h2 120 i = h 120 i) (i3 : ∀ i : Nat, ((i : Int) < h 96 1 ∨ 10 ≤ i) → h2 122 i = h 122 i) : RKp h2 := by
  obtain ⟨k, r1, r2, r3, r4⟩ := r
  refine ⟨k, e0.trans r1, e1.trans r2, r3, fun j hj => ?_⟩
  have l0 : h 105 j ≤ h 1 6 := kp_le r3 hj (fun j hj => (r4 j hj).1.2.2.1)
  have l1 : h 106 j ≤ h 85 8 := kp_le r3 hj (fun j hj => (r4 j hj).2.1.2.2.1)
  have l2 : h 107 j ≤ h 96 0 := kp_le r3 hj (fun j hj => (r4 j hj).2.2.1.2.2.1)
  have l3 : h 108 j ≤ h 96 1 := kp_le r3 hj (fun j hj => (r4 j hj).2.2.2.2.2.1)
  obtain ⟨⟨a1, a2, a3, a4⟩, ⟨b1, b2, b3, b4⟩, ⟨c1, c2, c3, c4⟩, ⟨d1, d2, d3, d4⟩⟩ := r4 j hj
  rw [e5 105 j (by omega) (by omega), e5 106 j (by omega) (by omega), e5 107 j (by omega) (by omega), e5 108 j (by omega) (by omega), f0, f1, f2, f3]
  refine ⟨⟨a1, a2, Int.le_trans a3 (kNext_mono (fun j => e5 105 j (by omega) (by omega)) g0), fun i hi => ?_⟩, ⟨b1, b2, Int.le_trans b3 (kNext_mono (fun j => e5 106 j (by omega) (by omega)) g1), fun i hi => ?_⟩, ⟨c1, c2, Int.le_trans c3 (kNext_mono (fun j => e5 107 j (by omega) (by omega)) g2), fun i hi => ?_⟩, ⟨d1, d2, Int.le_trans d3 (kNext_mono (fun j => e5 108 j (by omega) (by omega)) g3), fun i hi => ?_⟩⟩
  · have z := a4 i hi
    rw [i0 111 i (by omega) (by omega) (by omega), i0 112 i (by omega) (by omega) (by omega), i0 113 i (by omega) (by omega) (by omega), i0 114 i (by omega) (by omega) (by omega), i0 115 i (by omega) (by omega) (by omega), i0 116 i (by omega) (by omega) (by omega), i0 111 _ (by omega) (by omega) (by omega), i0 112 _ (by omega) (by omega) (by omega), i0 113 _ (by omega) (by omega) (by omega), i0 114 _ (by omega) (by omega) (by omega), i0 115 _ (by omega) (by omega) (by omega), i0 116 _ (by omega) (by omega) (by omega)]
    exact z
  · rw [i1 i (by omega), i1 _ (by omega)]; exact b4 i hi
  · rw [i2 i (by omega), i2 _ (by omega)]; exact c4 i hi
  · rw [i3 i (by omega), i3 _ (by omega)]; exact d4 i hi
theorem Rel_of {h h2 : St} (hr : Rel h) (c1 : RLog h2) (c6 : RBr h2) (c7 : RLs h2) (c8 : REv h2) (c9 : RKp h2) (a : ag (fun c k => dTxt c k ∨ dBk c k ∨ dTH c k ∨ dHr c k) h h2) : Rel h2 :=
  ⟨c1, RTxt_c (ag_sub (fun _ _ p => Or.inl p) a) hr.2.1, RBk_c (ag_sub (fun _ _ p => Or.inr (Or.inl p)) a) hr.2.2.1, RTH_c (ag_sub (fun _ _ p => Or.inr (Or.inr (Or.inl p))) a) hr.2.2.2.1, RHr_c (ag_sub (fun _ _ p => Or.inr (Or.inr (Or.inr p))) a) hr.2.2.2.2.1, c6, c7, c8, c9⟩
theorem P_event {KK : Int → Int → St → Prop} {h : St} (hr : Rel h) {a1 : Int} (r1 : inR a1) (k : ∀ z h2, inR z → Rel h2 → KK z z h2) : mwpI 40 m_C_event [vR 0, vI a1] h (fun z h1 => mwpI 40 m_M_event [vR 109, vI a1] h1 (fun z2 h2 => KK z z2 h2)) := by
  obtain ⟨c1, c2, c3, c4, c5, c6, c7, ⟨n, ev, v1, v2, v3⟩, c9⟩ := id hr
  have w1 := v1.1
  have w2 := v2.1
  have w3 := v1.2.1
  refine mI_intro b_C_event rfl (s_C_event_0 (d := 37) a1 h _ ⟨r1, fun q => ⟨⟨by omega, by omega⟩, fun q2 => ?_, fun q2 => ?_⟩, fun q => ?_⟩)
  · refine mI_intro b_Silence_addEvent rfl (s_Silence_addEvent_0 (d := 38) a1 h _ ⟨by omega, ?_⟩)
    rw [w1]
    have en : ((n : Int)).toNat = n := by omega
    rw [en]
    have e1 : up (up h 100 n a1) 96 1 (n + 1) 121 0 = n := by rw [up_ne (by omega), up_ne (by omega)]; exact w2
    refine mI_intro b_M_event rfl (s_M_event_0 (d := 37) a1 _ _ ⟨r1, fun _ => ?_, fun z => absurd q z⟩)
    rw [e1, en]
    refine ⟨⟨by omega, by omega⟩, fun _ => ⟨by omega, ?_⟩, fun z => absurd (by omega) z⟩
    have ag9 : ag (fun c k => ¬ dEv c k) h (up (up (up (up h 100 n a1) 96 1 (n + 1)) 122 n a1) 121 0 (n + 1)) := ag_up (by omega) (ag_up (by omega) (ag_up (by omega) (ag_up (by omega) ag_rfl)))
    refine k _ _ ⟨by omega, by omega⟩ (Rel_of hr (RLog_c (ag_sub (fun c k p => by omega) ag9) c1) (RBr_c (ag_sub (fun c k p => by omega) ag9) c6) (RLs_c (ag_sub (fun c k p => by omega) ag9) c7) ⟨n + 1, fun i => if i = n then a1 else ev i, ⟨?_, by omega, fun i hi => ?_⟩, ⟨?_, by omega, fun i hi => ?_⟩, fun i hi => ?_⟩ ?_ (ag_sub (fun c k p => by omega) ag9))
    · simp [up]
    · by_cases e : i = n
      · subst e; simp [up]
      · have := v1.2.2 i (by omega)
        simp [up, e, this]
    · simp [up]
    · by_cases e : i = n
      · subst e; simp [up]
      · have := v2.2.2 i (by omega)
        simp [up, e, this]
    · by_cases e : i = n
      · subst e; simpa using q
      · have := v3 i (by omega)
        simp [e]
        omega
    · refine RKp_app c9 (ag9 _ _ (by omega)) (ag9 _ _ (by omega)) (fun c j g1 g2 => ag9 _ _ (by omega)) (fun j => ag9 _ _ (by omega)) (fun j => ag9 _ _ (by omega)) (fun j => ag9 _ _ (by omega)) (fun j => ?_) (Int.le_of_eq (ag9 _ _ (by omega)).symm) (Int.le_of_eq (ag9 _ _ (by omega)).symm) (Int.le_of_eq (ag9 _ _ (by omega)).symm) ?_ (fun c i g1 g2 _ => ag9 _ _ (by omega)) (fun i _ => ag9 _ _ (by omega)) (fun i _ => ag9 _ _ (by omega)) (fun i g => ?_)
      · rw [up_ne (by omega), up_ne (by omega), up_ne (by omega), up_ne (by omega)]
      · simp [up]; omega
      · rw [up_ne (by omega), up_ne (by omega), up_ne (by omega), up_ne (by omega)]
  · refine mI_intro b_M_event rfl (s_M_event_0 (d := 37) a1 _ _ ⟨r1, fun _ => ⟨⟨by omega, by omega⟩, fun z => absurd (by omega) z, fun _ => k _ _ (by decide) hr⟩, fun z => absurd q z⟩)
  · refine mI_intro b_M_event rfl (s_M_event_0 (d := 37) a1 _ _ ⟨r1, fun z => absurd z q, fun _ => k _ _ (by decide) hr⟩)
