theorem and3_R {a b : Int} : inR (and3 a b) := ⟨by have := Int32.le_toInt (Int32.ofInt a &&& Int32.ofInt b); unfold and3; omega, by have := Int32.toInt_lt (Int32.ofInt a &&& Int32.ofInt b); unfold and3; omega⟩
theorem or6_L {a b : Int} : inL (or6 a b) := ⟨by have := Int64.le_toInt (Int64.ofInt a ||| Int64.ofInt b); unfold or6; omega, by have := Int64.toInt_lt (Int64.ofInt a ||| Int64.ofInt b); unfold or6; omega⟩
theorem law_loop (L : Nat) (xs : Nat → Int) (hL : L ≤ 3584) (hx : ∀ k, inR (xs k)) : ∀ (n : Nat) (i : Int) (h : St), 0 ≤ i → i ≤ 3600 → (L : Int) - 7 < i + 7 * n → Rel h → wI 40 (m_law L xs) 18 [(0, vR 9999), (1, vR 0), (2, vR 109), (3, vI i)] [] h (fun z _ => z = 1) := by
  intro n
  induction n with
  | zero =>
    intro i h h0 h1 h2 hr
    exact s_law_18 L xs i h _ ⟨⟨by omega, by omega⟩, ⟨by omega, by omega⟩, fun _ => rfl, fun q => absurd (by omega) q⟩
  | succ n ih =>
    intro i h h0 h1 h2 hr
    refine s_law_18 L xs i h _ ⟨⟨by omega, by omega⟩, ⟨by omega, by omega⟩, fun _ => rfl, fun q => ?_⟩
    have nx : ∀ h2, Rel h2 → wI 40 (m_law L xs) 1474 [(0, vR 9999), (1, vR 0), (2, vR 109), (3, vI i)] [] h2 (fun z _ => z = 1) := fun h2 hr2 => s_law_1474 L xs i h2 _ (ih (i + 7) h2 (by omega) (by omega) (by omega) hr2)
    refine ⟨⟨by omega, by omega⟩, and3_R, ?_, ?_, ?_, ?_, ?_, ?_, ?_, ?_, ?_, ?_, ?_, ?_, ?_, ?_, ?_, ?_, ?_, ?_, ?_, ?_, ?_, ?_, ?_, ?_, ?_, ?_, ?_, ?_, ?_, ?_, ?_, ?_, ?_, ?_, ?_, ?_, ?_⟩
    · exact fun _ => s_law_192 L xs i h _ ⟨⟨by omega, by omega⟩, ⟨by omega, by omega⟩, ⟨by omega, by omega⟩, ⟨by omega, by omega⟩, ⟨by omega, by omega⟩, ⟨by omega, by omega⟩, P_call hr (hx _) (hx _) (hx _) (hx _) (hx _) (hx _) (fun z h9 hz hr9 => ⟨hz, hz, fun _ => nx h9 hr9, fun q9 => absurd rfl q9⟩)⟩
    · exact fun _ => s_law_267 L xs i h _ ⟨⟨by omega, by omega⟩, ⟨by omega, by omega⟩, hx _, ⟨by omega, by omega⟩, hx _, P_write hr (hx _) or6_L (fun z h9 hz hr9 => ⟨hz, hz, fun _ => nx h9 hr9, fun q9 => absurd rfl q9⟩)⟩
    · exact fun _ => s_law_330 L xs i h _ (P_wipe hr  (fun z h9 hz hr9 => ⟨hz, hz, fun _ => nx h9 hr9, fun q9 => absurd rfl q9⟩))
    · exact fun _ => s_law_343 L xs i h _ (P_fault hr  (fun z h9 hz hr9 => ⟨hz, hz, fun _ => nx h9 hr9, fun q9 => absurd rfl q9⟩))
    · exact fun _ => s_law_356 L xs i h _ (P_take hr  (fun z h9 hz hr9 => ⟨hz, hz, fun _ => nx h9 hr9, fun q9 => absurd rfl q9⟩))
    · exact fun _ => s_law_369 L xs i h _ ⟨⟨by omega, by omega⟩, ⟨by omega, by omega⟩, P_name hr (hx _) (hx _) (fun z h9 hz hr9 => ⟨hz, hz, fun _ => nx h9 hr9, fun q9 => absurd rfl q9⟩)⟩
    · exact fun _ => s_law_402 L xs i h _ ⟨⟨by omega, by omega⟩, ⟨by omega, by omega⟩, P_post hr (hx _) (hx _) (fun z h9 hz hr9 => ⟨hz, hz, fun _ => nx h9 hr9, fun q9 => absurd rfl q9⟩)⟩
    · exact fun _ => s_law_435 L xs i h _ ⟨⟨by omega, by omega⟩, P_apart hr (hx _) (fun z h9 hz hr9 => ⟨hz, hz, fun _ => nx h9 hr9, fun q9 => absurd rfl q9⟩)⟩
    · exact fun _ => s_law_458 L xs i h _ ⟨⟨by omega, by omega⟩, P_hand hr (hx _) (fun z h9 hz hr9 => ⟨hz, hz, fun _ => nx h9 hr9, fun q9 => absurd rfl q9⟩)⟩
    · exact fun _ => s_law_481 L xs i h _ (P_hands hr  (fun z h9 hz hr9 => ⟨hz, hz, fun _ => nx h9 hr9, fun q9 => absurd rfl q9⟩))
    · exact fun _ => s_law_494 L xs i h _ ⟨⟨by omega, by omega⟩, ⟨by omega, by omega⟩, ⟨by omega, by omega⟩, P_odds hr (hx _) (hx _) (hx _) (fun z h9 hz hr9 => ⟨hz, hz, fun _ => nx h9 hr9, fun q9 => absurd rfl q9⟩)⟩
    · exact fun _ => s_law_537 L xs i h _ ⟨⟨by omega, by omega⟩, ⟨by omega, by omega⟩, ⟨by omega, by omega⟩, P_like hr (hx _) (hx _) (hx _) (fun z h9 hz hr9 => ⟨hz, hz, fun _ => nx h9 hr9, fun q9 => absurd rfl q9⟩)⟩
    · exact fun _ => s_law_580 L xs i h _ ⟨⟨by omega, by omega⟩, ⟨by omega, by omega⟩, ⟨by omega, by omega⟩, P_follow hr (hx _) (hx _) (hx _) (fun z h9 hz hr9 => ⟨hz, hz, fun _ => nx h9 hr9, fun q9 => absurd rfl q9⟩)⟩
    · exact fun _ => s_law_623 L xs i h _ ⟨⟨by omega, by omega⟩, P_sum hr (hx _) (fun z h9 hz hr9 => ⟨hz, hz, fun _ => nx h9 hr9, fun q9 => absurd rfl q9⟩)⟩
    · exact fun _ => s_law_646 L xs i h _ ⟨⟨by omega, by omega⟩, P_rules hr (hx _) (fun z h9 hz hr9 => ⟨hz, hz, fun _ => nx h9 hr9, fun q9 => absurd rfl q9⟩)⟩
    · exact fun _ => s_law_669 L xs i h _ ⟨⟨by omega, by omega⟩, ⟨by omega, by omega⟩, P_trace hr (hx _) (hx _) (fun z h9 hz hr9 => ⟨hz, hz, fun _ => nx h9 hr9, fun q9 => absurd rfl q9⟩)⟩
    · exact fun _ => s_law_702 L xs i h _ ⟨⟨by omega, by omega⟩, ⟨by omega, by omega⟩, P_held hr (hx _) (hx _) (fun z h9 hz hr9 => ⟨hz, hz, fun _ => nx h9 hr9, fun q9 => absurd rfl q9⟩)⟩
    · exact fun _ => s_law_735 L xs i h _ ⟨⟨by omega, by omega⟩, P_within hr (hx _) (fun z h9 hz hr9 => ⟨hz, hz, fun _ => nx h9 hr9, fun q9 => absurd rfl q9⟩)⟩
    · exact fun _ => s_law_758 L xs i h _ ⟨⟨by omega, by omega⟩, P_fate hr (hx _) (fun z h9 hz hr9 => ⟨hz, hz, fun _ => nx h9 hr9, fun q9 => absurd rfl q9⟩)⟩
    · exact fun _ => s_law_781 L xs i h _ ⟨⟨by omega, by omega⟩, ⟨by omega, by omega⟩, ⟨by omega, by omega⟩, ⟨by omega, by omega⟩, P_sign hr (hx _) (hx _) (hx _) (hx _) (fun z h9 hz hr9 => ⟨hz, hz, fun _ => nx h9 hr9, fun q9 => absurd rfl q9⟩)⟩
    · exact fun _ => s_law_834 L xs i h _ ⟨⟨by omega, by omega⟩, ⟨by omega, by omega⟩, ⟨by omega, by omega⟩, ⟨by omega, by omega⟩, P_tree hr (hx _) (hx _) (hx _) (hx _) (fun z h9 hz hr9 => ⟨hz, hz, fun _ => nx h9 hr9, fun q9 => absurd rfl q9⟩)⟩
    · exact fun _ => s_law_887 L xs i h _ ⟨⟨by omega, by omega⟩, ⟨by omega, by omega⟩, ⟨by omega, by omega⟩, P_lacks hr (hx _) (hx _) (hx _) (fun z h9 hz hr9 => ⟨hz, hz, fun _ => nx h9 hr9, fun q9 => absurd rfl q9⟩)⟩
    · exact fun _ => s_law_930 L xs i h _ ⟨⟨by omega, by omega⟩, ⟨by omega, by omega⟩, P_show hr (hx _) (hx _) (fun z h9 hz hr9 => ⟨hz, hz, fun _ => nx h9 hr9, fun q9 => absurd rfl q9⟩)⟩
    · exact fun _ => s_law_963 L xs i h _ ⟨⟨by omega, by omega⟩, ⟨by omega, by omega⟩, ⟨by omega, by omega⟩, P_hearer hr (hx _) (hx _) (hx _) (fun z h9 hz hr9 => ⟨hz, hz, fun _ => nx h9 hr9, fun q9 => absurd rfl q9⟩)⟩
    · exact fun _ => s_law_1006 L xs i h _ ⟨⟨by omega, by omega⟩, ⟨by omega, by omega⟩, ⟨by omega, by omega⟩, ⟨by omega, by omega⟩, ⟨by omega, by omega⟩, ⟨by omega, by omega⟩, P_bearing hr (hx _) (hx _) (hx _) (hx _) (hx _) (hx _) (fun z h9 hz hr9 => ⟨hz, hz, fun _ => nx h9 hr9, fun q9 => absurd rfl q9⟩)⟩
    · exact fun _ => s_law_1081 L xs i h _ ⟨⟨by omega, by omega⟩, ⟨by omega, by omega⟩, ⟨by omega, by omega⟩, P_patch hr (hx _) (hx _) (hx _) (fun z h9 hz hr9 => ⟨hz, hz, fun _ => nx h9 hr9, fun q9 => absurd rfl q9⟩)⟩
    · exact fun _ => s_law_1124 L xs i h _ ⟨⟨by omega, by omega⟩, ⟨by omega, by omega⟩, ⟨by omega, by omega⟩, ⟨by omega, by omega⟩, P_isIn hr (hx _) (hx _) (hx _) (hx _) (fun z h9 hz hr9 => ⟨hz, hz, fun _ => nx h9 hr9, fun q9 => absurd rfl q9⟩)⟩
    · exact fun _ => s_law_1177 L xs i h _ ⟨⟨by omega, by omega⟩, ⟨by omega, by omega⟩, ⟨by omega, by omega⟩, P_moved hr (hx _) (hx _) (hx _) (fun z h9 hz hr9 => ⟨hz, hz, fun _ => nx h9 hr9, fun q9 => absurd rfl q9⟩)⟩
    · exact fun _ => s_law_1220 L xs i h _ ⟨⟨by omega, by omega⟩, ⟨by omega, by omega⟩, ⟨by omega, by omega⟩, P_listen hr (hx _) (hx _) (hx _) (fun z h9 hz hr9 => ⟨hz, hz, fun _ => nx h9 hr9, fun q9 => absurd rfl q9⟩)⟩
    · exact fun _ => s_law_1263 L xs i h _ ⟨⟨by omega, by omega⟩, ⟨by omega, by omega⟩, ⟨by omega, by omega⟩, P_silent hr (hx _) (hx _) (hx _) (fun z h9 hz hr9 => ⟨hz, hz, fun _ => nx h9 hr9, fun q9 => absurd rfl q9⟩)⟩
    · exact fun _ => s_law_1306 L xs i h _ ⟨⟨by omega, by omega⟩, P_event hr (hx _) (fun z h9 hz hr9 => ⟨hz, hz, fun _ => nx h9 hr9, fun q9 => absurd rfl q9⟩)⟩
    · exact fun _ => s_law_1329 L xs i h _ ⟨⟨by omega, by omega⟩, ⟨by omega, by omega⟩, ⟨by omega, by omega⟩, P_ahead hr (hx _) (hx _) (hx _) (fun z h9 hz hr9 => ⟨hz, hz, fun _ => nx h9 hr9, fun q9 => absurd rfl q9⟩)⟩
    · exact fun _ => s_law_1372 L xs i h _ ⟨⟨by omega, by omega⟩, ⟨by omega, by omega⟩, ⟨by omega, by omega⟩, ⟨by omega, by omega⟩, P_waves hr (hx _) (hx _) (hx _) (hx _) (fun z h9 hz hr9 => ⟨hz, hz, fun _ => nx h9 hr9, fun q9 => absurd rfl q9⟩)⟩
    · exact fun _ => s_law_1425 L xs i h _ (P_keep hr  (fun z h9 hz hr9 => ⟨hz, hz, fun _ => nx h9 hr9, fun q9 => absurd rfl q9⟩))
    · exact fun _ => s_law_1438 L xs i h _ (P_back hr  (fun z h9 hz hr9 => ⟨hz, hz, fun _ => nx h9 hr9, fun q9 => absurd rfl q9⟩))
    · exact fun _ => s_law_1451 L xs i h _ ⟨⟨by omega, by omega⟩, P_count hr (hx _) (fun z h9 hz hr9 => ⟨hz, hz, fun _ => nx h9 hr9, fun q9 => absurd rfl q9⟩)⟩
    · exact fun _ => nx h hr
theorem law_wp (L : Nat) (xs : Nat → Int) (hL : L ≤ 3584) (hx : ∀ k, inR (xs k)) : wI 40 (m_law L xs) 18 [(0, vR 9999), (1, vR 0), (2, vR 109), (3, vI 0)] [] hF (fun z _ => z = 1) := law_loop L xs hL hx 600 0 hF (by decide) (by decide) (by omega) Rel_hF
