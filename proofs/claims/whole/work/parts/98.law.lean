theorem law_wp (L : Nat) (xs : Nat → Int) (hL : L ≤ 3584) (hx : ∀ k, inR (xs k)) : wI 40 (m_law L xs) 18 [(0, vR 9999), (1, vR 0), (2, vR 109), (3, vI 0)] [] hF (fun z _ => z = 1) := sorry
