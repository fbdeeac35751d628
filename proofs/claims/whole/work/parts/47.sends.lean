theorem s_M_isOf_0 {d : Nat}  (x1 x2 x3 : Int) (h : St) (K : Int → St → Prop) (F : (0 ≤ x1 ∧ x1 < 180) ∧ (((inR (h 111 x1.toNat)) ∧ (inR x2) ∧ (¬ ((h 111 x1.toNat) ≠ x2) → ((inR (h 113 x1.toNat)) ∧ (inR ((h 113 x1.toNat).tdiv 24)) ∧ (inR x3))))) ∧ (K (b2i (¬ ((h 111 x1.toNat) ≠ x2) ∧ (¬ (((h 113 x1.toNat).tdiv 24) ≠ x3)))) h)) : wI d m_M_isOf 0 [(0, vR 109), (1, vI x1), (2, vI x2), (3, vI x3)] [] h K := by
  refine w_aload_n rfl rfl ?_
  refine w_getR rfl f_M_13 rfl rfl rfl rfl rfl ?_
  refine w_iload_n rfl rfl ?_
  obtain ⟨b1, F⟩ := F
  refine w_iaload rfl rfl rfl b1 ?_
  refine w_iload_n rfl rfl ?_
  obtain ⟨G, F⟩ := F
  have J : ∀ (t9 : Int), t9 = b2i (¬ ((h 111 x1.toNat) ≠ x2) ∧ (¬ (((h 113 x1.toNat).tdiv 24) ≠ x3))) → wI d m_M_isOf 28 [(0, vR 109), (1, vI x1), (2, vI x2), (3, vI x3)] [vI t9] h K := by
    intro t9 et9
    subst et9
    exact w_zret rfl rfl b2i_01 ⟨rfl, rfl, _, rfl, F⟩
  obtain ⟨b2, b3, gb_⟩ := G
  refine w_icmp_ne (tgt := 27) rfl (by decide) ⟨b2, b3⟩ (fun q4 => ?_) (fun q4 => ?_)
  · refine w_iconst rfl ?_
    exact J _ (b2i_f (fun z => z.1 q4)).symm
  · have G := gb_ q4
    obtain ⟨b5, b6, b7⟩ := G
    refine w_aload_n rfl rfl ?_
    refine w_getR rfl f_M_19 rfl rfl rfl rfl rfl ?_
    refine w_iload_n rfl rfl ?_
    refine w_iaload rfl rfl rfl b1 ?_
    refine w_bipush (by decide) (by decide) rfl ?_
    refine w_idiv ⟨b5, (r_lit rfl), (by decide)⟩ rfl ?_
    refine w_iload_n rfl rfl ?_
    refine w_icmp_ne (tgt := 27) rfl (by decide) ⟨b6, b7⟩ (fun q8 => ?_) (fun q8 => ?_)
    · refine w_iconst rfl ?_
      exact J _ (b2i_f (fun z => (fun z => z q8) z.2)).symm
    · refine w_iconst rfl ?_
      refine w_goto (tgt := 28) rfl (by decide) ?_
      exact J _ (b2i_t ⟨q4, q8⟩).symm
theorem s_M_sends_0 {d : Nat}  (x1 x2 : Int) (h : St) (K : Int → St → Prop) (F : (wI (d + 1) m_M_sends 5 [(0, vR 109), (1, vI x1), (2, vI x2), (3, vI 0), (4, vI 0)] [] h K)) : wI (d + 1) m_M_sends 0 [(0, vR 109), (1, vI x1), (2, vI x2)] [] h K := by
  refine w_iconst rfl ?_
  refine w_istore_n rfl rfl rfl rfl (w_ls (ls2 := [(0, vR 109), (1, vI x1), (2, vI x2), (3, vI 0)]) rfl ?_)
  refine w_iconst rfl ?_
  refine w_istore rfl rfl rfl rfl (w_ls (ls2 := [(0, vR 109), (1, vI x1), (2, vI x2), (3, vI 0), (4, vI 0)]) rfl ?_)
  exact F
theorem s_M_sends_5 {d : Nat}  (x1 x2 x3 x4 : Int) (h : St) (K : Int → St → Prop) (F : (inR x4) ∧ (inR (h 110 0)) ∧ (((h 110 0) ≤ x4 → (x3 = 0 ∨ x3 = 1) ∧ (K x3 h)) ∧ (¬ ((h 110 0) ≤ x4) → (inR x3) ∧ ((x3 ≠ 0 → (wI (d + 1) m_M_sends 5 [(0, vR 109), (1, vI x1), (2, vI x2), (3, vI 1), (4, vI (x4 + 1))] [] h K)) ∧ (¬ (x3 ≠ 0) → (mwpI (d + 1) m_M_isOf [vR 109, vI x4, vI x1, vI x2] h (fun z7 h7 => (((inR z7))) ∧ (wI (d + 1) m_M_sends 5 [(0, vR 109), (1, vI x1), (2, vI x2), (3, vI (b2i (¬ (z7 = 0)))), (4, vI (x4 + 1))] [] h7 K)))))))) : wI (d + 1) m_M_sends 5 [(0, vR 109), (1, vI x1), (2, vI x2), (3, vI x3), (4, vI x4)] [] h K := by
  refine w_iload rfl rfl ?_
  refine w_aload_n rfl rfl ?_
  refine w_getR rfl f_M_7 rfl rfl rfl rfl rfl ?_
  refine w_iconst rfl ?_
  refine w_iaload rfl rfl rfl ⟨by decide, by decide⟩ ?_
  obtain ⟨b1, F⟩ := F
  obtain ⟨b2, F⟩ := F
  refine w_icmp_ge (tgt := 43) rfl (by decide) ⟨b1, b2⟩ (fun q3 => ?_) (fun q3 => ?_)
  · replace F := F.1 q3
    refine w_iload_n rfl rfl ?_
    obtain ⟨b4, F⟩ := F
    exact w_zret rfl rfl b4 ⟨rfl, rfl, _, rfl, F⟩
  · replace F := F.2 q3
    refine w_iload_n rfl rfl ?_
    obtain ⟨b5, F⟩ := F
    refine w_if_ne (tgt := 31) rfl (by decide) b5 (fun q6 => ?_) (fun q6 => ?_)
    · replace F := F.1 q6
      refine w_iconst rfl ?_
      refine w_goto (tgt := 36) rfl (by decide) ?_
      refine w_istore_n rfl rfl rfl rfl (w_ls (ls2 := [(0, vR 109), (1, vI x1), (2, vI x2), (3, vI 1), (4, vI x4)]) rfl ?_)
      refine w_iinc rfl rfl rfl rfl rfl (w_ls (ls2 := [(0, vR 109), (1, vI x1), (2, vI x2), (3, vI 1), (4, vI (x4 + 1))]) rfl ?_)
      refine w_goto (tgt := 5) rfl (by decide) ?_
      exact F
    · replace F := F.2 q6
      refine w_aload_n rfl rfl ?_
      refine w_iload rfl rfl ?_
      refine w_iload_n rfl rfl ?_
      refine w_iload_n rfl rfl ?_
      refine c_VI [vI x4, vI x1, vI x2] [] rfl b_M_isOf k_M_203 rfl rfl rfl rfl rfl rfl (mwpI_mono (fun z7 h7 F => ?_) F)
      obtain ⟨G, F⟩ := F
      have J : ∀ (t10 : Int), t10 = b2i (¬ (z7 = 0)) → wI (d + 1) m_M_sends 36 [(0, vR 109), (1, vI x1), (2, vI x2), (3, vI x3), (4, vI x4)] [vI t10] h7 K := by
        intro t10 et10
        subst et10
        refine w_istore_n rfl rfl rfl rfl (w_ls (ls2 := [(0, vR 109), (1, vI x1), (2, vI x2), (3, vI (b2i (¬ (z7 = 0)))), (4, vI x4)]) rfl ?_)
        refine w_iinc rfl rfl rfl rfl rfl (w_ls (ls2 := [(0, vR 109), (1, vI x1), (2, vI x2), (3, vI (b2i (¬ (z7 = 0)))), (4, vI (x4 + 1))]) rfl ?_)
        refine w_goto (tgt := 5) rfl (by decide) ?_
        exact F
      have b8 := G
      refine w_if_eq (tgt := 35) rfl (by decide) b8 (fun q9 => ?_) (fun q9 => ?_)
      · refine w_iconst rfl ?_
        exact J _ (b2i_f (fun z => z q9)).symm
      · refine w_iconst rfl ?_
        refine w_goto (tgt := 36) rfl (by decide) ?_
        exact J _ (b2i_t q9).symm
def ofA (lg : Nat → Nat → Int) (nm d : Int) (c : Nat) : Prop := lg 0 c = nm ∧ (lg 2 c).tdiv 24 = d
section S47
variable {D : Nat} {h : St} {K : Int → St → Prop} {n : Nat} {lg : Nat → Nat → Int} {d nm : Int} {c : Nat}
theorem c_M_isOf (ml : MLog h n lg) (vl : VLog n lg) (hc : c < n) (r1 : inR nm) (r2 : inR d) (k : K (b2i (ofA lg nm d c)) h) : mwpI (D + 1) m_M_isOf [vR 109, vI c, vI nm, vI d] h K := by
  have hn := ml.2.1
  obtain ⟨a0, a1, a2, a3, a4, a5⟩ := ml.2.2 c hc
  have q1 := vl c hc
  have q2 := dayR vl hc
  refine mI_intro b_M_isOf rfl (s_M_isOf_0 (d := D) _ _ _ h K ?_)
  rw [Int.toNat_natCast, a0, a2]
  refine ⟨by omega, ⟨⟨by omega, by omega⟩, r1, fun _ => ⟨⟨by omega, by omega⟩, ⟨by omega, by omega⟩, r2⟩⟩, ?_⟩
  rw [b2i_congr (q := ofA lg nm d c) (by rw [Classical.not_not, Classical.not_not]; exact Iff.rfl)]
  exact k
theorem c_M_sends (ml : MLog h n lg) (vl : VLog n lg) (r1 : inR nm) (r2 : inR d) (k : K (b2i (exA n (ofA lg nm d))) h) : mwpI (D + 2) m_M_sends [vR 109, vI nm, vI d] h K := by
  have hn := ml.2.1
  have h8 := ml.1
  have lp : ∀ (r c : Nat), c + r = n → wI (D + 1) m_M_sends 5 [(0, vR 109), (1, vI nm), (2, vI d), (3, vI (b2i (exA c (ofA lg nm d)))), (4, vI (c : Int))] [] h K := by
    intro r
    induction r with
    | zero =>
      intro c hc
      have e : c = n := by omega
      subst e
      exact s_M_sends_5 _ _ _ _ h K ⟨⟨by omega, by omega⟩, ⟨by omega, by omega⟩, fun _ => ⟨b2i_01, k⟩, fun z => absurd (by omega) z⟩
    | succ r ih =>
      intro c hc
      have ih2 := ih (c + 1) (by omega)
      refine s_M_sends_5 _ _ _ _ h K ⟨⟨by omega, by omega⟩, ⟨by omega, by omega⟩, fun z => by omega, fun _ => ⟨b2i_R, fun z => ?_, fun z => c_M_isOf ml vl (by omega) r1 r2 ⟨b2i_R, ?_⟩⟩⟩
      · rw [o1 exA_s z] at ih2; exact ih2
      · rw [o2 exA_s z] at ih2
        rw [bb]
        exact ih2
  have q := lp n 0 (by omega)
  rw [b2i_f exA_0] at q
  exact mI_intro b_M_sends rfl (s_M_sends_0 (d := D) _ _ h K q)
end S47
