theorem s_M_handsOf_0 {d : Nat}  (h : St) (K : St → Prop) (F : (wV (d + 1) m_M_handsOf 2 [(0, vR 109), (1, vI 0)] [] h K)) : wV (d + 1) m_M_handsOf 0 [(0, vR 109)] [] h K := by
  refine w_iconst rfl ?_
  refine w_istore_n rfl rfl rfl rfl (w_ls (ls2 := [(0, vR 109), (1, vI 0)]) rfl ?_)
  exact F
theorem s_M_handsOf_2 {d : Nat}  (x1 : Int) (h : St) (K : St → Prop) (F : (inR x1) ∧ (inR (h 110 0)) ∧ (((h 110 0) ≤ x1 → (wV (d + 1) m_M_handsOf 27 [(0, vR 109), (1, vI 1)] [] h K)) ∧ (¬ ((h 110 0) ≤ x1) → (0 ≤ x1 ∧ x1 < 60) ∧ (wV (d + 1) m_M_handsOf 2 [(0, vR 109), (1, vI (x1 + 1))] [] (up h 131 x1.toNat x1) K)))) : wV (d + 1) m_M_handsOf 2 [(0, vR 109), (1, vI x1)] [] h K := by
  refine w_iload_n rfl rfl ?_
  refine w_aload_n rfl rfl ?_
  refine w_getR rfl f_M_7 rfl rfl rfl rfl rfl ?_
  refine w_iconst rfl ?_
  refine w_iaload rfl rfl rfl ⟨by decide, by decide⟩ ?_
  obtain ⟨b1, F⟩ := F
  obtain ⟨b2, F⟩ := F
  refine w_icmp_ge (tgt := 25) rfl (by decide) ⟨b1, b2⟩ (fun q3 => ?_) (fun q3 => ?_)
  · replace F := F.1 q3
    refine w_iconst rfl ?_
    refine w_istore_n rfl rfl rfl rfl (w_ls (ls2 := [(0, vR 109), (1, vI 1)]) rfl ?_)
    exact F
  · replace F := F.2 q3
    refine w_aload_n rfl rfl ?_
    refine w_getR rfl f_M_81 rfl rfl rfl rfl rfl ?_
    refine w_iload_n rfl rfl ?_
    refine w_iload_n rfl rfl ?_
    obtain ⟨b4, F⟩ := F
    refine w_iastore rfl rfl rfl b4 ?_
    refine w_iinc rfl rfl rfl rfl rfl (w_ls (ls2 := [(0, vR 109), (1, vI (x1 + 1))]) rfl ?_)
    refine w_goto (tgt := 2) rfl (by decide) ?_
    exact F
theorem s_M_handsOf_27 {d : Nat}  (x1 : Int) (h : St) (K : St → Prop) (F : (inR x1) ∧ ((x1 = 0 → (K h)) ∧ (¬ (x1 = 0) → (wV (d + 1) m_M_handsOf 35 [(0, vR 109), (1, vI 0), (2, vI 0)] [] h K)))) : wV (d + 1) m_M_handsOf 27 [(0, vR 109), (1, vI x1)] [] h K := by
  refine w_iload_n rfl rfl ?_
  obtain ⟨b1, F⟩ := F
  refine w_if_eq (tgt := 124) rfl (by decide) b1 (fun q2 => ?_) (fun q2 => ?_)
  · replace F := F.1 q2
    exact w_vret rfl rfl ⟨rfl, rfl, rfl, F⟩
  · replace F := F.2 q2
    refine w_iconst rfl ?_
    refine w_istore_n rfl rfl rfl rfl (w_ls (ls2 := [(0, vR 109), (1, vI 0)]) rfl ?_)
    refine w_iconst rfl ?_
    refine w_istore_n rfl rfl rfl rfl (w_ls (ls2 := [(0, vR 109), (1, vI 0), (2, vI 0)]) rfl ?_)
    exact F
theorem s_M_handsOf_35 {d : Nat}  (x1 x2 : Int) (h : St) (K : St → Prop) (F : (inR x2) ∧ (inR (h 110 0)) ∧ (((h 110 0) ≤ x2 → (wV (d + 1) m_M_handsOf 27 [(0, vR 109), (1, vI x1)] [] h K)) ∧ (¬ ((h 110 0) ≤ x2) → (wV (d + 1) m_M_handsOf 47 [(0, vR 109), (1, vI x1), (2, vI x2), (3, vI 0)] [] h K)))) : wV (d + 1) m_M_handsOf 35 [(0, vR 109), (1, vI x1), (2, vI x2)] [] h K := by
  refine w_iload_n rfl rfl ?_
  refine w_aload_n rfl rfl ?_
  refine w_getR rfl f_M_7 rfl rfl rfl rfl rfl ?_
  refine w_iconst rfl ?_
  refine w_iaload rfl rfl rfl ⟨by decide, by decide⟩ ?_
  obtain ⟨b1, F⟩ := F
  obtain ⟨b2, F⟩ := F
  refine w_icmp_ge (tgt := 121) rfl (by decide) ⟨b1, b2⟩ (fun q3 => ?_) (fun q3 => ?_)
  · replace F := F.1 q3
    refine w_goto (tgt := 27) rfl (by decide) ?_
    exact w_kp [0, 1] F
  · replace F := F.2 q3
    refine w_iconst rfl ?_
    refine w_istore_n rfl rfl rfl rfl (w_ls (ls2 := [(0, vR 109), (1, vI x1), (2, vI x2), (3, vI 0)]) rfl ?_)
    exact F
theorem s_M_handsOf_47 {d : Nat}  (x1 x2 x3 : Int) (h : St) (K : St → Prop) (F : (inR x3) ∧ (inR (h 110 0)) ∧ (((h 110 0) ≤ x3 → (wV (d + 1) m_M_handsOf 35 [(0, vR 109), (1, vI x1), (2, vI (x2 + 1))] [] h K)) ∧ (¬ ((h 110 0) ≤ x3) → (0 ≤ x2 ∧ x2 < 180) ∧ (0 ≤ x3 ∧ x3 < 180) ∧ (-2147483648 < ((h 116 x2.toNat) - (h 116 x3.toNat)) ∧ ((h 116 x2.toNat) - (h 116 x3.toNat)) < 2147483648) ∧ (inR ((((h 116 x2.toNat) - (h 116 x3.toNat)).natAbs : Int))) ∧ (inR (h 109 14)) ∧ (((h 109 14) < ((((h 116 x2.toNat) - (h 116 x3.toNat)).natAbs : Int)) → (wV (d + 1) m_M_handsOf 47 [(0, vR 109), (1, vI x1), (2, vI x2), (3, vI (x3 + 1))] [] h K)) ∧ (¬ ((h 109 14) < ((((h 116 x2.toNat) - (h 116 x3.toNat)).natAbs : Int))) → (0 ≤ x3 ∧ x3 < 60) ∧ (0 ≤ x2 ∧ x2 < 60) ∧ (inR (h 131 x3.toNat)) ∧ (inR (h 131 x2.toNat)) ∧ (((h 131 x2.toNat) ≤ (h 131 x3.toNat) → (wV (d + 1) m_M_handsOf 47 [(0, vR 109), (1, vI x1), (2, vI x2), (3, vI (x3 + 1))] [] h K)) ∧ (¬ ((h 131 x2.toNat) ≤ (h 131 x3.toNat)) → (wV (d + 1) m_M_handsOf 47 [(0, vR 109), (1, vI 1), (2, vI x2), (3, vI (x3 + 1))] [] (up h 131 x2.toNat (h 131 x3.toNat)) K)))))))) : wV (d + 1) m_M_handsOf 47 [(0, vR 109), (1, vI x1), (2, vI x2), (3, vI x3)] [] h K := by
  refine w_iload_n rfl rfl ?_
  refine w_aload_n rfl rfl ?_
  refine w_getR rfl f_M_7 rfl rfl rfl rfl rfl ?_
  refine w_iconst rfl ?_
  refine w_iaload rfl rfl rfl ⟨by decide, by decide⟩ ?_
  obtain ⟨b1, F⟩ := F
  obtain ⟨b2, F⟩ := F
  refine w_icmp_ge (tgt := 115) rfl (by decide) ⟨b1, b2⟩ (fun q3 => ?_) (fun q3 => ?_)
  · replace F := F.1 q3
    refine w_iinc rfl rfl rfl rfl rfl (w_ls (ls2 := [(0, vR 109), (1, vI x1), (2, vI (x2 + 1)), (3, vI x3)]) rfl ?_)
    refine w_goto (tgt := 35) rfl (by decide) ?_
    exact w_kp [0, 1, 2] F
  · replace F := F.2 q3
    refine w_aload_n rfl rfl ?_
    refine w_getR rfl f_M_28 rfl rfl rfl rfl rfl ?_
    refine w_iload_n rfl rfl ?_
    obtain ⟨b4, F⟩ := F
    refine w_iaload rfl rfl rfl b4 ?_
    refine w_aload_n rfl rfl ?_
    refine w_getR rfl f_M_28 rfl rfl rfl rfl rfl ?_
    refine w_iload_n rfl rfl ?_
    obtain ⟨b5, F⟩ := F
    refine w_iaload rfl rfl rfl b5 ?_
    refine w_isub rfl ?_
    obtain ⟨b6, F⟩ := F
    refine c_SI [vI ((h 116 x2.toNat) - (h 116 x3.toNat))] [] rfl b_M_size k_M_193 rfl rfl rfl (c_M_size b6 ?_)
    refine w_aload_n rfl rfl ?_
    refine w_getI rfl f_M_49 rfl rfl rfl ?_
    obtain ⟨b7, F⟩ := F
    obtain ⟨b8, F⟩ := F
    refine w_icmp_gt (tgt := 109) rfl (by decide) ⟨b7, b8⟩ (fun q9 => ?_) (fun q9 => ?_)
    · replace F := F.1 q9
      refine w_iinc rfl rfl rfl rfl rfl (w_ls (ls2 := [(0, vR 109), (1, vI x1), (2, vI x2), (3, vI (x3 + 1))]) rfl ?_)
      refine w_goto (tgt := 47) rfl (by decide) ?_
      exact F
    · replace F := F.2 q9
      refine w_aload_n rfl rfl ?_
      refine w_getR rfl f_M_81 rfl rfl rfl rfl rfl ?_
      refine w_iload_n rfl rfl ?_
      obtain ⟨b10, F⟩ := F
      refine w_iaload rfl rfl rfl b10 ?_
      refine w_aload_n rfl rfl ?_
      refine w_getR rfl f_M_81 rfl rfl rfl rfl rfl ?_
      refine w_iload_n rfl rfl ?_
      obtain ⟨b11, F⟩ := F
      refine w_iaload rfl rfl rfl b11 ?_
      obtain ⟨b12, F⟩ := F
      obtain ⟨b13, F⟩ := F
      refine w_icmp_ge (tgt := 109) rfl (by decide) ⟨b12, b13⟩ (fun q14 => ?_) (fun q14 => ?_)
      · replace F := F.1 q14
        refine w_iinc rfl rfl rfl rfl rfl (w_ls (ls2 := [(0, vR 109), (1, vI x1), (2, vI x2), (3, vI (x3 + 1))]) rfl ?_)
        refine w_goto (tgt := 47) rfl (by decide) ?_
        exact F
      · replace F := F.2 q14
        refine w_aload_n rfl rfl ?_
        refine w_getR rfl f_M_81 rfl rfl rfl rfl rfl ?_
        refine w_iload_n rfl rfl ?_
        refine w_aload_n rfl rfl ?_
        refine w_getR rfl f_M_81 rfl rfl rfl rfl rfl ?_
        refine w_iload_n rfl rfl ?_
        refine w_iaload rfl rfl rfl b10 ?_
        refine w_iastore rfl rfl rfl b11 ?_
        refine w_iconst rfl ?_
        refine w_istore_n rfl rfl rfl rfl (w_ls (ls2 := [(0, vR 109), (1, vI 1), (2, vI x2), (3, vI x3)]) rfl ?_)
        refine w_iinc rfl rfl rfl rfl rfl (w_ls (ls2 := [(0, vR 109), (1, vI 1), (2, vI x2), (3, vI (x3 + 1))]) rfl ?_)
        refine w_goto (tgt := 47) rfl (by decide) ?_
        exact F
theorem s_M_hand_0 {d : Nat}  (x1 : Int) (h : St) (K : Int → St → Prop) (F : (inR x1) ∧ (0 ≤ h 110 0 ∧ h 110 0 ≤ 60) ∧ ((0 ≤ x1 ∧ x1 < h 110 0 → (mwpV (d + 2) m_M_handsOf [vR 109] h (fun h4 => (0 ≤ x1 ∧ x1 < 60) ∧ (K (h4 131 x1.toNat) h4)))) ∧ (¬ (0 ≤ x1 ∧ x1 < h 110 0) → (K ((-1)) h)))) : wI (d + 2) m_M_hand 0 [(0, vR 109), (1, vI x1)] [] h K := by
  refine w_aload_n rfl rfl ?_
  refine w_iload_n rfl rfl ?_
  obtain ⟨b1, F⟩ := F
  obtain ⟨b2, F⟩ := F
  refine c_VI [vI x1] [] rfl b_M_isCall k_M_197 rfl rfl rfl rfl rfl rfl (c_M_isCall b1 b2 ?_)
  refine w_ifne_b (tgt := 10) rfl (by decide) (fun q3 => ?_) (fun q3 => ?_)
  · replace F := F.1 q3
    refine w_aload_n rfl rfl ?_
    refine c_VV [] [] rfl b_M_handsOf k_M_200 rfl rfl rfl rfl rfl rfl (mwpV_mono (fun h4 F => ?_) F)
    refine w_aload_n rfl rfl ?_
    refine w_getR rfl f_M_81 rfl rfl rfl rfl rfl ?_
    refine w_iload_n rfl rfl ?_
    obtain ⟨b5, F⟩ := F
    refine w_iaload rfl rfl rfl b5 ?_
    exact w_iret rfl rfl ⟨rfl, rfl, _, rfl, F⟩
  · replace F := F.2 q3
    refine w_iconst rfl ?_
    exact w_iret rfl rfl ⟨rfl, rfl, _, rfl, F⟩
theorem s_M_hands_0 {d : Nat}  (h : St) (K : Int → St → Prop) (F : (mwpV (d + 2) m_M_handsOf [vR 109] h (fun h1 => (wI (d + 2) m_M_hands 8 [(0, vR 109), (1, vI 0), (2, vI 0)] [] h1 K)))) : wI (d + 2) m_M_hands 0 [(0, vR 109)] [] h K := by
  refine w_aload_n rfl rfl ?_
  refine c_VV [] [] rfl b_M_handsOf k_M_200 rfl rfl rfl rfl rfl rfl (mwpV_mono (fun h1 F => ?_) F)
  refine w_iconst rfl ?_
  refine w_istore_n rfl rfl rfl rfl (w_ls (ls2 := [(0, vR 109), (1, vI 0)]) rfl ?_)
  refine w_iconst rfl ?_
  refine w_istore_n rfl rfl rfl rfl (w_ls (ls2 := [(0, vR 109), (1, vI 0), (2, vI 0)]) rfl ?_)
  exact F
theorem s_M_hands_8 {d : Nat}  (x1 x2 : Int) (h : St) (K : Int → St → Prop) (F : (inR x2) ∧ (inR (h 110 0)) ∧ (((h 110 0) ≤ x2 → (K x1 h)) ∧ (¬ ((h 110 0) ≤ x2) → (0 ≤ x2 ∧ x2 < 60) ∧ (((inR (h 131 x2.toNat)))) ∧ (wI (d + 2) m_M_hands 8 [(0, vR 109), (1, vI (x1 + (b2i (¬ ((h 131 x2.toNat) ≠ x2))))), (2, vI (x2 + 1))] [] h K)))) : wI (d + 2) m_M_hands 8 [(0, vR 109), (1, vI x1), (2, vI x2)] [] h K := by
  refine w_iload_n rfl rfl ?_
  refine w_aload_n rfl rfl ?_
  refine w_getR rfl f_M_7 rfl rfl rfl rfl rfl ?_
  refine w_iconst rfl ?_
  refine w_iaload rfl rfl rfl ⟨by decide, by decide⟩ ?_
  obtain ⟨b1, F⟩ := F
  obtain ⟨b2, F⟩ := F
  refine w_icmp_ge (tgt := 42) rfl (by decide) ⟨b1, b2⟩ (fun q3 => ?_) (fun q3 => ?_)
  · replace F := F.1 q3
    refine w_iload_n rfl rfl ?_
    exact w_iret rfl rfl ⟨rfl, rfl, _, rfl, F⟩
  · replace F := F.2 q3
    refine w_iload_n rfl rfl ?_
    refine w_aload_n rfl rfl ?_
    refine w_getR rfl f_M_81 rfl rfl rfl rfl rfl ?_
    refine w_iload_n rfl rfl ?_
    obtain ⟨b4, F⟩ := F
    refine w_iaload rfl rfl rfl b4 ?_
    refine w_iload_n rfl rfl ?_
    obtain ⟨G, F⟩ := F
    have J : ∀ (t7 : Int), t7 = b2i (¬ ((h 131 x2.toNat) ≠ x2)) → wI (d + 2) m_M_hands 34 [(0, vR 109), (1, vI x1), (2, vI x2)] [vI t7, vI x1] h K := by
      intro t7 et7
      subst et7
      refine w_iadd rfl ?_
      refine w_istore_n rfl rfl rfl rfl (w_ls (ls2 := [(0, vR 109), (1, vI (x1 + (b2i (¬ ((h 131 x2.toNat) ≠ x2))))), (2, vI x2)]) rfl ?_)
      refine w_iinc rfl rfl rfl rfl rfl (w_ls (ls2 := [(0, vR 109), (1, vI (x1 + (b2i (¬ ((h 131 x2.toNat) ≠ x2))))), (2, vI (x2 + 1))]) rfl ?_)
      refine w_goto (tgt := 8) rfl (by decide) ?_
      exact F
    have b5 := G
    refine w_icmp_ne (tgt := 33) rfl (by decide) ⟨b5, b1⟩ (fun q6 => ?_) (fun q6 => ?_)
    · refine w_iconst rfl ?_
      exact J _ (b2i_f (fun z => z q6)).symm
    · refine w_iconst rfl ?_
      refine w_goto (tgt := 34) rfl (by decide) ?_
      exact J _ (b2i_t q6).symm
def cldA (lg : Nat → Nat → Int) (n : Nat) (t : Int) (g : Nat → Int) : Prop := ∀ x y, x < n → y < n → gapA lg x y ≤ t → g x = g y
def hokA (lg : Nat → Nat → Int) (n : Nat) (t : Int) (a : Nat) (v : Int) : Prop := 0 ≤ v ∧ v ≤ a ∧ ∀ g, cldA lg n t g → g v.toNat = g a
def isHand (lg : Nat → Nat → Int) (n : Nat) (t : Int) (f : Nat → Int) : Prop := cldA lg n t f ∧ ∀ a, a < n → hokA lg n t a (f a)
theorem isHand_uni {lg : Nat → Nat → Int} {n : Nat} {t : Int} {f f2 : Nat → Int} (h1 : isHand lg n t f) (h2 : isHand lg n t f2) : ∀ a, a < n → f a = f2 a := by
  have le : ∀ f f2 : Nat → Int, isHand lg n t f → isHand lg n t f2 → ∀ a, a < n → f2 a ≤ f a := by
    intro f f2 h1 h2 a ha
    obtain ⟨q1, q2, q3⟩ := h1.2 a ha
    have e := q3 f2 h2.1
    have q4 := (h2.2 (f a).toNat (by omega)).2.1
    omega
  intro a ha
  have := le f f2 h1 h2 a ha
  have := le f2 f h2 h1 a ha
  omega
theorem sm_up {h : St} {c i : Nat} {v : Int} {n : Nat} (hi : i < n) : sm (up h c i v c) n = sm (h c) n + (v - h c i) := by
  have e := sm_set (f := h c) (g := up h c i v c) (i := i) n hi (fun j _ hn => up_idx _ _ _ _ _ hn)
  rw [up_same] at e
  exact e
section H40
variable {D : Nat} {K : St → Prop} {n : Nat} {lg : Nat → Nat → Int} {t : Int}
theorem M_ho_47 (vl : VLog n lg) (rt : 0 ≤ t ∧ t ≤ 99) {T0 : Int} {a : Nat} (ha : a < n) : ∀ (r b : Nat) (x : Int) (h : St), b + r = n → MLog h n lg → h 109 14 = t → (∀ c, c < n → hokA lg n t c (h 131 c)) → ((x = 0 ∧ sm (h 131) n = T0 ∧ ∀ a2 b2, a2 < n → b2 < n → (a2 < a ∨ (a2 = a ∧ b2 < b)) → gapA lg a2 b2 ≤ t → h 131 a2 ≤ h 131 b2) ∨ (x = 1 ∧ sm (h 131) n < T0)) → (∀ x2 h2, ag (fun c _ => c ≠ 131) h h2 → (∀ c, c < n → hokA lg n t c (h2 131 c)) → ((x2 = 0 ∧ sm (h2 131) n = T0 ∧ ∀ a2 b2, a2 < n → b2 < n → a2 < a + 1 → gapA lg a2 b2 ≤ t → h2 131 a2 ≤ h2 131 b2) ∨ (x2 = 1 ∧ sm (h2 131) n < T0)) → wV (D + 1) m_M_handsOf 35 [(0, vR 109), (1, vI x2), (2, vI ((a : Int) + 1))] [] h2 K) → wV (D + 1) m_M_handsOf 47 [(0, vR 109), (1, vI x), (2, vI (a : Int)), (3, vI (b : Int))] [] h K := by
  intro r
  induction r with
  | zero =>
    intro b x h hb ml e14 ok st k
    have hn := ml.2.1
    have h8 := ml.1
    refine s_M_handsOf_47 _ _ _ h K ⟨⟨by omega, by omega⟩, ⟨by omega, by omega⟩, fun _ => k x h ag_rfl ok ?_, fun z => absurd (by omega) z⟩
    rcases st with ⟨s1, s2, s3⟩ | s
    · exact Or.inl ⟨s1, s2, fun a2 b2 h1 h2 h3 => s3 a2 b2 h1 h2 (by omega)⟩
    · exact Or.inr s
  | succ r ih =>
    intro b x h hb ml e14 ok st k
    have hn := ml.2.1
    have h8 := ml.1
    have hb2 : b < n := by omega
    have pa := (ml.2.2 a ha).2.2.2.2.2
    have pb := (ml.2.2 b hb2).2.2.2.2.2
    have g := gapA_R vl ha hb2
    have eg : (((lg 5 a - lg 5 b).natAbs : Nat) : Int) = gapA lg a b := rfl
    have ra := (ok a ha)
    have rb := (ok b hb2)
    have ra1 := ra.1
    have ra2 := ra.2.1
    have rb1 := rb.1
    have rb2 := rb.2.1
    have qa := (vl a ha).2.2.2.2.2.2
    have qb := (vl b hb2).2.2.2.2.2.2
    refine s_M_handsOf_47 _ _ _ h K ?_
    rw [Int.toNat_natCast, Int.toNat_natCast, pa, pb, eg, e14]
    have nx : (gapA lg a b ≤ t → h 131 a ≤ h 131 b) → wV (D + 1) m_M_handsOf 47 [(0, vR 109), (1, vI x), (2, vI (a : Int)), (3, vI ((b : Int) + 1))] [] h K := fun q => by
      refine ih (b + 1) x h (by omega) ml e14 ok ?_ k
      rcases st with ⟨s1, s2, s3⟩ | s
      · refine Or.inl ⟨s1, s2, fun a2 b2 h1 h2 h3 h4 => ?_⟩
        by_cases q2 : a2 = a ∧ b2 = b
        · obtain ⟨e1, e2⟩ := q2
          subst e1; subst e2; exact q h4
        · exact s3 a2 b2 h1 h2 (by omega) h4
      · exact Or.inr s
    refine ⟨⟨by omega, by omega⟩, ⟨by omega, by omega⟩, fun z => by omega, fun _ => ⟨by omega, by omega, by omega, ⟨by omega, by omega⟩, ⟨by omega, by omega⟩, fun z => nx (by omega), fun z => ⟨by omega, by omega, ⟨by omega, by omega⟩, ⟨by omega, by omega⟩, fun z2 => nx (by omega), fun z2 => ?_⟩⟩⟩
    have ab : a ≠ b := fun e => by subst e; omega
    refine ih (b + 1) 1 _ (by omega) (MLog_c (ag_up (by omega) ag_rfl) ml) (by rw [up_ne (by omega)]; exact e14) (fun c hc => ?_) (Or.inr ⟨rfl, ?_⟩) (fun x2 h2 g2 ok2 st2 => k x2 h2 (ag_trans (ag_up (by omega) ag_rfl) g2) ok2 st2)
    · by_cases q : c = a
      · subst q
        rw [up_same]
        exact ⟨rb1, by omega, fun g hg => by rw [rb.2.2 g hg]; exact (hg c b hc hb2 (by omega)).symm⟩
      · rw [up_ne (by omega)]; exact ok c hc
    · rw [sm_up ha]
      rcases st with ⟨_, s2, _⟩ | ⟨_, s2⟩ <;> omega
theorem M_ho_35 (vl : VLog n lg) (rt : 0 ≤ t ∧ t ≤ 99) {T0 : Int} : ∀ (r a : Nat) (x : Int) (h : St), a + r = n → MLog h n lg → h 109 14 = t → (∀ c, c < n → hokA lg n t c (h 131 c)) → ((x = 0 ∧ sm (h 131) n = T0 ∧ ∀ a2 b2, a2 < n → b2 < n → a2 < a → gapA lg a2 b2 ≤ t → h 131 a2 ≤ h 131 b2) ∨ (x = 1 ∧ sm (h 131) n < T0)) → (∀ x2 h2, ag (fun c _ => c ≠ 131) h h2 → (∀ c, c < n → hokA lg n t c (h2 131 c)) → ((x2 = 0 ∧ ∀ a2 b2, a2 < n → b2 < n → gapA lg a2 b2 ≤ t → h2 131 a2 ≤ h2 131 b2) ∨ (x2 = 1 ∧ sm (h2 131) n < T0)) → wV (D + 1) m_M_handsOf 27 [(0, vR 109), (1, vI x2)] [] h2 K) → wV (D + 1) m_M_handsOf 35 [(0, vR 109), (1, vI x), (2, vI (a : Int))] [] h K := by
  intro r
  induction r with
  | zero =>
    intro a x h ha ml e14 ok st k
    have hn := ml.2.1
    have h8 := ml.1
    refine s_M_handsOf_35 _ _ h K ⟨⟨by omega, by omega⟩, ⟨by omega, by omega⟩, fun _ => k x h ag_rfl ok ?_, fun z => absurd (by omega) z⟩
    rcases st with ⟨s1, s2, s3⟩ | s
    · exact Or.inl ⟨s1, fun a2 b2 h1 h2 => s3 a2 b2 h1 h2 (by omega)⟩
    · exact Or.inr s
  | succ r ih =>
    intro a x h ha ml e14 ok st k
    have hn := ml.2.1
    have h8 := ml.1
    refine s_M_handsOf_35 _ _ h K ⟨⟨by omega, by omega⟩, ⟨by omega, by omega⟩, fun z => by omega, fun _ => ?_⟩
    refine M_ho_47 vl rt (T0 := T0) (by omega) n 0 x h (by omega) ml e14 ok ?_ (fun x2 h2 g2 ok2 st2 => ih (a + 1) x2 h2 (by omega) (MLog_c (ag_sub (fun c k p => by omega) g2) ml) (by rw [g2 _ _ (by omega)]; exact e14) ok2 st2 (fun x3 h3 g3 ok3 st3 => k x3 h3 (ag_trans g2 g3) ok3 st3))
    rcases st with ⟨s1, s2, s3⟩ | s
    · exact Or.inl ⟨s1, s2, fun a2 b2 h1 h2 h3 => s3 a2 b2 h1 h2 (by omega)⟩
    · exact Or.inr s
theorem M_ho_27 (vl : VLog n lg) (rt : 0 ≤ t ∧ t ≤ 99) : ∀ (m : Nat) (h : St), sm (h 131) n < m → MLog h n lg → h 109 14 = t → (∀ c, c < n → hokA lg n t c (h 131 c)) → (∀ h2, ag (fun c _ => c ≠ 131) h h2 → isHand lg n t (h2 131) → K h2) → wV (D + 1) m_M_handsOf 27 [(0, vR 109), (1, vI 1)] [] h K := by
  intro m
  induction m with
  | zero =>
    intro h hm ml e14 ok k
    have : 0 ≤ sm (h 131) n := by
      have := (sm_bnd (f := h 131) (u := 60) (by omega) n (fun i hi => ⟨(ok i hi).1, by have := (ok i hi).2.1; have := ml.2.1; omega⟩)).1
      exact this
    omega
  | succ m ih =>
    intro h hm ml e14 ok k
    have hn := ml.2.1
    refine s_M_handsOf_27 _ h K ⟨by decide, fun z => absurd z (by decide), fun _ => ?_⟩
    refine M_ho_35 vl rt (T0 := sm (h 131) n) n 0 0 h (by omega) ml e14 ok (Or.inl ⟨rfl, rfl, fun a2 b2 _ _ h3 => absurd h3 (Nat.not_lt_zero a2)⟩) (fun x2 h2 g2 ok2 st2 => ?_)
    rcases st2 with ⟨e, s⟩ | ⟨e, s⟩
    · subst e
      refine s_M_handsOf_27 _ h2 K ⟨by decide, fun _ => k h2 g2 ⟨fun x y hx hy hg => ?_, ok2⟩, fun z => absurd rfl z⟩
      have h1 := s x y hx hy hg
      have h2 := s y x hy hx (by rw [gapA_sym]; exact hg)
      omega
    · subst e
      exact ih h2 (by omega) (MLog_c (ag_sub (fun c k p => by omega) g2) ml) (by rw [g2 _ _ (by omega)]; exact e14) ok2 (fun h3 g3 q => k h3 (ag_trans g2 g3) q)
theorem c_M_handsOf {h : St} (ml : MLog h n lg) (vl : VLog n lg) (e14 : h 109 14 = t) (rt : 0 ≤ t ∧ t ≤ 99) (k : ∀ h2, ag (fun c _ => c ≠ 131) h h2 → isHand lg n t (h2 131) → K h2) : mwpV (D + 2) m_M_handsOf [vR 109] h K := by
  have hn := ml.2.1
  have lp : ∀ (r c : Nat) (h1 : St), c + r = n → ag (fun c _ => c ≠ 131) h h1 → (∀ b : Nat, b < c → h1 131 b = b) → wV (D + 1) m_M_handsOf 2 [(0, vR 109), (1, vI (c : Int))] [] h1 K := by
    intro r
    induction r with
    | zero =>
      intro c h1 hc g f
      have e : c = n := by omega
      subst e
      have h8 := (MLog_c (ag_sub (fun c k p => by omega) g) ml).1
      refine s_M_handsOf_2 _ h1 K ⟨⟨by omega, by omega⟩, ⟨by omega, by omega⟩, fun _ => ?_, fun z => absurd (by omega) z⟩
      refine M_ho_27 vl rt ((sm (h1 131) c).toNat + 1) h1 (by omega) (MLog_c (ag_sub (fun c k p => by omega) g) ml) (by rw [g _ _ (by omega)]; exact e14) (fun b hb => ?_) (fun h2 g2 q => k h2 (ag_trans g g2) q)
      rw [f b hb]
      exact ⟨by omega, by omega, fun g _ => by rw [Int.toNat_natCast]⟩
    | succ r ih =>
      intro c h1 hc g f
      have h8 := (MLog_c (ag_sub (fun c k p => by omega) g) ml).1
      refine s_M_handsOf_2 _ h1 K ⟨⟨by omega, by omega⟩, ⟨by omega, by omega⟩, fun z => by omega, fun _ => ⟨by omega, ?_⟩⟩
      rw [Int.toNat_natCast]
      refine ih (c + 1) _ (by omega) (ag_up (by omega) g) (fun b hb => ?_)
      by_cases q : b = c
      · subst q; rw [up_same]
      · rw [up_ne (by omega)]; exact f b (by omega)
  exact mV_intro b_M_handsOf rfl (s_M_handsOf_0 (d := D) h K (lp n 0 h (by omega) ag_rfl (fun b hb => absurd hb (Nat.not_lt_zero b))))
end H40
