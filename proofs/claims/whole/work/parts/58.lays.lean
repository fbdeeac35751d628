theorem s_M_lays_0 {d : Nat}  (x1 : Int) (h : St) (K : Int → St → Prop) (F : (wI (d + 2) m_M_lays 12 [(0, vR 109), (1, vI x1), (2, vI 0)] [] (up (up h 109 29 0) 109 30 0) K)) : wI (d + 2) m_M_lays 0 [(0, vR 109), (1, vI x1)] [] h K := by
  refine w_aload_n rfl rfl ?_
  refine w_iconst rfl ?_
  refine w_putI rfl f_M_216 fw_12_29 rfl rfl rfl ?_
  refine w_aload_n rfl rfl ?_
  refine w_iconst rfl ?_
  refine w_putI rfl f_M_219 fw_12_30 rfl rfl rfl ?_
  refine w_iconst rfl ?_
  refine w_istore_n rfl rfl rfl rfl (w_ls (ls2 := [(0, vR 109), (1, vI x1), (2, vI 0)]) rfl ?_)
  exact F
theorem s_M_lays_12 {d : Nat}  (x1 x2 : Int) (h : St) (K : Int → St → Prop) (F : (inR x2) ∧ ((12 ≤ x2 → (inR (h 109 29)) ∧ ((8 < (h 109 29) → (K ((-2)) h)) ∧ (¬ (8 < (h 109 29)) → (inR (h 109 30)) ∧ (((h 109 30) ≤ 8 → (mwpV (d + 2) m_M_handsOf [vR 109] h (fun h7 => (wI (d + 2) m_M_lays 111 [(0, vR 109), (1, vI x1), (2, vI 0)] [] h7 K)))) ∧ (¬ ((h 109 30) ≤ 8) → (K ((-2)) h)))))) ∧ (¬ (12 ≤ x2) → (mwpI (d + 2) m_M_sends [vR 109, vI x2, vI x1] h (fun z8 h8 => (inR z8) ∧ ((z8 = 0 → (mwpI (d + 2) m_M_sends [vR 109, vI x2, vI (x1 + 1)] h8 (fun z11 h11 => (inR z11) ∧ ((z11 = 0 → (wI (d + 2) m_M_lays 12 [(0, vR 109), (1, vI x1), (2, vI (x2 + 1))] [] h11 K)) ∧ (¬ (z11 = 0) → (0 ≤ h11 109 30 ∧ h11 109 30 < 12) ∧ (wI (d + 2) m_M_lays 12 [(0, vR 109), (1, vI x1), (2, vI (x2 + 1))] [] (up (up h11 133 ((h11 109 30).toNat) x2) 109 30 ((h11 109 30) + 1)) K)))))) ∧ (¬ (z8 = 0) → (0 ≤ h8 109 29 ∧ h8 109 29 < 12) ∧ (mwpI (d + 2) m_M_sends [vR 109, vI x2, vI (x1 + 1)] (up (up h8 132 ((h8 109 29).toNat) x2) 109 29 ((h8 109 29) + 1)) (fun z16 h16 => (inR z16) ∧ ((z16 = 0 → (wI (d + 2) m_M_lays 12 [(0, vR 109), (1, vI x1), (2, vI (x2 + 1))] [] h16 K)) ∧ (¬ (z16 = 0) → (0 ≤ h16 109 30 ∧ h16 109 30 < 12) ∧ (wI (d + 2) m_M_lays 12 [(0, vR 109), (1, vI x1), (2, vI (x2 + 1))] [] (up (up h16 133 ((h16 109 30).toNat) x2) 109 30 ((h16 109 30) + 1)) K)))))))))))) : wI (d + 2) m_M_lays 12 [(0, vR 109), (1, vI x1), (2, vI x2)] [] h K := by
  refine w_iload_n rfl rfl ?_
  refine w_bipush (by decide) (by decide) rfl ?_
  obtain ⟨b1, F⟩ := F
  refine w_icmp_ge (tgt := 84) rfl (by decide) ⟨b1, (r_lit rfl)⟩ (fun q2 => ?_) (fun q2 => ?_)
  · replace F := F.1 q2
    refine w_aload_n rfl rfl ?_
    refine w_getI rfl f_M_216 rfl rfl rfl ?_
    refine w_bipush (by decide) (by decide) rfl ?_
    obtain ⟨b3, F⟩ := F
    refine w_icmp_gt (tgt := 102) rfl (by decide) ⟨b3, (r_lit rfl)⟩ (fun q4 => ?_) (fun q4 => ?_)
    · replace F := F.1 q4
      refine w_bipush (by decide) (by decide) rfl ?_
      exact w_iret rfl rfl ⟨rfl, rfl, _, rfl, F⟩
    · replace F := F.2 q4
      refine w_aload_n rfl rfl ?_
      refine w_getI rfl f_M_219 rfl rfl rfl ?_
      refine w_bipush (by decide) (by decide) rfl ?_
      obtain ⟨b5, F⟩ := F
      refine w_icmp_le (tgt := 105) rfl (by decide) ⟨b5, (r_lit rfl)⟩ (fun q6 => ?_) (fun q6 => ?_)
      · replace F := F.1 q6
        refine w_aload_n rfl rfl ?_
        refine c_VV [] [] rfl b_M_handsOf k_M_200 rfl rfl rfl rfl rfl rfl (mwpV_mono (fun h7 F => ?_) F)
        refine w_iconst rfl ?_
        refine w_istore_n rfl rfl rfl rfl (w_ls (ls2 := [(0, vR 109), (1, vI x1), (2, vI 0)]) rfl ?_)
        exact F
      · replace F := F.2 q6
        refine w_bipush (by decide) (by decide) rfl ?_
        exact w_iret rfl rfl ⟨rfl, rfl, _, rfl, F⟩
  · replace F := F.2 q2
    refine w_aload_n rfl rfl ?_
    refine w_iload_n rfl rfl ?_
    refine w_iload_n rfl rfl ?_
    refine c_VI [vI x2, vI x1] [] rfl b_M_sends k_M_209 rfl rfl rfl rfl rfl rfl (mwpI_mono (fun z8 h8 F => ?_) F)
    obtain ⟨b9, F⟩ := F
    refine w_if_eq (tgt := 47) rfl (by decide) b9 (fun q10 => ?_) (fun q10 => ?_)
    · replace F := F.1 q10
      refine w_aload_n rfl rfl ?_
      refine w_iload_n rfl rfl ?_
      refine w_iload_n rfl rfl ?_
      refine w_iconst rfl ?_
      refine w_iadd rfl ?_
      refine c_VI [vI x2, vI (x1 + 1)] [] rfl b_M_sends k_M_209 rfl rfl rfl rfl rfl rfl (mwpI_mono (fun z11 h11 F => ?_) F)
      obtain ⟨b12, F⟩ := F
      refine w_if_eq (tgt := 78) rfl (by decide) b12 (fun q13 => ?_) (fun q13 => ?_)
      · replace F := F.1 q13
        refine w_iinc rfl rfl rfl rfl rfl (w_ls (ls2 := [(0, vR 109), (1, vI x1), (2, vI (x2 + 1))]) rfl ?_)
        refine w_goto (tgt := 12) rfl (by decide) ?_
        exact F
      · replace F := F.2 q13
        refine w_aload_n rfl rfl ?_
        refine w_getR rfl f_M_87 rfl rfl rfl rfl rfl ?_
        refine w_aload_n rfl rfl ?_
        refine w_getI rfl f_M_219 rfl rfl rfl ?_
        refine w_iload_n rfl rfl ?_
        obtain ⟨b14, F⟩ := F
        refine w_iastore rfl rfl rfl b14 ?_
        refine w_aload_n rfl rfl ?_
        refine w_dup rfl rfl ?_
        refine w_getI rfl f_M_219 rfl rfl rfl ?_
        refine w_iconst rfl ?_
        refine w_iadd rfl ?_
        refine w_putI rfl f_M_219 fw_12_30 rfl rfl rfl ?_
        refine w_iinc rfl rfl rfl rfl rfl (w_ls (ls2 := [(0, vR 109), (1, vI x1), (2, vI (x2 + 1))]) rfl ?_)
        refine w_goto (tgt := 12) rfl (by decide) ?_
        exact F
    · replace F := F.2 q10
      refine w_aload_n rfl rfl ?_
      refine w_getR rfl f_M_84 rfl rfl rfl rfl rfl ?_
      refine w_aload_n rfl rfl ?_
      refine w_getI rfl f_M_216 rfl rfl rfl ?_
      refine w_iload_n rfl rfl ?_
      obtain ⟨b15, F⟩ := F
      refine w_iastore rfl rfl rfl b15 ?_
      refine w_aload_n rfl rfl ?_
      refine w_dup rfl rfl ?_
      refine w_getI rfl f_M_216 rfl rfl rfl ?_
      refine w_iconst rfl ?_
      refine w_iadd rfl ?_
      refine w_putI rfl f_M_216 fw_12_29 rfl rfl rfl ?_
      refine w_aload_n rfl rfl ?_
      refine w_iload_n rfl rfl ?_
      refine w_iload_n rfl rfl ?_
      refine w_iconst rfl ?_
      refine w_iadd rfl ?_
      refine c_VI [vI x2, vI (x1 + 1)] [] rfl b_M_sends k_M_209 rfl rfl rfl rfl rfl rfl (mwpI_mono (fun z16 h16 F => ?_) F)
      obtain ⟨b17, F⟩ := F
      refine w_if_eq (tgt := 78) rfl (by decide) b17 (fun q18 => ?_) (fun q18 => ?_)
      · replace F := F.1 q18
        refine w_iinc rfl rfl rfl rfl rfl (w_ls (ls2 := [(0, vR 109), (1, vI x1), (2, vI (x2 + 1))]) rfl ?_)
        refine w_goto (tgt := 12) rfl (by decide) ?_
        exact F
      · replace F := F.2 q18
        refine w_aload_n rfl rfl ?_
        refine w_getR rfl f_M_87 rfl rfl rfl rfl rfl ?_
        refine w_aload_n rfl rfl ?_
        refine w_getI rfl f_M_219 rfl rfl rfl ?_
        refine w_iload_n rfl rfl ?_
        obtain ⟨b19, F⟩ := F
        refine w_iastore rfl rfl rfl b19 ?_
        refine w_aload_n rfl rfl ?_
        refine w_dup rfl rfl ?_
        refine w_getI rfl f_M_219 rfl rfl rfl ?_
        refine w_iconst rfl ?_
        refine w_iadd rfl ?_
        refine w_putI rfl f_M_219 fw_12_30 rfl rfl rfl ?_
        refine w_iinc rfl rfl rfl rfl rfl (w_ls (ls2 := [(0, vR 109), (1, vI x1), (2, vI (x2 + 1))]) rfl ?_)
        refine w_goto (tgt := 12) rfl (by decide) ?_
        exact F
theorem s_M_lays_111 {d : Nat}  (x1 x2 : Int) (h : St) (K : Int → St → Prop) (F : (inR x2) ∧ (inR (h 109 29)) ∧ (((h 109 29) ≤ x2 → (K 0 h)) ∧ (¬ ((h 109 29) ≤ x2) → (wI (d + 2) m_M_lays 121 [(0, vR 109), (1, vI x1), (2, vI x2), (3, vI 0)] [] h K)))) : wI (d + 2) m_M_lays 111 [(0, vR 109), (1, vI x1), (2, vI x2)] [] h K := by
  refine w_iload_n rfl rfl ?_
  refine w_aload_n rfl rfl ?_
  refine w_getI rfl f_M_216 rfl rfl rfl ?_
  obtain ⟨b1, F⟩ := F
  obtain ⟨b2, F⟩ := F
  refine w_icmp_ge (tgt := 169) rfl (by decide) ⟨b1, b2⟩ (fun q3 => ?_) (fun q3 => ?_)
  · replace F := F.1 q3
    refine w_iconst rfl ?_
    exact w_iret rfl rfl ⟨rfl, rfl, _, rfl, F⟩
  · replace F := F.2 q3
    refine w_iconst rfl ?_
    refine w_istore_n rfl rfl rfl rfl (w_ls (ls2 := [(0, vR 109), (1, vI x1), (2, vI x2), (3, vI 0)]) rfl ?_)
    exact F
theorem s_M_lays_121 {d : Nat}  (x1 x2 x3 : Int) (h : St) (K : Int → St → Prop) (F : (inR x3) ∧ (inR (h 109 30)) ∧ (((h 109 30) ≤ x3 → (wI (d + 2) m_M_lays 111 [(0, vR 109), (1, vI x1), (2, vI (x2 + 1))] [] h K)) ∧ (¬ ((h 109 30) ≤ x3) → (0 ≤ x2 ∧ x2 < 12) ∧ (0 ≤ x3 ∧ x3 < 12) ∧ (mwpI (d + 2) m_M_likeOf [vR 109, vI x1, vI (h 132 x2.toNat), vI (h 133 x3.toNat)] h (fun z6 h6 => (0 ≤ (8 * x2) + x3 ∧ (8 * x2) + x3 < 64) ∧ (wI (d + 2) m_M_lays 121 [(0, vR 109), (1, vI x1), (2, vI x2), (3, vI (x3 + 1))] [] (up h6 134 (((8 * x2) + x3).toNat) z6) K)))))) : wI (d + 2) m_M_lays 121 [(0, vR 109), (1, vI x1), (2, vI x2), (3, vI x3)] [] h K := by
  refine w_iload_n rfl rfl ?_
  refine w_aload_n rfl rfl ?_
  refine w_getI rfl f_M_219 rfl rfl rfl ?_
  obtain ⟨b1, F⟩ := F
  obtain ⟨b2, F⟩ := F
  refine w_icmp_ge (tgt := 163) rfl (by decide) ⟨b1, b2⟩ (fun q3 => ?_) (fun q3 => ?_)
  · replace F := F.1 q3
    refine w_iinc rfl rfl rfl rfl rfl (w_ls (ls2 := [(0, vR 109), (1, vI x1), (2, vI (x2 + 1)), (3, vI x3)]) rfl ?_)
    refine w_goto (tgt := 111) rfl (by decide) ?_
    exact w_kp [0, 1, 2] F
  · replace F := F.2 q3
    refine w_aload_n rfl rfl ?_
    refine w_getR rfl f_M_90 rfl rfl rfl rfl rfl ?_
    refine w_bipush (by decide) (by decide) rfl ?_
    refine w_iload_n rfl rfl ?_
    refine w_imul rfl ?_
    refine w_iload_n rfl rfl ?_
    refine w_iadd rfl ?_
    refine w_aload_n rfl rfl ?_
    refine w_iload_n rfl rfl ?_
    refine w_aload_n rfl rfl ?_
    refine w_getR rfl f_M_84 rfl rfl rfl rfl rfl ?_
    refine w_iload_n rfl rfl ?_
    obtain ⟨b4, F⟩ := F
    refine w_iaload rfl rfl rfl b4 ?_
    refine w_aload_n rfl rfl ?_
    refine w_getR rfl f_M_87 rfl rfl rfl rfl rfl ?_
    refine w_iload_n rfl rfl ?_
    obtain ⟨b5, F⟩ := F
    refine w_iaload rfl rfl rfl b5 ?_
    refine c_VI [vI x1, vI (h 132 x2.toNat), vI (h 133 x3.toNat)] [vI ((8 * x2) + x3), vR 134] rfl b_M_likeOf k_M_212 rfl rfl rfl rfl rfl rfl (mwpI_mono (fun z6 h6 F => ?_) F)
    obtain ⟨b7, F⟩ := F
    refine w_iastore rfl rfl rfl b7 ?_
    refine w_iinc rfl rfl rfl rfl rfl (w_ls (ls2 := [(0, vR 109), (1, vI x1), (2, vI x2), (3, vI (x3 + 1))]) rfl ?_)
    refine w_goto (tgt := 121) rfl (by decide) ?_
    exact F
def LI1 (h : St) (S : Nat → Prop) (c : Nat) : Prop := h 109 29 = (cS S c : Int) ∧ ∀ b, b < c → S b → h 132 (cS S b) = (b : Int)
def LI2 (h : St) (S : Nat → Prop) (c : Nat) : Prop := h 109 30 = (cS S c : Int) ∧ ∀ b, b < c → S b → h 133 (cS S b) = (b : Int)
theorem LI1_c {h h2 : St} {S : Nat → Prop} {c : Nat} (g : ag (fun c k => (c = 109 ∧ k = 29) ∨ c = 132) h h2) (a : LI1 h S c) : LI1 h2 S c := ⟨by rw [g 109 29 (by omega)]; exact a.1, fun b hb sb => by rw [g 132 _ (by omega)]; exact a.2 b hb sb⟩
theorem LI2_c {h h2 : St} {S : Nat → Prop} {c : Nat} (g : ag (fun c k => (c = 109 ∧ k = 30) ∨ c = 133) h h2) (a : LI2 h S c) : LI2 h2 S c := ⟨by rw [g 109 30 (by omega)]; exact a.1, fun b hb sb => by rw [g 133 _ (by omega)]; exact a.2 b hb sb⟩
theorem LI1_n {h : St} {S : Nat → Prop} {c : Nat} (no : ¬ S c) (a : LI1 h S c) : LI1 h S (c + 1) := by
  refine ⟨by rw [show cS S (c + 1) = cS S c from nif_f no]; exact a.1, fun b hb sb => ?_⟩
  by_cases e : b = c
  · subst e; exact absurd sb no
  · exact a.2 b (by omega) sb
theorem LI2_n {h : St} {S : Nat → Prop} {c : Nat} (no : ¬ S c) (a : LI2 h S c) : LI2 h S (c + 1) := by
  refine ⟨by rw [show cS S (c + 1) = cS S c from nif_f no]; exact a.1, fun b hb sb => ?_⟩
  by_cases e : b = c
  · subst e; exact absurd sb no
  · exact a.2 b (by omega) sb
theorem LI1_y {h : St} {S : Nat → Prop} {c : Nat} (y : S c) (a : LI1 h S c) : LI1 (up (up h 132 ((h 109 29).toNat) c) 109 29 ((h 109 29) + 1)) S (c + 1) := by
  have a1 := a.1
  refine ⟨by rw [up_same, a1, show cS S (c + 1) = cS S c + 1 from nif_t y]; rfl, fun b hb sb => ?_⟩
  rw [up_ne (by omega), a1, Int.toNat_natCast]
  by_cases e : b = c
  · subst e; rw [up_same]
  · have := cS_lt (show b < c by omega) sb
    rw [up_ne (by omega)]; exact a.2 b (by omega) sb
theorem LI2_y {h : St} {S : Nat → Prop} {c : Nat} (y : S c) (a : LI2 h S c) : LI2 (up (up h 133 ((h 109 30).toNat) c) 109 30 ((h 109 30) + 1)) S (c + 1) := by
  have a1 := a.1
  refine ⟨by rw [up_same, a1, show cS S (c + 1) = cS S c + 1 from nif_t y]; rfl, fun b hb sb => ?_⟩
  rw [up_ne (by omega), a1, Int.toNat_natCast]
  by_cases e : b = c
  · subst e; rw [up_same]
  · have := cS_lt (show b < c by omega) sb
    rw [up_ne (by omega)]; exact a.2 b (by omega) sb
def MN (h : St) (p q : Nat) (N1 N2 : Nat → Nat) : Prop := (∀ i, i < p → h 132 i = (N1 i : Int) ∧ N1 i < 12) ∧ (∀ j, j < q → h 133 j = (N2 j : Int) ∧ N2 j < 12)
theorem MN_c {h h2 : St} {p q : Nat} {N1 N2 : Nat → Nat} (g : ag (fun c _ => c = 132 ∨ c = 133) h h2) (a : MN h p q N1 N2) : MN h2 p q N1 N2 :=
  ⟨fun i hi => by rw [g 132 _ (by omega)]; exact a.1 i hi, fun i hi => by rw [g 133 _ (by omega)]; exact a.2 i hi⟩
def agL (h h2 : St) : Prop := ag (fun c k => c ≠ 131 ∧ c ≠ 132 ∧ c ≠ 133 ∧ c ≠ 134 ∧ ¬ (c = 109 ∧ (k = 29 ∨ k = 30))) h h2
def Mk (h : St) (n : Nat) (lg : Nat → Nat → Int) (fh : Nat → Nat) (d : Int) : Prop := MLog h n lg ∧ (∀ c, c < n → h 131 c = ((fh c : Nat) : Int)) ∧ h 109 29 = (nP n lg d : Int) ∧ h 109 30 = (nP n lg (d + 1) : Int) ∧ MN h (nP n lg d) (nP n lg (d + 1)) (nmS (sS n lg d)) (nmS (sS n lg (d + 1)))
theorem Mk_c {h h2 : St} {n : Nat} {lg : Nat → Nat → Int} {fh : Nat → Nat} {d : Int} (g : ag (fun c _ => c ≠ 134) h h2) (a : Mk h n lg fh d) : Mk h2 n lg fh d := by
  obtain ⟨a1, a2, a3, a4, a5⟩ := a
  exact ⟨MLog_c (ag_sub (fun c k p => by omega) g) a1, fun c hc => by rw [g 131 _ (by omega)]; exact a2 c hc, by rw [g 109 29 (by omega)]; exact a3, by rw [g 109 30 (by omega)]; exact a4, MN_c (ag_sub (fun c k p => by omega) g) a5⟩
theorem M_ly_121 {D : Nat} {K : Int → St → Prop} {n : Nat} {lg : Nat → Nat → Int} {fh : Nat → Nat} {d : Int} {i : Nat} (vl : VLog n lg) (fb : ∀ c, c < n → fh c < 60) (rd : 0 ≤ d ∧ d ≤ 100) (hi : i < nP n lg d) (p8 : nP n lg d ≤ 8) (q8 : nP n lg (d + 1) ≤ 8) : ∀ (r j : Nat) (h : St), j + r = nP n lg (d + 1) → Mk h n lg fh d → (∀ i2 j2, i2 < i → j2 < nP n lg (d + 1) → h 134 (8 * i2 + j2) = Lk n lg fh d i2 j2) → (∀ j2, j2 < j → h 134 (8 * i + j2) = Lk n lg fh d i j2) → (∀ h2, ag (fun c _ => c ≠ 134) h h2 → (∀ i2 j2, i2 < i + 1 → j2 < nP n lg (d + 1) → h2 134 (8 * i2 + j2) = Lk n lg fh d i2 j2) → wI (D + 2) m_M_lays 111 [(0, vR 109), (1, vI d), (2, vI ((i : Int) + 1))] [] h2 K) → wI (D + 2) m_M_lays 121 [(0, vR 109), (1, vI d), (2, vI i), (3, vI j)] [] h K := by
  intro r
  induction r with
  | zero =>
    intro j h hj kn w1 w2 k
    have k4 := kn.2.2.2.1
    refine s_M_lays_121 _ _ _ h K ⟨⟨by omega, by omega⟩, ⟨by omega, by omega⟩, fun _ => k h ag_rfl (fun i2 j2 x1 x2 => ?_), fun y => by omega⟩
    by_cases e : i2 = i
    · subst e; exact w2 j2 (by omega)
    · exact w1 i2 j2 (by omega) x2
  | succ r ih =>
    intro j h hj kn w1 w2 k
    have k4 := kn.2.2.2.1
    refine s_M_lays_121 _ _ _ h K ⟨⟨by omega, by omega⟩, ⟨by omega, by omega⟩, fun y => by omega, fun _ => ⟨⟨by omega, by omega⟩, ⟨by omega, by omega⟩, ?_⟩⟩
    obtain ⟨n1, n2⟩ := kn.2.2.2.2.1 i hi
    obtain ⟨n3, n4⟩ := kn.2.2.2.2.2 j (by omega)
    rw [Int.toNat_natCast, Int.toNat_natCast, n1, n3]
    refine c_M_likeOf (fh := fh) kn.1 vl kn.2.1 fb ⟨by omega, by omega⟩ ⟨by omega, by omega⟩ rd ⟨⟨by omega, by omega⟩, ?_⟩
    have e1 : (8 * (i : Int) + (j : Int)).toNat = 8 * i + j := by omega
    rw [e1]
    refine ih (j + 1) _ (by omega) (Mk_c (ag_up (by omega) ag_rfl) kn) (fun i2 j2 x1 x2 => by rw [up_ne (by omega)]; exact w1 i2 j2 x1 x2) (fun j2 x2 => ?_) (fun h2 g2 => k h2 (ag_trans (ag_up (by omega) ag_rfl) g2))
    by_cases e : j2 = j
    · subst e; rw [up_same]; rfl
    · rw [up_ne (by omega)]; exact w2 j2 (by omega)
theorem M_ly_111 {D : Nat} {K : Int → St → Prop} {n : Nat} {lg : Nat → Nat → Int} {fh : Nat → Nat} {d : Int} (vl : VLog n lg) (fb : ∀ c, c < n → fh c < 60) (rd : 0 ≤ d ∧ d ≤ 100) (p8 : nP n lg d ≤ 8) (q8 : nP n lg (d + 1) ≤ 8) : ∀ (r i : Nat) (h : St), i + r = nP n lg d → Mk h n lg fh d → (∀ i2 j2, i2 < i → j2 < nP n lg (d + 1) → h 134 (8 * i2 + j2) = Lk n lg fh d i2 j2) → (∀ h2, ag (fun c _ => c ≠ 134) h h2 → Mq h2 (nP n lg d) (nP n lg (d + 1)) (Lk n lg fh d) → K 0 h2) → wI (D + 2) m_M_lays 111 [(0, vR 109), (1, vI d), (2, vI i)] [] h K := by
  intro r
  induction r with
  | zero =>
    intro i h hi kn w1 k
    have k3 := kn.2.2.1
    exact s_M_lays_111 _ _ h K ⟨⟨by omega, by omega⟩, ⟨by omega, by omega⟩, fun _ => k h ag_rfl ⟨kn.2.2.1, kn.2.2.2.1, p8, q8, Lk_R, fun i2 j2 x1 x2 => w1 i2 j2 (by omega) x2⟩, fun y => by omega⟩
  | succ r ih =>
    intro i h hi kn w1 k
    have k3 := kn.2.2.1
    refine s_M_lays_111 _ _ h K ⟨⟨by omega, by omega⟩, ⟨by omega, by omega⟩, fun y => by omega, fun _ => ?_⟩
    exact M_ly_121 vl fb rd (by omega) p8 q8 (nP n lg (d + 1)) 0 h (by omega) kn w1 (fun j2 x => absurd x (Nat.not_lt_zero _)) (fun h2 g2 w2 => ih (i + 1) h2 (by omega) (Mk_c g2 kn) w2 (fun h3 g3 => k h3 (ag_trans g2 g3)))
theorem M_ly_12 {D : Nat} {K : Int → St → Prop} {n : Nat} {lg : Nat → Nat → Int} {fh : Nat → Nat} {d t : Int} (vl : VLog n lg) (fb : ∀ c, c < n → fh c < 60) (rd : 0 ≤ d ∧ d ≤ 100) (rt : 0 ≤ t ∧ t ≤ 99) (hu : ∀ f, isHand lg n t f → ∀ c, c < n → f c = ((fh c : Nat) : Int)) : ∀ (r c : Nat) (h : St), c + r = 12 → MLog h n lg → h 109 14 = t → LI1 h (sS n lg d) c → LI2 h (sS n lg (d + 1)) c → (¬ (nP n lg d ≤ 8 ∧ nP n lg (d + 1) ≤ 8) → ∀ h2, agL h h2 → K (-2) h2) → (nP n lg d ≤ 8 → nP n lg (d + 1) ≤ 8 → ∀ h2, agL h h2 → Mq h2 (nP n lg d) (nP n lg (d + 1)) (Lk n lg fh d) → MN h2 (nP n lg d) (nP n lg (d + 1)) (nmS (sS n lg d)) (nmS (sS n lg (d + 1))) → K 0 h2) → wI (D + 2) m_M_lays 12 [(0, vR 109), (1, vI d), (2, vI c)] [] h K := by
  intro r
  induction r with
  | zero =>
    intro c h hc ml et l1 l2 k0 k1
    have e : c = 12 := by omega
    subst e
    have e1 : h 109 29 = (nP n lg d : Int) := l1.1
    have e2 : h 109 30 = (nP n lg (d + 1) : Int) := l2.1
    have b1 : nP n lg d ≤ 12 := cS_le 12
    have b2 : nP n lg (d + 1) ≤ 12 := cS_le 12
    refine s_M_lays_12 _ _ h K ⟨by decide, fun _ => ⟨⟨by omega, by omega⟩, fun y => k0 (by omega) h ag_rfl, fun y => ⟨⟨by omega, by omega⟩, fun z => ?_, fun z => k0 (by omega) h ag_rfl⟩⟩, fun y => by omega⟩
    refine c_M_handsOf ml vl et rt (fun h2 g2 hh => ?_)
    have nl : MN h (nP n lg d) (nP n lg (d + 1)) (nmS (sS n lg d)) (nmS (sS n lg (d + 1))) := by
      refine ⟨fun i hi => ?_, fun j hj => ?_⟩
      · obtain ⟨x1, x2, x3⟩ := nmS_c hi
        have := l1.2 _ x1 x2
        exact ⟨by rw [← this]; exact congrArg (h 132) x3.symm, x1⟩
      · obtain ⟨x1, x2, x3⟩ := nmS_c hj
        have := l2.2 _ x1 x2
        exact ⟨by rw [← this]; exact congrArg (h 133) x3.symm, x1⟩
    have mk : Mk h2 n lg fh d := ⟨MLog_c (ag_sub (fun c k p => by omega) g2) ml, hu _ hh, by rw [g2 109 29 (by omega)]; exact e1, by rw [g2 109 30 (by omega)]; exact e2, MN_c (ag_sub (fun c k p => by omega) g2) nl⟩
    refine M_ly_111 vl fb rd (by omega) (by omega) (nP n lg d) 0 h2 (by omega) mk (fun i2 j2 x => absurd x (Nat.not_lt_zero _)) (fun h3 g3 mq => k1 (by omega) (by omega) h3 (ag_trans (ag_sub (fun c k p => by omega) g2) (ag_sub (fun c k p => by omega) g3)) mq (MN_c (ag_sub (fun c k p => by omega) g3) mk.2.2.2.2))
  | succ r ih =>
    intro c h hc ml et l1 l2 k0 k1
    have a1 := cS_le (S := sS n lg d) c
    have a2 := cS_le (S := sS n lg (d + 1)) c
    have l11 := l1.1
    have l21 := l2.1
    have rc : inR (c : Int) := ⟨by omega, by omega⟩
    refine s_M_lays_12 _ _ h K ⟨rc, fun y => by omega, fun _ => c_M_sends ml vl rc ⟨by omega, by omega⟩ ⟨b2i_R, fun z => ?_, fun z => ⟨⟨by omega, by omega⟩, ?_⟩⟩⟩
    · have n1 : ¬ sS n lg d c := b2i_eq0.mp z
      refine c_M_sends ml vl rc ⟨by omega, by omega⟩ ⟨b2i_R, fun z2 => ?_, fun z2 => ⟨⟨by omega, by omega⟩, ?_⟩⟩
      · have n2 : ¬ sS n lg (d + 1) c := b2i_eq0.mp z2
        exact ih (c + 1) h (by omega) ml et (LI1_n n1 l1) (LI2_n n2 l2) k0 k1
      · have n2 : sS n lg (d + 1) c := b2i_ne0.mp z2
        have g : agL h (up (up h 133 ((h 109 30).toNat) c) 109 30 ((h 109 30) + 1)) := ag_up (by omega) (ag_up (by omega) ag_rfl)
        exact ih (c + 1) _ (by omega) (MLog_c (ag_sub (fun c k p => by omega) g) ml) (by rw [g 109 14 (by omega)]; exact et) (LI1_c (ag_up (by omega) (ag_up (by omega) ag_rfl)) (LI1_n n1 l1)) (LI2_y n2 l2) (fun y h2 g2 => k0 y h2 (ag_trans g g2)) (fun y1 y2 h2 g2 => k1 y1 y2 h2 (ag_trans g g2))
    · have n1 : sS n lg d c := b2i_ne0.mp z
      have g0 : agL h (up (up h 132 ((h 109 29).toNat) c) 109 29 ((h 109 29) + 1)) := ag_up (by omega) (ag_up (by omega) ag_rfl)
      have l1' := LI1_y n1 l1
      have l2' : LI2 (up (up h 132 ((h 109 29).toNat) c) 109 29 ((h 109 29) + 1)) (sS n lg (d + 1)) c := LI2_c (ag_up (by omega) (ag_up (by omega) ag_rfl)) l2
      have ml' := MLog_c (ag_sub (fun c k p => by omega) g0) ml
      have et' : (up (up h 132 ((h 109 29).toNat) c) 109 29 ((h 109 29) + 1)) 109 14 = t := by rw [g0 109 14 (by omega)]; exact et
      have l22 := l2'.1
      refine c_M_sends ml' vl rc ⟨by omega, by omega⟩ ⟨b2i_R, fun z2 => ?_, fun z2 => ⟨⟨by omega, by omega⟩, ?_⟩⟩
      · have n2 : ¬ sS n lg (d + 1) c := b2i_eq0.mp z2
        exact ih (c + 1) _ (by omega) ml' et' l1' (LI2_n n2 l2') (fun y h2 g2 => k0 y h2 (ag_trans g0 g2)) (fun y1 y2 h2 g2 => k1 y1 y2 h2 (ag_trans g0 g2))
      · have n2 : sS n lg (d + 1) c := b2i_ne0.mp z2
        generalize up (up h 132 ((h 109 29).toNat) c) 109 29 ((h 109 29) + 1) = h0 at *
        have g : agL h0 (up (up h0 133 ((h0 109 30).toNat) c) 109 30 ((h0 109 30) + 1)) := ag_up (by omega) (ag_up (by omega) ag_rfl)
        exact ih (c + 1) _ (by omega) (MLog_c (ag_sub (fun c k p => by omega) g) ml') (by rw [g 109 14 (by omega)]; exact et') (LI1_c (ag_up (by omega) (ag_up (by omega) ag_rfl)) l1') (LI2_y n2 l2') (fun y h2 g2 => k0 y h2 (ag_trans g0 (ag_trans g g2))) (fun y1 y2 h2 g2 => k1 y1 y2 h2 (ag_trans g0 (ag_trans g g2)))
theorem c_M_lays {D : Nat} {K : Int → St → Prop} {n : Nat} {lg : Nat → Nat → Int} {fh : Nat → Nat} {d t : Int} {h : St} (ml : MLog h n lg) (vl : VLog n lg) (fb : ∀ c, c < n → fh c < 60) (rd : 0 ≤ d ∧ d ≤ 100) (et : h 109 14 = t) (rt : 0 ≤ t ∧ t ≤ 99) (hu : ∀ f, isHand lg n t f → ∀ c, c < n → f c = ((fh c : Nat) : Int)) (k0 : ¬ (nP n lg d ≤ 8 ∧ nP n lg (d + 1) ≤ 8) → ∀ h2, agL h h2 → K (-2) h2) (k1 : nP n lg d ≤ 8 → nP n lg (d + 1) ≤ 8 → ∀ h2, agL h h2 → Mq h2 (nP n lg d) (nP n lg (d + 1)) (Lk n lg fh d) → MN h2 (nP n lg d) (nP n lg (d + 1)) (nmS (sS n lg d)) (nmS (sS n lg (d + 1))) → K 0 h2) : mwpI (D + 3) m_M_lays [vR 109, vI d] h K := by
  have g : agL h (up (up h 109 29 0) 109 30 0) := ag_up (by omega) (ag_up (by omega) ag_rfl)
  refine mI_intro b_M_lays rfl (s_M_lays_0 (d := D) _ h K ?_)
  exact M_ly_12 vl fb rd rt hu 12 0 _ (by omega) (MLog_c (ag_sub (fun c k p => by omega) g) ml) (by rw [g 109 14 (by omega)]; exact et) ⟨by rw [up_ne (by omega), up_same]; rfl, fun b hb => absurd hb (Nat.not_lt_zero _)⟩ ⟨by rw [up_same]; rfl, fun b hb => absurd hb (Nat.not_lt_zero _)⟩ (fun y h2 g2 => k0 y h2 (ag_trans g g2)) (fun y1 y2 h2 g2 => k1 y1 y2 h2 (ag_trans g g2))
