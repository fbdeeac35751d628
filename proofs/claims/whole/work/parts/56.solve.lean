theorem s_Pairing_solve_0 {d : Nat}  (x3 : Int) (h : St) (K : Int → St → Prop) (F : (mwpV (d + 4) m_Pairing_hear [vR 59, vR 1, vR 57, vI x3] h (fun h1 => (inR (h1 60 1)) ∧ ((8 < (h1 60 1) → (K 0 h1)) ∧ (¬ (8 < (h1 60 1)) → (inR (h1 65 1)) ∧ (((h1 65 1) ≤ 8 → (wI (d + 4) m_Pairing_solve 36 [(0, vR 59), (1, vR 1), (2, vR 57), (3, vI x3), (4, vI 0)] [] h1 K)) ∧ (¬ ((h1 65 1) ≤ 8) → (K 0 h1)))))))) : wI (d + 4) m_Pairing_solve 0 [(0, vR 59), (1, vR 1), (2, vR 57), (3, vI x3)] [] h K := by
  refine w_aload_n rfl rfl ?_
  refine w_aload_n rfl rfl ?_
  refine w_aload_n rfl rfl ?_
  refine w_iload_n rfl rfl ?_
  refine c_VV [vR 1, vR 57, vI x3] [] rfl b_Pairing_hear k_Pairing_46 rfl rfl rfl rfl rfl rfl (mwpV_mono (fun h1 F => ?_) F)
  refine w_aload_n rfl rfl ?_
  refine w_getR rfl f_Pairing_14 rfl rfl rfl rfl rfl ?_
  refine w_getI rfl f_Pairing_47 rfl rfl rfl ?_
  refine w_bipush (by decide) (by decide) rfl ?_
  obtain ⟨b2, F⟩ := F
  refine w_icmp_gt (tgt := 31) rfl (by decide) ⟨b2, (r_lit rfl)⟩ (fun q3 => ?_) (fun q3 => ?_)
  · replace F := F.1 q3
    refine w_iconst rfl ?_
    exact w_zret rfl rfl (by decide) ⟨rfl, rfl, _, rfl, F⟩
  · replace F := F.2 q3
    refine w_aload_n rfl rfl ?_
    refine w_getR rfl f_Pairing_18 rfl rfl rfl rfl rfl ?_
    refine w_getI rfl f_Pairing_47 rfl rfl rfl ?_
    refine w_bipush (by decide) (by decide) rfl ?_
    obtain ⟨b4, F⟩ := F
    refine w_icmp_le (tgt := 33) rfl (by decide) ⟨b4, (r_lit rfl)⟩ (fun q5 => ?_) (fun q5 => ?_)
    · replace F := F.1 q5
      refine w_iconst rfl ?_
      refine w_istore rfl rfl rfl rfl (w_ls (ls2 := [(0, vR 59), (1, vR 1), (2, vR 57), (3, vI x3), (4, vI 0)]) rfl ?_)
      exact F
    · replace F := F.2 q5
      refine w_iconst rfl ?_
      exact w_zret rfl rfl (by decide) ⟨rfl, rfl, _, rfl, F⟩
theorem s_Pairing_solve_36 {d : Nat}  (x3 x4 : Int) (h : St) (K : Int → St → Prop) (F : (inR x4) ∧ (inR (h 60 1)) ∧ (((h 60 1) ≤ x4 → (mwpV (d + 4) m_Pairing_findBests [vR 59] h (fun h4 => (mwpV (d + 4) m_Pairing_choose [vR 59] h4 (fun h5 => (mwpV (d + 4) m_Pairing_findSure [vR 59] h5 (fun h6 => (K 1 h6)))))))) ∧ (¬ ((h 60 1) ≤ x4) → (wI (d + 4) m_Pairing_solve 51 [(0, vR 59), (1, vR 1), (2, vR 57), (3, vI x3), (4, vI x4), (5, vI 0)] [] h K)))) : wI (d + 4) m_Pairing_solve 36 [(0, vR 59), (1, vR 1), (2, vR 57), (3, vI x3), (4, vI x4)] [] h K := by
  refine w_iload rfl rfl ?_
  refine w_aload_n rfl rfl ?_
  refine w_getR rfl f_Pairing_14 rfl rfl rfl rfl rfl ?_
  refine w_getI rfl f_Pairing_47 rfl rfl rfl ?_
  obtain ⟨b1, F⟩ := F
  obtain ⟨b2, F⟩ := F
  refine w_icmp_ge (tgt := 119) rfl (by decide) ⟨b1, b2⟩ (fun q3 => ?_) (fun q3 => ?_)
  · replace F := F.1 q3
    refine w_aload_n rfl rfl ?_
    refine c_VV [] [] rfl b_Pairing_findBests k_Pairing_57 rfl rfl rfl rfl rfl rfl (mwpV_mono (fun h4 F => ?_) F)
    refine w_aload_n rfl rfl ?_
    refine c_VV [] [] rfl b_Pairing_choose k_Pairing_60 rfl rfl rfl rfl rfl rfl (mwpV_mono (fun h5 F => ?_) F)
    refine w_aload_n rfl rfl ?_
    refine c_VV [] [] rfl b_Pairing_findSure k_Pairing_63 rfl rfl rfl rfl rfl rfl (mwpV_mono (fun h6 F => ?_) F)
    refine w_iconst rfl ?_
    exact w_zret rfl rfl (by decide) ⟨rfl, rfl, _, rfl, F⟩
  · replace F := F.2 q3
    refine w_iconst rfl ?_
    refine w_istore rfl rfl rfl rfl (w_ls (ls2 := [(0, vR 59), (1, vR 1), (2, vR 57), (3, vI x3), (4, vI x4), (5, vI 0)]) rfl ?_)
    exact F
theorem s_Pairing_solve_51 {d : Nat}  (x3 x4 x5 : Int) (h : St) (K : Int → St → Prop) (F : (inR x5) ∧ (inR (h 65 1)) ∧ (((h 65 1) ≤ x5 → (wI (d + 4) m_Pairing_solve 36 [(0, vR 59), (1, vR 1), (2, vR 57), (3, vI x3), (4, vI (x4 + 1))] [] h K)) ∧ (¬ ((h 65 1) ≤ x5) → (0 ≤ x4 ∧ x4 < 12) ∧ (0 ≤ x5 ∧ x5 < 12) ∧ (mwpI (d + 4) m_Senders_likeTo [vR 60, vI (h 61 x4.toNat), vR 65, vI (h 66 x5.toNat)] h (fun z6 h6 => (0 ≤ (x4 * 8) + x5 ∧ (x4 * 8) + x5 < 64) ∧ (wI (d + 4) m_Pairing_solve 51 [(0, vR 59), (1, vR 1), (2, vR 57), (3, vI x3), (4, vI x4), (5, vI (x5 + 1))] [] (up h6 72 (((x4 * 8) + x5).toNat) z6) K)))))) : wI (d + 4) m_Pairing_solve 51 [(0, vR 59), (1, vR 1), (2, vR 57), (3, vI x3), (4, vI x4), (5, vI x5)] [] h K := by
  refine w_iload rfl rfl ?_
  refine w_aload_n rfl rfl ?_
  refine w_getR rfl f_Pairing_18 rfl rfl rfl rfl rfl ?_
  refine w_getI rfl f_Pairing_47 rfl rfl rfl ?_
  obtain ⟨b1, F⟩ := F
  obtain ⟨b2, F⟩ := F
  refine w_icmp_ge (tgt := 113) rfl (by decide) ⟨b1, b2⟩ (fun q3 => ?_) (fun q3 => ?_)
  · replace F := F.1 q3
    refine w_iinc rfl rfl rfl rfl rfl (w_ls (ls2 := [(0, vR 59), (1, vR 1), (2, vR 57), (3, vI x3), (4, vI (x4 + 1)), (5, vI x5)]) rfl ?_)
    refine w_goto (tgt := 36) rfl (by decide) ?_
    exact w_kp [0, 1, 2, 3, 4] F
  · replace F := F.2 q3
    refine w_aload_n rfl rfl ?_
    refine w_getR rfl f_Pairing_28 rfl rfl rfl rfl rfl ?_
    refine w_iload rfl rfl ?_
    refine w_bipush (by decide) (by decide) rfl ?_
    refine w_imul rfl ?_
    refine w_iload rfl rfl ?_
    refine w_iadd rfl ?_
    refine w_aload_n rfl rfl ?_
    refine w_getR rfl f_Pairing_14 rfl rfl rfl rfl rfl ?_
    refine w_aload_n rfl rfl ?_
    refine w_getR rfl f_Pairing_14 rfl rfl rfl rfl rfl ?_
    refine w_getR rfl f_Pairing_50 rfl rfl rfl rfl rfl ?_
    refine w_iload rfl rfl ?_
    obtain ⟨b4, F⟩ := F
    refine w_iaload rfl rfl rfl b4 ?_
    refine w_aload_n rfl rfl ?_
    refine w_getR rfl f_Pairing_18 rfl rfl rfl rfl rfl ?_
    refine w_aload_n rfl rfl ?_
    refine w_getR rfl f_Pairing_18 rfl rfl rfl rfl rfl ?_
    refine w_getR rfl f_Pairing_50 rfl rfl rfl rfl rfl ?_
    refine w_iload rfl rfl ?_
    obtain ⟨b5, F⟩ := F
    refine w_iaload rfl rfl rfl b5 ?_
    refine c_VI [vI (h 61 x4.toNat), vR 65, vI (h 66 x5.toNat)] [vI ((x4 * 8) + x5), vR 72] rfl b_Senders_likeTo k_Pairing_53 rfl rfl rfl rfl rfl rfl (mwpI_mono (fun z6 h6 F => ?_) F)
    obtain ⟨b7, F⟩ := F
    refine w_iastore rfl rfl rfl b7 ?_
    refine w_iinc rfl rfl rfl rfl rfl (w_ls (ls2 := [(0, vR 59), (1, vR 1), (2, vR 57), (3, vI x3), (4, vI x4), (5, vI (x5 + 1))]) rfl ?_)
    refine w_goto (tgt := 51) rfl (by decide) ?_
    exact F
theorem cS_ex {S : Nat → Prop} {i : Nat} : ∀ m, i < cS S m → ∃ b, b < m ∧ S b ∧ cS S b = i
  | 0, q => absurd q (Nat.not_lt_zero _)
  | m + 1, q => by
    by_cases z : S m
    · rw [show cS S (m + 1) = cS S m + 1 from nif_t z] at q
      by_cases e : i = cS S m
      · exact ⟨m, by omega, z, e.symm⟩
      · obtain ⟨b, b1, b2⟩ := cS_ex (S := S) m (show i < cS S m by omega)
        exact ⟨b, by omega, b2⟩
    · rw [show cS S (m + 1) = cS S m from nif_f z] at q
      obtain ⟨b, b1, b2⟩ := cS_ex (S := S) m q
      exact ⟨b, by omega, b2⟩
noncomputable def nmS (S : Nat → Prop) (i : Nat) : Nat := lst (fun b => S b ∧ cS S b = i) 12
theorem nmS_c {S : Nat → Prop} {i : Nat} (hi : i < cS S 12) : nmS S i < 12 ∧ S (nmS S i) ∧ cS S (nmS S i) = i := by
  rcases lst_c (P := fun b => S b ∧ cS S b = i) 12 with ⟨a, b, _⟩ | ⟨_, b⟩
  · exact ⟨a, b⟩
  · obtain ⟨x, x1, x2⟩ := cS_ex 12 hi
    exact absurd x2 (b x x1)
theorem cS_inj {S : Nat → Prop} {a b : Nat} (sa : S a) (sb : S b) (e : cS S a = cS S b) : a = b := by
  by_cases y : a < b
  · have := cS_lt y sa; omega
  · by_cases z : b < a
    · have := cS_lt z sb; omega
    · omega
theorem nmS_of {S : Nat → Prop} {b : Nat} (hb : b < 12) (sb : S b) : nmS S (cS S b) = b := by
  have := nmS_c (cS_lt hb sb)
  exact cS_inj this.2.1 sb this.2.2
theorem nmS_ne {S : Nat → Prop} {i j : Nat} (ij : i < j) (hj : j < cS S 12) : nmS S i ≠ nmS S j := fun e => by
  have a := (nmS_c (show i < cS S 12 by omega)).2.2
  have b := (nmS_c hj).2.2
  rw [e] at a
  omega
def sS (n : Nat) (lg : Nat → Nat → Int) (d : Int) (a : Nat) : Prop := exA n (onS lg d a)
noncomputable def nP (n : Nat) (lg : Nat → Nat → Int) (d : Int) : Nat := cS (sS n lg d) 12
noncomputable def Lk (n : Nat) (lg : Nat → Nat → Int) (fh : Nat → Nat) (d : Int) (i j : Nat) : Int := likA lg fh n d (nmS (sS n lg d) i) (nmS (sS n lg (d + 1)) j)
theorem Lk_R {n : Nat} {lg : Nat → Nat → Int} {fh : Nat → Nat} {d : Int} : LR (Lk n lg fh d) := fun i j => by
  have := likA_R (lg := lg) (fh := fh) (n := n) (d := d) (a := nmS (sS n lg d) i) (b := nmS (sS n lg (d + 1)) j)
  unfold Lk; omega
def Sv (h : St) (p q : Nat) (L : Nat → Nat → Int) (N1 N2 : Nat → Nat) : Prop := h 73 0 = W0 p q L 0 0 ∧ bcm h p q L N1 N2 p ∧ cmf h p q L N1 N2 p ∧ surA h p q L N1 p
def Kn (h : St) (n : Nat) (lg : Nat → Nat → Int) (fh : Nat → Nat) (d : Int) : Prop := Snd60 h lg fh n d n ∧ Snd65 h lg fh n (d + 1) n ∧ h 60 1 = (nP n lg d : Int) ∧ h 65 1 = (nP n lg (d + 1) : Int) ∧ NL h (nP n lg d) (nP n lg (d + 1)) (nmS (sS n lg d)) (nmS (sS n lg (d + 1)))
theorem Kn_c {h h2 : St} {n : Nat} {lg : Nat → Nat → Int} {fh : Nat → Nat} {d : Int} (g : ag (fun c _ => 60 ≤ c ∧ c ≤ 69) h h2) (a : Kn h n lg fh d) : Kn h2 n lg fh d := by
  obtain ⟨a1, a2, a3, a4, a5⟩ := a
  refine ⟨fun x hx => ?_, fun x hx => ?_, by rw [g 60 1 (by omega)]; exact a3, by rw [g 65 1 (by omega)]; exact a4, NL_c (ag_sub (fun c k p => by omega) g) a5⟩
  · rw [g 62 x (by omega), g 63 x (by omega), g 64 x (by omega)]; exact a1 x hx
  · rw [g 67 x (by omega), g 68 x (by omega), g 69 x (by omega)]; exact a2 x hx
theorem C_sv_51 {D : Nat} {K : Int → St → Prop} {n : Nat} {lg : Nat → Nat → Int} {fh : Nat → Nat} {d : Int} {i : Nat} (vl : VLog n lg) (fb : ∀ c, c < n → fh c < 60) (hi : i < nP n lg d) (p8 : nP n lg d ≤ 8) (q8 : nP n lg (d + 1) ≤ 8) : ∀ (r j : Nat) (h : St), j + r = nP n lg (d + 1) → Kn h n lg fh d → (∀ i2 j2, i2 < i → j2 < nP n lg (d + 1) → h 72 (i2 * 8 + j2) = Lk n lg fh d i2 j2) → (∀ j2, j2 < j → h 72 (i * 8 + j2) = Lk n lg fh d i j2) → (∀ h2, ag (fun c _ => c ≠ 72) h h2 → (∀ i2 j2, i2 < i + 1 → j2 < nP n lg (d + 1) → h2 72 (i2 * 8 + j2) = Lk n lg fh d i2 j2) → wI (D + 4) m_Pairing_solve 36 [(0, vR 59), (1, vR 1), (2, vR 57), (3, vI d), (4, vI ((i : Int) + 1))] [] h2 K) → wI (D + 4) m_Pairing_solve 51 [(0, vR 59), (1, vR 1), (2, vR 57), (3, vI d), (4, vI i), (5, vI j)] [] h K := by
  intro r
  induction r with
  | zero =>
    intro j h hj kn w1 w2 k
    have k4 := kn.2.2.2.1
    refine s_Pairing_solve_51 _ _ _ h K ⟨⟨by omega, by omega⟩, ⟨by omega, by omega⟩, fun _ => k h ag_rfl (fun i2 j2 x1 x2 => ?_), fun y => by omega⟩
    by_cases e : i2 = i
    · subst e; exact w2 j2 (by omega)
    · exact w1 i2 j2 (by omega) x2
  | succ r ih =>
    intro j h hj kn w1 w2 k
    have k4 := kn.2.2.2.1
    refine s_Pairing_solve_51 _ _ _ h K ⟨⟨by omega, by omega⟩, ⟨by omega, by omega⟩, fun y => by omega, fun _ => ⟨⟨by omega, by omega⟩, ⟨by omega, by omega⟩, ?_⟩⟩
    obtain ⟨n1, n2⟩ := kn.2.2.2.2.1 i hi
    obtain ⟨n3, n4⟩ := kn.2.2.2.2.2.1 j (by omega)
    rw [Int.toNat_natCast, Int.toNat_natCast, n1, n3]
    refine c_Senders_likeTo vl fb kn.1 kn.2.1 n2 n4 ⟨⟨by omega, by omega⟩, ?_⟩
    have e1 : ((i : Int) * 8 + (j : Int)).toNat = i * 8 + j := by omega
    rw [e1]
    refine ih (j + 1) _ (by omega) (Kn_c (ag_up (by omega) ag_rfl) kn) (fun i2 j2 x1 x2 => by rw [up_ne (by omega)]; exact w1 i2 j2 x1 x2) (fun j2 x2 => ?_) (fun h2 g2 => k h2 (ag_trans (ag_up (by omega) ag_rfl) g2))
    by_cases e : j2 = j
    · subst e; rw [up_same]; rfl
    · rw [up_ne (by omega)]; exact w2 j2 (by omega)
theorem C_sv_36 {D : Nat} {K : Int → St → Prop} {n : Nat} {lg : Nat → Nat → Int} {fh : Nat → Nat} {d : Int} (vl : VLog n lg) (fb : ∀ c, c < n → fh c < 60) (p8 : nP n lg d ≤ 8) (q8 : nP n lg (d + 1) ≤ 8) : ∀ (r i : Nat) (h : St), i + r = nP n lg d → Kn h n lg fh d → (∀ i2 j2, i2 < i → j2 < nP n lg (d + 1) → h 72 (i2 * 8 + j2) = Lk n lg fh d i2 j2) → (∀ h2, ag (fun c k => (c < 70 ∨ 74 < c) ∧ ¬ (c = 59 ∧ k = 7)) h h2 → Sv h2 (nP n lg d) (nP n lg (d + 1)) (Lk n lg fh d) (nmS (sS n lg d)) (nmS (sS n lg (d + 1))) → K 1 h2) → wI (D + 4) m_Pairing_solve 36 [(0, vR 59), (1, vR 1), (2, vR 57), (3, vI d), (4, vI i)] [] h K := by
  intro r
  induction r with
  | zero =>
    intro i h hi kn w1 k
    have k3 := kn.2.2.1
    refine s_Pairing_solve_36 _ _ h K ⟨⟨by omega, by omega⟩, ⟨by omega, by omega⟩, fun _ => ?_, fun y => by omega⟩
    have a : Pq h (nP n lg d) (nP n lg (d + 1)) (Lk n lg fh d) := ⟨kn.2.2.1, kn.2.2.2.1, p8, q8, Lk_R, fun i2 j2 x1 x2 => w1 i2 j2 (by omega) x2⟩
    refine c_Pairing_findBests a (fun h2 g2 b2 => ?_)
    refine c_Pairing_choose (Pq_c (ag_sub (fun c k p => by omega) g2) a) b2 (NL_c (ag_sub (fun c k p => by omega) g2) kn.2.2.2.2) (fun h3 g3 m1 m2 => ?_)
    have g23 : ag (fun c _ => c ≠ 70 ∧ c ≠ 71 ∧ c ≠ 73) h h3 := ag_trans (ag_sub (fun c k p => by omega) g2) (ag_sub (fun c k p => by omega) g3)
    have b3 := Bs_c (ag_sub (fun c k p => by omega) g3) b2
    refine c_Pairing_findSure (Pq_c (ag_sub (fun c k p => by omega) g23) a) b3 (NL_c (ag_sub (fun c k p => by omega) g23) kn.2.2.2.2) (fun h4 g4 su => ?_)
    refine k h4 (ag_trans (ag_sub (fun c k p => by omega) g23) (ag_sub (fun c k p => by omega) g4)) ⟨?_, ⟨fun x hx => ?_, fun x hx y => ?_⟩, ⟨fun x hx y => ?_, fun x hx y => ?_⟩, su⟩
    · rw [g4 73 0 (by omega)]; exact b3 0 0 (by omega) (by omega) (Nat.two_pow_pos _) (Nat.le_of_eq pb_z)
    · rw [g4 70 _ (by omega)]; exact m1.1 x hx
    · rw [g4 70 _ (by omega)]; exact m1.2 x hx y
    · rw [g4 71 _ (by omega)]; exact m2.1 x hx y
    · rw [g4 71 _ (by omega)]; exact m2.2 x hx y
  | succ r ih =>
    intro i h hi kn w1 k
    have k3 := kn.2.2.1
    refine s_Pairing_solve_36 _ _ h K ⟨⟨by omega, by omega⟩, ⟨by omega, by omega⟩, fun y => by omega, fun _ => ?_⟩
    exact C_sv_51 vl fb (by omega) p8 q8 (nP n lg (d + 1)) 0 h (by omega) kn w1 (fun j2 x => absurd x (Nat.not_lt_zero _)) (fun h2 g2 w2 => ih (i + 1) h2 (by omega) (Kn_c (ag_sub (fun c k p => by omega) g2) kn) w2 (fun h3 g3 => k h3 (ag_trans (ag_sub (fun c k p => by omega) g2) g3)))
theorem c_Pairing_solve {D : Nat} {K : Int → St → Prop} {n : Nat} {lg : Nat → Nat → Int} {fh : Nat → Nat} {d : Int} {h : St} (cl : CLog h n lg) (vl : VLog n lg) (rd : 0 ≤ d ∧ d ≤ 100) (hf : ∀ c, c < n → h 58 (paA lg c) = ((fh c : Nat) : Int)) (fb : ∀ c, c < n → fh c < 60) (k0 : ¬ (nP n lg d ≤ 8 ∧ nP n lg (d + 1) ≤ 8) → ∀ h2, ag (fun c k => (c < 60 ∨ 74 < c) ∧ ¬ (c = 59 ∧ k = 7)) h h2 → K 0 h2) (k1 : nP n lg d ≤ 8 → nP n lg (d + 1) ≤ 8 → ∀ h2, ag (fun c k => (c < 60 ∨ 74 < c) ∧ ¬ (c = 59 ∧ k = 7)) h h2 → Sv h2 (nP n lg d) (nP n lg (d + 1)) (Lk n lg fh d) (nmS (sS n lg d)) (nmS (sS n lg (d + 1))) → K 1 h2) : mwpI (D + 5) m_Pairing_solve [vR 59, vR 1, vR 57, vI d] h K := by
  refine mI_intro b_Pairing_solve rfl (s_Pairing_solve_0 (d := D) _ h K (c_Pairing_hear cl vl rd hf fb (fun h1 g1 s1 s2 z1 y1 z2 y2 => ?_)))
  have e1 : h1 60 1 = (nP n lg d : Int) := z1
  have e2 : h1 65 1 = (nP n lg (d + 1) : Int) := z2
  have l1 : nP n lg d ≤ 12 := cS_le 12
  have l2 : nP n lg (d + 1) ≤ 12 := cS_le 12
  have nl : NL h1 (nP n lg d) (nP n lg (d + 1)) (nmS (sS n lg d)) (nmS (sS n lg (d + 1))) := by
    refine ⟨fun i hi => ?_, fun j hj => ?_, fun i j x y => nmS_ne x y, fun i j x y => nmS_ne x y⟩
    · obtain ⟨x1, x2, x3⟩ := nmS_c hi
      have := y1 _ x1 x2
      exact ⟨by rw [← this]; exact congrArg (h1 61) x3.symm, x1⟩
    · obtain ⟨x1, x2, x3⟩ := nmS_c hj
      have := y2 _ x1 x2
      exact ⟨by rw [← this]; exact congrArg (h1 66) x3.symm, x1⟩
  refine ⟨⟨by omega, by omega⟩, fun y => k0 (by omega) h1 (ag_sub (fun c k p => by omega) g1), fun y => ⟨⟨by omega, by omega⟩, fun w => ?_, fun w => k0 (by omega) h1 (ag_sub (fun c k p => by omega) g1)⟩⟩
  exact C_sv_36 vl fb (by omega) (by omega) (nP n lg d) 0 h1 (by omega) ⟨s1, s2, e1, e2, nl⟩ (fun i2 j2 x => absurd x (Nat.not_lt_zero _)) (fun h2 g2 sv => k1 (by omega) (by omega) h2 (ag_trans (ag_sub (fun c k p => by omega) g1) (ag_sub (fun c k p => by omega) g2)) sv)
