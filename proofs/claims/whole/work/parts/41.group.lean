theorem s_Hands_group_0 {d : Nat}  (h : St) (K : St → Prop) (F : (mwpV (d + 2) m_JA_fill [vR 58, vI ((-4))] h (fun h1 => (wV (d + 2) m_Hands_group 16 [(0, vR 57), (1, vR 1), (2, vI ((h1 1 6) - 1))] [] h1 K)))) : wV (d + 2) m_Hands_group 0 [(0, vR 57), (1, vR 1)] [] h K := by
  refine w_aload_n rfl rfl ?_
  refine w_getR rfl f_Hands_18 rfl rfl rfl rfl rfl ?_
  refine w_bipush (by decide) (by decide) rfl ?_
  refine c_SV [vR 58, vI ((-4))] [] rfl b_JA_fill k_Hands_22 rfl rfl rfl (mwpV_mono (fun h1 F => ?_) F)
  refine w_aload_n rfl rfl ?_
  refine w_getI rfl f_Hands_28 rfl rfl rfl ?_
  refine w_iconst rfl ?_
  refine w_isub rfl ?_
  refine w_istore_n rfl rfl rfl rfl (w_ls (ls2 := [(0, vR 57), (1, vR 1), (2, vI ((h1 1 6) - 1))]) rfl ?_)
  exact F
theorem s_Hands_group_16 {d : Nat}  (x2 : Int) (h : St) (K : St → Prop) (F : (inR x2) ∧ ((x2 < 0 → (mwpV (d + 2) m_Hands_joinUpward [vR 57] h (fun h3 => (mwpV (d + 2) m_Hands_spreadDownward [vR 57] h3 (fun h4 => (K h4)))))) ∧ (¬ (x2 < 0) → (0 ≤ x2 ∧ x2 < 60) ∧ (0 ≤ h 7 x2.toNat ∧ h 7 x2.toNat < 100) ∧ (wV (d + 2) m_Hands_group 16 [(0, vR 57), (1, vR 1), (2, vI (x2 + (-1)))] [] (up h 58 ((h 7 x2.toNat).toNat) x2) K)))) : wV (d + 2) m_Hands_group 16 [(0, vR 57), (1, vR 1), (2, vI x2)] [] h K := by
  refine w_iload_n rfl rfl ?_
  obtain ⟨b1, F⟩ := F
  refine w_if_lt (tgt := 38) rfl (by decide) b1 (fun q2 => ?_) (fun q2 => ?_)
  · replace F := F.1 q2
    refine w_aload_n rfl rfl ?_
    refine c_VV [] [] rfl b_Hands_joinUpward k_Hands_34 rfl rfl rfl rfl rfl rfl (mwpV_mono (fun h3 F => ?_) F)
    refine w_aload_n rfl rfl ?_
    refine c_VV [] [] rfl b_Hands_spreadDownward k_Hands_37 rfl rfl rfl rfl rfl rfl (mwpV_mono (fun h4 F => ?_) F)
    exact w_vret rfl rfl ⟨rfl, rfl, rfl, F⟩
  · replace F := F.2 q2
    refine w_aload_n rfl rfl ?_
    refine w_getR rfl f_Hands_18 rfl rfl rfl rfl rfl ?_
    refine w_aload_n rfl rfl ?_
    refine w_getR rfl f_Hands_31 rfl rfl rfl rfl rfl ?_
    refine w_iload_n rfl rfl ?_
    obtain ⟨b5, F⟩ := F
    refine w_iaload rfl rfl rfl b5 ?_
    refine w_iload_n rfl rfl ?_
    obtain ⟨b6, F⟩ := F
    refine w_iastore rfl rfl rfl b6 ?_
    refine w_iinc rfl rfl rfl rfl rfl (w_ls (ls2 := [(0, vR 57), (1, vR 1), (2, vI (x2 + (-1)))]) rfl ?_)
    refine w_goto (tgt := 16) rfl (by decide) ?_
    exact F
theorem s_Hands_joinUpward_0 {d : Nat}  (h : St) (K : St → Prop) (F : (wV (d + 1) m_Hands_joinUpward 10 [(0, vR 57), (1, vI ((-4))), (2, vI 0)] [] (up h 57 1 0) K)) : wV (d + 1) m_Hands_joinUpward 0 [(0, vR 57)] [] h K := by
  refine w_aload_n rfl rfl ?_
  refine w_iconst rfl ?_
  refine w_putI rfl f_Hands_15 fw_2_1 rfl rfl rfl ?_
  refine w_bipush (by decide) (by decide) rfl ?_
  refine w_istore_n rfl rfl rfl rfl (w_ls (ls2 := [(0, vR 57), (1, vI ((-4)))]) rfl ?_)
  refine w_iconst rfl ?_
  refine w_istore_n rfl rfl rfl rfl (w_ls (ls2 := [(0, vR 57), (1, vI ((-4))), (2, vI 0)]) rfl ?_)
  exact F
theorem s_Hands_joinUpward_10 {d : Nat}  (x1 x2 : Int) (h : St) (K : St → Prop) (F : (inR x2) ∧ ((100 ≤ x2 → (K h)) ∧ (¬ (100 ≤ x2) → (0 ≤ x2 ∧ x2 < 100) ∧ (inR (h 58 x2.toNat)) ∧ (((h 58 x2.toNat) ≠ ((-4)) → (inR x1) ∧ ((x1 = ((-4)) → (wV (d + 1) m_Hands_joinUpward 10 [(0, vR 57), (1, vI x2), (2, vI (x2 + 1))] [] (up h 57 1 ((h 57 1) + 1)) K)) ∧ (¬ (x1 = ((-4))) → (inR (x2 - x1)) ∧ (inR (h 57 0)) ∧ (((h 57 0) < (x2 - x1) → (wV (d + 1) m_Hands_joinUpward 10 [(0, vR 57), (1, vI x2), (2, vI (x2 + 1))] [] (up h 57 1 ((h 57 1) + 1)) K)) ∧ (¬ ((h 57 0) < (x2 - x1)) → (0 ≤ x1 ∧ x1 < 100) ∧ (inR (h 58 x1.toNat)) ∧ (wV (d + 1) m_Hands_joinUpward 10 [(0, vR 57), (1, vI x2), (2, vI (x2 + 1))] [] (up h 58 x2.toNat (min (h 58 x2.toNat) (h 58 x1.toNat))) K)))))) ∧ (¬ ((h 58 x2.toNat) ≠ ((-4))) → (wV (d + 1) m_Hands_joinUpward 10 [(0, vR 57), (1, vI x1), (2, vI (x2 + 1))] [] h K)))))) : wV (d + 1) m_Hands_joinUpward 10 [(0, vR 57), (1, vI x1), (2, vI x2)] [] h K := by
  refine w_iload_n rfl rfl ?_
  refine w_bipush (by decide) (by decide) rfl ?_
  obtain ⟨b1, F⟩ := F
  refine w_icmp_ge (tgt := 88) rfl (by decide) ⟨b1, (r_lit rfl)⟩ (fun q2 => ?_) (fun q2 => ?_)
  · replace F := F.1 q2
    exact w_vret rfl rfl ⟨rfl, rfl, rfl, F⟩
  · replace F := F.2 q2
    refine w_aload_n rfl rfl ?_
    refine w_getR rfl f_Hands_18 rfl rfl rfl rfl rfl ?_
    refine w_iload_n rfl rfl ?_
    obtain ⟨b3, F⟩ := F
    refine w_iaload rfl rfl rfl b3 ?_
    refine w_bipush (by decide) (by decide) rfl ?_
    obtain ⟨b4, F⟩ := F
    refine w_icmp_ne (tgt := 30) rfl (by decide) ⟨b4, (r_lit rfl)⟩ (fun q5 => ?_) (fun q5 => ?_)
    · replace F := F.1 q5
      refine w_iload_n rfl rfl ?_
      refine w_bipush (by decide) (by decide) rfl ?_
      obtain ⟨b6, F⟩ := F
      refine w_icmp_eq (tgt := 70) rfl (by decide) ⟨b6, (r_lit rfl)⟩ (fun q7 => ?_) (fun q7 => ?_)
      · replace F := F.1 q7
        refine w_aload_n rfl rfl ?_
        refine w_dup rfl rfl ?_
        refine w_getI rfl f_Hands_15 rfl rfl rfl ?_
        refine w_iconst rfl ?_
        refine w_iadd rfl ?_
        refine w_putI rfl f_Hands_15 fw_2_1 rfl rfl rfl ?_
        refine w_iload_n rfl rfl ?_
        refine w_istore_n rfl rfl rfl rfl (w_ls (ls2 := [(0, vR 57), (1, vI x2), (2, vI x2)]) rfl ?_)
        refine w_iinc rfl rfl rfl rfl rfl (w_ls (ls2 := [(0, vR 57), (1, vI x2), (2, vI (x2 + 1))]) rfl ?_)
        refine w_goto (tgt := 10) rfl (by decide) ?_
        exact F
      · replace F := F.2 q7
        refine w_iload_n rfl rfl ?_
        refine w_iload_n rfl rfl ?_
        refine w_isub rfl ?_
        refine w_aload_n rfl rfl ?_
        refine w_getI rfl f_Hands_9 rfl rfl rfl ?_
        obtain ⟨b8, F⟩ := F
        obtain ⟨b9, F⟩ := F
        refine w_icmp_gt (tgt := 70) rfl (by decide) ⟨b8, b9⟩ (fun q10 => ?_) (fun q10 => ?_)
        · replace F := F.1 q10
          refine w_aload_n rfl rfl ?_
          refine w_dup rfl rfl ?_
          refine w_getI rfl f_Hands_15 rfl rfl rfl ?_
          refine w_iconst rfl ?_
          refine w_iadd rfl ?_
          refine w_putI rfl f_Hands_15 fw_2_1 rfl rfl rfl ?_
          refine w_iload_n rfl rfl ?_
          refine w_istore_n rfl rfl rfl rfl (w_ls (ls2 := [(0, vR 57), (1, vI x2), (2, vI x2)]) rfl ?_)
          refine w_iinc rfl rfl rfl rfl rfl (w_ls (ls2 := [(0, vR 57), (1, vI x2), (2, vI (x2 + 1))]) rfl ?_)
          refine w_goto (tgt := 10) rfl (by decide) ?_
          exact F
        · replace F := F.2 q10
          refine w_aload_n rfl rfl ?_
          refine w_getR rfl f_Hands_18 rfl rfl rfl rfl rfl ?_
          refine w_iload_n rfl rfl ?_
          refine w_aload_n rfl rfl ?_
          refine w_getR rfl f_Hands_18 rfl rfl rfl rfl rfl ?_
          refine w_iload_n rfl rfl ?_
          refine w_iaload rfl rfl rfl b3 ?_
          refine w_aload_n rfl rfl ?_
          refine w_getR rfl f_Hands_18 rfl rfl rfl rfl rfl ?_
          refine w_iload_n rfl rfl ?_
          obtain ⟨b11, F⟩ := F
          refine w_iaload rfl rfl rfl b11 ?_
          obtain ⟨b12, F⟩ := F
          refine c_SI [vI (h 58 x2.toNat), vI (h 58 x1.toNat)] [vI x2, vR 58] rfl b_JM_min k_Hands_40 rfl rfl rfl (c_JM_min b4 b12 ?_)
          refine w_iastore rfl rfl rfl b3 ?_
          refine w_goto (tgt := 80) rfl (by decide) ?_
          refine w_iload_n rfl rfl ?_
          refine w_istore_n rfl rfl rfl rfl (w_ls (ls2 := [(0, vR 57), (1, vI x2), (2, vI x2)]) rfl ?_)
          refine w_iinc rfl rfl rfl rfl rfl (w_ls (ls2 := [(0, vR 57), (1, vI x2), (2, vI (x2 + 1))]) rfl ?_)
          refine w_goto (tgt := 10) rfl (by decide) ?_
          exact F
    · replace F := F.2 q5
      refine w_goto (tgt := 82) rfl (by decide) ?_
      refine w_iinc rfl rfl rfl rfl rfl (w_ls (ls2 := [(0, vR 57), (1, vI x1), (2, vI (x2 + 1))]) rfl ?_)
      refine w_goto (tgt := 10) rfl (by decide) ?_
      exact F
theorem s_Hands_spreadDownward_0 {d : Nat}  (h : St) (K : St → Prop) (F : (wV d m_Hands_spreadDownward 6 [(0, vR 57), (1, vI ((-4))), (2, vI 99)] [] h K)) : wV d m_Hands_spreadDownward 0 [(0, vR 57)] [] h K := by
  refine w_bipush (by decide) (by decide) rfl ?_
  refine w_istore_n rfl rfl rfl rfl (w_ls (ls2 := [(0, vR 57), (1, vI ((-4)))]) rfl ?_)
  refine w_bipush (by decide) (by decide) rfl ?_
  refine w_istore_n rfl rfl rfl rfl (w_ls (ls2 := [(0, vR 57), (1, vI ((-4))), (2, vI 99)]) rfl ?_)
  exact F
theorem s_Hands_spreadDownward_6 {d : Nat}  (x1 x2 : Int) (h : St) (K : St → Prop) (F : (inR x2) ∧ ((x2 < 0 → (K h)) ∧ (¬ (x2 < 0) → (0 ≤ x2 ∧ x2 < 100) ∧ (inR (h 58 x2.toNat)) ∧ (((h 58 x2.toNat) ≠ ((-4)) → (inR x1) ∧ ((x1 = ((-4)) → (wV d m_Hands_spreadDownward 6 [(0, vR 57), (1, vI x2), (2, vI (x2 + (-1)))] [] h K)) ∧ (¬ (x1 = ((-4))) → (inR (x1 - x2)) ∧ (inR (h 57 0)) ∧ (((h 57 0) < (x1 - x2) → (wV d m_Hands_spreadDownward 6 [(0, vR 57), (1, vI x2), (2, vI (x2 + (-1)))] [] h K)) ∧ (¬ ((h 57 0) < (x1 - x2)) → (0 ≤ x1 ∧ x1 < 100) ∧ (wV d m_Hands_spreadDownward 6 [(0, vR 57), (1, vI x2), (2, vI (x2 + (-1)))] [] (up h 58 x2.toNat (h 58 x1.toNat)) K)))))) ∧ (¬ ((h 58 x2.toNat) ≠ ((-4))) → (wV d m_Hands_spreadDownward 6 [(0, vR 57), (1, vI x1), (2, vI (x2 + (-1)))] [] h K)))))) : wV d m_Hands_spreadDownward 6 [(0, vR 57), (1, vI x1), (2, vI x2)] [] h K := by
  refine w_iload_n rfl rfl ?_
  obtain ⟨b1, F⟩ := F
  refine w_if_lt (tgt := 60) rfl (by decide) b1 (fun q2 => ?_) (fun q2 => ?_)
  · replace F := F.1 q2
    exact w_vret rfl rfl ⟨rfl, rfl, rfl, F⟩
  · replace F := F.2 q2
    refine w_aload_n rfl rfl ?_
    refine w_getR rfl f_Hands_18 rfl rfl rfl rfl rfl ?_
    refine w_iload_n rfl rfl ?_
    obtain ⟨b3, F⟩ := F
    refine w_iaload rfl rfl rfl b3 ?_
    refine w_bipush (by decide) (by decide) rfl ?_
    obtain ⟨b4, F⟩ := F
    refine w_icmp_ne (tgt := 24) rfl (by decide) ⟨b4, (r_lit rfl)⟩ (fun q5 => ?_) (fun q5 => ?_)
    · replace F := F.1 q5
      refine w_iload_n rfl rfl ?_
      refine w_bipush (by decide) (by decide) rfl ?_
      obtain ⟨b6, F⟩ := F
      refine w_icmp_eq (tgt := 52) rfl (by decide) ⟨b6, (r_lit rfl)⟩ (fun q7 => ?_) (fun q7 => ?_)
      · replace F := F.1 q7
        refine w_iload_n rfl rfl ?_
        refine w_istore_n rfl rfl rfl rfl (w_ls (ls2 := [(0, vR 57), (1, vI x2), (2, vI x2)]) rfl ?_)
        refine w_iinc rfl rfl rfl rfl rfl (w_ls (ls2 := [(0, vR 57), (1, vI x2), (2, vI (x2 + (-1)))]) rfl ?_)
        refine w_goto (tgt := 6) rfl (by decide) ?_
        exact F
      · replace F := F.2 q7
        refine w_iload_n rfl rfl ?_
        refine w_iload_n rfl rfl ?_
        refine w_isub rfl ?_
        refine w_aload_n rfl rfl ?_
        refine w_getI rfl f_Hands_9 rfl rfl rfl ?_
        obtain ⟨b8, F⟩ := F
        obtain ⟨b9, F⟩ := F
        refine w_icmp_gt (tgt := 52) rfl (by decide) ⟨b8, b9⟩ (fun q10 => ?_) (fun q10 => ?_)
        · replace F := F.1 q10
          refine w_iload_n rfl rfl ?_
          refine w_istore_n rfl rfl rfl rfl (w_ls (ls2 := [(0, vR 57), (1, vI x2), (2, vI x2)]) rfl ?_)
          refine w_iinc rfl rfl rfl rfl rfl (w_ls (ls2 := [(0, vR 57), (1, vI x2), (2, vI (x2 + (-1)))]) rfl ?_)
          refine w_goto (tgt := 6) rfl (by decide) ?_
          exact F
        · replace F := F.2 q10
          refine w_aload_n rfl rfl ?_
          refine w_getR rfl f_Hands_18 rfl rfl rfl rfl rfl ?_
          refine w_iload_n rfl rfl ?_
          refine w_aload_n rfl rfl ?_
          refine w_getR rfl f_Hands_18 rfl rfl rfl rfl rfl ?_
          refine w_iload_n rfl rfl ?_
          obtain ⟨b11, F⟩ := F
          refine w_iaload rfl rfl rfl b11 ?_
          refine w_iastore rfl rfl rfl b3 ?_
          refine w_iload_n rfl rfl ?_
          refine w_istore_n rfl rfl rfl rfl (w_ls (ls2 := [(0, vR 57), (1, vI x2), (2, vI x2)]) rfl ?_)
          refine w_iinc rfl rfl rfl rfl rfl (w_ls (ls2 := [(0, vR 57), (1, vI x2), (2, vI (x2 + (-1)))]) rfl ?_)
          refine w_goto (tgt := 6) rfl (by decide) ?_
          exact F
    · replace F := F.2 q5
      refine w_goto (tgt := 54) rfl (by decide) ?_
      refine w_iinc rfl rfl rfl rfl rfl (w_ls (ls2 := [(0, vR 57), (1, vI x1), (2, vI (x2 + (-1)))]) rfl ?_)
      refine w_goto (tgt := 6) rfl (by decide) ?_
      exact F
theorem s_Hands_handOf_0 {d : Nat}  (x2 : Int) (h : St) (K : Int → St → Prop) (F : (0 ≤ x2 ∧ x2 < 60) ∧ (0 ≤ h 7 x2.toNat ∧ h 7 x2.toNat < 100) ∧ (K (h 58 ((h 7 x2.toNat).toNat)) h)) : wI d m_Hands_handOf 0 [(0, vR 57), (1, vR 1), (2, vI x2)] [] h K := by
  refine w_aload_n rfl rfl ?_
  refine w_getR rfl f_Hands_18 rfl rfl rfl rfl rfl ?_
  refine w_aload_n rfl rfl ?_
  refine w_getR rfl f_Hands_31 rfl rfl rfl rfl rfl ?_
  refine w_iload_n rfl rfl ?_
  obtain ⟨b1, F⟩ := F
  refine w_iaload rfl rfl rfl b1 ?_
  obtain ⟨b2, F⟩ := F
  refine w_iaload rfl rfl rfl b2 ?_
  exact w_iret rfl rfl ⟨rfl, rfl, _, rfl, F⟩
def paA (lg : Nat → Nat → Int) (c : Nat) : Nat := (lg 5 c).toNat
def occA (lg : Nat → Nat → Int) (n p : Nat) : Prop := ∃ c, c < n ∧ paA lg c = p
def hcA (lg : Nat → Nat → Int) (n : Nat) (t : Int) (c : Nat) (v : Int) : Prop := 0 ≤ v ∧ v ≤ c ∧ ∀ g, cldA lg n t g → g v.toNat = g c
def bokA (lg : Nat → Nat → Int) (n : Nat) (t : Int) (B : Nat → Int) : Prop := (∀ p, p < 100 → B p = -4 ∨ occA lg n p) ∧ ∀ c, c < n → hcA lg n t c (B (paA lg c))
def staA (lg : Nat → Nat → Int) (n : Nat) (t : Int) (p : Nat) : Prop := occA lg n p ∧ ∀ q, q < p → occA lg n q → t < (p : Int) - q
theorem paA_R {lg : Nat → Nat → Int} {n : Nat} (vl : VLog n lg) {c : Nat} (hc : c < n) : paA lg c < 100 ∧ lg 5 c = (paA lg c : Int) := by
  have := (vl c hc).2.2.2.2.2.2
  unfold paA
  omega
theorem gap_pa {lg : Nat → Nat → Int} {n : Nat} (vl : VLog n lg) {a b : Nat} (ha : a < n) (hb : b < n) {t : Int} : gapA lg a b ≤ t ↔ ((paA lg a : Int) - paA lg b ≤ t ∧ (paA lg b : Int) - paA lg a ≤ t) := by
  have e1 := (paA_R vl ha).2
  have e2 := (paA_R vl hb).2
  unfold gapA
  omega
theorem occ_R {lg : Nat → Nat → Int} {n : Nat} (vl : VLog n lg) {p : Nat} (o : occA lg n p) : p < 100 := by
  obtain ⟨c, hc, e⟩ := o
  rw [← e]
  exact (paA_R vl hc).1
theorem bok_occ {lg : Nat → Nat → Int} {n : Nat} {t : Int} {B : Nat → Int} (b : bokA lg n t B) {p : Nat} (o : occA lg n p) : 0 ≤ B p ∧ B p < n := by
  obtain ⟨c, hc, e⟩ := o
  obtain ⟨h1, h2, _⟩ := b.2 c hc
  rw [e] at h1 h2
  omega
theorem bok_R {lg : Nat → Nat → Int} {n : Nat} {t : Int} {B : Nat → Int} (b : bokA lg n t B) (hn : n ≤ 60) {p : Nat} (hp : p < 100) : -4 ≤ B p ∧ B p < 60 := by
  rcases b.1 p hp with q | q
  · omega
  · have := bok_occ b q
    omega
/- one step: a row value is changed to that of a near pause, and not made greater -/
theorem bok_up {lg : Nat → Nat → Int} {n : Nat} {t : Int} (vl : VLog n lg) {h : St} (b : bokA lg n t (h 58)) {p q : Nat} {v : Int} (op : occA lg n p) (oq : occA lg n q) (near : (p : Int) - q ≤ t ∧ (q : Int) - p ≤ t) (hv : v = h 58 q ∨ v = h 58 p) (le : v ≤ h 58 p) : bokA lg n t (up h 58 p v 58) := by
  refine ⟨fun p2 h2 => ?_, fun c hc => ?_⟩
  · by_cases e : p2 = p
    · subst e; exact Or.inr op
    · rw [up_ne (by omega)]; exact b.1 p2 h2
  · by_cases e : paA lg c = p
    · obtain ⟨h1, h2, h3⟩ := b.2 c hc
      rw [e, up_same]
      rw [e] at h1 h2 h3
      rcases hv with hv | hv
      · obtain ⟨c2, hc2, e2⟩ := oq
        obtain ⟨k1, k2, k3⟩ := b.2 c2 hc2
        rw [e2] at k1 k2 k3
        subst hv
        refine ⟨k1, by omega, fun g hg => ?_⟩
        rw [k3 g hg]
        exact hg c2 c hc2 hc ((gap_pa vl hc2 hc).mpr (by rw [e, e2]; omega))
      · subst hv; exact ⟨h1, h2, h3⟩
    · rw [up_ne (by omega)]; exact b.2 c hc
section G41
variable {D : Nat} {K : St → Prop} {n : Nat} {lg : Nat → Nat → Int} {t : Int}
theorem C_spread (vl : VLog n lg) (hn : n ≤ 60) (rt : 0 ≤ t ∧ t ≤ 99) : ∀ (x : Nat) (l : Int) (h : St), x ≤ 100 → h 57 0 = t → bokA lg n t (h 58) → ((l = -4 ∧ ∀ q, x ≤ q → ¬ occA lg n q) ∨ ∃ L : Nat, l = L ∧ x ≤ L ∧ occA lg n L ∧ ∀ q, x ≤ q → q < L → ¬ occA lg n q) → (∀ q q2 : Nat, occA lg n q → occA lg n q2 → q < q2 → q < x → (q2 : Int) - q ≤ t → h 58 q2 ≤ h 58 q) → (∀ q q2 : Nat, occA lg n q → occA lg n q2 → q ≤ q2 → x ≤ q → (q2 : Int) - q ≤ t → h 58 q = h 58 q2) → (∀ h2, ag (fun c _ => c ≠ 58) h h2 → isHand lg n t (fun c => h2 58 (paA lg c)) → K h2) → wV D m_Hands_spreadDownward 6 [(0, vR 57), (1, vI l), (2, vI ((x : Int) - 1))] [] h K := by
  intro x
  induction x with
  | zero =>
    intro l h hx e0 b la U C k
    refine s_Hands_spreadDownward_6 _ _ h K ⟨⟨by omega, by omega⟩, fun _ => k h ag_rfl ⟨fun x y hx hy hg => ?_, fun a ha => b.2 a ha⟩, fun z => absurd (by omega) z⟩
    have g := (gap_pa vl hx hy).mp hg
    by_cases q : paA lg x ≤ paA lg y
    · exact C _ _ ⟨x, hx, rfl⟩ ⟨y, hy, rfl⟩ q (by omega) (by omega)
    · exact (C _ _ ⟨y, hy, rfl⟩ ⟨x, hx, rfl⟩ (by omega) (by omega) (by omega)).symm
  | succ x ih =>
    intro l h hx e0 b la U C k
    have r1 := bok_R b hn (show x < 100 by omega)
    refine s_Hands_spreadDownward_6 _ _ h K ?_
    rw [show (((x + 1 : Nat) : Int) - 1).toNat = x by omega, show ((x + 1 : Nat) : Int) - 1 = (x : Int) by omega, show (x : Int) + (-1) = (x : Int) - 1 by omega, e0]
    have lR : -4 ≤ l ∧ l < 100 := by
      rcases la with ⟨e, _⟩ | ⟨L, e, _, o, _⟩
      · omega
      · have := occ_R vl o; omega
    refine ⟨⟨by omega, by omega⟩, fun z => by omega, fun _ => ⟨by omega, ⟨by omega, by omega⟩, fun z => ⟨⟨by omega, by omega⟩, fun z2 => ?_, fun z2 => ⟨⟨by omega, by omega⟩, ⟨by omega, by omega⟩, fun z3 => ?_, fun z3 => ?_⟩⟩, fun z => ?_⟩⟩
    · -- occupied, none above
      have ox : occA lg n x := (b.1 x (by omega)).elim (fun q => absurd q z) id
      have no : ∀ q, x + 1 ≤ q → ¬ occA lg n q := by
        rcases la with ⟨_, a⟩ | ⟨L, e, _⟩
        · exact a
        · omega
      refine ih x h (by omega) e0 b (Or.inr ⟨x, rfl, by omega, ox, fun q h1 h2 => by omega⟩) (fun q q2 o1 o2 h1 h2 => U q q2 o1 o2 h1 (by omega)) (fun q q2 o1 o2 h1 h2 h3 => ?_) k
      have e1 : q2 = x := by
        by_cases w : x + 1 ≤ q2
        · exact absurd o2 (no q2 w)
        · omega
      have e2 : q = x := by omega
      rw [e1, e2]
    · -- occupied, the one above is too far
      have ox : occA lg n x := (b.1 x (by omega)).elim (fun q => absurd q z) id
      obtain ⟨L, e, h1, oL, no⟩ : ∃ L : Nat, l = L ∧ x + 1 ≤ L ∧ occA lg n L ∧ ∀ q, x + 1 ≤ q → q < L → ¬ occA lg n q := by
        rcases la with ⟨e, _⟩ | a
        · exact absurd e z2
        · exact a
      refine ih x h (by omega) e0 b (Or.inr ⟨x, rfl, by omega, ox, fun q h1 h2 => by omega⟩) (fun q q2 o1 o2 h1 h2 => U q q2 o1 o2 h1 (by omega)) (fun q q2 o1 o2 g1 g2 g3 => ?_) k
      by_cases w : x + 1 ≤ q
      · exact C q q2 o1 o2 g1 w g3
      · have e2 : q = x := by omega
        by_cases w2 : q2 = x
        · rw [w2, e2]
        · by_cases w3 : q2 < L
          · exact absurd o2 (no q2 (by omega) w3)
          · omega
    · -- occupied, joined to the one above
      have ox : occA lg n x := (b.1 x (by omega)).elim (fun q => absurd q z) id
      obtain ⟨L, e, h1, oL, no⟩ : ∃ L : Nat, l = L ∧ x + 1 ≤ L ∧ occA lg n L ∧ ∀ q, x + 1 ≤ q → q < L → ¬ occA lg n q := by
        rcases la with ⟨e, _⟩ | a
        · exact absurd e z2
        · exact a
      have L1 := occ_R vl oL
      have le : h 58 L ≤ h 58 x := U x L ox oL (by omega) (by omega) (by omega)
      refine ⟨by omega, ?_⟩
      rw [e, Int.toNat_natCast]
      refine ih x _ (by omega) (by rw [up_ne (by omega)]; exact e0) (bok_up vl b ox oL (by omega) (Or.inl rfl) le) (Or.inr ⟨x, rfl, by omega, ox, fun q h1 h2 => by omega⟩) (fun q q2 o1 o2 g1 g2 g3 => ?_) (fun q q2 o1 o2 g1 g2 g3 => ?_) (fun h2 g2 q => k h2 (ag_trans (ag_up (by omega) ag_rfl) g2) q)
      · rw [up_ne (c := 58) (k := q) (by omega)]
        by_cases w : q2 = x
        · subst w
          rw [up_same]
          have := U q q2 o1 o2 g1 (by omega) g3
          omega
        · rw [up_ne (by omega)]
          exact U q q2 o1 o2 g1 (by omega) g3
      · by_cases w : q = x
        · subst w
          rw [up_same]
          by_cases w2 : q2 = q
          · subst w2; rw [up_same]
          · rw [up_ne (by omega)]
            have w3 : L ≤ q2 := by
              by_cases w4 : q2 < L
              · exact absurd o2 (no q2 (by omega) w4)
              · omega
            exact C L q2 oL o2 w3 (by omega) (by omega)
        · rw [up_ne (by omega), up_ne (by omega)]
          exact C q q2 o1 o2 g1 (by omega) g3
    · -- no call has this pause
      have nx : ¬ occA lg n x := fun o => by have := bok_occ b o; omega
      refine ih l h (by omega) e0 b ?_ (fun q q2 o1 o2 h1 h2 => U q q2 o1 o2 h1 (by omega)) (fun q q2 o1 o2 h1 h2 h3 => ?_) k
      · rcases la with ⟨e, a⟩ | ⟨L, e, h1, o, a⟩
        · refine Or.inl ⟨e, fun q hq => ?_⟩
          by_cases w : q = x
          · subst w; exact nx
          · exact a q (by omega)
        · refine Or.inr ⟨L, e, by omega, o, fun q hq hq2 => ?_⟩
          by_cases w : q = x
          · subst w; exact nx
          · exact a q (by omega) hq2
      · by_cases w : q = x
        · subst w; exact absurd o1 nx
        · exact C q q2 o1 o2 h1 (by omega) h3
theorem C_join (vl : VLog n lg) (hn : n ≤ 60) (rt : 0 ≤ t ∧ t ≤ 99) : ∀ (r x : Nat) (l : Int) (h : St), x + r = 100 → h 57 0 = t → h 57 1 = sm (fun p => b2i (staA lg n t p)) x → bokA lg n t (h 58) → ((l = -4 ∧ ∀ q, q < x → ¬ occA lg n q) ∨ ∃ L : Nat, l = L ∧ L < x ∧ occA lg n L ∧ ∀ q, L < q → q < x → ¬ occA lg n q) → (∀ q q2 : Nat, occA lg n q → occA lg n q2 → q < q2 → q2 < x → (q2 : Int) - q ≤ t → h 58 q2 ≤ h 58 q) → (∀ h2, ag (fun c k => c ≠ 58 ∧ ¬ (c = 57 ∧ k = 1)) h h2 → h2 57 1 = sm (fun p => b2i (staA lg n t p)) 100 → bokA lg n t (h2 58) → (∀ q q2 : Nat, occA lg n q → occA lg n q2 → q < q2 → (q2 : Int) - q ≤ t → h2 58 q2 ≤ h2 58 q) → K h2) → wV (D + 1) m_Hands_joinUpward 10 [(0, vR 57), (1, vI l), (2, vI (x : Int))] [] h K := by
  intro r
  induction r with
  | zero =>
    intro x l h hx e0 e1 b la U k
    have e : x = 100 := by omega
    subst e
    exact s_Hands_joinUpward_10 _ _ h K ⟨⟨by omega, by omega⟩, fun _ => k h ag_rfl e1 b (fun q q2 o1 o2 h1 => U q q2 o1 o2 h1 (occ_R vl o2)), fun z => absurd (by omega) z⟩
  | succ r ih =>
    intro x l h hx e0 e1 b la U k
    have r1 := bok_R b hn (show x < 100 by omega)
    have lR : -4 ≤ l ∧ l < 100 := by
      rcases la with ⟨e, _⟩ | ⟨L, e, h1, _⟩ <;> omega
    have sR := sm_bnd (f := fun p => b2i (staA lg n t p)) (u := 1) (by omega) x (fun i _ => b2i_B)
    refine s_Hands_joinUpward_10 _ _ h K ?_
    rw [Int.toNat_natCast, e0]
    -- a new hand begins here
    have new : occA lg n x → (∀ q, q < x → occA lg n q → t < (x : Int) - q) → wV (D + 1) m_Hands_joinUpward 10 [(0, vR 57), (1, vI (x : Int)), (2, vI ((x : Int) + 1))] [] (up h 57 1 (h 57 1 + 1)) K := fun ox far => by
      refine ih (x + 1) (x : Int) _ (by omega) (by rw [up_ne (by omega)]; exact e0) (by rw [up_same, sm_succ, e1, b2i_t ⟨ox, far⟩]) (by rw [up_row _ _ _ _ _ (by decide)]; exact b) (Or.inr ⟨x, rfl, by omega, ox, fun q h1 h2 => by omega⟩) (fun q q2 o1 o2 h1 h2 h3 => ?_) (fun h2 g2 => k h2 (ag_trans (ag_up (by omega) ag_rfl) g2))
      rw [up_ne (by omega), up_ne (by omega)]
      by_cases w : q2 = x
      · subst w
        have := far q h1 o1
        omega
      · exact U q q2 o1 o2 h1 (by omega) h3
    refine ⟨⟨by omega, by omega⟩, fun z => by omega, fun _ => ⟨by omega, ⟨by omega, by omega⟩, fun z => ⟨⟨by omega, by omega⟩, fun z2 => ?_, fun z2 => ⟨⟨by omega, by omega⟩, ⟨by omega, by omega⟩, fun z3 => ?_, fun z3 => ?_⟩⟩, fun z => ?_⟩⟩
    · have ox : occA lg n x := (b.1 x (by omega)).elim (fun q => absurd q z) id
      refine new ox (fun q hq oq => ?_)
      rcases la with ⟨_, a⟩ | ⟨L, e, _⟩
      · exact absurd oq (a q hq)
      · omega
    · have ox : occA lg n x := (b.1 x (by omega)).elim (fun q => absurd q z) id
      refine new ox (fun q hq oq => ?_)
      rcases la with ⟨e, _⟩ | ⟨L, e, h1, oL, no⟩
      · exact absurd e z2
      · by_cases w : L < q
        · exact absurd oq (no q w hq)
        · omega
    · have ox : occA lg n x := (b.1 x (by omega)).elim (fun q => absurd q z) id
      obtain ⟨L, e, h1, oL, no⟩ : ∃ L : Nat, l = L ∧ L < x ∧ occA lg n L ∧ ∀ q, L < q → q < x → ¬ occA lg n q := by
        rcases la with ⟨e, _⟩ | a
        · exact absurd e z2
        · exact a
      have rL := bok_occ b oL
      rw [e, Int.toNat_natCast]
      refine ⟨by omega, ⟨by omega, by omega⟩, ?_⟩
      have hv : min (h 58 x) (h 58 L) = h 58 L ∨ min (h 58 x) (h 58 L) = h 58 x := by omega
      refine ih (x + 1) (x : Int) _ (by omega) (by rw [up_ne (by omega)]; exact e0) ?_ (bok_up vl b ox oL (by omega) hv (by omega)) (Or.inr ⟨x, rfl, by omega, ox, fun q h1 h2 => by omega⟩) (fun q q2 o1 o2 g1 g2 g3 => ?_) (fun h2 g2 => k h2 (ag_trans (ag_up (by omega) ag_rfl) g2))
      · rw [up_ne (by omega), sm_succ, e1, b2i_f (fun q => by have := q.2 L h1 oL; omega), Int.add_zero]
      · rw [up_ne (c := 58) (k := q) (by omega)]
        by_cases w : q2 = x
        · subst w
          rw [up_same]
          by_cases w2 : q = L
          · subst w2; omega
          · have w3 : q < L := by
              by_cases w4 : L < q
              · exact absurd o1 (no q w4 g1)
              · omega
            have := U q L o1 oL w3 h1 (by omega)
            omega
        · rw [up_ne (by omega)]
          exact U q q2 o1 o2 g1 (by omega) g3
    · have nx : ¬ occA lg n x := fun o => by have := bok_occ b o; omega
      refine ih (x + 1) l h (by omega) e0 (by rw [sm_succ, e1, b2i_f (fun q => nx q.1), Int.add_zero]) b ?_ (fun q q2 o1 o2 h1 h2 h3 => ?_) k
      · rcases la with ⟨e, a⟩ | ⟨L, e, h1, o, a⟩
        · refine Or.inl ⟨e, fun q hq => ?_⟩
          by_cases w : q = x
          · subst w; exact nx
          · exact a q (by omega)
        · refine Or.inr ⟨L, e, by omega, o, fun q hq hq2 => ?_⟩
          by_cases w : q = x
          · subst w; exact nx
          · exact a q hq (by omega)
      · by_cases w : q2 = x
        · subst w; exact absurd o2 nx
        · exact U q q2 o1 o2 h1 (by omega) h3
theorem C_grp (vl : VLog n lg) (rt : 0 ≤ t ∧ t ≤ 99) : ∀ (c : Nat) (h : St), c ≤ n → CLog h n lg → h 57 0 = t → (∀ p, p < 100 → h 58 p = -4 ∨ occA lg n p) → (∀ b, c ≤ b → b < n → (c : Int) ≤ h 58 (paA lg b) ∧ h 58 (paA lg b) ≤ b ∧ paA lg (h 58 (paA lg b)).toNat = paA lg b) → (∀ h2, ag (fun c k => c ≠ 58 ∧ ¬ (c = 57 ∧ k = 1)) h h2 → h2 57 1 = sm (fun p => b2i (staA lg n t p)) 100 → isHand lg n t (fun c => h2 58 (paA lg c)) → K h2) → wV (D + 2) m_Hands_group 16 [(0, vR 57), (1, vR 1), (2, vI ((c : Int) - 1))] [] h K := by
  intro c
  induction c with
  | zero =>
    intro h hc cl e0 o f k
    have hn := cl.2.1
    have b : bokA lg n t (h 58) := ⟨o, fun c hc => by
      obtain ⟨f1, f2, f3⟩ := f c (by omega) hc
      refine ⟨f1, f2, fun g hg => hg _ c (by omega) hc ((gap_pa vl (by omega) hc).mpr ?_)⟩
      rw [f3]
      omega⟩
    refine s_Hands_group_16 _ h K ⟨⟨by omega, by omega⟩, fun _ => ?_, fun z => absurd (by omega) z⟩
    refine mV_intro b_Hands_joinUpward rfl (s_Hands_joinUpward_0 (d := D) h _ ?_)
    refine C_join vl hn rt 100 0 _ _ (by omega) (by rw [up_ne (by omega)]; exact e0) (by rw [up_same]; rfl) (by rw [up_row _ _ _ _ _ (by decide)]; exact b) (Or.inl ⟨rfl, fun q hq => absurd hq (Nat.not_lt_zero q)⟩) (fun q q2 _ _ _ hq => absurd hq (Nat.not_lt_zero q2)) (fun h2 g2 s2 b2 U2 => ?_)
    refine mV_intro b_Hands_spreadDownward rfl (s_Hands_spreadDownward_0 (d := D + 1) h2 _ ?_)
    have e2 : h2 57 0 = t := by rw [g2 _ _ (by omega), up_ne (by omega)]; exact e0
    refine C_spread vl hn rt 100 _ h2 (by omega) e2 b2 (Or.inl ⟨rfl, fun q hq o => by have := occ_R vl o; omega⟩) (fun q q2 o1 o2 h1 _ h3 => U2 q q2 o1 o2 h1 h3) (fun q q2 o1 o2 _ h1 _ => by have := occ_R vl o1; omega) (fun h3 g3 hh => ?_)
    exact k h3 (ag_trans (ag_trans (ag_up (by omega) ag_rfl) g2) (ag_sub (fun c k p => by omega) g3)) (by rw [g3 _ _ (by omega)]; exact s2) hh
  | succ c ih =>
    intro h hc cl e0 o f k
    have hn := cl.2.1
    have hc2 : c < n := by omega
    obtain ⟨a0, a1, a2, a3, a4, a5⟩ := CLog_at cl hc2
    have pr := paA_R vl hc2
    have q1 := (vl c hc2).2.2.2.2.2.2
    refine s_Hands_group_16 _ h K ?_
    rw [show (((c + 1 : Nat) : Int) - 1).toNat = c by omega, a5, show (lg 5 c).toNat = paA lg c from rfl, show ((c + 1 : Nat) : Int) - 1 = (c : Int) by omega, show (c : Int) + (-1) = (c : Int) - 1 by omega]
    refine ⟨⟨by omega, by omega⟩, fun z => by omega, fun _ => ⟨by omega, by omega, ?_⟩⟩
    refine ih _ (by omega) (CLog_c (ag_up (by omega) ag_rfl) cl) (by rw [up_ne (by omega)]; exact e0) (fun p hp => ?_) (fun b hb hb2 => ?_) (fun h2 g2 => k h2 (ag_trans (ag_up (by omega) ag_rfl) g2))
    · by_cases w : p = paA lg c
      · exact Or.inr ⟨c, hc2, w.symm⟩
      · rw [up_ne (by omega)]; exact o p hp
    · by_cases w : paA lg b = paA lg c
      · rw [w, up_same]
        exact ⟨by omega, by omega, by rw [Int.toNat_natCast]⟩
      · rw [up_ne (by omega)]
        have hbc : b ≠ c := fun e => w (by rw [e])
        obtain ⟨f1, f2, f3⟩ := f b (by omega) hb2
        exact ⟨by omega, f2, f3⟩
theorem c_Hands_group {h : St} (cl : CLog h n lg) (vl : VLog n lg) (e0 : h 57 0 = t) (rt : 0 ≤ t ∧ t ≤ 99) (k : ∀ h2, ag (fun c k => c ≠ 58 ∧ ¬ (c = 57 ∧ k = 1)) h h2 → h2 57 1 = sm (fun p => b2i (staA lg n t p)) 100 → isHand lg n t (fun c => h2 58 (paA lg c)) → K h2) : mwpV (D + 3) m_Hands_group [vR 57, vR 1] h K := by
  refine mV_intro b_Hands_group rfl (s_Hands_group_0 (d := D) h K (c_JA_fill (len := 100) rfl (by decide) ?_))
  have cl2 : CLog (fillC h 58 100 (-4)) n lg := CLog_c (ag_fill (by omega) ag_rfl) cl
  rw [cl2.1]
  exact C_grp vl rt n _ (by omega) cl2 (by rw [fillC_out (by decide)]; exact e0) (fun p hp => Or.inl (fillC_in hp)) (fun b h1 h2 => by omega) (fun h2 g2 => k h2 (ag_trans (ag_fill (by omega) ag_rfl) g2))
theorem c_Hands_handOf {D : Nat} {K : Int → St → Prop} {h : St} (cl : CLog h n lg) (vl : VLog n lg) {c : Nat} (hc : c < n) (k : K (h 58 (paA lg c)) h) : mwpI (D + 1) m_Hands_handOf [vR 57, vR 1, vI c] h K := by
  have hn := cl.2.1
  obtain ⟨a0, a1, a2, a3, a4, a5⟩ := CLog_at cl hc
  have q1 := (vl c hc).2.2.2.2.2.2
  refine mI_intro b_Hands_handOf rfl (s_Hands_handOf_0 (d := D) _ h K ?_)
  rw [Int.toNat_natCast, a5]
  exact ⟨by omega, by omega, k⟩
end G41
