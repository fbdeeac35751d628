theorem pw_s {P N r : Nat} : P * (N + 1) ^ (r + 1) = (P * (N + 1) + 0) * (N + 1) ^ r := by
  rw [Nat.pow_succ, Nat.mul_comm ((N + 1) ^ r) (N + 1), ← Nat.mul_assoc]
  rfl
theorem pw_e {P N r : Nat} : (P + 1) * (N + 1) ^ (r + 1) = (P * (N + 1) + N + 1) * (N + 1) ^ r := by
  rw [Nat.pow_succ, Nat.mul_comm ((N + 1) ^ r) (N + 1), ← Nat.mul_assoc, Nat.add_mul P 1 (N + 1), Nat.one_mul, Nat.add_assoc]
theorem pw_n {Q N r : Nat} : (Q + 1) * (N + 1) ^ r = Q * (N + 1) ^ r + (N + 1) ^ r := by rw [Nat.add_mul, Nat.one_mul]
theorem tA_no {N m r Q : Nat} {S : Nat → Nat → Int} (no : ∀ c, Q * (N + 1) ^ r ≤ c → c < (Q + 1) * (N + 1) ^ r → ¬ TrT N (dgT N N c)) : tA N S ((Q + 1) * (N + 1) ^ r) = tA N S (Q * (N + 1) ^ r) := by
  rw [pw_n]
  refine tA_sk _ (fun c h1 h2 => stT_n (no c h1 (by rw [pw_n]; exact h2)))
theorem tA_va {N m r Q : Nat} {S : Nat → Nat → Int} {H : Int} (hm : m + r = N) (eH : H = smT N S (dgT N m Q) m + (sm (mxS N S) N - sm (mxS N S) m)) (hv : H < (tA N S (Q * (N + 1) ^ r)).1 ∨ (H = (tA N S (Q * (N + 1) ^ r)).1 ∧ ∀ k, (tA N S (Q * (N + 1) ^ r)).2.2 k = 0)) : tA N S ((Q + 1) * (N + 1) ^ r) = tA N S (Q * (N + 1) ^ r) := by
  rw [pw_n]
  refine tA_sk _ (fun c h1 h2 => ?_)
  by_cases y : TrT N (dgT N N c)
  · rw [stT_y y]
    refine wg_va (H := H) ?_ hv
    have a := sm_hp (N := N) (S := S) (w := dgT N N c) (m := m) (by omega)
    rw [smT_c (w := dgT N m Q) (w2 := dgT N N c) (fun k hk => dg_rg hm hk h1 (by rw [pw_n]; exact h2))] at a
    omega
  · exact stT_n y
def UR (N : Nat) (w : Nat → Nat) (m : Nat) : Prop := ∀ i j, i < m → j < m → w i = N → w j = N → i = j
theorem AB_s {h : St} {N m j : Nat} {w w2 : Nat → Nat} {x : Int} (ab : AB h N w m) (hw : ∀ k, k < m → w2 k = w k) (ex : x = encT N (w2 m)) : AB (up h 83 m x) N w2 (m + 1) := by
  refine ⟨fun k hk => ?_, fun k h1 h2 => by rw [up_ne (by omega)]; exact ab.2 k (by omega) h2⟩
  by_cases e : k = m
  · subst e; rw [up_same]; exact ex
  · rw [up_ne (by omega), ab.1 k (by omega), hw k (by omega)]
theorem C_grow {N : Nat} {S : Nat → Nat → Int} {D : Nat} : ∀ (r m P : Nat) (h : St) (K : St → Prop), m + r = N → TG h N S → AB h N (dgT N m P) m → AcT N m (dgT N m P) → (∀ k, k < m → dgT N m P k ≠ k) → UR N (dgT N m P) m → TR h N (tA N S (P * (N + 1) ^ r)) → (∀ h2, agG h h2 → TR h2 N (tA N S ((P + 1) * (N + 1) ^ r)) → K h2) → mwpV (D + r + 2) m_Tree_grow [vR 79, vI m, vI (smT N S (dgT N m P) m), vI (b2i (∃ k, k < m ∧ dgT N m P k = N))] h K := by
  intro r
  induction r with
  | zero =>
    intro m P h K hm tg ab ac ne ur tr k
    obtain ⟨t1, t2, t3, t4, t5⟩ := id tg
    have em : m = N := by omega
    subst em
    have sR := smT_R (N := m) (w := dgT m m P) t3 t2.2
    have hR := smx_R (m := m) t3 (Nat.le_refl _) t2.2
    refine mV_intro b_Tree_grow rfl (s_Tree_grow_0 (d := D) _ _ _ h K ⟨⟨by omega, by omega⟩, ?_⟩)
    rw [Int.toNat_natCast, t5 m (Nat.le_refl _)]
    refine c_Tree_isVain tr ⟨by omega, by omega⟩ (fun va => ⟨by decide, fun y => absurd y (by decide), fun _ => k h ag_rfl ?_⟩) ⟨by decide, fun _ => ⟨⟨by omega, by omega⟩, fun y => by omega, fun _ => ?_⟩, fun y => absurd rfl y⟩
    · rw [tA_va (m := m) (r := 0) (by omega) rfl va]; exact tr
    · have hw : ∀ k, dgT m m P k ≤ m := fun k => dg_le
      refine c_Tree_weigh t1 t2.2 ab.1 hw tr sR (fun h2 g2 tr2 => k h2 g2 ?_)
      have lf : TrT m (dgT m m P) := tr_leaf (by omega) (fun k _ => hw k) ne ac ur
      have e : tA m S ((P + 1) * (m + 1) ^ 0) = wgT m (dgT m m P) (smT m S (dgT m m P) m) (tA m S (P * (m + 1) ^ 0)) := by
        rw [Nat.pow_zero, Nat.mul_one, Nat.mul_one, tA]
        exact stT_y lf
      rw [e]; exact tr2
  | succ r ih =>
    intro m P h K hm tg ab ac ne ur tr k
    obtain ⟨t1, t2, t3, t4, t5⟩ := id tg
    have sR := smT_R (N := N) (w := dgT N m P) (m := m) t3 (by omega)
    have hR := smx_R (N := N) (m := m) t3 (by omega) t2.2
    have hw : ∀ k, dgT N m P k ≤ N := fun k => dg_le
    have chw : ∀ j, j ≤ N → ∀ k, k < m → dgT N (m + 1) (P * (N + 1) + j) k = dgT N m P k := fun j hj k hk => dg_ch hj hk
    refine mV_intro b_Tree_grow rfl (s_Tree_grow_0 (d := D + (r + 1)) _ _ _ h K ⟨⟨by omega, by omega⟩, ?_⟩)
    rw [Int.toNat_natCast, t5 m (by omega)]
    refine c_Tree_isVain tr ⟨by omega, by omega⟩ (fun va => ⟨by decide, fun y => absurd y (by decide), fun _ => k h ag_rfl ?_⟩) ⟨by decide, fun _ => ⟨⟨by omega, by omega⟩, fun _ => ?_, fun y => by omega⟩, fun y => absurd rfl y⟩
    · rw [tA_va (m := m) (r := r + 1) hm rfl va]; exact tr
    · have loop : ∀ (q j : Nat) (h : St), j + q = N → TG h N S → AB h N (dgT N m P) m → TR h N (tA N S ((P * (N + 1) + j) * (N + 1) ^ r)) → (∀ h2, agG h h2 → TR h2 N (tA N S ((P + 1) * (N + 1) ^ (r + 1))) → K h2) → wV (D + (r + 1) + 1) m_Tree_grow 33 [(0, vR 79), (1, vI m), (2, vI (smT N S (dgT N m P) m)), (3, vI (b2i (∃ k, k < m ∧ dgT N m P k = N))), (4, vI j)] [] h K := by
        intro q
        induction q with
        | zero =>
          intro j h hj tg ab tr k
          have ej : j = N := by omega
          subst ej
          have t1 := tg.1
          have o83 : h 83 m = -1 := ab.2 m (Nat.le_refl _) (by omega)
          refine s_Tree_grow_33 _ _ _ _ h K ⟨⟨by omega, by omega⟩, ⟨by omega, by omega⟩, fun _ => ⟨b2i_R, fun y => k h ag_rfl ?_, fun y => ⟨⟨by omega, by omega⟩, ?_⟩⟩, fun y => by omega⟩
          · obtain ⟨i, i1, i2⟩ := b2i_ne0.mp y
            rw [pw_e, tA_no (m := m) (fun c h1 h2 tt => ?_)]
            · exact tr
            · have d1 : dgT j j c m = j := by rw [dg_rg (m := m + 1) (by omega) (by omega) h1 h2]; exact dg_la (Nat.le_refl _)
              have d2 : dgT j j c i = j := by rw [dg_rg (m := m + 1) (by omega) (by omega) h1 h2, chw j (Nat.le_refl _) i i1]; exact i2
              have := ro_two tt (show m < j by omega) (show i < j by omega) d1 d2
              omega
          · have nr : ¬ ∃ k, k < m ∧ dgT j m P k = j := fun z => y (b2i_ne0.mpr z)
            have dl : dgT j (m + 1) (P * (j + 1) + j) m = j := dg_la (Nat.le_refl _)
            have dw := chw j (Nat.le_refl _)
            have es : smT j S (dgT j m P) m = smT j S (dgT j (m + 1) (P * (j + 1) + j)) (m + 1) := by
              show _ = sm _ (m + 1)
              rw [sm_succ, show svT j S (dgT j (m + 1) (P * (j + 1) + j)) m = 0 by unfold svT; rw [dl]; exact cif_f (Nat.lt_irrefl _), Int.add_zero]
              exact (smT_c dw).symm
            have er : (1 : Int) = b2i (∃ k, k < m + 1 ∧ dgT j (m + 1) (P * (j + 1) + j) k = j) := (b2i_t ⟨m, by omega, dl⟩).symm
            rw [Int.toNat_natCast, es]
            have ihc := ih (m + 1) (P * (j + 1) + j) (up h 83 m (-2)) (fun h7 => K (up h7 83 m (-1))) (by omega) (TG_c (ag_up (by omega) ag_rfl) tg) (AB_s (j := j) (x := -2) ab dw (by rw [dl]; exact (cif_f (Nat.lt_irrefl _)).symm)) (Ac_ext dw ac (by rw [dl]; exact Nat.le_refl _) (fun t => by rw [dl, itT_N (show m ≤ j by omega)]; omega)) (fun k hk => ?_) (fun a b ha hb wa wb => ?_) (TR_c (ag_up (by omega) ag_rfl) tr) (fun h2 g2 tr2 => k (up h2 83 m (-1)) ?_ (TR_c (ag_up (by omega) ag_rfl) (by rw [pw_e]; exact tr2)))
            · rw [← er] at ihc; exact ihc
            · by_cases e : k = m
              · subst e; rw [dl]; omega
              · rw [dw k (by omega)]; exact ne k (by omega)
            · have f : ∀ a, a < m + 1 → dgT j (m + 1) (P * (j + 1) + j) a = j → a = m := fun a ha wa => by
                by_cases e : a = m
                · exact e
                · exact absurd ⟨a, by omega, by rw [← dw a (by omega)]; exact wa⟩ nr
              rw [f a ha wa, f b hb wb]
            · intro c k p
              by_cases e : c = 83 ∧ k = m
              · rw [e.1, e.2, up_same]; exact o83.symm
              · rw [up_ne e, g2 c k p, up_ne e]
        | succ q ihq =>
          intro j h hj tg ab tr k
          have t1 := tg.1
          have t4 := tg.2.2.2.1
          have hjN : j < N := by omega
          have o83 : h 83 m = -1 := ab.2 m (Nat.le_refl _) (by omega)
          have dl : dgT N (m + 1) (P * (N + 1) + j) m = j := dg_la (by omega)
          have dw := chw j (by omega)
          refine s_Tree_grow_33 _ _ _ _ h K ⟨⟨by omega, by omega⟩, ⟨by omega, by omega⟩, fun y => by omega, fun _ => ?_⟩
          refine c_Tree_isUnder (w := dgT N m P) t1 t2.2 (by omega) hjN ab hw (fun un => ⟨by decide, fun _ => ?_, fun y => absurd (by decide) y⟩) (fun nu => ⟨by decide, fun y => absurd rfl y, fun _ => ⟨⟨by omega, by omega⟩, ⟨by omega, by omega⟩, ?_⟩⟩)
          · refine ihq (j + 1) h (by omega) tg ab ?_ k
            obtain ⟨t, ht⟩ := un
            rw [← Nat.add_assoc, tA_no (m := m) (fun c h1 h2 tt => ?_)]
            · exact tr
            · have d1 : dgT N N c m = j := by rw [dg_rg (m := m + 1) (by omega) (by omega) h1 h2]; exact dl
              refine un_no (m := m) (w := dgT N m P) (s := t) (by omega) (fun k hk => ?_) (by rw [d1]; exact ht) tt
              rw [dg_rg (m := m + 1) (by omega) (by omega) h1 h2]; exact dw k hk
          · have nu2 : ∀ t, itT N m (dgT N m P) t j ≠ m := fun t => by
              by_cases y : t < N
              · exact nu t y
              · obtain ⟨s, hs⟩ := ac j (by omega)
                rw [itT_ab (by omega) (itT_end (by omega) (fun k _ => hw k) (by omega) hs) (show N ≤ t by omega)]
                omega
            have e6 : ((j : Int) * 6 + (m : Int)).toNat = j * 6 + m := by omega
            have es : smT N S (dgT N m P) m + S j m = smT N S (dgT N (m + 1) (P * (N + 1) + j)) (m + 1) := by
              show _ = sm _ (m + 1)
              rw [sm_succ, show svT N S (dgT N (m + 1) (P * (N + 1) + j)) m = S j m by unfold svT; rw [dl]; exact cif_t hjN]
              have := smT_c (N := N) (S := S) dw
              unfold smT at this ⊢
              omega
            have er : b2i (∃ k, k < m ∧ dgT N m P k = N) = b2i (∃ k, k < m + 1 ∧ dgT N (m + 1) (P * (N + 1) + j) k = N) := b2i_congr ⟨fun ⟨k, a, b⟩ => ⟨k, by omega, by rw [dw k a]; exact b⟩, fun ⟨k, a, b⟩ => by
              by_cases e : k = m
              · subst e; rw [dl] at b; omega
              · exact ⟨k, by omega, by rw [← dw k (by omega)]; exact b⟩⟩
            have lp : ∀ h13 : St, agG h h13 → TR h13 N (tA N S ((P * (N + 1) + j + 1) * (N + 1) ^ r)) → wV (D + (r + 1) + 1) m_Tree_grow 33 [(0, vR 79), (1, vI m), (2, vI (smT N S (dgT N m P) m)), (3, vI (b2i (∃ k, k < m ∧ dgT N m P k = N))), (4, vI ((j : Int) + 1))] [] h13 K := fun h13 g13 tr13 => by
              refine ihq (j + 1) h13 (by omega) (TG_c (ag_sub (fun c k p => by omega) g13) tg) ⟨fun k hk => by rw [g13 83 k (by omega)]; exact ab.1 k hk, fun k h1 h2 => by rw [g13 83 k (by omega)]; exact ab.2 k h1 h2⟩ (by rw [← Nat.add_assoc]; exact tr13) (fun h2 g2 => k h2 (ag_trans g13 g2))
            rw [Int.toNat_natCast, e6, t4 j m hjN (by omega), es]
            have ihc := ih (m + 1) (P * (N + 1) + j) (up h 83 m (j : Int)) (fun h13 => wV (D + (r + 1) + 1) m_Tree_grow 33 [(0, vR 79), (1, vI m), (2, vI (smT N S (dgT N m P) m)), (3, vI (b2i (∃ k, k < m ∧ dgT N m P k = N))), (4, vI ((j : Int) + 1))] [] (up h13 83 m (-1)) K) (by omega) (TG_c (ag_up (by omega) ag_rfl) tg) (AB_s (j := j) ab dw (by rw [dl]; exact (cif_t hjN).symm)) (Ac_ext dw ac (by rw [dl]; omega) (fun t => by rw [dl]; exact nu2 t)) (fun k hk => ?_) (fun a b ha hb wa wb => ?_) (TR_c (ag_up (by omega) ag_rfl) tr) (fun h2 g2 tr2 => lp _ ?_ (TR_c (ag_up (by omega) ag_rfl) tr2))
            · rw [← er] at ihc; exact ihc
            · by_cases e : k = m
              · subst e; rw [dl]; exact nu2 0
              · rw [dw k (by omega)]; exact ne k (by omega)
            · have f : ∀ a, a < m + 1 → dgT N (m + 1) (P * (N + 1) + j) a = N → a < m := fun a ha wa => by
                by_cases e : a = m
                · subst e; rw [dl] at wa; omega
                · omega
              have a2 := f a ha wa
              have b2 := f b hb wb
              rw [dw a a2] at wa
              rw [dw b b2] at wb
              exact ur a b a2 b2 wa wb
            · intro c k p
              by_cases e : c = 83 ∧ k = m
              · rw [e.1, e.2, up_same]; exact o83.symm
              · rw [up_ne e, g2 c k p, up_ne e]
      exact loop N 0 h (Nat.zero_add _) tg ab (by rw [← pw_s]; exact tr) k
