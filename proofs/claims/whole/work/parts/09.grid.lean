section R9
variable {d nM : Nat} {M : MI} {pc : Nat} {ls : Lv} {st : List Vv} {n : Nat} {rf : RF} {h : St} {Q : Option Vv → Nat → RF → St → Prop}
theorem wsn_more {cA : FieldType → ClassId} {b0 n : Nat} {rf : RF} {h : St} (k : Nat) : wsn cA b0 (n + k) rf h = wsn cA b0 n rf h ++ (List.range k).map (fun i => (b0 + (n + i), celE cA b0 rf h (n + i))) := by
  unfold wsn
  rw [List.range_add, List.map_append, List.map_map]
  rfl
theorem outer_arr (c : ClassId) (N h0 : Nat) : ∀ i : Nat, Jvm.Free.Multi.outerC c N h0 i = arrV c N (fun j => va_rf (if j < i then some (h0 + 1 + j) else none))
  | 0 => by
    show ({ cls := c, slots := Array.replicate N .null, vm := .none } : Cell) = _
    rw [arrV_new]
    refine congrArg (arrV c N) (funext fun j => ?_)
    simp [va_rf]
  | i + 1 => by
    show (Jvm.Free.Multi.outerC c N h0 i).setSlot i (.ref (h0 + 1 + i)) = _
    rw [outer_arr c N h0 i, arrV_store]
    refine congrArg (arrV c N) (funext fun j => ?_)
    by_cases e : j = i
    · subst e
      simp [updV, va_rf]
    · by_cases g : j < i
      · simp [updV, e, g, Nat.lt_succ_of_lt g]
      · simp [updV, e, g, show ¬ j < i + 1 by omega]
theorem Ssum_rows {n N K : Nat} (hs : shp n = .inl (.array .int, N, n + 1)) (hr : ∀ i, i < N → shp (n + 1 + i) = .inl (.int, K, 0)) : ∀ k, k ≤ N → Ssum (n + 1 + k) = Ssum n + N + k * K
  | 0, _ => by
    show Ssum n + shSz (shp n) = _
    rw [hs]
    show Ssum n + N = _
    omega
  | k + 1, hk => by
    have ih := Ssum_rows hs hr k (by omega)
    show Ssum (n + 1 + k) + shSz (shp (n + 1 + k)) = _
    rw [ih, hr k (by omega), Nat.succ_mul]
    show Ssum n + N + k * K + K = _
    omega
theorem w_mna {idx N K : Nat} (hd : mD M pc = some (.multianewarray idx 2, 4)) (hcl : Cond.classLink (mY M).cls idx ("[" ++ (FieldType.array .int).toString) ∈ lw_good) (hov : Cond.arrayOver (.array .int) ∈ lw_nest) (har : Cond.arrayClass .int ∈ lw_good) (hs : shp n = .inl (.array .int, N, n + 1)) (hr : ∀ i, i < N → shp (n + 1 + i) = .inl (.int, K, 0)) (hn : Nat.ble (n + 1 + N) nM = true) (hN : N ≤ 1000) (hK : K ≤ 1000) (kk : wp d nM M (pc + 4) ls (vR n :: st) (n + 1 + N) rf (zr h n) Q) : wp d nM M pc ls (vI (K : Int) :: vI (N : Int) :: st) n rf h Q := by
  intro p l e R s m args below meth co H locs nE QQ dC dI cA b0 bs la C hP hz hS hl hq
  have hn1 : n + 1 + N ≤ nM := Nat.le_of_ble_eq_true hn
  have hts := C.2.1.1
  have hcN : (Int32.ofInt (N : Int)).toNatClampNeg = N := i3_clamp (by omega) (by omega)
  have hcK : (Int32.ofInt (K : Int)).toNatClampNeg = K := i3_clamp (by omega) (by omega)
  have hnn : ∀ x : Nat, x ≤ 1000 → ¬ Int32.ofInt (x : Int) < 0 := by
    intro x hx q
    rw [i3_zero, i3_lt ⟨by omega, by omega⟩ ⟨by omega, by omega⟩] at q
    omega
  obtain ⟨b1, b2, b3, b4, b5⟩ := C.2.2.2.2.1
  have m1 := Ssum_le b3
  have m2 := Ssum_rows hs hr N (Nat.le_refl N)
  have m3 := Ssum_le hn1
  have hRA : s.vm.findClass ("[" ++ (FieldType.array .int).toString) = some (cA (.array .int)) := (C.2.2.1.2 4 _ rfl).2
  have hRI : s.vm.findClass (FieldType.array .int).toString = some (cA .int) := (C.2.2.1.2 0 _ rfl).2
  intro T hT X
  obtain ⟨vm1, c1, c2, -, fA, fC, -, -, X2, step⟩ := X.multianewarray2F C.1.1 (ty := .int) C.1.2.2.2 (hts _ hcl) (ao_vm rfl (C.2.1.2 _ hov)) (hts _ har) (g := F0 m pc la ((vI (K : Int) :: vI (N : Int) :: st).map (cv b0 bs))) (k := Int32.ofInt (K : Int)) (n := Int32.ofInt (N : Int)) (rest := st.map (cv b0 bs)) rfl (by rw [C.1.2.1]; exact cx_d C hd) rfl (hnn N hN) (hnn K hK) (by rw [hcN]; omega) (by rw [hcK]; show K * 4 ≤ _; omega) (by rw [hcK]; omega) rfl rfl (by rw [hcN]; omega) (by rw [hcN, hcK]; omega)
  rw [hcN, hcK] at X2 step
  cases Option.some.inj (fA.symm.trans hRA)
  cases Option.some.inj (fC.symm.trans hRI)
  generalize hF : Jvm.Free.Multi.fill (T.setVm vm1) (cA (.array .int)) (cA .int) N K (defaultValue .int) N = F at X2 step
  have hTh : (T.setVm vm1).heap = H := hT
  obtain ⟨f1, f2, -, -⟩ := Jvm.Free.Multi.fill_facts (T.setVm vm1) (cA (.array .int)) (cA .int) N K (defaultValue .int) N
  rw [hF, hTh] at f1 f2
  have hold : ∀ x : Nat, x < H.size → F.heap[x]? = H[x]? := fun x hx => by
    have := Jvm.Free.Multi.fill_old (T.setVm vm1) (cA (.array .int)) (cA .int) N K (defaultValue .int) (a := x) (by rw [hTh]; exact hx) N
    rw [hF, hTh] at this
    exact this
  have hrow : ∀ j : Nat, j < N → F.heap[H.size + 1 + j]? = some (Jvm.Free.Multi.innerC (cA .int) K (defaultValue .int)) := fun j hj => by
    have := Jvm.Free.Multi.fill_inner (T.setVm vm1) (cA (.array .int)) (cA .int) N K (defaultValue .int) N j hj
    rw [hF, hTh] at this
    exact this
  rw [outer_arr] at f2
  have hP1 : va_P (dC, dI) jcl (wsn cA b0 (n + 1 + N) rf (zr h n)) F.heap := by
    rw [wsn_more N, wsn_app, wsn_keep (rf := rf) (h := h) (fun i hi => zr_lo hi) (fun _ _ => rfl)]
    refine va_P.app (va_P.app (hP.kept fun k x hx => hold x.1 ((hP k x hx).lt)) (va_P_1 ?_)) ?_
    · rw [cel_arr hs, arrE_q]
      show F.heap[b0 + n]? = some (vp_cell _ _)
      rw [vp_cell_q, ← hz, f2, hz]
      congr 2
      funext j
      by_cases hj : j < N
      · simp only [if_pos hj]; congr 2; omega
      · simp only [if_neg hj]
    · intro k x hx
      by_cases hk : k < N
      · rw [List.getElem?_map, List.getElem?_range hk] at hx
        cases hx
        show va_at (dC, dI) jcl (b0 + (n + 1 + k), celE cA b0 rf (zr h n) (n + 1 + k)) F.heap
        rw [cel_arr (hr k hk)]
        show F.heap[b0 + (n + 1 + k)]? = some (vp_cell _ _)
        rw [zr_cell (Or.inl rfl) _ _ _ (by omega), ← arrV_new, show b0 + (n + 1 + k) = H.size + 1 + k by omega]
        exact hrow k hk
      · rw [List.getElem?_eq_none (by simp; omega)] at hx
        cases hx
  have hS1 : va_S (fun q => b0 ≤ q) s.heap F.heap locs := ⟨Nat.le_trans hS.1 (by omega), fun x h1 h2 => (hold x (Nat.lt_of_lt_of_le h1 hS.1)).trans (hS.2.1 x h1 h2), hS.2.2⟩
  have w := kk p l e R s m args below meth co F.heap locs nE QQ dC dI cA b0 bs la (cx_mv C (by omega) hn1) hP1 (by omega) hS1 hl hq
  rw [show n + 1 + N - nE = n - nE + 1 + N by omega, show Ssum (n + 1 + N) - Ssum nE = Ssum n - Ssum nE + N + N * K by omega] at w
  have hc2 : cv b0 bs (vR n) = .ref (b0 + n) := by
    have h3 : ¬ n = cScr := by show ¬ n = 9999; omega
    simp [cv, h3]
  rw [List.map_cons, hc2] at w
  obtain ⟨t2, a1, a2⟩ := w F rfl X2
  refine ⟨t2, step t2 ?_, a2⟩
  have e9 : T.heap.size = b0 + n := by rw [hT]; exact hz
  rw [e9]
  exact a1
end R9
