section R9
variable {d nM : Nat} {M : MI} {pc : Nat} {ls : Lv} {st : List Vv} {n : Nat} {rf : RF} {h : St} {Q : Option Vv → Nat → RF → St → Prop}
theorem wsn_more {cA : FieldType → ClassId} {b0 n : Nat} {rf : RF} {h : St} (k : Nat) : wsn cA b0 (n + k) rf h = wsn cA b0 n rf h ++ (List.range k).map (fun i => (b0 + (n + i), celE cA b0 rf h (n + i))) := by
  unfold wsn
  rw [List.range_add, List.map_append, List.map_map]
  rfl
def gr_v (a i : Nat) : Nat → Value := fun j => va_rf (if j < i then some (a + 1 + j) else none)
theorem gr_v0 (a : Nat) : gr_v a 0 = fun _ => .null := by
  funext j
  simp [gr_v, va_rf]
theorem gr_v1 (a i : Nat) : updV (gr_v a i) i (.ref (a + 1 + i)) = gr_v a (i + 1) := by
  funext j
  by_cases e : j = i
  · subst e
    simp [updV, gr_v, va_rf]
  · by_cases g : j < i
    · simp [updV, gr_v, e, g, Nat.lt_succ_of_lt g]
    · simp [updV, gr_v, e, g, show ¬ j < i + 1 by omega]
theorem gr_over {A : Array Value} {u : State} (q : (Cond.arrayOver (.array .int)).before A u = true) : ∃ (cI cG : ClassId) (k : Class), u.vm.findClass (FieldType.array .int).toString = some cI ∧ u.vm.findClass ("[" ++ (FieldType.array .int).toString) = some cG ∧ u.vm.classes[cG]? = some k ∧ k.kind = .array cI (.array .int) := by
  simp only [Cond.before, Cond.holds, Cond.value, beq_iff_eq, Option.bind_eq_some_iff, Option.map_eq_some_iff] at q
  obtain ⟨cI, qI, cG, qG, k, qk, qb⟩ := q
  have q2 := (Array.findIdx?_eq_some_iff_getElem.mp qG).2.1
  rw [(Array.getElem?_eq_some_iff.mp qk).2] at q2
  split at qb
  · next y ty hk =>
    rw [hk] at q2
    simp only [Bool.and_eq_true, decide_eq_true_eq] at qb
    refine ⟨cI, cG, k, qI, qb.2, qk, ?_⟩
    rw [hk, qb.1, show y = cI by simpa using q2]
  · cases qb
theorem gr_one {tb : Tables} [Ours tb] {e : Env} {below : List Frame} {u : State} {f : JFrame} {c : Code} {i : Instr} {len : Nat} {P QQ : State → Prop} (a : At u f.method c below) (hd : decode c.code f.pc = .ok (i, len))
    (hw : wpRun (tb.exec i) (fun _ v _ => ∀ acts, P (afterInstr e len (.ok () v acts)).1) (fun _ _ _ => False) e (u.setTop f))
    (k : ∀ v, P v → ∃ t, Steps tb e below v t ∧ QQ t) : ∃ t, Steps tb e below (u.setTop f) t ∧ QQ t := by
  have hw := (wpRun_iff_run _ _ _ _ _).mp hw
  cases hr : (tb.exec i).run e (u.setTop f) with
  | ok z v acts =>
    rw [hr] at hw
    obtain ⟨t, t1, t2⟩ := k _ (hw acts)
    refine ⟨t, Steps.head ⟨a.running, by rw [State.curStatus?_setTop]; exact a.runnable, by rw [State.alone_setTop]; exact a.alone⟩ (a.within f) ?_, t2⟩
    rw [stepThread_java (State.frames_setTop' f a.top) a.plain a.code hd, hr]
    exact t1
  | ctl x v acts =>
    rw [hr] at hw
    cases x <;> exact hw.elim
section Grid
variable {p : Program} {l : Launch} {e : Env} {R : Room} {s : State} {m : MethodId} {args : Array Value} {below : List Frame} {meth : Method} {c : Code} {B : State} {locs : List Loc} {cells slots : Nat}
def gr_I (p : Program) (l : Launch) (e : Env) (R : Room) (s : State) (m : MethodId) (args : Array Value) (below : List Frame) (meth : Method) (c : Code) (locs : List Loc) (cells slots : Nat) (g : JFrame) (B : State) (cG cI : ClassId) (N K i : Nat) (S : State) : Prop :=
  ∃ U : State, S = U.setTop g ∧ U.vm = B.vm ∧ Stand p l e R s m args below meth c U locs (cells + 1 + i) (slots + N + i * K) ∧ U.heap.size = B.heap.size + 1 + i ∧ U.heap[B.heap.size]? = some (arrV cG N (gr_v B.heap.size i)) ∧ (∀ x, x < B.heap.size → U.heap[x]? = B.heap[x]?) ∧ ∀ j, j < i → U.heap[B.heap.size + 1 + j]? = some (arrV cI K (fun _ => .int 0))
theorem gr_first (X : Stand p l e R s m args below meth c B locs cells slots) (g : JFrame) (cG cI : ClassId) (N K : Nat) : gr_I p l e R s m args below meth c locs cells slots g B cG cI N K 0 ((B.setTop g).pushCell (arrV cG N (fun _ => .null))) := by
  have Y := X.pushed (arrV cG N (fun _ => .null))
  rw [arrV_size] at Y
  refine ⟨B.pushCell (arrV cG N (fun _ => .null)), rfl, rfl, by rw [Nat.zero_mul]; exact Y, ?_, ?_, ?_, ?_⟩
  · show (B.heap.push _).size = _
    simp
  · rw [gr_v0]
    exact State.heap_pushCell_size _ _
  · intro x hx
    exact State.heap_pushCell_of_lt _ _ hx
  · intro j hj
    omega
theorem gr_next {g : JFrame} {cG cI : ClassId} {N K i : Nat} {S : State} (G : gr_I p l e R s m args below meth c locs cells slots g B cG cI N K i S) (hB : s.heap.size ≤ B.heap.size) : gr_I p l e R s m args below meth c locs cells slots g B cG cI N K (i + 1) ((S.pushCell (arrV cI K (fun _ => .int 0))).setCell B.heap.size ((arrV cG N (gr_v B.heap.size i)).setSlot i (.ref S.heap.size))) := by
  obtain ⟨U, rfl, uv, X, uz, ug, uo, ur⟩ := G
  have lt0 : B.heap.size < U.heap.size := by omega
  have ug2 : (U.pushCell (arrV cI K (fun _ => .int 0))).heap[B.heap.size]? = some (arrV cG N (gr_v B.heap.size i)) := (State.heap_pushCell_of_lt _ _ lt0).trans ug
  have ez : (U.setTop g).heap.size = B.heap.size + 1 + i := uz
  rw [ez]
  have Y := (X.pushed (arrV cI K (fun _ => .int 0))).stored ug2 i (.ref (B.heap.size + 1 + i))
  rw [arrV_size, arrV_store, gr_v1] at Y
  rw [arrV_store, gr_v1]
  have Z := Y.dropFresh (J := [⟨B.heap.size, i⟩]) (by intro x hx; rw [List.mem_singleton.mp hx]; exact hB)
  refine ⟨(U.pushCell (arrV cI K (fun _ => .int 0))).setCell B.heap.size (arrV cG N (gr_v B.heap.size (i + 1))), rfl, uv, ?_, ?_, State.heap_setCell_self ug2, ?_, ?_⟩
  · rw [Nat.succ_mul, ← Nat.add_assoc (slots + N)]
    exact Z
  · show ((U.heap.push _).setIfInBounds _ _).size = _
    rw [Array.size_setIfInBounds, Array.size_push, uz]
    omega
  · intro x hx
    rw [State.heap_setCell_other (show B.heap.size ≠ x by omega), State.heap_pushCell_of_lt _ _ (show x < U.heap.size by omega)]
    exact uo x hx
  · intro j hj
    rw [State.heap_setCell_other (show B.heap.size ≠ B.heap.size + 1 + j by omega)]
    by_cases e1 : j < i
    · rw [State.heap_pushCell_of_lt _ _ (show B.heap.size + 1 + j < U.heap.size by omega)]
      exact ur j e1
    · rw [show B.heap.size + 1 + j = U.heap.size by omega]
      exact State.heap_pushCell_size _ _
theorem gr_make {E : CtlPost} {QA : Addr → Pre} {d : Bool} {acts : List Action} {g : JFrame} {cG cI cE : ClassId} {kG kI : Class} {N K : Nat} {nN nK : Int32} (X : Stand p l e R s m args below meth c B locs cells slots)
    (hG : B.vm.classes[cG]? = some kG) (hGk : kG.kind = .array cI (.array .int)) (hI : B.vm.classes[cI]? = some kI) (hIk : kI.kind = .array cE .int) (eN : nN.toNatClampNeg = N) (eK : nK.toNatClampNeg = K) (pN : ¬ nN < 0) (pK : ¬ nK < 0) (bN : N ≤ 1000) (bK : K ≤ 1000)
    (hc : cells + 1 + N ≤ R.cells) (hs : slots + N + N * K ≤ R.slots) (q : ∀ d' acts' S, gr_I p l e R s m args below meth c locs cells slots g B cG cI N K N S → QA B.heap.size d' acts' S) : Jvm.Sem.wp (multianewarray.make cG [nN, nK]) QA E e d acts (B.setTop g) := by
  have hlim : ∀ x : Nat, x ≤ 1000 → ¬ x > e.platform.arrayLengthLimit := by
    intro x hx
    rw [Launch.admits_arrayLengthLimit X.admits]
    omega
  have hmem : ∀ (x : Nat) (t : FieldType), x ≤ 1000 → componentBytes t = 4 → ¬ x * componentBytes t > e.platform.maxHeapBytes := by
    intro x t hx ht
    rw [Launch.admits_maxHeapBytes X.admits, ht]
    omega
  have hnk : ([nK].find? (· < 0)) = none := by simp [pK]
  obtain ⟨r1, r2⟩ := X.roomAbove (a := 1) (b := N) (by omega) (by omega)
  rw [multianewarray.make]
  simp only [Jvm.Sem.wp_bind', Jvm.W.ite, pN, if_false, Jvm.Sem.wp_pure', Jvm.W.theClass, State.vm_setTop, hG, hGk, Option.some.injEq, exists_eq_left', eN]
  refine Jvm.W.newArray_of (s := B.setTop g) hG hGk (hlim N bN) (hmem N _ bN rfl) (by show B.heap.size < _; omega) (by show B.slotsUsed + N ≤ _; omega) rfl fun acts1 => ?_
  simp only [hnk]
  rw [ite_self, Jvm.Sem.wp_bind', Std.Legacy.Range.forIn_eq_forIn_range']
  rw [show ([:N] : Std.Legacy.Range).size = N by simp [Std.Legacy.Range.size]]
  show Jvm.Sem.wp (forIn (List.range' 0 N 1) PUnit.unit _) _ E e d acts1 _
  have G0 := gr_first X g cG cI N K
  rw [← arrV_new] at G0
  refine Jvm.wp_forIn_inv (fun rest S => ∃ i, i + rest.length = N ∧ rest = List.range' i rest.length ∧ gr_I p l e R s m args below meth c locs cells slots g B cG cI N K i S) _ _ ⟨0, by simp, by simp, G0⟩ ?_ ?_
  · rintro x rest S d' acts' Q' ⟨i, hi, hl, G⟩ next
    rw [List.length_cons] at hi hl
    rw [List.range'_succ] at hl
    obtain ⟨rfl, hr⟩ := List.cons.inj hl
    have G2 := gr_next G X.heapGrown
    obtain ⟨U, rfl, uv, Y, uz, ug, uo, ur⟩ := G
    have hxK : x * K + K ≤ N * K := by
      have := Nat.mul_le_mul_right K (show x + 1 ≤ N by omega)
      rw [Nat.succ_mul] at this
      exact this
    obtain ⟨t1, t2⟩ := Y.roomAbove (a := 1) (b := K) (by omega) (by omega)
    have hI2 : U.vm.classes[cI]? = some kI := by rw [uv]; exact hI
    have hG2 : U.vm.classes[cG]? = some kG := by rw [uv]; exact hG
    simp only [Jvm.Sem.wp_bind']
    rw [multianewarray.make]
    simp only [Jvm.Sem.wp_bind', Jvm.W.ite, pK, if_false, Jvm.Sem.wp_pure', Jvm.W.theClass, State.vm_setTop, hI2, hIk, Option.some.injEq, exists_eq_left', eK]
    refine Jvm.W.newArray_of (s := U.setTop g) hI2 hIk (hlim K bK) (hmem K _ bK rfl) (by show U.heap.size < _; omega) (by show U.slotsUsed + K ≤ _; omega) rfl fun acts2 => ?_
    simp only [Jvm.Sem.wp_bind', Jvm.W.writeLoc, Jvm.Sem.wp_pure']
    refine ⟨arrV cG N (gr_v B.heap.size x), ?_, (fun z => by cases z), by rw [arrV_size]; omega, ?_, next _ _ _ ⟨x + 1, by omega, hr, ?_⟩⟩
    · exact (State.heap_pushCell_of_lt _ _ (show B.heap.size < (U.setTop g).heap.size by show B.heap.size < U.heap.size; omega)).trans ug
    · show ((U.setTop g).pushCell _).fitsSlot cG .none x _ = true
      simp [State.fitsSlot, State.slotType?, hG2, hGk, fits]
    · rw [← arrV_new] at G2
      exact G2
  · rintro S d' acts' ⟨i, hi, -, G⟩
    have e1 : i = N := by simpa using hi
    subst e1
    exact q _ _ _ G
end Grid
theorem Ssum_rows {n N K : Nat} (hs : shp n = .inl (.array .int, N, n + 1)) (hr : ∀ i, i < N → shp (n + 1 + i) = .inl (.int, K, 0)) : ∀ k, k ≤ N → Ssum (n + 1 + k) = Ssum n + N + k * K
  | 0, _ => by
    show Ssum n + shSz (shp n) = _
    rw [hs]
    show Ssum n + N = _
    omega
  | k + 1, hk => by
    have ih := Ssum_rows hs hr k (by omega)
    show Ssum (n + 1 + k) + shSz (shp (n + 1 + k)) = _
    rw [ih, hr k (by omega), Nat.succ_mul]
    show Ssum n + N + k * K + K = _
    omega
theorem w_mna {idx N K : Nat} (hd : mD M pc = some (.multianewarray idx 2, 4)) (hcl : Cond.classLink (mY M).cls idx ("[" ++ (FieldType.array .int).toString) ∈ lw_good) (hov : Cond.arrayOver (.array .int) ∈ lw_nest) (har : Cond.arrayClass .int ∈ lw_good) (hs : shp n = .inl (.array .int, N, n + 1)) (hr : ∀ i, i < N → shp (n + 1 + i) = .inl (.int, K, 0)) (hn : Nat.ble (n + 1 + N) nM = true) (hN : N ≤ 1000) (hK : K ≤ 1000) (kk : wp d nM M (pc + 4) ls (vR n :: st) (n + 1 + N) rf (zr h n) Q) : wp d nM M pc ls (vI (K : Int) :: vI (N : Int) :: st) n rf h Q := by
  intro p l e R s m args below meth co H locs nE QQ dC dI cA b0 bs la C hP hz hS hl hq
  have hn1 : n + 1 + N ≤ nM := Nat.le_of_ble_eq_true hn
  have hts := C.2.1.1
  have hcN : (Int32.ofInt (N : Int)).toNatClampNeg = N := i3_clamp (by omega) (by omega)
  have hcK : (Int32.ofInt (K : Int)).toNatClampNeg = K := i3_clamp (by omega) (by omega)
  have hnn : ∀ x : Nat, x ≤ 1000 → ¬ Int32.ofInt (x : Int) < 0 := by
    intro x hx q
    rw [i3_zero, i3_lt ⟨by omega, by omega⟩ ⟨by omega, by omega⟩] at q
    omega
  obtain ⟨b1, b2, b3, b4, b5⟩ := C.2.2.2.2.1
  have m1 := Ssum_le b3
  have m2 := Ssum_rows hs hr N (Nat.le_refl N)
  have m3 := Ssum_le hn1
  have hRA : s.vm.findClass ("[" ++ (FieldType.array .int).toString) = some (cA (.array .int)) := (C.2.2.1.2 4 _ rfl).2
  have hRI : s.vm.findClass (FieldType.array .int).toString = some (cA .int) := (C.2.2.1.2 0 _ rfl).2
  intro T hT X
  have hpl : e.platform.magicAccessors = ({} : Platform).magicAccessors := by rw [X.admits.platform]
  obtain ⟨cI, cG, kG, fI, fG, hkG, hkGk⟩ := gr_over (ao_vm (A := #[]) (B := args) (rfl : s.vm = s.vm) (C.2.1.2 _ hov))
  obtain ⟨cI2, kI, cE, fI2, hkI, hkIk⟩ := Cond.arrayClass_spec (hts _ har)
  cases Option.some.inj (fI2.symm.trans fI)
  cases Option.some.inj (fG.symm.trans hRA)
  cases Option.some.inj (fI.symm.trans hRI)
  obtain ⟨cL, fL, hL⟩ := Cond.classLink_spec C.1.2.2.2 (hts _ hcl) e.platform hpl
  cases Option.some.inj (fL.symm.trans hRA)
  obtain ⟨gv, wv, -⟩ := State.classEntry (e := e) X.warmed hL
  generalize T.vm.noted m.cls idx (.cls (cA (.array .int))) = vm1 at gv wv
  obtain ⟨kG1, hG1, hG2⟩ := wv.alike.2.2 _ _ hkG
  obtain ⟨kI1, hI1, hI2⟩ := wv.alike.2.2 _ _ hkI
  have hGk1 : kG1.kind = .array (cA .int) (.array .int) := by rw [hG2]; exact hkGk
  have hIk1 : kI1.kind = .array cE .int := by rw [hI2]; exact hkIk
  have X1 := X.noted wv
  refine gr_one (P := fun v => gr_I p l e R s m args below meth co locs (n - nE) (Ssum n - Ssum nE) (F0 m (pc + 4) la (.ref (T.setVm vm1).heap.size :: st.map (cv b0 bs))) (T.setVm vm1) (cA (.array .int)) (cA .int) N K N v) (f := F0 m pc la ((vI (K : Int) :: vI (N : Int) :: st).map (cv b0 bs))) (i := .multianewarray idx 2) (len := 4) X.here (by rw [C.1.2.1]; exact cx_d C hd) ?_ ?_
  · rw [C.1.1]
    show wpRun (multianewarray.sem idx 2) _ _ e _
    unfold wpRun multianewarray.sem
    simp only [Jvm.Sem.wp_bind', Jvm.W.resolveClassAt_links (State.method?_setTop (F0 m pc la ((vI (K : Int) :: vI (N : Int) :: st).map (cv b0 bs))) X.here.top) gv]
    rw [Jvm.W.popN, if_neg (by decide)]
    refine ⟨F0 m pc la ((vI (K : Int) :: vI (N : Int) :: st).map (cv b0 bs)), State.topJava?_setTop' (s := T.setVm vm1) _ X.here.top, [.int (Int32.ofInt (N : Int)), .int (Int32.ofInt (K : Int))], st.map (cv b0 bs), rfl, rfl, ?_⟩
    simp only [List.mapM_cons, List.mapM_nil, Jvm.Sem.wp_bind', Jvm.Sem.wp_pure']
    rw [State.setVm_setTop, State.setTop_setTop]
    refine gr_make X1 hG1 hGk1 hI1 hIk1 hcN hcK (hnn N hN) (hnn K hK) hN hK (by omega) (by omega) fun d' acts' S G => ?_
    obtain ⟨U, rfl, uv, Y, uz, ug, uo, ur⟩ := G
    simp only [Jvm.Sem.wp_bind', Jvm.W.mark, Jvm.W.pushRef, State.topJava?_setTop' _ Y.here.top, Option.some.injEq, exists_eq_left', State.setTop_setTop]
    intro acts2
    rw [afterInstr_ok]
    exact ⟨U, rfl, uv, Y, uz, ug, uo, ur⟩
  · rintro v ⟨U, rfl, -, Y, uz, ug, uo, ur⟩
    have eH : (T.setVm vm1).heap = H := hT
    rw [eH] at uz ug uo ur ⊢
    have hP1 : va_P (dC, dI) jcl (wsn cA b0 (n + 1 + N) rf (zr h n)) U.heap := by
      rw [wsn_more N, wsn_app, wsn_keep (rf := rf) (h := h) (fun i hi => zr_lo hi) (fun _ _ => rfl)]
      refine va_P.app (va_P.app (hP.kept fun k x hx => uo x.1 ((hP k x hx).lt)) (va_P_1 ?_)) ?_
      · rw [cel_arr hs, arrE_q]
        show U.heap[b0 + n]? = some (vp_cell _ _)
        rw [vp_cell_q, ← hz, ug, hz]
        congr 2
        funext j
        unfold gr_v
        by_cases hj : j < N
        · simp only [if_pos hj]; congr 2; omega
        · simp only [if_neg hj]
      · intro k x hx
        by_cases hk : k < N
        · rw [List.getElem?_map, List.getElem?_range hk] at hx
          cases hx
          show va_at (dC, dI) jcl (b0 + (n + 1 + k), celE cA b0 rf (zr h n) (n + 1 + k)) U.heap
          rw [cel_arr (hr k hk)]
          show U.heap[b0 + (n + 1 + k)]? = some (vp_cell _ _)
          rw [zr_cell (Or.inl rfl) _ _ _ (by omega), show b0 + (n + 1 + k) = H.size + 1 + k by omega]
          exact ur k hk
        · rw [List.getElem?_eq_none (by simp; omega)] at hx
          cases hx
    have hS1 : va_S (fun q => b0 ≤ q) s.heap U.heap locs := ⟨Nat.le_trans hS.1 (by omega), fun x h1 h2 => (uo x (Nat.lt_of_lt_of_le h1 hS.1)).trans (hS.2.1 x h1 h2), hS.2.2⟩
    have w := kk p l e R s m args below meth co U.heap locs nE QQ dC dI cA b0 bs la (cx_mv C (by omega) hn1) hP1 (by omega) hS1 hl hq
    rw [show n + 1 + N - nE = n - nE + 1 + N by omega, show Ssum (n + 1 + N) - Ssum nE = Ssum n - Ssum nE + N + N * K by omega] at w
    have hc2 : cv b0 bs (vR n) = .ref (b0 + n) := by
      have h3 : ¬ n = cScr := by show ¬ n = 9999; omega
      simp [cv, h3]
    rw [List.map_cons, hc2] at w
    have w2 := w U rfl Y
    rw [hz]
    exact w2
end R9
