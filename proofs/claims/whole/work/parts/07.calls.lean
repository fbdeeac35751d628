def rmD (d mc ms : Nat) : Room := { frames := d, cells := mc, slots := ms, locals := 64 * d }
def wsM (M : MI) : List Cond := Cond.code (mY M) (mC M) (mL M) (mR M) :: lw_good
def MokB (M : MI) : Prop := plainFor (mY M) = true ∧ Cond.code (mY M) (mC M) (mL M) (mR M) ∈ lw_good ∧ Cond.initialized (mY M).cls ∈ lw_good ∧ ((mY M).cls ≠ "java/lang/invoke/MethodHandle" ∧ (mY M).cls ≠ "java/lang/invoke/VarHandle") ∧ mL M ≤ 45 ∧ mS M = 0 ∧ (∀ pc i k, mD M pc = some (i, k) → decode (mC M) pc = .ok (i, k))
def preM (dC : Nat → ClassId) (dI : Nat → Nat → Nat) (cA : FieldType → ClassId) (b0 n : Nat) (rf : RF) (h : St) : State → Prop := fun U => U.heap.size = b0 + n ∧ va_P (dC, dI) jcl (wsn cA b0 n rf h) U.heap ∧ va_K (dC, dI) jcl (tysL cA) U ∧ (∀ w ∈ lw_nest, va_Nw w U)
def postM (dC : Nat → ClassId) (dI : Nat → Nat → Nat) (cA : FieldType → ClassId) (b0 bs n1 : Nat) (K : Option Vv → RF → St → Prop) : State → Outcome → State → Prop := fun st oc t => (∃ (r : Option Vv) (rf2 : RF) (h2 : St), oc = .returned (r.map (cv b0 bs)) ∧ K r rf2 h2 ∧ va_P (dC, dI) jcl (wsn cA b0 n1 rf2 h2) t.heap ∧ t.heap.size = b0 + n1) ∧ va_F (fun q => b0 ≤ q) st t
def mwp (d : Nat) (M : MI) (as : List Vv) (n : Nat) (rf : RF) (h : St) (n1 : Nat) (K : Option Vv → RF → St → Prop) : Prop :=
  n ≤ n1 ∧ ∀ (l : Launch) (dC : Nat → ClassId) (dI : Nat → Nat → Nat) (cA : FieldType → ClassId) (b0 bs : Nat), Met l (mY M) (wsM M) (rmD d (n1 - n) (Ssum n1 - Ssum n)) (va_Pc (as.map (cv b0 bs)) (preM dC dI cA b0 n rf h)) (fun _ => postM dC dI cA b0 bs n1 K) (n1 - n) (Ssum n1 - Ssum n) (fun q => b0 ≤ q)
def entL (i : Nat) : List Vv → Lv
  | [] => []
  | v :: r => (i, v) :: entL (cond (isJ v) (i + 2) (i + 1)) r
theorem entL_cv (b0 bs : Nat) : ∀ (as : List Vv) (i : Nat), cvL b0 bs (entL i as) = lv_args i (as.map (cv b0 bs))
  | [], _ => rfl
  | v :: r, i => by
    show (i, cv b0 bs v) :: cvL b0 bs (entL (cond (isJ v) (i + 2) (i + 1)) r) = (i, cv b0 bs v) :: lv_args (if (cv b0 bs v).category = 2 then i + 2 else i + 1) (r.map (cv b0 bs))
    congr 1
    rw [entL_cv b0 bs r]
    congr 1
    cases hj : isJ v with
    | true => rw [if_pos (cv_cat.mpr hj)]; rfl
    | false => rw [if_neg (fun z => by rw [cv_cat.mp z] at hj; cases hj)]; rfl
def wid : List Vv → Nat
  | [] => 0
  | v :: r => cond (isJ v) 2 1 + wid r
theorem wid_sl (b0 bs : Nat) : ∀ as : List Vv, (lg_sl (as.map (cv b0 bs))).length = wid as
  | [] => rfl
  | v :: r => by
    have ih := wid_sl b0 bs r
    simp only [lg_sl, List.map_cons, List.flatMap_cons, List.length_append] at ih ⊢
    rw [ih]
    show _ = cond (isJ v) 2 1 + wid r
    congr 1
    cases hj : isJ v with
    | true => rw [if_pos (cv_cat.mpr hj)]; rfl
    | false => rw [if_neg (fun z => by rw [cv_cat.mp z] at hj; cases hj)]; rfl
def catS : List Vv → Nat := wid
theorem cat_sum (b0 bs : Nat) : ∀ rest : List Vv, ((rest.map (cv b0 bs)).map fun v => v.category).sum = wid rest
  | [] => rfl
  | v :: r => by
    have ih := cat_sum b0 bs r
    simp only [List.map_cons, List.sum_cons]
    rw [ih]
    show _ = cond (isJ v) 2 1 + wid r
    congr 1
    rcases v with z | z | z <;> rfl
theorem good_wsM {M : MI} (hM : MokB M) : GoodIn lw_good (wsM M) := by
  intro w hw
  have hin : w ∈ lw_good := by
    rcases List.mem_cons.mp hw with rfl | hw
    · exact hM.2.1
    · exact hw
  exact ⟨hin, good_of_word (List.mem_filter.mp hin).2⟩
theorem nest_form {w : Cond} (hw : w ∈ lw_nest) : (∃ a i x hh, w = .methodLinkNest a i x hh) ∨ ∃ t, w = .arrayOver t := by
  have h1 := (List.mem_filter.mp hw).2
  cases w <;> first | exact Or.inl ⟨_, _, _, _, rfl⟩ | exact Or.inr ⟨_, rfl⟩ | cases h1
theorem ao_vm {t : FieldType} {A B : Array Value} {u U : State} (hv : u.vm = U.vm) (hn : (Cond.arrayOver t).before A u = true) : (Cond.arrayOver t).before B U = true := by
  simp only [Cond.before, Cond.holds, Cond.value, hv] at hn ⊢
  exact hn
theorem nest_same {u U : State} (hv : u.vm = U.vm) (hn : ∀ w ∈ lw_nest, va_Nw w u) : ∀ w ∈ lw_nest, va_Nw w U := by
  intro w hw
  rcases nest_form hw with ⟨a, i, x, hh, rfl⟩ | ⟨t, rfl⟩
  · exact va_Nw.same rfl hv (hn _ hw)
  · exact ao_vm hv (hn _ hw)
theorem nest_warm {s U : State} (hW : s.WarmedH U.vm) (hn : ∀ w ∈ lw_nest, va_Nw w s) : ∀ w ∈ lw_nest, va_Nw w U := by
  intro w hw
  rcases nest_form hw with ⟨a, i, x, hh, rfl⟩ | ⟨t, rfl⟩
  · exact va_Nw.warmM hW (hn _ hw)
  · have h1 : (Cond.arrayOver t).before #[] (s.setVm U.vm) = true := by
      rw [Cond.arrayOver_setVmC hW.alike]
      exact hn _ hw
    exact ao_vm (rfl : (s.setVm U.vm).vm = U.vm) h1
theorem pre_blind {as : List Value} {dC : Nat → ClassId} {dI : Nat → Nat → Nat} {cA : FieldType → ClassId} {b0 n : Nat} {rf : RF} {h : St} : FrameBlind (va_Pc as (preM dC dI cA b0 n rf h)) := by
  intro a U g mk q
  obtain ⟨q0, q1, qP, qK, qN⟩ := q
  exact ⟨q0, q1, qP, va_K.moved (u := U) (U := U.calling g mk a) (Vm.Alike.refl U.vm) qK, nest_same (u := U) (U := U.calling g mk a) rfl qN⟩
section R7
variable {d nM : Nat} {M : MI} {pc : Nat} {ls : Lv} {st : List Vv} {n : Nat} {rf : RF} {h : St} {Q : Option Vv → Nat → RF → St → Prop}
theorem cx_mv {p : Program} {R : Room} {s : State} {m : MethodId} {args : Array Value} {meth : Method} {c : Code} {dC : Nat → ClassId} {dI : Nat → Nat → Nat} {cA : FieldType → ClassId} {b0 bs nE n n1 : Nat} (C : Cx d nM M p R s m args meth c dC dI cA b0 bs nE n) (h1 : n ≤ n1) (h2 : n1 ≤ nM) : Cx d nM M p R s m args meth c dC dI cA b0 bs nE n1 := by
  obtain ⟨a1, a2, a3, a4, ⟨b1, b2, b3, b4, b5⟩, a6⟩ := C
  exact ⟨a1, a2, a3, a4, ⟨b1, b2, Nat.le_trans b3 h1, h2, b5⟩, a6⟩
theorem mwp_intro {as : List Vv} {n1 : Nat} {K : Option Vv → RF → St → Prop} (hM : MokB M) (hn : n ≤ n1) (h9 : n1 ≤ 9000) (hw : Nat.ble (wid as) (mL M) = true) (body : wp d n1 M 0 (entL 0 as) [] n rf h (fun r n2 rf2 h2 => n2 = n1 ∧ K r rf2 h2)) : mwp (d + 1) M as n rf h n1 K := by
  refine ⟨hn, fun l dC dI cA b0 bs => ?_⟩
  refine va_MetF (cc := mC M) (maxL := mL M) (ret := mR M) (ws' := lw_good) hM.1 rfl ?_
  intro p e s m args below meth c s₁ B hml hv
  obtain ⟨rfl, hsz, hP, hK, hN⟩ := hv
  have hts := atoms_spec (ws := wsM M) B.pre
  have hown : s.vm.findClass (mY M).cls = some m.cls := findClass_of_methodNamed B.named
  have hnm : meth.name = (mY M).name := (name_of_methodNamed B.named B.method).1
  have hwid : (lg_sl (as.map (cv b0 bs))).length ≤ mL M := by rw [wid_sl]; exact Nat.le_of_ble_eq_true hw
  have hl := lv_entry (as.map (cv b0 bs)) hwid
  rw [lg_entry_eq]
  rw [← entL_cv] at hl
  generalize (lg_sl (as.map (cv b0 bs)) ++ List.replicate (mL M - (lg_sl (as.map (cv b0 bs))).length) Slot.unset).toArray = la at hl ⊢
  have C : Cx d n1 M p (headSpec (wsM M) (rmD (d + 1) (n1 - n) (Ssum n1 - Ssum n))).room s m (as.map (cv b0 bs)).toArray meth c dC dI cA b0 bs n n :=
    ⟨⟨B.exec, B.bytes, hml, hown⟩, ⟨fun w hw2 => hts w (List.mem_cons_of_mem _ hw2), hN⟩, hK, ⟨Nat.le_refl _, by show 64 * d + 64 ≤ 64 * (d + 1); omega⟩, ⟨Nat.le_refl _, Nat.le_refl _, Nat.le_refl _, hn, h9⟩, by rw [hsz]; exact Nat.le_add_right _ _, hM.2.2.2.2.2.2, Or.inl hM.2.2.2.2.2.1, hnm, B.notSynchronized, B.returns⟩
  have w := body p l e (headSpec (wsM M) (rmD (d + 1) (n1 - n) (Ssum n1 - Ssum n))).room s m (as.map (cv b0 bs)).toArray below meth c s.heap [] n (MQ below (fun _ => postM dC dI cA b0 bs n1 K) (as.map (cv b0 bs)).toArray s (n1 - n) (Ssum n1 - Ssum n) (fun q => b0 ≤ q)) dC dI cA b0 bs la C hP hsz va_S.rf hl ?_
  · rw [Nat.sub_self, Nat.sub_self] at w
    exact w
  · intro pcR r n2 rf2 h2 H2 locs2 la2 hQ hr hle hP2 hz2 hS2
    obtain ⟨rfl, hK2⟩ := hQ
    rcases hr with ⟨hd, z, rfl, hret⟩ | ⟨hd, rfl, hret⟩
    · rcases hret with hret | ⟨hret, h01⟩
      · exact W.iret (v := Int32.ofInt z) B.exec B.bytes (B.returns.trans hret) (fun t ht hW => ⟨⟨some (vI z), rf2, h2, rfl, hK2, by rw [ht]; exact hP2, by rw [ht]; exact hz2⟩, hS2.F ht⟩) hS2.2.2 (cx_d C hd) B.notSynchronized
      · exact W.zret (v := Int32.ofInt z) (ty := .boolean) B.exec B.bytes (B.returns.trans hret) (nar_bool h01) (fun t ht hW => ⟨⟨some (vI z), rf2, h2, rfl, hK2, by rw [ht]; exact hP2, by rw [ht]; exact hz2⟩, hS2.F ht⟩) hS2.2.2 (cx_d C hd) B.notSynchronized
    · exact W.vret B.exec B.bytes (B.returns.trans hret) (fun t ht hW => ⟨⟨none, rf2, h2, rfl, hK2, by rw [ht]; exact hP2, by rw [ht]; exact hz2⟩, hS2.F ht⟩) hS2.2.2 (cx_d C hd) B.notSynchronized
theorem w_tail {rest : List Vv} {n1 : Nat} {K : Option Vv → RF → St → Prop} {p : Program} {l : Launch} {e : Env} {R : Room} {s : State} {m : MethodId} {args : Array Value} {below : List Frame} {meth : Method} {co : Code} {H : Heap} {locs : List Loc} {nE : Nat} {QQ : State → Prop} {dC : Nat → ClassId} {dI : Nat → Nat → Nat} {cA : FieldType → ClassId} {b0 bs : Nat} {la : Array Slot} {st0 : List Value}
    (C : Cx d nM M p R s m args meth co dC dI cA b0 bs nE n) (hS : va_S (fun q => b0 ≤ q) s.heap H locs) (hl : lv_has la (mL M) (cvL b0 bs ls))
    (hq : ∀ (pcR : Nat) (r : Option Vv) (n' : Nat) (rf' : RF) (h' : St) (H' : Heap) (locs' : List Loc) (la' : Array Slot), Q r n' rf' h' → rtn M pcR r → nE ≤ n' → va_P (dC, dI) jcl (wsn cA b0 n' rf' h') H' → H'.size = b0 + n' → va_S (fun q => b0 ≤ q) s.heap H' locs' → W p l e R s m args below meth co H' locs' (n' - nE) (Ssum n' - Ssum nE) QQ (F0 m pcR la' (r.toList.map (cv b0 bs))))
    (h01 : n ≤ n1) (hn1 : n1 ≤ nM) (kk : ∀ r rf2 h2, K r rf2 h2 → wp d nM M (pc + 3) ls (r.toList ++ rest) n1 rf2 h2 Q)
    (run : va_Run p l e R s m args below meth co H locs (n - nE) (Ssum n - Ssum nE) (n1 - n) (Ssum n1 - Ssum n) (F0 m pc la st0) (rest.map (cv b0 bs)) (postM dC dI cA b0 bs n1 K) (fun q => b0 ≤ q)) :
    W p l e R s m args below meth co H locs (n - nE) (Ssum n - Ssum nE) QQ (F0 m pc la st0) := by
  intro T hT X
  obtain ⟨v, st₀, t, T2, L, h0, X2, hL, e1, e2, ⟨⟨r, rf2, h2, hv, hK2, hP2, hz2⟩, hF1, hF2⟩, step⟩ := run T hT X
  have hE : nE ≤ n := C.2.2.2.2.1.2.2.1
  cases hv
  rw [h0] at hF1 hF2
  have hS2 : va_S (fun q => b0 ≤ q) s.heap T2.heap (locs ++ L) := ⟨Nat.le_trans hS.1 (by rw [e1]; exact hF1), fun q g1 g2 => by rw [e1, hF2 q (Nat.lt_of_lt_of_le g1 hS.1) g2]; exact hS.2.1 q g1 g2, fun q hq2 => by
    rcases List.mem_append.mp hq2 with g | g
    · exact hS.2.2 q g
    · exact hL q g⟩
  have w := kk r rf2 h2 hK2 p l e R s m args below meth co T2.heap (locs ++ L) nE QQ dC dI cA b0 bs la (cx_mv C h01 hn1) (by rw [e1]; exact hP2) (by rw [e1]; exact hz2) hS2 hl hq
  have m1 := Ssum_le hE
  have m2 := Ssum_le h01
  rw [show n - nE + (n1 - n) = n1 - nE by omega, show Ssum n - Ssum nE + (Ssum n1 - Ssum n) = Ssum n1 - Ssum nE by omega] at X2
  obtain ⟨t2, a1, b1⟩ := w T2 rfl X2
  refine ⟨t2, step t2 ?_, b1⟩
  have e3 : (r.map (cv b0 bs)).toList ++ rest.map (cv b0 bs) = (r.toList ++ rest).map (cv b0 bs) := by
    cases r <;> simp
  show Steps p.tables e below (T2.setTop { F0 m pc la st0 with pc := pc + 3, stack := (r.map (cv b0 bs)).toList ++ rest.map (cv b0 bs) }) t2
  rw [e3]
  exact a1
def LkB (M : MI) (np : Nat) : Prop := MokB M ∧ (parseMethodDescriptor (mY M).desc).map (fun d => d.parameters.length) = some np
theorem callb {np n1 : Nat} {M2 : MI} {own : String} {idx : Nat} {R : Room} {s : State} {args : Array Value} (hl : LkB M2 np) (hts : ∀ w ∈ lw_good, w.before args s = true) (hk : Cond.methodLink own idx (mY M2) ∈ lw_good) (h1 : d + 1 ≤ R.frames) (h2 : 64 * d + 64 ≤ R.locals) : CallB R s args own idx (mY M2) (mC M2) (mL M2) (mR M2) (wsM M2) (rmD d (n1 - n) (Ssum n1 - Ssum n)) (n1 - n) (Ssum n1 - Ssum n) np := by
  obtain ⟨hM, hnp⟩ := hl
  refine ⟨rfl, rfl, h1, ?_, pay_in hts (good_wsM hM), List.mem_cons_self, hts _ hM.2.1, hts _ hM.2.2.1, hM.2.2.2.1, fun sig hs => ?_, hts _ hk⟩
  · have := hM.2.2.2.2.1
    show 8 + (mL M2 + 11) + 64 * d ≤ R.locals
    omega
  · rw [hs] at hnp
    exact (Option.some.inj hnp).symm
theorem calln {np n1 : Nat} {M2 : MI} {own host : String} {idx : Nat} {R : Room} {s : State} {args : Array Value} (hl : LkB M2 np) (hts : ∀ w ∈ lw_good, w.before args s = true) (hk : va_Nw (.methodLinkNest own idx (mY M2) host) s) (h1 : d + 1 ≤ R.frames) (h2 : 64 * d + 64 ≤ R.locals) : va_CN R s args own idx (mY M2) host (mC M2) (mL M2) (mR M2) (wsM M2) (rmD d (n1 - n) (Ssum n1 - Ssum n)) (n1 - n) (Ssum n1 - Ssum n) np := by
  obtain ⟨hM, hnp⟩ := hl
  refine ⟨⟨rfl, rfl, h1, ?_, pay_in hts (good_wsM hM), List.mem_cons_self⟩, hts _ hM.2.1, hts _ hM.2.2.1, hM.2.2.2.1, fun sig hs => ?_, va_Nw.use rfl hk⟩
  · have := hM.2.2.2.2.1
    show 8 + (mL M2 + 11) + 64 * d ≤ R.locals
    omega
  · rw [hs] at hnp
    exact (Option.some.inj hnp).symm
theorem cap_of {p : Program} {R : Room} {s : State} {m : MethodId} {args : Array Value} {meth : Method} {c : Code} {dC : Nat → ClassId} {dI : Nat → Nat → Nat} {cA : FieldType → ClassId} {b0 bs nE n n1 : Nat} (C : Cx d nM M p R s m args meth c dC dI cA b0 bs nE n) (h1 : n ≤ n1) (h2 : n1 ≤ nM) : n - nE + (n1 - n) ≤ R.cells ∧ Ssum n - Ssum nE + (Ssum n1 - Ssum n) ≤ R.slots := by
  obtain ⟨-, -, -, -, ⟨b1, b2, b3, b4, b5⟩, -⟩ := C
  have m1 := Ssum_le b3
  have m2 := Ssum_le h1
  have m3 := Ssum_le h2
  omega
theorem w_callV {idx np c ci n1 : Nat} {As rest : List Vv} {fs : List (Option Nat)} {M2 : MI} {K : Option Vv → RF → St → Prop} (hd : mD M pc = some (.invokevirtual idx, 3)) (hb : LkB M2 np) (hk : Cond.methodLink (mY M).cls idx (mY M2) ∈ lw_good ∧ Cond.instanceMethod (mY M2) ∈ lw_good ∧ Cond.selects (mY M2).cls (mY M2) (mY M2) ∈ lw_good) (he : st = As.reverse ++ vR c :: rest) (hnp : As.length = np) (hs : shp c = .inr (ci, fs)) (hci : (jcl[ci]?).map (fun q => q.1) = some (mY M2).cls) (hc : Nat.blt c n = true) (hr : Nat.ble (wid rest) 8 = true) (hn1 : Nat.ble n1 nM = true) (hm : mwp d M2 (vR c :: As) n rf h n1 K) (kk : ∀ r rf2 h2, K r rf2 h2 → wp d nM M (pc + 3) ls (r.toList ++ rest) n1 rf2 h2 Q) : wp d nM M pc ls st n rf h Q := by
  intro p l e R s m args below meth co H locs nE QQ dC dI cA b0 bs la C hP hz hS hl hq
  subst he
  obtain ⟨hc1, hc3⟩ := cx_n C hc
  have hn1 := Nat.le_of_ble_eq_true hn1
  refine w_tail C hS hl hq hm.1 hn1 kk ?_
  have hew := wsn_at (cA := cA) (b0 := b0) (rf := rf) (h := h) hc1
  rw [cel_obj hs] at hew
  obtain ⟨q, hq1, hq2⟩ : ∃ q, jcl[ci]? = some q ∧ q.1 = (mY M2).cls := by
    cases hj : jcl[ci]? with
    | none => rw [hj] at hci; cases hci
    | some q => rw [hj] at hci; exact ⟨q, rfl, Option.some.inj hci⟩
  have hrecv := va_recv C.2.2.1 hP (ci := ci) (q0 := c) hq1 hew
  rw [hq2] at hrecv
  have hr2 := hm.2 l dC dI cA b0 bs
  rw [List.map_cons, hc3] at hr2
  exact va_runV (Qc := fun _ => postM dC dI cA b0 bs n1 K) (C := (mY M2).cls) (b := b0 + c) (As := As.map (cv b0 bs)) (rest := rest.map (cv b0 bs)) (n := np) ⟨C.1.1, C.1.2.1, C.1.2.2.1, C.1.2.2.2, C.2.1.1⟩ hr2 ⟨callb hb C.2.1.1 hk.1 C.2.2.2.1.1 C.2.2.2.1.2, C.2.1.1 _ hk.2.1, C.2.1.1 _ hk.2.2⟩
    ⟨pre_blind, hrecv, fun U hU hW => ⟨rfl, by rw [hU]; exact hz, by rw [hU]; exact hP, va_K.moved hW.alike C.2.2.1, nest_warm hW C.2.1.2⟩⟩ rfl (by rw [List.length_map]; exact hnp) hl.1 (by show (As.reverse ++ vR c :: rest).map (cv b0 bs) = _; rw [List.map_append, List.map_cons, hc3, List.map_reverse]) (lv_room (by rw [cat_sum]; exact Nat.le_of_ble_eq_true hr)) (cx_d C hd) (cap_of C hm.1 hn1)
theorem w_callS {idx np n1 : Nat} {As rest : List Vv} {M2 : MI} {K : Option Vv → RF → St → Prop} (hd : mD M pc = some (.invokestatic idx, 3)) (hb : LkB M2 np) (hk : Cond.methodLink (mY M).cls idx (mY M2) ∈ lw_good ∧ Cond.static (mY M2) ∈ lw_good) (he : st = As.reverse ++ rest) (hnp : As.length = np) (hr : Nat.ble (wid rest) 8 = true) (hn1 : Nat.ble n1 nM = true) (hm : mwp d M2 As n rf h n1 K) (kk : ∀ r rf2 h2, K r rf2 h2 → wp d nM M (pc + 3) ls (r.toList ++ rest) n1 rf2 h2 Q) : wp d nM M pc ls st n rf h Q := by
  intro p l e R s m args below meth co H locs nE QQ dC dI cA b0 bs la C hP hz hS hl hq
  subst he
  have hn1 := Nat.le_of_ble_eq_true hn1
  refine w_tail C hS hl hq hm.1 hn1 kk ?_
  have hr2 := hm.2 l dC dI cA b0 bs
  exact va_runS (Qc := fun _ => postM dC dI cA b0 bs n1 K) (As := As.map (cv b0 bs)) (rest := rest.map (cv b0 bs)) (n := np) ⟨C.1.1, C.1.2.1, C.1.2.2.1, C.1.2.2.2, C.2.1.1⟩ hr2 ⟨callb hb C.2.1.1 hk.1 C.2.2.2.1.1 C.2.2.2.1.2, C.2.1.1 _ hk.2⟩
    ⟨pre_blind, fun U hU hW => ⟨rfl, by rw [hU]; exact hz, by rw [hU]; exact hP, va_K.moved hW.alike C.2.2.1, nest_warm hW C.2.1.2⟩⟩ rfl (by rw [List.length_map]; exact hnp) hl.1 (by show (As.reverse ++ rest).map (cv b0 bs) = _; rw [List.map_append, List.map_reverse]) (lv_room (by rw [cat_sum]; exact Nat.le_of_ble_eq_true hr)) (cx_d C hd) (cap_of C hm.1 hn1)
theorem w_callSN {idx np n1 : Nat} {host : String} {As rest : List Vv} {M2 : MI} {K : Option Vv → RF → St → Prop} (hd : mD M pc = some (.invokestatic idx, 3)) (hb : LkB M2 np) (hk : Cond.methodLinkNest (mY M).cls idx (mY M2) host ∈ lw_nest ∧ Cond.static (mY M2) ∈ lw_good) (he : st = As.reverse ++ rest) (hnp : As.length = np) (hr : Nat.ble (wid rest) 8 = true) (hn1 : Nat.ble n1 nM = true) (hm : mwp d M2 As n rf h n1 K) (kk : ∀ r rf2 h2, K r rf2 h2 → wp d nM M (pc + 3) ls (r.toList ++ rest) n1 rf2 h2 Q) : wp d nM M pc ls st n rf h Q := by
  intro p l e R s m args below meth co H locs nE QQ dC dI cA b0 bs la C hP hz hS hl hq
  subst he
  have hn1 := Nat.le_of_ble_eq_true hn1
  refine w_tail C hS hl hq hm.1 hn1 kk ?_
  have hr2 := hm.2 l dC dI cA b0 bs
  exact va_runSN (Qc := fun _ => postM dC dI cA b0 bs n1 K) (As := As.map (cv b0 bs)) (rest := rest.map (cv b0 bs)) (n := np) ⟨C.1.1, C.1.2.1, C.1.2.2.1, C.1.2.2.2, C.2.1.1⟩ hr2 ⟨calln hb C.2.1.1 (C.2.1.2 _ hk.1) C.2.2.2.1.1 C.2.2.2.1.2, C.2.1.1 _ hk.2, trivial⟩
    ⟨pre_blind, fun U hU hW => ⟨rfl, by rw [hU]; exact hz, by rw [hU]; exact hP, va_K.moved hW.alike C.2.2.1, nest_warm hW C.2.1.2⟩⟩ rfl (by rw [List.length_map]; exact hnp) hl.1 (by show (As.reverse ++ rest).map (cv b0 bs) = _; rw [List.map_append, List.map_reverse]) (lv_room (by rw [cat_sum]; exact Nat.le_of_ble_eq_true hr)) (cx_d C hd) (cap_of C hm.1 hn1)
theorem w_callI {idx c n1 : Nat} {rest : List Vv} {M2 : MI} {K : Option Vv → RF → St → Prop} (hd : mD M pc = some (.invokespecial idx, 3)) (hb : LkB M2 0) (hret : mR M2 = none) (hnm : (mY M2).name = "<init>") (hk : Cond.methodLink (mY M).cls idx (mY M2) ∈ lw_good ∧ Cond.instanceMethod (mY M2) ∈ lw_good) (he : st = vR c :: rest) (hc : Nat.blt c n = true) (hr : Nat.ble (wid rest) 8 = true) (hn1 : Nat.ble n1 nM = true) (hm : mwp d M2 [vR c] n rf h n1 K) (kk : ∀ r rf2 h2, K r rf2 h2 → wp d nM M (pc + 3) ls (r.toList ++ rest) n1 rf2 h2 Q) : wp d nM M pc ls st n rf h Q := by
  intro p l e R s m args below meth co H locs nE QQ dC dI cA b0 bs la C hP hz hS hl hq
  subst he
  obtain ⟨hc1, hc3⟩ := cx_n C hc
  have hn1 := Nat.le_of_ble_eq_true hn1
  refine w_tail C hS hl hq hm.1 hn1 kk ?_
  have hr2 := hm.2 l dC dI cA b0 bs
  rw [List.map_cons, hc3] at hr2
  have cb := callb (n := n) (n1 := n1) (d := d) (R := R) hb C.2.1.1 hk.1 C.2.2.2.1.1 C.2.2.2.1.2
  rw [hret] at cb
  exact va_runI (Qc := fun _ => postM dC dI cA b0 bs n1 K) (b := b0 + c) (As := []) (rest := rest.map (cv b0 bs)) (n := 0) ⟨C.1.1, C.1.2.1, C.1.2.2.1, C.1.2.2.2, C.2.1.1⟩ hr2 ⟨cb, hnm, C.2.1.1 _ hk.2⟩
    ⟨pre_blind, fun U hU hW => ⟨rfl, by rw [hU]; exact hz, by rw [hU]; exact hP, va_K.moved hW.alike C.2.2.1, nest_warm hW C.2.1.2⟩⟩ rfl rfl hl.1 (by show (vR c :: rest).map (cv b0 bs) = _; rw [List.map_cons, hc3]; rfl) (lv_room (by rw [cat_sum]; exact Nat.le_of_ble_eq_true hr)) (cx_d C hd) (cap_of C hm.1 hn1)
theorem w_callIN {idx c n1 : Nat} {host : String} {rest : List Vv} {M2 : MI} {K : Option Vv → RF → St → Prop} (hd : mD M pc = some (.invokespecial idx, 3)) (hb : LkB M2 0) (hret : mR M2 = none) (hnm : (mY M2).name = "<init>") (hk : Cond.methodLinkNest (mY M).cls idx (mY M2) host ∈ lw_nest ∧ Cond.instanceMethod (mY M2) ∈ lw_good) (he : st = vR c :: rest) (hc : Nat.blt c n = true) (hr : Nat.ble (wid rest) 8 = true) (hn1 : Nat.ble n1 nM = true) (hm : mwp d M2 [vR c] n rf h n1 K) (kk : ∀ r rf2 h2, K r rf2 h2 → wp d nM M (pc + 3) ls (r.toList ++ rest) n1 rf2 h2 Q) : wp d nM M pc ls st n rf h Q := by
  intro p l e R s m args below meth co H locs nE QQ dC dI cA b0 bs la C hP hz hS hl hq
  subst he
  obtain ⟨hc1, hc3⟩ := cx_n C hc
  have hn1 := Nat.le_of_ble_eq_true hn1
  refine w_tail C hS hl hq hm.1 hn1 kk ?_
  have hr2 := hm.2 l dC dI cA b0 bs
  rw [List.map_cons, hc3] at hr2
  have cb := calln (n := n) (n1 := n1) (d := d) (R := R) hb C.2.1.1 (C.2.1.2 _ hk.1) C.2.2.2.1.1 C.2.2.2.1.2
  rw [hret] at cb
  exact va_runIN (Qc := fun _ => postM dC dI cA b0 bs n1 K) (b := b0 + c) (As := []) (rest := rest.map (cv b0 bs)) (n := 0) ⟨C.1.1, C.1.2.1, C.1.2.2.1, C.1.2.2.2, C.2.1.1⟩ hr2 ⟨cb, hnm, C.2.1.1 _ hk.2⟩
    ⟨pre_blind, fun U hU hW => ⟨rfl, by rw [hU]; exact hz, by rw [hU]; exact hP, va_K.moved hW.alike C.2.2.1, nest_warm hW C.2.1.2⟩⟩ rfl rfl hl.1 (by show (vR c :: rest).map (cv b0 bs) = _; rw [List.map_cons, hc3]; rfl) (lv_room (by rw [cat_sum]; exact Nat.le_of_ble_eq_true hr)) (cx_d C hd) (cap_of C hm.1 hn1)
end R7
