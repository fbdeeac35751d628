def FlOk (own : String) (idx ci k : Nat) : Prop := ∃ q : vw_C, jcl[ci]? = some q ∧ k < q.2.2 ∧ Cond.fieldLink own idx (q.2.1 k).1 (q.2.1 k).2.1 (q.2.1 k).2.2.1 ∈ lw_good
def FwOk (ci k : Nat) : Prop := ∃ q : vw_C, jcl[ci]? = some q ∧ (q.2.1 k).2.2.2 = false ∧ parseFieldDescriptor (q.2.1 k).2.2.1 = some .int
def FrOk (ci k : Nat) : Prop := ∃ (q : vw_C) (ty : FieldType), jcl[ci]? = some q ∧ (q.2.1 k).2.2.2 = true ∧ (q.2.1 k).1 = q.1 ∧ parseFieldDescriptor (q.2.1 k).2.2.1 = some ty ∧ ∀ a : Nat, narrow ty (.ref a) = .ref a ∧ fits ty (.ref a) = true
theorem fldV_len (b0 : Nat) (rf : RF) (h : St) (i : Nat) (fs : List (Option Nat)) : (fldV b0 rf h i fs).length = fs.length := by simp [fldV]
theorem fldV_I {b0 : Nat} {rf : RF} {h : St} {i k : Nat} {fs : List (Option Nat)} (hk : fs[k]? = some none) : (fldV b0 rf h i fs)[k]? = some (.int (Int32.ofInt (h i k))) := by
  have hl := (List.getElem?_eq_some_iff.mp hk).1
  simp only [fldV, List.getElem?_map, List.getElem?_range hl, Option.map_some, hk]
theorem fldV_R {b0 : Nat} {rf : RF} {h : St} {i k c : Nat} {fs : List (Option Nat)} (hk : fs[k]? = some (some c)) (hr : rf i k = true) : (fldV b0 rf h i fs)[k]? = some (.ref (b0 + c)) := by
  have hl := (List.getElem?_eq_some_iff.mp hk).1
  simp only [fldV, List.getElem?_map, List.getElem?_range hl, Option.map_some, hk, hr, if_true]
theorem fldV_set {b0 : Nat} {rf : RF} {h : St} {i k : Nat} {fs : List (Option Nat)} (hk : fs[k]? = some none) (v : Int) : fldV b0 rf (up h i k v) i fs = (fldV b0 rf h i fs).set k (.int (Int32.ofInt v)) := by
  have hl := (List.getElem?_eq_some_iff.mp hk).1
  apply List.ext_getElem?
  intro j
  by_cases hj : j = k
  · subst hj
    rw [List.getElem?_set_self (by rw [fldV_len]; exact hl), fldV_I hk, up_same]
  · rw [List.getElem?_set_ne (fun q => hj q.symm)]
    simp only [fldV, List.getElem?_map, up_idx h i k j v hj]
    by_cases hjl : j < fs.length
    · simp only [List.getElem?_range hjl, Option.map_some, up_idx h i k j v hj]
    · rw [List.getElem?_eq_none (by simp; omega)]
      rfl
def rfS (rf : RF) (i k : Nat) : RF := fun a b => if a = i ∧ b = k then true else rf a b
theorem fldV_setR {b0 : Nat} {rf : RF} {h : St} {i k c : Nat} {fs : List (Option Nat)} (hk : fs[k]? = some (some c)) : fldV b0 (rfS rf i k) h i fs = (fldV b0 rf h i fs).set k (.ref (b0 + c)) := by
  have hl := (List.getElem?_eq_some_iff.mp hk).1
  apply List.ext_getElem?
  intro j
  by_cases hj : j = k
  · subst hj
    rw [List.getElem?_set_self (by rw [fldV_len]; exact hl), fldV_R hk (by simp [rfS])]
  · rw [List.getElem?_set_ne (fun q => hj q.symm)]
    simp only [fldV, List.getElem?_map]
    by_cases hjl : j < fs.length
    · simp only [List.getElem?_range hjl, Option.map_some]
      simp [rfS, hj]
    · rw [List.getElem?_eq_none (by simp; omega)]
      rfl
theorem cel_arr {cA : FieldType → ClassId} {b0 : Nat} {rf : RF} {h : St} {c n b : Nat} {t : FieldType} (hs : shp c = .inl (t, n, b)) : celE cA b0 rf h c = .inl (cA t, n, arrE b0 h c n b t) := by
  unfold celE; rw [hs]; rfl
theorem cel_obj {cA : FieldType → ClassId} {b0 : Nat} {rf : RF} {h : St} {c ci : Nat} {fs : List (Option Nat)} (hs : shp c = .inr (ci, fs)) : celE cA b0 rf h c = .inr (ci, fldV b0 rf h c fs) := by
  unfold celE; rw [hs]; rfl
theorem arrE_i (b0 : Nat) (h : St) (i n b : Nat) : arrE b0 h i n b .int = .inl (fun k => Int32.ofInt (h i k)) := rfl
theorem arrE_b (b0 : Nat) (h : St) (i n b : Nat) : arrE b0 h i n b .byte = .inl (fun k => Int32.ofInt (h i k)) := rfl
theorem arrE_z (b0 : Nat) (h : St) (i n b : Nat) : arrE b0 h i n b .boolean = .inl (fun k => Int32.ofInt (h i k)) := rfl
theorem arrE_l (b0 : Nat) (h : St) (i n b : Nat) : arrE b0 h i n b .long = .inr (.inl (fun k => Int64.ofInt (h i k))) := rfl
theorem arrE_q (b0 : Nat) (h : St) (i n b : Nat) : arrE b0 h i n b (.array .int) = .inr (.inr (.inr (.inr (fun k => if k < n then some (b0 + (b + k)) else none)))) := rfl
section R6
variable {d nM : Nat} {M : MI} {pc : Nat} {ls : Lv} {st : List Vv} {n : Nat} {rf : RF} {h : St} {Q : Option Vv → Nat → RF → St → Prop}
theorem cx_n {p : Program} {R : Room} {s : State} {m : MethodId} {args : Array Value} {meth : Method} {c : Code} {dC : Nat → ClassId} {dI : Nat → Nat → Nat} {cA : FieldType → ClassId} {b0 bs nE n : Nat} (C : Cx d nM M p R s m args meth c dC dI cA b0 bs nE n) {k : Nat} (hk : Nat.blt k n = true) : k < n ∧ cv b0 bs (vR k) = .ref (b0 + k) := by
  have h1 : k < n := Nat.le_of_ble_eq_true hk
  have h2 := C.2.2.2.2.1
  have h3 : ¬ k = cScr := by show ¬ k = 9999; omega
  exact ⟨h1, by simp [cv, h3]⟩
theorem w_getI {idx ci k c : Nat} {fs : List (Option Nat)} (hd : mD M pc = some (.getfield idx, 3)) (hf : FlOk (mY M).cls idx ci k) (hs : shp c = .inr (ci, fs)) (hk : fs[k]? = some none) (hc : Nat.blt c n = true) (kk : wp d nM M (pc + 3) ls (vI (h c k) :: st) n rf h Q) : wp d nM M pc ls (vR c :: st) n rf h Q := by
  intro p l e R s m args below meth co H locs nE QQ dC dI cA b0 bs la C hP hz hS hl hq
  have w := kk p l e R s m args below meth co H locs nE QQ dC dI cA b0 bs la C hP hz hS hl hq
  obtain ⟨⟨C0, T, N⟩, hq1, hq2, hq3⟩ := hf
  obtain ⟨hc1, hc2⟩ := cx_n C hc
  rw [List.map_cons, hc2]
  have he := wsn_at (cA := cA) (b0 := b0) (rf := rf) (h := h) hc1
  rw [cel_obj hs] at he
  exact va_get (D := (dC, dI)) (C := C0) (T := T) (N := N) C.1.1 C.1.2.1 C.2.1.1 (jcl_ok ci _ hq1).1 C.1.2.2.2 C.2.2.1 hP c he hq1 k hq2 (C.2.1.1 _ hq3) (fun _ h9 => h9) (fldV_I hk) (cx_d C hd) w
theorem w_getR {idx ci k c c2 : Nat} {fs : List (Option Nat)} (hd : mD M pc = some (.getfield idx, 3)) (hf : FlOk (mY M).cls idx ci k) (hs : shp c = .inr (ci, fs)) (hk : fs[k]? = some (some c2)) (hr : rf c k = true) (hc : Nat.blt c n = true) (hc2 : Nat.blt c2 n = true) (kk : wp d nM M (pc + 3) ls (vR c2 :: st) n rf h Q) : wp d nM M pc ls (vR c :: st) n rf h Q := by
  intro p l e R s m args below meth co H locs nE QQ dC dI cA b0 bs la C hP hz hS hl hq
  have w := kk p l e R s m args below meth co H locs nE QQ dC dI cA b0 bs la C hP hz hS hl hq
  obtain ⟨⟨C0, T, N⟩, hq1, hq2, hq3⟩ := hf
  obtain ⟨hc1, hc3⟩ := cx_n C hc
  rw [List.map_cons, hc3]
  rw [List.map_cons, (cx_n C hc2).2] at w
  have he := wsn_at (cA := cA) (b0 := b0) (rf := rf) (h := h) hc1
  rw [cel_obj hs] at he
  exact va_get (D := (dC, dI)) (C := C0) (T := T) (N := N) C.1.1 C.1.2.1 C.2.1.1 (jcl_ok ci _ hq1).1 C.1.2.2.2 C.2.2.1 hP c he hq1 k hq2 (C.2.1.1 _ hq3) (fun _ h9 => h9) (fldV_R hk hr) (cx_d C hd) w
theorem w_putI {idx ci k c : Nat} {fs : List (Option Nat)} {v : Int} (hd : mD M pc = some (.putfield idx, 3)) (hf : FlOk (mY M).cls idx ci k) (hw : FwOk ci k) (hs : shp c = .inr (ci, fs)) (hk : fs[k]? = some none) (hc : Nat.blt c n = true) (kk : wp d nM M (pc + 3) ls st n rf (up h c k v) Q) : wp d nM M pc ls (vI v :: vR c :: st) n rf h Q := by
  intro p l e R s m args below meth co H locs nE QQ dC dI cA b0 bs la C hP hz hS hl hq
  obtain ⟨⟨C0, T, N⟩, hq1, hq2, hq3⟩ := hf
  obtain ⟨q2, hw1, hfin, hty⟩ := hw
  cases hq1.symm.trans hw1
  obtain ⟨hc1, hc3⟩ := cx_n C hc
  rw [List.map_cons, List.map_cons, hc3]
  have he := wsn_at (cA := cA) (b0 := b0) (rf := rf) (h := h) hc1
  rw [cel_obj hs] at he
  obtain ⟨hin, ⟨ty0, hty0⟩, hnm⟩ := jcl_ok ci _ hq1
  have hts := C.2.1.1
  have hK := C.2.2.1
  have hap := va_apart (own := (mY M).cls) hts hin ty0 hty0 hnm hK hq1
  obtain ⟨r, h1, cell, q1, q2, q3, q4⟩ := hP c _ he
  have hr : r = (C0, T, N) := Option.some.inj (h1.symm.trans hq1)
  subst hr
  obtain ⟨hSl, hfc, kC, hkC, hkind⟩ := hK.1 ci _ hq1
  obtain ⟨cf, kf, fi, f, hi, hsl⟩ := hSl k hq2
  have hlay := hts _ (hin _ (u_in_lay hq2))
  unfold u_lay at hlay
  rw [if_neg (by rw [hfin]; decide)] at hlay
  have hst := (u_facts hfc hkC (u_lays hts hin hq2) hi).1
  have h6 := u_store (v := .int (Int32.ofInt v)) hfc hkC hkind hlay hi hty rfl rfl
  refine W.putK C.1.1 C.1.2.1 (f := f) ⟨C.1.2.2.2, hts _ hq3, ⟨_, _, _, hi⟩, hst⟩ (by rw [q2]; exact h6) q1 q3 (by rw [hsl]; exact k2_hasslot (q4 k hq2)) rfl rfl (cx_d C hd) fun H1 e1 e2 e3 => ?_
  rw [hsl] at e1 ⊢
  have hl2 : k < (fldV b0 rf h c fs).length := by rw [fldV_len]; exact (List.getElem?_eq_some_iff.mp hk).1
  have hP1 := hP.set (e := .inr (ci, (fldV b0 rf h c fs).set k (.int (Int32.ofInt v)))) (wsn_D cA b0 n rf h) he ⟨_, hq1, t_OB.to (V := updV (vp_V (fldV b0 rf h c fs)) k (.int (Int32.ofInt v))) ⟨_, e1, q2, q3, t_set q4 hap hq2 _⟩ (fun j _ => vp_updV_set hl2 _ j)⟩ e3
  rw [wsn_set (rf' := rf) (h' := up h c k v) (by rw [cel_obj hs, fldV_set hk]) (fun i hi2 => celE_cong (up_row h c k i v hi2) rfl)] at hP1
  exact kk p l e R s m args below meth co H1 _ nE QQ dC dI cA b0 bs la C hP1 (e2.trans hz) (hS.put e2 e3 (Nat.le_add_right _ _)) hl hq
theorem w_putR {idx ci k c c2 : Nat} {fs : List (Option Nat)} (hd : mD M pc = some (.putfield idx, 3)) (hin2 : (mY M).name = "<init>") (hf : FlOk (mY M).cls idx ci k) (hw : FrOk ci k) (hown2 : (jcl[ci]?).map (fun q => q.1) = some (mY M).cls) (hs : shp c = .inr (ci, fs)) (hk : fs[k]? = some (some c2)) (hc : Nat.blt c n = true) (hc2 : Nat.blt c2 n = true) (kk : wp d nM M (pc + 3) ls st n (rfS rf c k) h Q) : wp d nM M pc ls (vR c2 :: vR c :: st) n rf h Q := by
  intro p l e R s m args below meth co H locs nE QQ dC dI cA b0 bs la C hP hz hS hl hq
  obtain ⟨⟨C0, T, N⟩, hq1, hq2, hq3⟩ := hf
  obtain ⟨q2, ty, hw1, hfin, hdecl, hty, hnf⟩ := hw
  cases hq1.symm.trans hw1
  rw [hq1] at hown2
  have hC0 : C0 = (mY M).cls := Option.some.inj hown2
  obtain ⟨hc1, hc3⟩ := cx_n C hc
  rw [List.map_cons, List.map_cons, hc3, (cx_n C hc2).2]
  have he := wsn_at (cA := cA) (b0 := b0) (rf := rf) (h := h) hc1
  rw [cel_obj hs] at he
  obtain ⟨hin, ⟨ty0, hty0⟩, hnm⟩ := jcl_ok ci _ hq1
  have hts := C.2.1.1
  have hK := C.2.2.1
  have hap := va_apart (own := (mY M).cls) hts hin ty0 hty0 hnm hK hq1
  obtain ⟨r, h1, cell, q1, q2, q3, q4⟩ := hP c _ he
  have hr : r = (C0, T, N) := Option.some.inj (h1.symm.trans hq1)
  subst hr
  obtain ⟨hSl, hfc, kC, hkC, hkind⟩ := hK.1 ci _ hq1
  obtain ⟨cf, kf, fi, f, hi, hsl⟩ := hSl k hq2
  have hlay := hts _ (hin _ (u_in_lay hq2))
  unfold u_lay at hlay
  rw [if_pos hfin] at hlay
  have hst := (u_facts hfc hkC (u_lays hts hin hq2) hi).1
  have hcf : m.cls = cf := by
    obtain ⟨_, _, c', _, _, _, -, -, hf', -, -, -, hown3, -⟩ := Cond.laysFinal_spec hlay
    have e1 : c' = cf := by have := hi.symm.trans hf'; simp at this; exact this.1.symm
    rw [hdecl] at hown3
    have hown4 : s.vm.findClass C0 = some c' := hown3
    rw [hC0] at hown4
    rw [← e1]; exact Option.some.inj (C.1.2.2.2.symm.trans hown4)
  have h6 := u_fits (v := .ref (b0 + c2)) hfc hkC hkind (Or.inr hlay) hi hty (hnf _).1 (hnf _).2
  refine W.putFinK C.1.1 C.1.2.1 C.1.2.2.2 (hts _ hq3) hi hst hcf (by rw [C.2.2.2.2.2.2.2.2.1]; exact hin2) (by rw [q2]; exact h6) q1 q3 (by rw [hsl]; exact k2_hasslot (q4 k hq2)) rfl rfl (cx_d C hd) fun H1 e1 e2 e3 => ?_
  rw [hsl] at e1 ⊢
  have hl2 : k < (fldV b0 rf h c fs).length := by rw [fldV_len]; exact (List.getElem?_eq_some_iff.mp hk).1
  have hP1 := hP.set (e := .inr (ci, (fldV b0 rf h c fs).set k (.ref (b0 + c2)))) (wsn_D cA b0 n rf h) he ⟨_, hq1, t_OB.to (V := updV (vp_V (fldV b0 rf h c fs)) k (.ref (b0 + c2))) ⟨_, e1, q2, q3, t_set q4 hap hq2 _⟩ (fun j _ => vp_updV_set hl2 _ j)⟩ e3
  rw [wsn_set (rf' := rfS rf c k) (h' := h) (by rw [cel_obj hs, fldV_setR hk]) (fun i hi2 => celE_cong rfl (by funext j; simp [rfS, hi2]))] at hP1
  exact kk p l e R s m args below meth co H1 _ nE QQ dC dI cA b0 bs la C hP1 (e2.trans hz) (hS.put e2 e3 (Nat.le_add_right _ _)) hl hq
theorem w_iaload {c len b : Nat} {i : Int} (hd : mD M pc = some (.iaload, 1)) (hs : shp c = .inl (.int, len, b)) (hc : Nat.blt c n = true) (hi : 0 ≤ i ∧ i < len) (kk : wp d nM M (pc + 1) ls (vI (h c i.toNat) :: st) n rf h Q) : wp d nM M pc ls (vI i :: vR c :: st) n rf h Q := by
  intro p l e R s m args below meth co H locs nE QQ dC dI cA b0 bs la C hP hz hS hl hq
  have w := kk p l e R s m args below meth co H locs nE QQ dC dI cA b0 bs la C hP hz hS hl hq
  obtain ⟨hc1, hc3⟩ := cx_n C hc
  rw [List.map_cons, List.map_cons, hc3]
  have he := wsn_at (cA := cA) (b0 := b0) (rf := rf) (h := h) hc1
  rw [cel_arr hs, arrE_i] at he
  have hlen := shp_len hs
  refine va_iald C.1.1 C.1.2.1 C.2.2.1 hP c 0 he rfl (i3_in hi.1 hi.2 hlen) (cx_d C hd) ?_
  rw [i3_clamp hi.1 (by omega)]
  exact w
theorem w_baload {c len b : Nat} {i : Int} (hd : mD M pc = some (.baload, 1)) (hs : shp c = .inl (.byte, len, b)) (hc : Nat.blt c n = true) (hi : 0 ≤ i ∧ i < len) (kk : wp d nM M (pc + 1) ls (vI (h c i.toNat) :: st) n rf h Q) : wp d nM M pc ls (vI i :: vR c :: st) n rf h Q := by
  intro p l e R s m args below meth co H locs nE QQ dC dI cA b0 bs la C hP hz hS hl hq
  have w := kk p l e R s m args below meth co H locs nE QQ dC dI cA b0 bs la C hP hz hS hl hq
  obtain ⟨hc1, hc3⟩ := cx_n C hc
  rw [List.map_cons, List.map_cons, hc3]
  have he := wsn_at (cA := cA) (b0 := b0) (rf := rf) (h := h) hc1
  rw [cel_arr hs, arrE_b] at he
  have hlen := shp_len hs
  refine va_bald C.1.1 C.1.2.1 C.2.2.1 hP c 1 he rfl (i3_in hi.1 hi.2 hlen) (cx_d C hd) ?_
  rw [i3_clamp hi.1 (by omega)]
  exact w
theorem w_zaload {c len b : Nat} {i : Int} (hd : mD M pc = some (.baload, 1)) (hs : shp c = .inl (.boolean, len, b)) (hc : Nat.blt c n = true) (hi : 0 ≤ i ∧ i < len) (kk : wp d nM M (pc + 1) ls (vI (h c i.toNat) :: st) n rf h Q) : wp d nM M pc ls (vI i :: vR c :: st) n rf h Q := by
  intro p l e R s m args below meth co H locs nE QQ dC dI cA b0 bs la C hP hz hS hl hq
  have w := kk p l e R s m args below meth co H locs nE QQ dC dI cA b0 bs la C hP hz hS hl hq
  obtain ⟨hc1, hc3⟩ := cx_n C hc
  rw [List.map_cons, List.map_cons, hc3]
  have he := wsn_at (cA := cA) (b0 := b0) (rf := rf) (h := h) hc1
  rw [cel_arr hs, arrE_z] at he
  have hlen := shp_len hs
  refine va_zald C.1.1 C.1.2.1 C.2.2.1 hP c 2 he rfl (i3_in hi.1 hi.2 hlen) (cx_d C hd) ?_
  rw [i3_clamp hi.1 (by omega)]
  exact w
theorem w_laload {c len b : Nat} {i : Int} (hd : mD M pc = some (.laload, 1)) (hs : shp c = .inl (.long, len, b)) (hc : Nat.blt c n = true) (hi : 0 ≤ i ∧ i < len) (kk : wp d nM M (pc + 1) ls (vJ (h c i.toNat) :: st) n rf h Q) : wp d nM M pc ls (vI i :: vR c :: st) n rf h Q := by
  intro p l e R s m args below meth co H locs nE QQ dC dI cA b0 bs la C hP hz hS hl hq
  have w := kk p l e R s m args below meth co H locs nE QQ dC dI cA b0 bs la C hP hz hS hl hq
  obtain ⟨hc1, hc3⟩ := cx_n C hc
  rw [List.map_cons, List.map_cons, hc3]
  have he := wsn_at (cA := cA) (b0 := b0) (rf := rf) (h := h) hc1
  rw [cel_arr hs, arrE_l] at he
  have hlen := shp_len hs
  refine va_lald C.1.1 C.1.2.1 C.2.2.1 hP c 3 he rfl (i3_in hi.1 hi.2 hlen) (cx_d C hd) ?_
  rw [i3_clamp hi.1 (by omega)]
  exact w
theorem w_aaload {c len b : Nat} {i : Int} (hd : mD M pc = some (.aaload, 1)) (hs : shp c = .inl (.array .int, len, b)) (hc : Nat.blt c n = true) (hi : 0 ≤ i ∧ i < len) (hb : Nat.ble (b + len) n = true) (kk : wp d nM M (pc + 1) ls (vR (b + i.toNat) :: st) n rf h Q) : wp d nM M pc ls (vI i :: vR c :: st) n rf h Q := by
  intro p l e R s m args below meth co H locs nE QQ dC dI cA b0 bs la C hP hz hS hl hq
  have w := kk p l e R s m args below meth co H locs nE QQ dC dI cA b0 bs la C hP hz hS hl hq
  obtain ⟨hc1, hc3⟩ := cx_n C hc
  have hb2 := Nat.le_of_ble_eq_true hb
  have hk : Nat.blt (b + i.toNat) n = true := Nat.ble_eq_true_of_le (by omega)
  rw [List.map_cons, (cx_n C hk).2] at w
  rw [List.map_cons, List.map_cons, hc3]
  have he := wsn_at (cA := cA) (b0 := b0) (rf := rf) (h := h) hc1
  rw [cel_arr hs, arrE_q] at he
  have hlen := shp_len hs
  have hin := i3_in hi.1 hi.2 hlen
  have hlt : i.toNat < len := by omega
  refine W.aald (v := .ref (b0 + (b + i.toNat))) (ty := .array .int) C.1.1 C.1.2.1 (hP c _ he) ((C.2.2.1.2 4 _ rfl).1 len (fun j => va_rf (if j < len then some (b0 + (b + j)) else none))) rfl (fun q => by cases q) (by show ¬ (_ < 0 ∨ (arrV _ _ _).slots.size ≤ _); rw [arrV_size]; exact hin) (by show (arrV _ _ _).slots[_]? = _; rw [i3_clamp hi.1 (by omega), arrV_read _ _ hlt]; show some (va_rf (if i.toNat < len then some (b0 + (b + i.toNat)) else none)) = _; rw [if_pos hlt]; rfl) rfl rfl (cx_d C hd) w
theorem w_alen {c len b : Nat} {t : FieldType} {t0 : Nat} (hd : mD M pc = some (.arraylength, 1)) (hs : shp c = .inl (t, len, b)) (ht : ∀ cA : FieldType → ClassId, (tysL cA)[t0]? = some (cA t, t)) (hc : Nat.blt c n = true) (kk : wp d nM M (pc + 1) ls (vI (len : Int) :: st) n rf h Q) : wp d nM M pc ls (vR c :: st) n rf h Q := by
  intro p l e R s m args below meth co H locs nE QQ dC dI cA b0 bs la C hP hz hS hl hq
  have w := kk p l e R s m args below meth co H locs nE QQ dC dI cA b0 bs la C hP hz hS hl hq
  obtain ⟨hc1, hc3⟩ := cx_n C hc
  rw [List.map_cons, hc3]
  have he := wsn_at (cA := cA) (b0 := b0) (rf := rf) (h := h) hc1
  rw [cel_arr hs] at he
  exact va_alen C.1.1 C.1.2.1 C.2.2.1 hP c t0 he (ht cA) (v := Int32.ofInt (len : Int)) (by rw [Int32.ofInt_eq_ofNat]) (cx_d C hd) w
theorem up_arr {cA : FieldType → ClassId} {b0 n : Nat} {rf : RF} {h : St} {c len b k : Nat} {v : Int} {t : FieldType} {dC : Nat → ClassId} {dI : Nat → Nat → Nat} {H H1 : Heap} (hs : shp c = .inl (t, len, b)) (hc : c < n) (hP : va_P (dC, dI) jcl (wsn cA b0 n rf h) H) (e : H1[b0 + c]? = some (vp_cell (cA t) (len, arrE b0 (up h c k v) c len b t))) (oq : ∀ q, q ≠ b0 + c → H1[q]? = H[q]?) : va_P (dC, dI) jcl (wsn cA b0 n rf (up h c k v)) H1 := by
  have he := wsn_at (cA := cA) (b0 := b0) (rf := rf) (h := h) hc
  have hP1 := hP.set (e := .inl (cA t, len, arrE b0 (up h c k v) c len b t)) (wsn_D cA b0 n rf h) he e oq
  rwa [wsn_set (rf' := rf) (h' := up h c k v) (cel_arr hs) (fun i hi2 => celE_cong (up_row h c k i v hi2) rfl)] at hP1
theorem w_iastore {c len b : Nat} {i v : Int} (hd : mD M pc = some (.iastore, 1)) (hs : shp c = .inl (.int, len, b)) (hc : Nat.blt c n = true) (hi : 0 ≤ i ∧ i < len) (kk : wp d nM M (pc + 1) ls st n rf (up h c i.toNat v) Q) : wp d nM M pc ls (vI v :: vI i :: vR c :: st) n rf h Q := by
  intro p l e R s m args below meth co H locs nE QQ dC dI cA b0 bs la C hP hz hS hl hq
  obtain ⟨hc1, hc3⟩ := cx_n C hc
  rw [List.map_cons, List.map_cons, List.map_cons, hc3]
  have he := wsn_at (cA := cA) (b0 := b0) (rf := rf) (h := h) hc1
  rw [cel_arr hs, arrE_i] at he
  have hlen := shp_len hs
  have hin := i3_in hi.1 hi.2 hlen
  refine W.iast C.1.1 C.1.2.1 (hP c _ he) ((C.2.2.1.2 0 _ rfl).1 len (fun j => .int (Int32.ofInt (h c j)))) (fun q => by cases q) (by show ¬ (_ < 0 ∨ (arrV _ _ _).slots.size ≤ _); rw [arrV_size]; exact hin) rfl rfl (cx_d C hd) fun H1 e z oq => ?_
  refine kk p l _ R s m args below meth co H1 _ nE QQ dC dI cA b0 bs la C (up_arr hs hc1 hP ?_ oq) (z.trans hz) (hS.put z oq (Nat.le_add_right _ _)) hl hq
  rw [e, i3_clamp hi.1 (by omega), arrE_i, vp_cell_i, vp_cell_i, arrV_store]
  congr 2
  funext q
  by_cases hq : q = i.toNat
  · subst hq
    simp [updV, up]
  · simp [updV, up, hq]
theorem w_lastore {c len b : Nat} {i v : Int} (hd : mD M pc = some (.lastore, 1)) (hs : shp c = .inl (.long, len, b)) (hc : Nat.blt c n = true) (hi : 0 ≤ i ∧ i < len) (kk : wp d nM M (pc + 1) ls st n rf (up h c i.toNat v) Q) : wp d nM M pc ls (vJ v :: vI i :: vR c :: st) n rf h Q := by
  intro p l e R s m args below meth co H locs nE QQ dC dI cA b0 bs la C hP hz hS hl hq
  obtain ⟨hc1, hc3⟩ := cx_n C hc
  rw [List.map_cons, List.map_cons, List.map_cons, hc3]
  have he := wsn_at (cA := cA) (b0 := b0) (rf := rf) (h := h) hc1
  rw [cel_arr hs, arrE_l] at he
  have hlen := shp_len hs
  have hin := i3_in hi.1 hi.2 hlen
  refine W.last C.1.1 C.1.2.1 (hP c _ he) ((C.2.2.1.2 3 _ rfl).1 len (fun j => .long (Int64.ofInt (h c j)))) (fun q => by cases q) (by show ¬ (_ < 0 ∨ (arrV _ _ _).slots.size ≤ _); rw [arrV_size]; exact hin) rfl rfl (cx_d C hd) fun H1 e z oq => ?_
  refine kk p l _ R s m args below meth co H1 _ nE QQ dC dI cA b0 bs la C (up_arr hs hc1 hP ?_ oq) (z.trans hz) (hS.put z oq (Nat.le_add_right _ _)) hl hq
  rw [e, i3_clamp hi.1 (by omega), arrE_l, vp_cell_l, vp_cell_l, arrV_store]
  congr 2
  funext q
  by_cases hq : q = i.toNat
  · subst hq
    simp [updV, up]
  · simp [updV, up, hq]
theorem nar_byt (v : Int) : narrow .byte (.int (Int32.ofInt v)) = .int (Int32.ofInt (byt v)) := by
  have e0 : narrow .byte (.int (Int32.ofInt v)) = .int (Int32.ofInt v).toInt8.toInt32 := rfl
  rw [e0]
  congr 1
  rw [Int32.toInt8_ofInt, ← Int32.toInt_inj, Int8.toInt_toInt32, Int8.toInt_ofInt]
  have h3 := @Int.le_bmod v 256 (by decide)
  have h4 := @Int.bmod_lt v 256 (by decide)
  have h5 : inR (byt v) := by unfold byt; constructor <;> omega
  exact (i3_toInt h5).symm
theorem w_bastore {c len b : Nat} {i v : Int} (hd : mD M pc = some (.bastore, 1)) (hs : shp c = .inl (.byte, len, b)) (hc : Nat.blt c n = true) (hi : 0 ≤ i ∧ i < len) (kk : wp d nM M (pc + 1) ls st n rf (up h c i.toNat (byt v)) Q) : wp d nM M pc ls (vI v :: vI i :: vR c :: st) n rf h Q := by
  intro p l e R s m args below meth co H locs nE QQ dC dI cA b0 bs la C hP hz hS hl hq
  obtain ⟨hc1, hc3⟩ := cx_n C hc
  rw [List.map_cons, List.map_cons, List.map_cons, hc3]
  have he := wsn_at (cA := cA) (b0 := b0) (rf := rf) (h := h) hc1
  rw [cel_arr hs, arrE_b] at he
  have hlen := shp_len hs
  have hin := i3_in hi.1 hi.2 hlen
  refine W.bast C.1.1 C.1.2.1 (hP c _ he) ((C.2.2.1.2 1 _ rfl).1 len (fun j => .int (Int32.ofInt (h c j)))) (fun q => by cases q) (by show ¬ (_ < 0 ∨ (arrV _ _ _).slots.size ≤ _); rw [arrV_size]; exact hin) rfl rfl (cx_d C hd) fun H1 e z oq => ?_
  refine kk p l _ R s m args below meth co H1 _ nE QQ dC dI cA b0 bs la C (up_arr hs hc1 hP ?_ oq) (z.trans hz) (hS.put z oq (Nat.le_add_right _ _)) hl hq
  rw [e, i3_clamp hi.1 (by omega), nar_byt, arrE_b, vp_cell_i, vp_cell_i, arrV_store]
  congr 2
  funext q
  by_cases hq : q = i.toNat
  · subst hq
    simp [updV, up]
  · simp [updV, up, hq]
theorem nar_bool {v : Int} (hv : v = 0 ∨ v = 1) : narrow .boolean (.int (Int32.ofInt v)) = .int (Int32.ofInt v) := by
  rcases hv with rfl | rfl <;> decide
theorem w_zastore {c len b : Nat} {i v : Int} (hd : mD M pc = some (.bastore, 1)) (hs : shp c = .inl (.boolean, len, b)) (hc : Nat.blt c n = true) (hi : 0 ≤ i ∧ i < len) (hv : v = 0 ∨ v = 1) (kk : wp d nM M (pc + 1) ls st n rf (up h c i.toNat v) Q) : wp d nM M pc ls (vI v :: vI i :: vR c :: st) n rf h Q := by
  intro p l e R s m args below meth co H locs nE QQ dC dI cA b0 bs la C hP hz hS hl hq
  obtain ⟨hc1, hc3⟩ := cx_n C hc
  rw [List.map_cons, List.map_cons, List.map_cons, hc3]
  have he := wsn_at (cA := cA) (b0 := b0) (rf := rf) (h := h) hc1
  rw [cel_arr hs, arrE_z] at he
  have hlen := shp_len hs
  have hin := i3_in hi.1 hi.2 hlen
  refine W.zast C.1.1 C.1.2.1 (hP c _ he) ((C.2.2.1.2 2 _ rfl).1 len (fun j => .int (Int32.ofInt (h c j)))) (fun q => by cases q) (by show ¬ (_ < 0 ∨ (arrV _ _ _).slots.size ≤ _); rw [arrV_size]; exact hin) rfl rfl (cx_d C hd) fun H1 e z oq => ?_
  refine kk p l _ R s m args below meth co H1 _ nE QQ dC dI cA b0 bs la C (up_arr hs hc1 hP ?_ oq) (z.trans hz) (hS.put z oq (Nat.le_add_right _ _)) hl hq
  rw [e, i3_clamp hi.1 (by omega), nar_bool hv, arrE_z, vp_cell_i, vp_cell_i, arrV_store]
  congr 2
  funext q
  by_cases hq : q = i.toNat
  · subst hq
    simp [updV, up]
  · simp [updV, up, hq]
theorem w_sload {i : Int} (hd : mD M pc = some (.iaload, 1)) (hi : 0 ≤ i ∧ i < ((mS M - 1 : Nat) : Int)) (kk : wp d nM M (pc + 1) ls (vI (mX M i.toNat) :: st) n rf h Q) : wp d nM M pc ls (vI i :: vR cScr :: st) n rf h Q := by
  intro p l e R s m args below meth co H locs nE QQ dC dI cA b0 bs la C hP hz hS hl hq
  have w := kk p l e R s m args below meth co H locs nE QQ dC dI cA b0 bs la C hP hz hS hl hq
  rcases C.2.2.2.2.2.2.2.1 with h0 | ⟨h1, h2, h3⟩
  · omega
  · have hb0 := C.2.2.2.2.2.1
    rw [List.map_cons, List.map_cons, show cv b0 bs (vR cScr) = .ref bs from by simp [cv]]
    refine va_sld (A := fun q => b0 ≤ q) C.1.1 C.1.2.1 h2 (by omega) (by omega) hS (i3_in hi.1 hi.2 (by omega)) (cx_d C hd) ?_
    rw [i3_clamp hi.1 (by omega)]
    exact w
theorem w_slen (hd : mD M pc = some (.arraylength, 1)) (h0 : 0 < mS M) (kk : wp d nM M (pc + 1) ls (vI ((mS M - 1 : Nat) : Int) :: st) n rf h Q) : wp d nM M pc ls (vR cScr :: st) n rf h Q := by
  intro p l e R s m args below meth co H locs nE QQ dC dI cA b0 bs la C hP hz hS hl hq
  have w := kk p l e R s m args below meth co H locs nE QQ dC dI cA b0 bs la C hP hz hS hl hq
  rcases C.2.2.2.2.2.2.2.1 with h0 | ⟨h1, h2, h3⟩
  · omega
  · have hb0 := C.2.2.2.2.2.1
    rw [List.map_cons, show cv b0 bs (vR cScr) = .ref bs from by simp [cv]]
    refine va_slen (A := fun q => b0 ≤ q) C.1.1 C.1.2.1 h2 (by omega) (by omega) hS (cx_d C hd) ?_
    rw [show Int32.ofNat (mS M - 1) = Int32.ofInt ((mS M - 1 : Nat) : Int) by rw [Int32.ofInt_eq_ofNat]]
    exact w
end R6
