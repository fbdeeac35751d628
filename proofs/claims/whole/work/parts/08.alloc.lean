def zr (h : St) (n : Nat) : St := fun i j => if n ≤ i then 0 else h i j
theorem zr_lo {h : St} {n i : Nat} (hi : i < n) : zr h n i = h i := by
  funext j
  simp [zr, Nat.not_le.mpr hi]
theorem zr_hi {h : St} {n i j : Nat} (hi : n ≤ i) : zr h n i j = 0 := by simp [zr, hi]
def rfC (rf : RF) (n : Nat) : RF := fun i k => if n ≤ i then false else rf i k
theorem rfC_lo {rf : RF} {n i : Nat} (hi : i < n) : rfC rf n i = rf i := by
  funext j
  simp [rfC, Nat.not_le.mpr hi]
theorem wsn_keep {cA : FieldType → ClassId} {b0 n : Nat} {rf rf2 : RF} {h h2 : St} (hh : ∀ i, i < n → h2 i = h i) (hr : ∀ i, i < n → rf2 i = rf i) : wsn cA b0 n rf2 h2 = wsn cA b0 n rf h := by
  unfold wsn
  apply List.map_congr_left
  intro i hi
  have hi := List.mem_range.mp hi
  rw [celE_cong (hh i hi) (hr i hi)]
theorem wsn_app {cA : FieldType → ClassId} {b0 n : Nat} {rf : RF} {h : St} : wsn cA b0 (n + 1) rf h = wsn cA b0 n rf h ++ [(b0 + n, celE cA b0 rf h n)] := by
  unfold wsn
  rw [List.range_succ, List.map_append]
  rfl
theorem va_P_1 {D : va_G} {q : Nat × va_E} {H : Heap} (h : va_at D jcl q H) : va_P D jcl [q] H := by
  intro k x hx
  have hz : k < 1 := (List.getElem?_eq_some_iff.mp hx).1
  rw [show k = 0 by omega] at hx
  cases hx
  exact h
theorem zr_cell {b0 n len : Nat} {h : St} {t : FieldType} (ht : t = .int ∨ t = .byte ∨ t = .boolean ∨ t = .long) (cI : ClassId) (i b : Nat) (hi : n ≤ i) : vp_cell cI (len, arrE b0 (zr h n) i len b t) = arrV cI len (fun _ => defaultValue t) := by
  have e : ∀ k, zr h n i k = 0 := fun k => zr_hi hi
  rcases ht with rfl | rfl | rfl | rfl
  · rw [arrE_i, vp_cell_i]; simp only [e]; rfl
  · rw [arrE_b, vp_cell_i]; simp only [e]; rfl
  · rw [arrE_z, vp_cell_i]; simp only [e]; rfl
  · rw [arrE_l, vp_cell_l]; simp only [e]; rfl
section R8
variable {d nM : Nat} {M : MI} {pc : Nat} {ls : Lv} {st : List Vv} {n : Nat} {rf : RF} {h : St} {Q : Option Vv → Nat → RF → St → Prop}
theorem sl_step {p : Program} {R : Room} {s : State} {m : MethodId} {args : Array Value} {meth : Method} {c : Code} {dC : Nat → ClassId} {dI : Nat → Nat → Nat} {cA : FieldType → ClassId} {b0 bs nE n k : Nat} (C : Cx d nM M p R s m args meth c dC dI cA b0 bs nE n) (hk : shSz (shp n) = k) (hn : n + 1 ≤ nM) : n - nE + 1 = n + 1 - nE ∧ Ssum n - Ssum nE + k = Ssum (n + 1) - Ssum nE ∧ n - nE + 1 ≤ R.cells ∧ Ssum n - Ssum nE + k ≤ R.slots := by
  obtain ⟨-, -, -, -, ⟨b1, b2, b3, b4, b5⟩, -⟩ := C
  have m1 := Ssum_le b3
  have m2 : Ssum (n + 1) = Ssum n + k := by rw [← hk]; rfl
  have m3 := Ssum_le hn
  omega
theorem w_newarray {a : ArrayType} {t : FieldType} {len t0 : Nat} (hd : mD M pc = some (.newarray a, 2)) (hta : newarray.typeOf a = t) (ht : t = .int ∨ t = .byte ∨ t = .boolean ∨ t = .long) (hs : shp n = .inl (t, len, 0)) (hw : Cond.arrayClass t ∈ lw_good) (htl : ∀ cA : FieldType → ClassId, (tysL cA)[t0]? = some (cA t, t)) (hn : Nat.blt n nM = true) (hlen : len ≤ 10000) (kk : wp d nM M (pc + 2) ls (vR n :: st) (n + 1) rf (zr h n) Q) : wp d nM M pc ls (vI (len : Int) :: st) n rf h Q := by
  intro p l e R s m args below meth co H locs nE QQ dC dI cA b0 bs la C hP hz hS hl hq
  have hn1 : n + 1 ≤ nM := Nat.le_of_ble_eq_true hn
  obtain ⟨g1, g2, g3, g4⟩ := sl_step C (k := len) (by rw [hs]; rfl) hn1
  have hw2 := C.2.1.1 _ hw
  subst hta
  have hb : len * componentBytes (newarray.typeOf a) ≤ 536870912 := by
    have : componentBytes (newarray.typeOf a) ≤ 8 := by cases a <;> decide
    have := Nat.mul_le_mul hlen this
    omega
  refine va_newaK C.1.1 C.1.2.1 hw2 rfl (cx_d C hd) (N := len) rfl (fun q => ?_) (i3_clamp (by omega) (by omega)) hb g3 g4 hz fun H1 cA2 e1 z1 o1 hAr hNm => ?_
  · rw [i3_zero, i3_lt ⟨by omega, by omega⟩ ⟨by omega, by omega⟩] at q
    omega
  · have hRA := (C.2.2.1.2 t0 _ (htl cA)).2
    have hcA : cA2 = cA (newarray.typeOf a) := by
      have e2 : s.vm.findClass ("[" ++ (newarray.typeOf a).toString) = some (cA (newarray.typeOf a)) := by
        rcases ht with q | q | q | q <;> rw [q] at hRA ⊢ <;> exact hRA
      exact Option.some.inj (hNm.symm.trans e2)
    subst hcA
    have hP1 : va_P (dC, dI) jcl (wsn cA b0 (n + 1) rf (zr h n)) H1 := by
      rw [wsn_app, wsn_keep (rf := rf) (h := h) (fun i hi => zr_lo hi) (fun _ _ => rfl)]
      refine va_P.app (hP.kept fun k x hx => o1 x.1 (by rw [← hz]; exact (hP k x hx).lt)) (va_P_1 ?_)
      rw [cel_arr hs]
      show H1[b0 + n]? = some (vp_cell _ _)
      rw [zr_cell ht _ _ _ (Nat.le_refl n)]
      exact e1
    have hS1 : va_S (fun q => b0 ≤ q) s.heap H1 locs := ⟨Nat.le_trans hS.1 (by omega), fun x h1 h2 => (o1 x (by rw [← hz]; exact Nat.lt_of_lt_of_le h1 hS.1)).trans (hS.2.1 x h1 h2), hS.2.2⟩
    have w := kk p l e R s m args below meth co H1 locs nE QQ dC dI cA b0 bs la (cx_mv C (Nat.le_succ n) hn1) hP1 (by omega) hS1 hl hq
    rw [← g1, ← g2] at w
    have hc2 : cv b0 bs (vR n) = .ref (b0 + n) := by
      have h2 := C.2.2.2.2.1
      have h3 : ¬ n = cScr := by show ¬ n = 9999; omega
      simp [cv, h3]
    rw [List.map_cons, hc2] at w
    exact w
theorem w_new {idx ci N : Nat} {fs : List (Option Nat)} {C0 : String} {T : u_T} {ty : Nat → FieldType} (hd : mD M pc = some (.new idx, 3)) (hcl : Cond.classLink (mY M).cls idx C0 ∈ lw_good) (hins : Cond.instantiable C0 N ∈ lw_good) (hini : Cond.initialized C0 ∈ lw_good) (hq1 : jcl[ci]? = some (C0, T, N)) (hs : shp n = .inr (ci, fs)) (hfl : fs.length = N) (hty : ∀ k, k < N → parseFieldDescriptor (T k).2.2.1 = some (ty k)) (hdef : ∀ j, j < N → defaultValue (ty j) = (match fs[j]? with | some (some _) => .null | _ => .int 0)) (hn : Nat.blt n nM = true) (kk : wp d nM M (pc + 3) ls (vR n :: st) (n + 1) (rfC rf n) (zr h n) Q) : wp d nM M pc ls st n rf h Q := by
  intro p l e R s m args below meth co H locs nE QQ dC dI cA b0 bs la C hP hz hS hl hq
  have hn1 : n + 1 ≤ nM := Nat.le_of_ble_eq_true hn
  obtain ⟨g1, g2, g3, g4⟩ := sl_step C (k := N) (by rw [hs]; exact hfl) hn1
  have hts := C.2.1.1
  have hKn := C.2.2.1.1 ci _ hq1
  obtain ⟨hin, -, -⟩ := jcl_ok ci _ hq1
  refine W.newcK C.1.1 C.1.2.1 C.1.2.2.2 (hts _ hcl) (hts _ hins) (hts _ hini) rfl (cx_d C hd) g3 g4 hKn.2.1 hz fun H1 kC hkC e1 z1 o1 => ?_
  have hP1 : va_P (dC, dI) jcl (wsn cA b0 (n + 1) (rfC rf n) (zr h n)) H1 := by
    rw [wsn_app, wsn_keep (rf := rf) (h := h) (fun i hi => zr_lo hi) (fun i hi => rfC_lo hi)]
    refine va_P.app (hP.kept fun k x hx => o1 x.1 (by rw [← hz]; exact (hP k x hx).lt)) (va_P_1 ?_)
    rw [cel_obj hs]
    refine ⟨_, hq1, (u_born ty hts hin hKn hkC e1 hty).to fun j hj => ?_⟩
    rw [hdef j hj]
    have hj2 : j < fs.length := by rw [hfl]; exact hj
    simp only [vp_V, fldV, List.getD_eq_getElem?_getD, List.getElem?_map, List.getElem?_range hj2, Option.map_some, Option.getD_some]
    match hfj : fs[j]? with
    | some (some c9) => simp [rfC]
    | some none => simp only [zr_hi (Nat.le_refl n)]; rfl
    | none => simp only [zr_hi (Nat.le_refl n)]; rfl
  have hS1 : va_S (fun q => b0 ≤ q) s.heap H1 locs := ⟨Nat.le_trans hS.1 (by omega), fun x h1 h2 => (o1 x (by rw [← hz]; exact Nat.lt_of_lt_of_le h1 hS.1)).trans (hS.2.1 x h1 h2), hS.2.2⟩
  have w := kk p l e R s m args below meth co H1 locs nE QQ dC dI cA b0 bs la (cx_mv C (Nat.le_succ n) hn1) hP1 (by omega) hS1 hl hq
  rw [← g1, ← g2] at w
  have hc2 : cv b0 bs (vR n) = .ref (b0 + n) := by
    have h2 := C.2.2.2.2.1
    have h3 : ¬ n = cScr := by show ¬ n = 9999; omega
    simp [cv, h3]
  rw [List.map_cons, hc2] at w
  exact w
theorem w_objInit {idx c : Nat} (hd : mD M pc = some (.invokespecial idx, 3)) (hk : Cond.methodLink (mY M).cls idx objectInit ∈ lw_good ∧ Cond.instanceMethod objectInit ∈ lw_good ∧ Cond.code objectInit ⟨#[0xb1]⟩ 1 none ∈ lw_good) (hr : Nat.ble (wid st) 8 = true) (hc : Nat.blt c n = true) (kk : wp d nM M (pc + 3) ls st n rf h Q) : wp d nM M pc ls (vR c :: st) n rf h Q := by
  intro p l e R s m args below meth co H locs nE QQ dC dI cA b0 bs la C hP hz hS hl hq
  have w := kk p l e R s m args below meth co H locs nE QQ dC dI cA b0 bs la C hP hz hS hl hq
  have hf := C.2.2.2.1
  have h8 : ((st.map (cv b0 bs)).map fun v => v.category).sum ≤ 8 := by rw [cat_sum]; exact Nat.le_of_ble_eq_true hr
  rw [List.map_cons, (cx_n C hc).2]
  exact W.objInit C.1.1 C.1.2.1 C.1.2.2.2 (C.2.1.1 _ hk.1) (C.2.1.1 _ hk.2.1) (C.2.1.1 _ hk.2.2) rfl (hl.1.trans C.1.2.2.1.symm) rfl (cx_d C hd) (by omega) (by show 2 * 0 + _ + 12 ≤ _; omega) w
end R8
