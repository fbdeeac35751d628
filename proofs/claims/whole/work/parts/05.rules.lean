section R5
variable {d nM : Nat} {M : MI} {pc : Nat} {ls : Lv} {st : List Vv} {n : Nat} {rf : RF} {h : St} {Q : Option Vv → Nat → RF → St → Prop}
theorem cx_d {p : Program} {R : Room} {s : State} {m : MethodId} {args : Array Value} {meth : Method} {c : Code} {dC : Nat → ClassId} {dI : Nat → Nat → Nat} {cA : FieldType → ClassId} {b0 bs nE n : Nat} (C : Cx d nM M p R s m args meth c dC dI cA b0 bs nE n) {pc : Nat} {i : Instr} {k : Nat} (hd : mD M pc = some (i, k)) : decode (mC M) pc = .ok (i, k) := C.2.2.2.2.2.2.1 pc i k hd
theorem w_iconst {z : Int} (hd : mD M pc = some (.iconst z, 1)) (k : wp d nM M (pc + 1) ls (vI z :: st) n rf h Q) : wp d nM M pc ls (st) n rf h Q := by
  intro p l e R s m args below meth c H locs nE QQ dC dI cA b0 bs la C hP hz hS hl hq
  have w := k p l e R s m args below meth c H locs nE QQ dC dI cA b0 bs la C hP hz hS hl hq
  exact lv_iconst C.1.1 C.1.2.1 (cx_d C hd) rfl w
theorem w_bipush {z : Int} (hz1 : -128 ≤ z) (hz2 : z < 128) (hd : mD M pc = some (.bipush z, 2)) (k : wp d nM M (pc + 2) ls (vI z :: st) n rf h Q) : wp d nM M pc ls (st) n rf h Q := by
  intro p l e R s m args below meth c H locs nE QQ dC dI cA b0 bs la C hP hz hS hl hq
  have w := k p l e R s m args below meth c H locs nE QQ dC dI cA b0 bs la C hP hz hS hl hq
  refine lv_bipush (v := Int32.ofInt z) C.1.1 C.1.2.1 (cx_d C hd) ?_ w
  rw [← Int32.toInt_inj, Int8.toInt_toInt32, Int8.toInt_ofInt_of_le (by omega) (by omega), i3_toInt ⟨by omega, by omega⟩]
theorem w_sipush {z : Int} (hz1 : -32768 ≤ z) (hz2 : z < 32768) (hd : mD M pc = some (.sipush z, 3)) (k : wp d nM M (pc + 3) ls (vI z :: st) n rf h Q) : wp d nM M pc ls (st) n rf h Q := by
  intro p l e R s m args below meth c H locs nE QQ dC dI cA b0 bs la C hP hz hS hl hq
  have w := k p l e R s m args below meth c H locs nE QQ dC dI cA b0 bs la C hP hz hS hl hq
  refine lv_sipush (v := Int32.ofInt z) C.1.1 C.1.2.1 (cx_d C hd) ?_ w
  rw [← Int32.toInt_inj, Int16.toInt_toInt32, Int16.toInt_ofInt_of_le (by omega) (by omega), i3_toInt ⟨by omega, by omega⟩]
theorem w_lconst {z : Fin 2} (hd : mD M pc = some (.lconst z, 1)) (k : wp d nM M (pc + 1) ls (vJ (z.val : Int) :: st) n rf h Q) : wp d nM M pc ls (st) n rf h Q := by
  intro p l e R s m args below meth c H locs nE QQ dC dI cA b0 bs la C hP hz hS hl hq
  have w := k p l e R s m args below meth c H locs nE QQ dC dI cA b0 bs la C hP hz hS hl hq
  refine lv_lconst (v := Int64.ofInt (z.val : Int)) C.1.1 C.1.2.1 (cx_d C hd) ?_ w
  rw [Int64.ofInt_eq_ofNat]
theorem w_iload_n {i : Fin 4} {z : Int} (hd : mD M pc = some (.iload_n i, 1)) (hk : lkp i.val ls = some (vI z)) (k : wp d nM M (pc + 1) ls (vI z :: st) n rf h Q) : wp d nM M pc ls st n rf h Q := by
  intro p l e R s m args below meth c H locs nE QQ dC dI cA b0 bs la C hP hz hS hl hq
  have w := k p l e R s m args below meth c H locs nE QQ dC dI cA b0 bs la C hP hz hS hl hq
  exact lv_iload_n C.1.1 C.1.2.1 (cx_d C hd) rfl (lkp_at hl hk) w
theorem w_iload {i : Nat} {z : Int} (hd : mD M pc = some (.iload i, 2)) (hk : lkp i ls = some (vI z)) (k : wp d nM M (pc + 2) ls (vI z :: st) n rf h Q) : wp d nM M pc ls st n rf h Q := by
  intro p l e R s m args below meth c H locs nE QQ dC dI cA b0 bs la C hP hz hS hl hq
  have w := k p l e R s m args below meth c H locs nE QQ dC dI cA b0 bs la C hP hz hS hl hq
  exact lv_iload C.1.1 C.1.2.1 (cx_d C hd) (lkp_at hl hk) w
theorem w_lload_n {i : Fin 4} {z : Int} (hd : mD M pc = some (.lload_n i, 1)) (hk : lkp i.val ls = some (vJ z)) (k : wp d nM M (pc + 1) ls (vJ z :: st) n rf h Q) : wp d nM M pc ls st n rf h Q := by
  intro p l e R s m args below meth c H locs nE QQ dC dI cA b0 bs la C hP hz hS hl hq
  have w := k p l e R s m args below meth c H locs nE QQ dC dI cA b0 bs la C hP hz hS hl hq
  exact lv_lload_n C.1.1 C.1.2.1 (cx_d C hd) rfl (lkp_at hl hk) w
theorem w_lload {i : Nat} {z : Int} (hd : mD M pc = some (.lload i, 2)) (hk : lkp i ls = some (vJ z)) (k : wp d nM M (pc + 2) ls (vJ z :: st) n rf h Q) : wp d nM M pc ls st n rf h Q := by
  intro p l e R s m args below meth c H locs nE QQ dC dI cA b0 bs la C hP hz hS hl hq
  have w := k p l e R s m args below meth c H locs nE QQ dC dI cA b0 bs la C hP hz hS hl hq
  exact lv_lload C.1.1 C.1.2.1 (cx_d C hd) (lkp_at hl hk) w
theorem w_aload_n {i : Fin 4} {z : Nat} (hd : mD M pc = some (.aload_n i, 1)) (hk : lkp i.val ls = some (vR z)) (k : wp d nM M (pc + 1) ls (vR z :: st) n rf h Q) : wp d nM M pc ls st n rf h Q := by
  intro p l e R s m args below meth c H locs nE QQ dC dI cA b0 bs la C hP hz hS hl hq
  have w := k p l e R s m args below meth c H locs nE QQ dC dI cA b0 bs la C hP hz hS hl hq
  exact lv_aload_n C.1.1 C.1.2.1 (cx_d C hd) rfl (lkp_at hl hk) w
theorem w_aload {i : Nat} {z : Nat} (hd : mD M pc = some (.aload i, 2)) (hk : lkp i ls = some (vR z)) (k : wp d nM M (pc + 2) ls (vR z :: st) n rf h Q) : wp d nM M pc ls st n rf h Q := by
  intro p l e R s m args below meth c H locs nE QQ dC dI cA b0 bs la C hP hz hS hl hq
  have w := k p l e R s m args below meth c H locs nE QQ dC dI cA b0 bs la C hP hz hS hl hq
  exact lv_aload C.1.1 C.1.2.1 (cx_d C hd) (lkp_at hl hk) w
theorem w_istore_n {i : Fin 4} {z : Int} (hd : mD M pc = some (.istore_n i, 1)) (hi : Nat.blt i.val (mL M) = true) (h1 : dst 0 ls = true) (h2 : okS i.val ls = true) (k : wp d nM M (pc + 1) (stl i.val (vI z) ls) st n rf h Q) : wp d nM M pc ls (vI z :: st) n rf h Q := by
  intro p l e R s m args below meth c H locs nE QQ dC dI cA b0 bs la C hP hz hS hl hq
  refine lv_istore_n C.1.1 C.1.2.1 (cx_d C hd) rfl hl (Nat.le_of_ble_eq_true hi) rfl (fun la2 hl2 => ?_)
  exact k p l e R s m args below meth c H locs nE QQ dC dI cA b0 bs la2 C hP hz hS (cvl_store h1 h2 hl2) hq
theorem w_istore {i : Nat} {z : Int} (hd : mD M pc = some (.istore i, 2)) (hi : Nat.blt i (mL M) = true) (h1 : dst 0 ls = true) (h2 : okS i ls = true) (k : wp d nM M (pc + 2) (stl i (vI z) ls) st n rf h Q) : wp d nM M pc ls (vI z :: st) n rf h Q := by
  intro p l e R s m args below meth c H locs nE QQ dC dI cA b0 bs la C hP hz hS hl hq
  refine lv_istore C.1.1 C.1.2.1 (cx_d C hd) hl (Nat.le_of_ble_eq_true hi) rfl (fun la2 hl2 => ?_)
  exact k p l e R s m args below meth c H locs nE QQ dC dI cA b0 bs la2 C hP hz hS (cvl_store h1 h2 hl2) hq
theorem w_astore_n {i : Fin 4} {z : Nat} (hd : mD M pc = some (.astore_n i, 1)) (hi : Nat.blt i.val (mL M) = true) (h1 : dst 0 ls = true) (h2 : okS i.val ls = true) (k : wp d nM M (pc + 1) (stl i.val (vR z) ls) st n rf h Q) : wp d nM M pc ls (vR z :: st) n rf h Q := by
  intro p l e R s m args below meth c H locs nE QQ dC dI cA b0 bs la C hP hz hS hl hq
  refine lv_astore_n C.1.1 C.1.2.1 (cx_d C hd) rfl hl (Nat.le_of_ble_eq_true hi) rfl (fun la2 hl2 => ?_)
  exact k p l e R s m args below meth c H locs nE QQ dC dI cA b0 bs la2 C hP hz hS (cvl_store h1 h2 hl2) hq
theorem w_astore {i : Nat} {z : Nat} (hd : mD M pc = some (.astore i, 2)) (hi : Nat.blt i (mL M) = true) (h1 : dst 0 ls = true) (h2 : okS i ls = true) (k : wp d nM M (pc + 2) (stl i (vR z) ls) st n rf h Q) : wp d nM M pc ls (vR z :: st) n rf h Q := by
  intro p l e R s m args below meth c H locs nE QQ dC dI cA b0 bs la C hP hz hS hl hq
  refine lv_astore C.1.1 C.1.2.1 (cx_d C hd) hl (Nat.le_of_ble_eq_true hi) rfl (fun la2 hl2 => ?_)
  exact k p l e R s m args below meth c H locs nE QQ dC dI cA b0 bs la2 C hP hz hS (cvl_store h1 h2 hl2) hq
theorem w_lstore_n {i : Fin 4} {z : Int} (hd : mD M pc = some (.lstore_n i, 1)) (hi : Nat.blt (i.val + 1) (mL M) = true) (h1 : dst 0 ls = true) (h2 : okS i.val ls = true) (h3 : lkp (i.val + 1) ls = none) (k : wp d nM M (pc + 1) (stl i.val (vJ z) ls) st n rf h Q) : wp d nM M pc ls (vJ z :: st) n rf h Q := by
  intro p l e R s m args below meth c H locs nE QQ dC dI cA b0 bs la C hP hz hS hl hq
  refine lv_lstore_n C.1.1 C.1.2.1 (cx_d C hd) rfl hl (Nat.le_of_ble_eq_true hi) rfl (fun la2 hl2 => ?_)
  exact k p l e R s m args below meth c H locs nE QQ dC dI cA b0 bs la2 C hP hz hS (cvl_storeJ h1 h2 h3 hl2) hq
theorem w_iinc {i : Nat} {z y : Int} (hd : mD M pc = some (.iinc i y, 3)) (hk : lkp i ls = some (vI z)) (hi : Nat.blt i (mL M) = true) (h1 : dst 0 ls = true) (h2 : okS i ls = true) (k : wp d nM M (pc + 3) (stl i (vI (z + y)) ls) st n rf h Q) : wp d nM M pc ls st n rf h Q := by
  intro p l e R s m args below meth c H locs nE QQ dC dI cA b0 bs la C hP hz hS hl hq
  have hm : (i, cv b0 bs (vI z)) ∈ cvL b0 bs ls := List.mem_map.mpr ⟨(i, vI z), lkp_mem hk, rfl⟩
  obtain ⟨kk, hkk⟩ := List.getElem?_of_mem hm
  refine lv_iinc (k := kk) (x := Int32.ofInt z) (v := Int32.ofInt (z + y)) C.1.1 C.1.2.1 (cx_d C hd) hl hkk (Int32.ofInt_add z y).symm (Nat.le_of_ble_eq_true hi) rfl (fun la2 hl2 => ?_)
  exact k p l e R s m args below meth c H locs nE QQ dC dI cA b0 bs la2 C hP hz hS (cvl_store (v := vI (z + y)) h1 h2 hl2) hq
theorem w_iadd {a b : Int} (hd : mD M pc = some (.iadd, 1)) (k : wp d nM M (pc + 1) ls (vI (a + b) :: st) n rf h Q) : wp d nM M pc ls (vI b :: vI a :: st) n rf h Q := by
  intro p l e R s m args below meth c H locs nE QQ dC dI cA b0 bs la C hP hz hS hl hq
  have w := k p l e R s m args below meth c H locs nE QQ dC dI cA b0 bs la C hP hz hS hl hq
  refine lv_iadd (x := Int32.ofInt a) (y := Int32.ofInt b) C.1.1 C.1.2.1 (cx_d C hd) ?_
  rw [← Int32.ofInt_add]
  exact w
theorem w_isub {a b : Int} (hd : mD M pc = some (.isub, 1)) (k : wp d nM M (pc + 1) ls (vI (a - b) :: st) n rf h Q) : wp d nM M pc ls (vI b :: vI a :: st) n rf h Q := by
  intro p l e R s m args below meth c H locs nE QQ dC dI cA b0 bs la C hP hz hS hl hq
  have w := k p l e R s m args below meth c H locs nE QQ dC dI cA b0 bs la C hP hz hS hl hq
  refine lv_isub (x := Int32.ofInt a) (y := Int32.ofInt b) C.1.1 C.1.2.1 (cx_d C hd) ?_
  rw [← Int32.ofInt_sub]
  exact w
theorem w_imul {a b : Int} (hd : mD M pc = some (.imul, 1)) (k : wp d nM M (pc + 1) ls (vI (a * b) :: st) n rf h Q) : wp d nM M pc ls (vI b :: vI a :: st) n rf h Q := by
  intro p l e R s m args below meth c H locs nE QQ dC dI cA b0 bs la C hP hz hS hl hq
  have w := k p l e R s m args below meth c H locs nE QQ dC dI cA b0 bs la C hP hz hS hl hq
  refine lv_imul (x := Int32.ofInt a) (y := Int32.ofInt b) C.1.1 C.1.2.1 (cx_d C hd) ?_
  rw [← Int32.ofInt_mul]
  exact w
theorem w_ineg {a : Int} (hd : mD M pc = some (.ineg, 1)) (k : wp d nM M (pc + 1) ls (vI (-a) :: st) n rf h Q) : wp d nM M pc ls (vI a :: st) n rf h Q := by
  intro p l e R s m args below meth c H locs nE QQ dC dI cA b0 bs la C hP hz hS hl hq
  have w := k p l e R s m args below meth c H locs nE QQ dC dI cA b0 bs la C hP hz hS hl hq
  refine lv_ineg (x := Int32.ofInt a) C.1.1 C.1.2.1 (cx_d C hd) ?_
  rw [← Int32.ofInt_neg]
  exact w
theorem w_ladd {a b : Int} (hd : mD M pc = some (.ladd, 1)) (k : wp d nM M (pc + 1) ls (vJ (a + b) :: st) n rf h Q) : wp d nM M pc ls (vJ b :: vJ a :: st) n rf h Q := by
  intro p l e R s m args below meth c H locs nE QQ dC dI cA b0 bs la C hP hz hS hl hq
  have w := k p l e R s m args below meth c H locs nE QQ dC dI cA b0 bs la C hP hz hS hl hq
  refine lv_ladd (x := Int64.ofInt a) (y := Int64.ofInt b) C.1.1 C.1.2.1 (cx_d C hd) ?_
  rw [← Int64.ofInt_add]
  exact w
theorem w_lsub {a b : Int} (hd : mD M pc = some (.lsub, 1)) (k : wp d nM M (pc + 1) ls (vJ (a - b) :: st) n rf h Q) : wp d nM M pc ls (vJ b :: vJ a :: st) n rf h Q := by
  intro p l e R s m args below meth c H locs nE QQ dC dI cA b0 bs la C hP hz hS hl hq
  have w := k p l e R s m args below meth c H locs nE QQ dC dI cA b0 bs la C hP hz hS hl hq
  refine lv_lsub (x := Int64.ofInt a) (y := Int64.ofInt b) C.1.1 C.1.2.1 (cx_d C hd) ?_
  rw [← Int64.ofInt_sub]
  exact w
def and3 (a b : Int) : Int := (Int32.ofInt a &&& Int32.ofInt b).toInt
def or3 (a b : Int) : Int := (Int32.ofInt a ||| Int32.ofInt b).toInt
def xor3 (a b : Int) : Int := (Int32.ofInt a ^^^ Int32.ofInt b).toInt
def shl3 (a b : Int) : Int := (Int32.ofInt a <<< (Int32.ofInt b &&& 31)).toInt
def shr3 (a b : Int) : Int := (Int32.ofInt a >>> (Int32.ofInt b &&& 31)).toInt
def ushr3 (a b : Int) : Int := ((Int32.ofInt a).toUInt32 >>> ((Int32.ofInt b).toUInt32 &&& Int32.toUInt32 31)).toInt32.toInt
def and6 (a b : Int) : Int := (Int64.ofInt a &&& Int64.ofInt b).toInt
def or6 (a b : Int) : Int := (Int64.ofInt a ||| Int64.ofInt b).toInt
def shl6 (a b : Int) : Int := (Int64.ofInt a <<< ((Int32.ofInt b).toInt64 &&& 63)).toInt
def shr6 (a b : Int) : Int := (Int64.ofInt a >>> ((Int32.ofInt b).toInt64 &&& 63)).toInt
def ushr6 (a b : Int) : Int := ((Int64.ofInt a).toUInt64 >>> ((Int32.ofInt b).toInt64.toUInt64 &&& Int64.toUInt64 63)).toInt64.toInt
theorem w_iand {a b : Int} (hd : mD M pc = some (.iand, 1)) (k : wp d nM M (pc + 1) ls (vI (and3 a b) :: st) n rf h Q) : wp d nM M pc ls (vI b :: vI a :: st) n rf h Q := by
  intro p l e R s m args below meth c H locs nE QQ dC dI cA b0 bs la C hP hz hS hl hq
  have w := k p l e R s m args below meth c H locs nE QQ dC dI cA b0 bs la C hP hz hS hl hq
  refine lv_iand (x := Int32.ofInt a) (y := Int32.ofInt b) C.1.1 C.1.2.1 (cx_d C hd) ?_
  have e1 : Int32.ofInt (and3 a b) = _ := Int32.ofInt_toInt _
  rw [← e1]
  exact w
theorem w_ior {a b : Int} (hd : mD M pc = some (.ior, 1)) (k : wp d nM M (pc + 1) ls (vI (or3 a b) :: st) n rf h Q) : wp d nM M pc ls (vI b :: vI a :: st) n rf h Q := by
  intro p l e R s m args below meth c H locs nE QQ dC dI cA b0 bs la C hP hz hS hl hq
  have w := k p l e R s m args below meth c H locs nE QQ dC dI cA b0 bs la C hP hz hS hl hq
  refine lv_ior (x := Int32.ofInt a) (y := Int32.ofInt b) C.1.1 C.1.2.1 (cx_d C hd) ?_
  have e1 : Int32.ofInt (or3 a b) = _ := Int32.ofInt_toInt _
  rw [← e1]
  exact w
theorem w_ixor {a b : Int} (hd : mD M pc = some (.ixor, 1)) (k : wp d nM M (pc + 1) ls (vI (xor3 a b) :: st) n rf h Q) : wp d nM M pc ls (vI b :: vI a :: st) n rf h Q := by
  intro p l e R s m args below meth c H locs nE QQ dC dI cA b0 bs la C hP hz hS hl hq
  have w := k p l e R s m args below meth c H locs nE QQ dC dI cA b0 bs la C hP hz hS hl hq
  refine lv_ixor (x := Int32.ofInt a) (y := Int32.ofInt b) C.1.1 C.1.2.1 (cx_d C hd) ?_
  have e1 : Int32.ofInt (xor3 a b) = _ := Int32.ofInt_toInt _
  rw [← e1]
  exact w
theorem w_ishl {a b : Int} (hd : mD M pc = some (.ishl, 1)) (k : wp d nM M (pc + 1) ls (vI (shl3 a b) :: st) n rf h Q) : wp d nM M pc ls (vI b :: vI a :: st) n rf h Q := by
  intro p l e R s m args below meth c H locs nE QQ dC dI cA b0 bs la C hP hz hS hl hq
  have w := k p l e R s m args below meth c H locs nE QQ dC dI cA b0 bs la C hP hz hS hl hq
  refine lv_ishl (x := Int32.ofInt a) (y := Int32.ofInt b) C.1.1 C.1.2.1 (cx_d C hd) ?_
  have e1 : Int32.ofInt (shl3 a b) = _ := Int32.ofInt_toInt _
  rw [← e1]
  exact w
theorem w_ishr {a b : Int} (hd : mD M pc = some (.ishr, 1)) (k : wp d nM M (pc + 1) ls (vI (shr3 a b) :: st) n rf h Q) : wp d nM M pc ls (vI b :: vI a :: st) n rf h Q := by
  intro p l e R s m args below meth c H locs nE QQ dC dI cA b0 bs la C hP hz hS hl hq
  have w := k p l e R s m args below meth c H locs nE QQ dC dI cA b0 bs la C hP hz hS hl hq
  refine lv_ishr (x := Int32.ofInt a) (y := Int32.ofInt b) C.1.1 C.1.2.1 (cx_d C hd) ?_
  have e1 : Int32.ofInt (shr3 a b) = _ := Int32.ofInt_toInt _
  rw [← e1]
  exact w
theorem w_iushr {a b : Int} (hd : mD M pc = some (.iushr, 1)) (k : wp d nM M (pc + 1) ls (vI (ushr3 a b) :: st) n rf h Q) : wp d nM M pc ls (vI b :: vI a :: st) n rf h Q := by
  intro p l e R s m args below meth c H locs nE QQ dC dI cA b0 bs la C hP hz hS hl hq
  have w := k p l e R s m args below meth c H locs nE QQ dC dI cA b0 bs la C hP hz hS hl hq
  exact lv_iushr (x := Int32.ofInt a) (y := Int32.ofInt b) (v := Int32.ofInt (ushr3 a b)) C.1.1 C.1.2.1 (cx_d C hd) (Int32.ofInt_toInt _).symm w
theorem w_land {a b : Int} (hd : mD M pc = some (.land, 1)) (k : wp d nM M (pc + 1) ls (vJ (and6 a b) :: st) n rf h Q) : wp d nM M pc ls (vJ b :: vJ a :: st) n rf h Q := by
  intro p l e R s m args below meth c H locs nE QQ dC dI cA b0 bs la C hP hz hS hl hq
  have w := k p l e R s m args below meth c H locs nE QQ dC dI cA b0 bs la C hP hz hS hl hq
  refine lv_land (x := Int64.ofInt a) (y := Int64.ofInt b) C.1.1 C.1.2.1 (cx_d C hd) ?_
  have e1 : Int64.ofInt (and6 a b) = _ := Int64.ofInt_toInt _
  rw [← e1]
  exact w
theorem w_lor {a b : Int} (hd : mD M pc = some (.lor, 1)) (k : wp d nM M (pc + 1) ls (vJ (or6 a b) :: st) n rf h Q) : wp d nM M pc ls (vJ b :: vJ a :: st) n rf h Q := by
  intro p l e R s m args below meth c H locs nE QQ dC dI cA b0 bs la C hP hz hS hl hq
  have w := k p l e R s m args below meth c H locs nE QQ dC dI cA b0 bs la C hP hz hS hl hq
  refine lv_lor (x := Int64.ofInt a) (y := Int64.ofInt b) C.1.1 C.1.2.1 (cx_d C hd) ?_
  have e1 : Int64.ofInt (or6 a b) = _ := Int64.ofInt_toInt _
  rw [← e1]
  exact w
theorem w_lshl {a b : Int} (hd : mD M pc = some (.lshl, 1)) (k : wp d nM M (pc + 1) ls (vJ (shl6 a b) :: st) n rf h Q) : wp d nM M pc ls (vI b :: vJ a :: st) n rf h Q := by
  intro p l e R s m args below meth c H locs nE QQ dC dI cA b0 bs la C hP hz hS hl hq
  have w := k p l e R s m args below meth c H locs nE QQ dC dI cA b0 bs la C hP hz hS hl hq
  exact lv_lshl (x := Int64.ofInt a) (y := Int32.ofInt b) (v := Int64.ofInt (shl6 a b)) C.1.1 C.1.2.1 (cx_d C hd) (Int64.ofInt_toInt _).symm w
theorem w_lshr {a b : Int} (hd : mD M pc = some (.lshr, 1)) (k : wp d nM M (pc + 1) ls (vJ (shr6 a b) :: st) n rf h Q) : wp d nM M pc ls (vI b :: vJ a :: st) n rf h Q := by
  intro p l e R s m args below meth c H locs nE QQ dC dI cA b0 bs la C hP hz hS hl hq
  have w := k p l e R s m args below meth c H locs nE QQ dC dI cA b0 bs la C hP hz hS hl hq
  exact lv_lshr (x := Int64.ofInt a) (y := Int32.ofInt b) (v := Int64.ofInt (shr6 a b)) C.1.1 C.1.2.1 (cx_d C hd) (Int64.ofInt_toInt _).symm w
theorem w_lushr {a b : Int} (hd : mD M pc = some (.lushr, 1)) (k : wp d nM M (pc + 1) ls (vJ (ushr6 a b) :: st) n rf h Q) : wp d nM M pc ls (vI b :: vJ a :: st) n rf h Q := by
  intro p l e R s m args below meth c H locs nE QQ dC dI cA b0 bs la C hP hz hS hl hq
  have w := k p l e R s m args below meth c H locs nE QQ dC dI cA b0 bs la C hP hz hS hl hq
  exact lv_lushr (x := Int64.ofInt a) (y := Int32.ofInt b) (v := Int64.ofInt (ushr6 a b)) C.1.1 C.1.2.1 (cx_d C hd) (Int64.ofInt_toInt _).symm w
def div3 (a b : Int) : Int := a.tdiv b
def rem3 (a b : Int) : Int := a.tmod b
theorem i3_div {a b : Int} (ha : inR a) (hb : inR b) (h0 : 0 < b) : Int32.ofInt a / Int32.ofInt b = Int32.ofInt (a.tdiv b) := by
  have h1 : (a.tdiv b).natAbs ≤ a.natAbs := by rw [Int.natAbs_tdiv]; exact Nat.div_le_self _ _
  have h2 : inR (a.tdiv b) := by
    rcases Int.le_total 0 a with q | q
    · have := Int.tdiv_nonneg q (by omega : (0:Int) ≤ b); constructor <;> omega
    · have h3 : 0 ≤ (-a).tdiv b := Int.tdiv_nonneg (by omega) (by omega)
      rw [Int.neg_tdiv] at h3
      constructor <;> omega
  rw [← Int32.toInt_inj, i3_toInt h2, Int32.toInt_div, i3_toInt ha, i3_toInt hb]
  exact Int.bmod_eq_of_le (by have := h2.1; omega) (by have := h2.2; omega)
theorem i3_ne0 {b : Int} (hb : inR b) (h0 : 0 < b) : ¬ Int32.ofInt b = 0 := by rw [i3_zero, i3_eq hb ⟨by omega, by omega⟩]; omega
theorem w_idiv {a b : Int} (hc : inR a ∧ inR b ∧ 0 < b) (hd : mD M pc = some (.idiv, 1)) (k : wp d nM M (pc + 1) ls (vI (a.tdiv b) :: st) n rf h Q) : wp d nM M pc ls (vI b :: vI a :: st) n rf h Q := by
  intro p l e R s m args below meth c H locs nE QQ dC dI cA b0 bs la C hP hz hS hl hq
  have w := k p l e R s m args below meth c H locs nE QQ dC dI cA b0 bs la C hP hz hS hl hq
  refine lv_idiv (x := Int32.ofInt a) (y := Int32.ofInt b) C.1.1 C.1.2.1 (cx_d C hd) (i3_ne0 hc.2.1 hc.2.2) ?_
  rw [i3_div hc.1 hc.2.1 hc.2.2]
  exact w
theorem w_irem {a b : Int} (hc : inR a ∧ inR b ∧ 0 < b) (hd : mD M pc = some (.irem, 1)) (k : wp d nM M (pc + 1) ls (vI (a.tmod b) :: st) n rf h Q) : wp d nM M pc ls (vI b :: vI a :: st) n rf h Q := by
  intro p l e R s m args below meth c H locs nE QQ dC dI cA b0 bs la C hP hz hS hl hq
  have w := k p l e R s m args below meth c H locs nE QQ dC dI cA b0 bs la C hP hz hS hl hq
  refine lv_irem (x := Int32.ofInt a) (y := Int32.ofInt b) C.1.1 C.1.2.1 (cx_d C hd) (i3_ne0 hc.2.1 hc.2.2) ?_
  rw [i3_div hc.1 hc.2.1 hc.2.2, ← Int32.ofInt_mul, ← Int32.ofInt_sub, show a - a.tdiv b * b = a.tmod b by rw [Int.tmod_def, Int.mul_comm]]
  exact w
theorem w_i2l {a : Int} (hc : inR a) (hd : mD M pc = some (.i2l, 1)) (k : wp d nM M (pc + 1) ls (vJ a :: st) n rf h Q) : wp d nM M pc ls (vI a :: st) n rf h Q := by
  intro p l e R s m args below meth c H locs nE QQ dC dI cA b0 bs la C hP hz hS hl hq
  have w := k p l e R s m args below meth c H locs nE QQ dC dI cA b0 bs la C hP hz hS hl hq
  refine lv_i2l (x := Int32.ofInt a) (v := Int64.ofInt a) C.1.1 C.1.2.1 (cx_d C hd) ?_ w
  rw [← Int64.toInt_inj, Int32.toInt_toInt64, i3_toInt hc, i6_toInt ⟨by have := hc.1; omega, by have := hc.2; omega⟩]
theorem w_l2i {a : Int} (hd : mD M pc = some (.l2i, 1)) (k : wp d nM M (pc + 1) ls (vI a :: st) n rf h Q) : wp d nM M pc ls (vJ a :: st) n rf h Q := by
  intro p l e R s m args below meth c H locs nE QQ dC dI cA b0 bs la C hP hz hS hl hq
  have w := k p l e R s m args below meth c H locs nE QQ dC dI cA b0 bs la C hP hz hS hl hq
  exact lv_l2i (x := Int64.ofInt a) (v := Int32.ofInt a) C.1.1 C.1.2.1 (cx_d C hd) Int64.toInt32_ofInt w
def byt (a : Int) : Int := a.bmod 256
theorem w_i2b {a : Int} (hd : mD M pc = some (.i2b, 1)) (k : wp d nM M (pc + 1) ls (vI (byt a) :: st) n rf h Q) : wp d nM M pc ls (vI a :: st) n rf h Q := by
  intro p l e R s m args below meth c H locs nE QQ dC dI cA b0 bs la C hP hz hS hl hq
  have w := k p l e R s m args below meth c H locs nE QQ dC dI cA b0 bs la C hP hz hS hl hq
  refine lv_i2b (x := Int32.ofInt a) (v := Int32.ofInt (byt a)) C.1.1 C.1.2.1 (cx_d C hd) ?_ w
  rw [Int32.toInt8_ofInt, ← Int32.toInt_inj, Int8.toInt_toInt32, Int8.toInt_ofInt]
  have h3 := @Int.le_bmod a 256 (by decide)
  have h4 := @Int.bmod_lt a 256 (by decide)
  have h5 : inR (byt a) := by unfold byt; constructor <;> omega
  exact (i3_toInt h5).symm
def cmp6 (a b : Int) : Int := if b < a then 1 else if a = b then 0 else -1
theorem w_lcmp {a b : Int} (hc : inL a ∧ inL b) (hd : mD M pc = some (.lcmp, 1)) (k : wp d nM M (pc + 1) ls (vI (cmp6 a b) :: st) n rf h Q) : wp d nM M pc ls (vJ b :: vJ a :: st) n rf h Q := by
  intro p l e R s m args below meth c H locs nE QQ dC dI cA b0 bs la C hP hz hS hl hq
  have w := k p l e R s m args below meth c H locs nE QQ dC dI cA b0 bs la C hP hz hS hl hq
  refine W.lcmp (x := Int64.ofInt a) (y := Int64.ofInt b) C.1.1 C.1.2.1 (cx_d C hd) ?_
  have e1 : lg_cmp (Int64.ofInt a) (Int64.ofInt b) = Int32.ofInt (cmp6 a b) := by
    have q1 : Int64.ofInt a > Int64.ofInt b ↔ b < a := by
      show Int64.ofInt b < Int64.ofInt a ↔ _
      rw [Int64.lt_iff_toInt_lt, i6_toInt hc.1, i6_toInt hc.2]
    have q2 : Int64.ofInt a = Int64.ofInt b ↔ a = b := by rw [← Int64.toInt_inj, i6_toInt hc.1, i6_toInt hc.2]
    unfold lg_cmp cmp6
    by_cases z1 : b < a
    · rw [if_pos (q1.mpr z1), if_pos z1]; rfl
    · rw [if_neg (fun z => z1 (q1.mp z)), if_neg z1]
      by_cases z2 : a = b
      · rw [if_pos (q2.mpr z2), if_pos z2]; rfl
      · rw [if_neg (fun z => z2 (q2.mp z)), if_neg z2]; rfl
  rw [e1]
  exact w
theorem w_ldc {idx : Nat} {z : Int} {v : Int32} (hk : Cond.constant (mY M).cls idx v ∈ lw_good) (hv : v = Int32.ofInt z) (hd : mD M pc = some (.ldc idx, 2)) (k : wp d nM M (pc + 2) ls (vI z :: st) n rf h Q) : wp d nM M pc ls (st) n rf h Q := by
  intro p l e R s m args below meth c H locs nE QQ dC dI cA b0 bs la C hP hz hS hl hq
  have w := k p l e R s m args below meth c H locs nE QQ dC dI cA b0 bs la C hP hz hS hl hq
  subst hv
  exact lv_ldc C.1.1 C.1.2.1 C.1.2.2.2 (C.2.1.1 _ hk) (cx_d C hd) w
theorem w_ldcw {idx : Nat} {z : Int} {v : Int32} (hk : Cond.constant (mY M).cls idx v ∈ lw_good) (hv : v = Int32.ofInt z) (hd : mD M pc = some (.ldc_w idx, 3)) (k : wp d nM M (pc + 3) ls (vI z :: st) n rf h Q) : wp d nM M pc ls (st) n rf h Q := by
  intro p l e R s m args below meth c H locs nE QQ dC dI cA b0 bs la C hP hz hS hl hq
  have w := k p l e R s m args below meth c H locs nE QQ dC dI cA b0 bs la C hP hz hS hl hq
  subst hv
  exact lv_ldcw C.1.1 C.1.2.1 C.1.2.2.2 (C.2.1.1 _ hk) (cx_d C hd) w
theorem w_ldc2 {idx : Nat} {z : Int} {v : Int64} (hk : Cond.constantLong (mY M).cls idx v ∈ lw_good) (hv : v = Int64.ofInt z) (hd : mD M pc = some (.ldc2_w idx, 3)) (k : wp d nM M (pc + 3) ls (vJ z :: st) n rf h Q) : wp d nM M pc ls (st) n rf h Q := by
  intro p l e R s m args below meth c H locs nE QQ dC dI cA b0 bs la C hP hz hS hl hq
  have w := k p l e R s m args below meth c H locs nE QQ dC dI cA b0 bs la C hP hz hS hl hq
  subst hv
  exact lv_ldc2 C.1.1 C.1.2.1 C.1.2.2.2 (C.2.1.1 _ hk) (cx_d C hd) w
theorem cv1 {b0 bs : Nat} {v : Vv} (h : isJ v = false) : (cv b0 bs v).category = 1 := by
  rcases v with z | z | z <;> simp [cv, isJ, Value.category] at h ⊢
theorem w_dup {v : Vv} (hv : isJ v = false) (hd : mD M pc = some (.dup, 1)) (k : wp d nM M (pc + 1) ls (v :: v :: st) n rf h Q) : wp d nM M pc ls (v :: st) n rf h Q := by
  intro p l e R s m args below meth c H locs nE QQ dC dI cA b0 bs la C hP hz hS hl hq
  have w := k p l e R s m args below meth c H locs nE QQ dC dI cA b0 bs la C hP hz hS hl hq
  exact lv_dup C.1.1 C.1.2.1 (cx_d C hd) (cv1 hv) w
theorem w_dup2 {v u : Vv} (hv : isJ v = false) (hu : isJ u = false) (hd : mD M pc = some (.dup2, 1)) (k : wp d nM M (pc + 1) ls (v :: u :: v :: u :: st) n rf h Q) : wp d nM M pc ls (v :: u :: st) n rf h Q := by
  intro p l e R s m args below meth c H locs nE QQ dC dI cA b0 bs la C hP hz hS hl hq
  have w := k p l e R s m args below meth c H locs nE QQ dC dI cA b0 bs la C hP hz hS hl hq
  exact lv_dup2_11 C.1.1 C.1.2.1 (cx_d C hd) (cv1 hv) (cv1 hu) w
theorem w_pop {v : Vv} (hv : isJ v = false) (hd : mD M pc = some (.pop, 1)) (k : wp d nM M (pc + 1) ls (st) n rf h Q) : wp d nM M pc ls (v :: st) n rf h Q := by
  intro p l e R s m args below meth c H locs nE QQ dC dI cA b0 bs la C hP hz hS hl hq
  have w := k p l e R s m args below meth c H locs nE QQ dC dI cA b0 bs la C hP hz hS hl hq
  exact lv_pop C.1.1 C.1.2.1 (cx_d C hd) (cv1 hv) w
theorem w_icmp_eq {a b off : Int} {tgt : Nat} (hd : mD M pc = some (.if_icmp .eq off, 3)) (ht : (pc : Int) + off = (tgt : Int)) (hc : inR a ∧ inR b) (kt : a = b → wp d nM M tgt ls st n rf h Q) (kf : ¬ (a = b) → wp d nM M (pc + 3) ls st n rf h Q) : wp d nM M pc ls (vI b :: vI a :: st) n rf h Q := by
  intro p l e R s m args below meth c H locs nE QQ dC dI cA b0 bs la C hP hz hS hl hq
  refine lv_icmp_eq (x := Int32.ofInt a) (y := Int32.ofInt b) C.1.1 C.1.2.1 (cx_d C hd) ht (fun q => kt ?_ p l e R s m args below meth c H locs nE QQ dC dI cA b0 bs la C hP hz hS hl hq) (fun q => kf ?_ p l e R s m args below meth c H locs nE QQ dC dI cA b0 bs la C hP hz hS hl hq)
  · exact (i3_eq hc.1 hc.2).mp q
  · exact fun z => q ((i3_eq hc.1 hc.2).mpr z)
theorem w_if_eq {a off : Int} {tgt : Nat} (hd : mD M pc = some (.ifCond .eq off, 3)) (ht : (pc : Int) + off = (tgt : Int)) (hc : inR a) (kt : a = 0 → wp d nM M tgt ls st n rf h Q) (kf : ¬ (a = 0) → wp d nM M (pc + 3) ls st n rf h Q) : wp d nM M pc ls (vI a :: st) n rf h Q := by
  intro p l e R s m args below meth c H locs nE QQ dC dI cA b0 bs la C hP hz hS hl hq
  have r0 : inR 0 := ⟨by omega, by omega⟩
  refine lv_if_eq (x := Int32.ofInt a) C.1.1 C.1.2.1 (cx_d C hd) ht (fun q => kt ?_ p l e R s m args below meth c H locs nE QQ dC dI cA b0 bs la C hP hz hS hl hq) (fun q => kf ?_ p l e R s m args below meth c H locs nE QQ dC dI cA b0 bs la C hP hz hS hl hq)
  · exact (i3_eq hc r0).mp q
  · exact fun z => q ((i3_eq hc r0).mpr z)
theorem w_icmp_ne {a b off : Int} {tgt : Nat} (hd : mD M pc = some (.if_icmp .ne off, 3)) (ht : (pc : Int) + off = (tgt : Int)) (hc : inR a ∧ inR b) (kt : a ≠ b → wp d nM M tgt ls st n rf h Q) (kf : ¬ (a ≠ b) → wp d nM M (pc + 3) ls st n rf h Q) : wp d nM M pc ls (vI b :: vI a :: st) n rf h Q := by
  intro p l e R s m args below meth c H locs nE QQ dC dI cA b0 bs la C hP hz hS hl hq
  refine lv_icmp_ne (x := Int32.ofInt a) (y := Int32.ofInt b) C.1.1 C.1.2.1 (cx_d C hd) ht (fun q => kt ?_ p l e R s m args below meth c H locs nE QQ dC dI cA b0 bs la C hP hz hS hl hq) (fun q => kf ?_ p l e R s m args below meth c H locs nE QQ dC dI cA b0 bs la C hP hz hS hl hq)
  · exact fun z => q ((i3_eq hc.1 hc.2).mpr z)
  · exact fun z => z ((i3_eq hc.1 hc.2).mp q)
theorem w_if_ne {a off : Int} {tgt : Nat} (hd : mD M pc = some (.ifCond .ne off, 3)) (ht : (pc : Int) + off = (tgt : Int)) (hc : inR a) (kt : a ≠ 0 → wp d nM M tgt ls st n rf h Q) (kf : ¬ (a ≠ 0) → wp d nM M (pc + 3) ls st n rf h Q) : wp d nM M pc ls (vI a :: st) n rf h Q := by
  intro p l e R s m args below meth c H locs nE QQ dC dI cA b0 bs la C hP hz hS hl hq
  have r0 : inR 0 := ⟨by omega, by omega⟩
  refine lv_if_ne (x := Int32.ofInt a) C.1.1 C.1.2.1 (cx_d C hd) ht (fun q => kt ?_ p l e R s m args below meth c H locs nE QQ dC dI cA b0 bs la C hP hz hS hl hq) (fun q => kf ?_ p l e R s m args below meth c H locs nE QQ dC dI cA b0 bs la C hP hz hS hl hq)
  · exact fun z => q ((i3_eq hc r0).mpr z)
  · exact fun z => z ((i3_eq hc r0).mp q)
theorem w_icmp_lt {a b off : Int} {tgt : Nat} (hd : mD M pc = some (.if_icmp .lt off, 3)) (ht : (pc : Int) + off = (tgt : Int)) (hc : inR a ∧ inR b) (kt : a < b → wp d nM M tgt ls st n rf h Q) (kf : ¬ (a < b) → wp d nM M (pc + 3) ls st n rf h Q) : wp d nM M pc ls (vI b :: vI a :: st) n rf h Q := by
  intro p l e R s m args below meth c H locs nE QQ dC dI cA b0 bs la C hP hz hS hl hq
  refine lv_icmp_lt (x := Int32.ofInt a) (y := Int32.ofInt b) C.1.1 C.1.2.1 (cx_d C hd) ht (fun q => kt ?_ p l e R s m args below meth c H locs nE QQ dC dI cA b0 bs la C hP hz hS hl hq) (fun q => kf ?_ p l e R s m args below meth c H locs nE QQ dC dI cA b0 bs la C hP hz hS hl hq)
  · exact (i3_lt hc.1 hc.2).mp q
  · exact fun z => q ((i3_lt hc.1 hc.2).mpr z)
theorem w_if_lt {a off : Int} {tgt : Nat} (hd : mD M pc = some (.ifCond .lt off, 3)) (ht : (pc : Int) + off = (tgt : Int)) (hc : inR a) (kt : a < 0 → wp d nM M tgt ls st n rf h Q) (kf : ¬ (a < 0) → wp d nM M (pc + 3) ls st n rf h Q) : wp d nM M pc ls (vI a :: st) n rf h Q := by
  intro p l e R s m args below meth c H locs nE QQ dC dI cA b0 bs la C hP hz hS hl hq
  have r0 : inR 0 := ⟨by omega, by omega⟩
  refine lv_if_lt (x := Int32.ofInt a) C.1.1 C.1.2.1 (cx_d C hd) ht (fun q => kt ?_ p l e R s m args below meth c H locs nE QQ dC dI cA b0 bs la C hP hz hS hl hq) (fun q => kf ?_ p l e R s m args below meth c H locs nE QQ dC dI cA b0 bs la C hP hz hS hl hq)
  · exact (i3_lt hc r0).mp q
  · exact fun z => q ((i3_lt hc r0).mpr z)
theorem w_icmp_ge {a b off : Int} {tgt : Nat} (hd : mD M pc = some (.if_icmp .ge off, 3)) (ht : (pc : Int) + off = (tgt : Int)) (hc : inR a ∧ inR b) (kt : b ≤ a → wp d nM M tgt ls st n rf h Q) (kf : ¬ (b ≤ a) → wp d nM M (pc + 3) ls st n rf h Q) : wp d nM M pc ls (vI b :: vI a :: st) n rf h Q := by
  intro p l e R s m args below meth c H locs nE QQ dC dI cA b0 bs la C hP hz hS hl hq
  refine lv_icmp_ge (x := Int32.ofInt a) (y := Int32.ofInt b) C.1.1 C.1.2.1 (cx_d C hd) ht (fun q => kt ?_ p l e R s m args below meth c H locs nE QQ dC dI cA b0 bs la C hP hz hS hl hq) (fun q => kf ?_ p l e R s m args below meth c H locs nE QQ dC dI cA b0 bs la C hP hz hS hl hq)
  · exact (i3_le hc.2 hc.1).mp q
  · exact fun z => q ((i3_le hc.2 hc.1).mpr z)
theorem w_if_ge {a off : Int} {tgt : Nat} (hd : mD M pc = some (.ifCond .ge off, 3)) (ht : (pc : Int) + off = (tgt : Int)) (hc : inR a) (kt : 0 ≤ a → wp d nM M tgt ls st n rf h Q) (kf : ¬ (0 ≤ a) → wp d nM M (pc + 3) ls st n rf h Q) : wp d nM M pc ls (vI a :: st) n rf h Q := by
  intro p l e R s m args below meth c H locs nE QQ dC dI cA b0 bs la C hP hz hS hl hq
  have r0 : inR 0 := ⟨by omega, by omega⟩
  refine lv_if_ge (x := Int32.ofInt a) C.1.1 C.1.2.1 (cx_d C hd) ht (fun q => kt ?_ p l e R s m args below meth c H locs nE QQ dC dI cA b0 bs la C hP hz hS hl hq) (fun q => kf ?_ p l e R s m args below meth c H locs nE QQ dC dI cA b0 bs la C hP hz hS hl hq)
  · exact (i3_le r0 hc).mp q
  · exact fun z => q ((i3_le r0 hc).mpr z)
theorem w_icmp_gt {a b off : Int} {tgt : Nat} (hd : mD M pc = some (.if_icmp .gt off, 3)) (ht : (pc : Int) + off = (tgt : Int)) (hc : inR a ∧ inR b) (kt : b < a → wp d nM M tgt ls st n rf h Q) (kf : ¬ (b < a) → wp d nM M (pc + 3) ls st n rf h Q) : wp d nM M pc ls (vI b :: vI a :: st) n rf h Q := by
  intro p l e R s m args below meth c H locs nE QQ dC dI cA b0 bs la C hP hz hS hl hq
  refine lv_icmp_gt (x := Int32.ofInt a) (y := Int32.ofInt b) C.1.1 C.1.2.1 (cx_d C hd) ht (fun q => kt ?_ p l e R s m args below meth c H locs nE QQ dC dI cA b0 bs la C hP hz hS hl hq) (fun q => kf ?_ p l e R s m args below meth c H locs nE QQ dC dI cA b0 bs la C hP hz hS hl hq)
  · exact (i3_lt hc.2 hc.1).mp q
  · exact fun z => q ((i3_lt hc.2 hc.1).mpr z)
theorem w_if_gt {a off : Int} {tgt : Nat} (hd : mD M pc = some (.ifCond .gt off, 3)) (ht : (pc : Int) + off = (tgt : Int)) (hc : inR a) (kt : 0 < a → wp d nM M tgt ls st n rf h Q) (kf : ¬ (0 < a) → wp d nM M (pc + 3) ls st n rf h Q) : wp d nM M pc ls (vI a :: st) n rf h Q := by
  intro p l e R s m args below meth c H locs nE QQ dC dI cA b0 bs la C hP hz hS hl hq
  have r0 : inR 0 := ⟨by omega, by omega⟩
  refine lv_if_gt (x := Int32.ofInt a) C.1.1 C.1.2.1 (cx_d C hd) ht (fun q => kt ?_ p l e R s m args below meth c H locs nE QQ dC dI cA b0 bs la C hP hz hS hl hq) (fun q => kf ?_ p l e R s m args below meth c H locs nE QQ dC dI cA b0 bs la C hP hz hS hl hq)
  · exact (i3_lt r0 hc).mp q
  · exact fun z => q ((i3_lt r0 hc).mpr z)
theorem w_icmp_le {a b off : Int} {tgt : Nat} (hd : mD M pc = some (.if_icmp .le off, 3)) (ht : (pc : Int) + off = (tgt : Int)) (hc : inR a ∧ inR b) (kt : a ≤ b → wp d nM M tgt ls st n rf h Q) (kf : ¬ (a ≤ b) → wp d nM M (pc + 3) ls st n rf h Q) : wp d nM M pc ls (vI b :: vI a :: st) n rf h Q := by
  intro p l e R s m args below meth c H locs nE QQ dC dI cA b0 bs la C hP hz hS hl hq
  refine lv_icmp_le (x := Int32.ofInt a) (y := Int32.ofInt b) C.1.1 C.1.2.1 (cx_d C hd) ht (fun q => kt ?_ p l e R s m args below meth c H locs nE QQ dC dI cA b0 bs la C hP hz hS hl hq) (fun q => kf ?_ p l e R s m args below meth c H locs nE QQ dC dI cA b0 bs la C hP hz hS hl hq)
  · exact (i3_le hc.1 hc.2).mp q
  · exact fun z => q ((i3_le hc.1 hc.2).mpr z)
theorem w_if_le {a off : Int} {tgt : Nat} (hd : mD M pc = some (.ifCond .le off, 3)) (ht : (pc : Int) + off = (tgt : Int)) (hc : inR a) (kt : a ≤ 0 → wp d nM M tgt ls st n rf h Q) (kf : ¬ (a ≤ 0) → wp d nM M (pc + 3) ls st n rf h Q) : wp d nM M pc ls (vI a :: st) n rf h Q := by
  intro p l e R s m args below meth c H locs nE QQ dC dI cA b0 bs la C hP hz hS hl hq
  have r0 : inR 0 := ⟨by omega, by omega⟩
  refine lv_if_le (x := Int32.ofInt a) C.1.1 C.1.2.1 (cx_d C hd) ht (fun q => kt ?_ p l e R s m args below meth c H locs nE QQ dC dI cA b0 bs la C hP hz hS hl hq) (fun q => kf ?_ p l e R s m args below meth c H locs nE QQ dC dI cA b0 bs la C hP hz hS hl hq)
  · exact (i3_le hc r0).mp q
  · exact fun z => q ((i3_le hc r0).mpr z)
theorem w_goto {off : Int} {tgt : Nat} (hd : mD M pc = some (.goto off, 3)) (ht : (pc : Int) + off = (tgt : Int)) (k : wp d nM M tgt ls st n rf h Q) : wp d nM M pc ls st n rf h Q := by
  intro p l e R s m args below meth c H locs nE QQ dC dI cA b0 bs la C hP hz hS hl hq
  exact lv_goto C.1.1 C.1.2.1 (cx_d C hd) ht (k p l e R s m args below meth c H locs nE QQ dC dI cA b0 bs la C hP hz hS hl hq)
theorem w_tabOut {a dflt lo hi : Int} {offs : Array Int} {len tgt : Nat} (hd : mD M pc = some (.tableswitch dflt lo hi offs, len)) (ht : (pc : Int) + dflt = (tgt : Int)) (hc : inR a) (ho : a < lo ∨ hi < a) (k : wp d nM M tgt ls st n rf h Q) : wp d nM M pc ls (vI a :: st) n rf h Q := by
  intro p l e R s m args below meth c H locs nE QQ dC dI cA b0 bs la C hP hz hS hl hq
  exact lv_tableOut (x := Int32.ofInt a) C.1.1 C.1.2.1 (cx_d C hd) (by rw [i3_toInt hc]; exact ho) ht (k p l e R s m args below meth c H locs nE QQ dC dI cA b0 bs la C hP hz hS hl hq)
theorem w_tabIn {a dflt lo hi off : Int} {offs : Array Int} {len tgt : Nat} (hd : mD M pc = some (.tableswitch dflt lo hi offs, len)) (hc : inR a) (h1 : lo ≤ a) (h2 : a ≤ hi) (ho : offs[(a - lo).toNat]? = some off) (ht : (pc : Int) + off = (tgt : Int)) (k : wp d nM M tgt ls st n rf h Q) : wp d nM M pc ls (vI a :: st) n rf h Q := by
  intro p l e R s m args below meth c H locs nE QQ dC dI cA b0 bs la C hP hz hS hl hq
  exact lv_tableIn (x := Int32.ofInt a) C.1.1 C.1.2.1 (cx_d C hd) (by rw [i3_toInt hc]; omega) (by rw [i3_toInt hc]; omega) (by rw [i3_toInt hc]; exact ho) ht (k p l e R s m args below meth c H locs nE QQ dC dI cA b0 bs la C hP hz hS hl hq)
theorem w_sub {ls2 : Lv} (hs : ∀ q ∈ ls2, q ∈ ls) (k : wp d nM M pc ls2 st n rf h Q) : wp d nM M pc ls st n rf h Q := by
  intro p l e R s m args below meth c H locs nE QQ dC dI cA b0 bs la C hP hz hS hl hq
  exact k p l e R s m args below meth c H locs nE QQ dC dI cA b0 bs la C hP hz hS ⟨hl.1, hl.2.1, fun q hq2 => by
    obtain ⟨q0, h1, rfl⟩ := List.mem_map.mp hq2
    exact hl.2.2 _ (List.mem_map.mpr ⟨q0, hs q0 h1, rfl⟩)⟩ hq
def kp (ks : List Nat) (ls : Lv) : Lv := ls.filter (fun q => ks.any (fun i => Nat.beq i q.1))
theorem w_kp (ks : List Nat) (k : wp d nM M pc (kp ks ls) st n rf h Q) : wp d nM M pc ls st n rf h Q := w_sub (fun _ hq => (List.mem_filter.mp hq).1) k
theorem w_iret {z : Int} (hd : mD M pc = some (.ireturn, 1)) (hr : mR M = some .int) (k : Q (some (vI z)) n rf h) : wp d nM M pc ls [vI z] n rf h Q := by
  intro p l e R s m args below meth c H locs nE QQ dC dI cA b0 bs la C hP hz hS hl hq
  exact hq pc (some (vI z)) n rf h H locs la k (Or.inl ⟨hd, z, rfl, Or.inl hr⟩) C.2.2.2.2.1.2.2.1 hP hz hS
theorem w_zret {z : Int} (hd : mD M pc = some (.ireturn, 1)) (hr : mR M = some .boolean) (h01 : z = 0 ∨ z = 1) (k : Q (some (vI z)) n rf h) : wp d nM M pc ls [vI z] n rf h Q := by
  intro p l e R s m args below meth c H locs nE QQ dC dI cA b0 bs la C hP hz hS hl hq
  exact hq pc (some (vI z)) n rf h H locs la k (Or.inl ⟨hd, z, rfl, Or.inr ⟨hr, h01⟩⟩) C.2.2.2.2.1.2.2.1 hP hz hS
theorem w_vret (hd : mD M pc = some (.return_, 1)) (hr : mR M = none) (k : Q none n rf h) : wp d nM M pc ls [] n rf h Q := by
  intro p l e R s m args below meth c H locs nE QQ dC dI cA b0 bs la C hP hz hS hl hq
  exact hq pc none n rf h H locs la k (Or.inr ⟨hd, rfl, hr⟩) C.2.2.2.2.1.2.2.1 hP hz hS
theorem w_mono {Q2 : Option Vv → Nat → RF → St → Prop} (hm : ∀ r n2 rf2 h2, Q r n2 rf2 h2 → Q2 r n2 rf2 h2) (k : wp d nM M pc ls st n rf h Q) : wp d nM M pc ls st n rf h Q2 := by
  intro p l e R s m args below meth c H locs nE QQ dC dI cA b0 bs la C hP hz hS hl hq
  exact k p l e R s m args below meth c H locs nE QQ dC dI cA b0 bs la C hP hz hS hl (fun pcR r n2 rf2 h2 H2 locs2 la2 hQ => hq pcR r n2 rf2 h2 H2 locs2 la2 (hm r n2 rf2 h2 hQ))
end R5
