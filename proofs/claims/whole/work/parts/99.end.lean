/-! THE CLAIM OUT OF ONE WALK OF THE LAW'S BODY. Your part is whole_start (and what it stands on); all else here is the same for every law, but numbers. -/
def R_law : String := "CallSignsLaw"
def lw_P (b : Addr) (xs : List Int32) (args : Array Value) (s : State) : Prop := args = #[.ref b] ∧ s.IntsAt b xs ∧ xs.length ≤ 3584 ∧ (Jvm.Cond.and given_1 narrow_1).before args s = true
def lw_Q (_ : Array Value) (s : State) (o : Outcome) (t : State) : Prop := o = .returned (some (.int 1)) ∧ Framed s o t [] 600000 7302250
def lw_Z (below : List Frame) (a : Array Value) (s : State) : State → Prop := fun t => ∃ o, t.status = .running ∧ Ended t below o ∧ lw_Q a s o t
/-- the law's own end, with 1 on the stack, nothing written that was there before, its room as the claim has it -/
theorem lw_ret {p : Program} {l : Launch} {e : Env} {s : State} {m : MethodId} {below : List Frame} {meth : Method} {c : Code} {b : Nat} (hx : p.tables.exec = Jvm.exec) (hb : c.code = code) (hr : meth.sig.returnType = ret) (hlocks : meth.locks = false) {pc : Nat} {H : Heap} {ls : Array Slot} (hdg : decode code pc = .ok (.ireturn, 1)) : W p l e room_1 s m #[Value.ref b] below meth c H [] 600000 7302250 (lw_Z below #[Value.ref b] s) (F0 m pc ls [.int 1]) := by
  intro T hT X
  obtain ⟨fs, hret, hrun, hended, hW, hframe⟩ := X.leave (v := some (.int 1)) (hlocks := hlocks) (fun h => by rw [hr] at h; cases h)
  have hmeth' : T.vm.method? m = some meth := X.method'
  refine ⟨T.setFrames fs, ?_, .returned (some (.int 1)), hrun, hended, rfl, ⟨_, rfl⟩, hW, hframe⟩
  jvm_step X.here [X.here.top, hx, hb, hdg, hmeth', hr, ret, narrow_b1]
  (try refine ⟨rfl, ?_⟩); (try refine ⟨rfl, ?_⟩)
  first | (intro acts; rw [hret _ acts rfl rfl rfl]) | rw [hret _ _ rfl rfl rfl]
  exact Steps.refl _
/-- what holds at the law's entry: the machine, the code, the tables' words (any of lw_tbl by 'hts w (by decide +kernel)'), the script of L ints xs at the cell b, what the Statement gives of the start (any of its parts by flat_of_before) -/
def lw_At (p : Program) (s : State) (m : MethodId) (meth : Method) (c : Code) (b L : Nat) (xs : Nat → Int32) : Prop :=
  p.tables.exec = Jvm.exec ∧ c.code = code ∧ meth.sig.returnType = ret ∧ c.maxLocals = 4 ∧ s.vm.findClass R_law = some m.cls ∧ (∀ w ∈ lw_tbl, w.before #[Value.ref b] s = true) ∧ va_X b L xs s s.heap ∧ b < s.heap.size ∧ meth.locks = false ∧ (Jvm.Cond.and given_1 narrow_1).before #[Value.ref b] s = true ∧ meth.name = "law"

theorem kn_all {s : State} {args : Array Value} (hts : ∀ w ∈ lw_good, w.before args s = true) : ∃ (dC : Nat → ClassId) (dI : Nat → Nat → Nat), ∀ (k : Nat) (q : vw_C), jcl[k]? = some q → u_Kn s q.1 q.2.1 q.2.2 (dC k) (dI k) := by
  have htsx := hts
  obtain ⟨c0, i0, n0⟩ := u_known (C := RX0) (T := TX0) (N := 13) (n := 13) htsx inX0 (hts _ ki_Book.1)
  obtain ⟨c1, i1, n1⟩ := u_known (C := RX1) (T := TX1) (N := 7) (n := 7) htsx inX1 (hts _ ki_CallLog.1)
  obtain ⟨c2, i2, n2⟩ := u_known (C := RX2) (T := TX2) (N := 3) (n := 3) htsx inX2 (hts _ ki_Hands.1)
  obtain ⟨c3, i3, n3⟩ := u_known (C := RX3) (T := TX3) (N := 2) (n := 2) htsx inX3 (hts _ ki_Links.1)
  obtain ⟨c4, i4, n4⟩ := u_known (C := RX4) (T := TX4) (N := 2) (n := 2) htsx inX4 (hts _ ki_Orders.1)
  obtain ⟨c5, i5, n5⟩ := u_known (C := RX5) (T := TX5) (N := 8) (n := 8) htsx inX5 (hts _ ki_Pairing.1)
  obtain ⟨c6, i6, n6⟩ := u_known (C := RX6) (T := TX6) (N := 11) (n := 11) htsx inX6 (hts _ ki_Places.1)
  obtain ⟨c7, i7, n7⟩ := u_known (C := RX7) (T := TX7) (N := 5) (n := 5) htsx inX7 (hts _ ki_Senders.1)
  obtain ⟨c8, i8, n8⟩ := u_known (C := RX8) (T := TX8) (N := 8) (n := 8) htsx inX8 (hts _ ki_Silence.1)
  obtain ⟨c9, i9, n9⟩ := u_known (C := RX9) (T := TX9) (N := 1) (n := 1) htsx inX9 (hts _ ki_Trail.1)
  obtain ⟨c10, i10, n10⟩ := u_known (C := RX10) (T := TX10) (N := 8) (n := 8) htsx inX10 (hts _ ki_Tree.1)
  obtain ⟨c11, i11, n11⟩ := u_known (C := RX11) (T := TX11) (N := 15) (n := 15) htsx inX11 (hts _ ki_C.1)
  obtain ⟨c12, i12, n12⟩ := u_known (C := RX12) (T := TX12) (N := 46) (n := 46) htsx inX12 (hts _ ki_M.1)
  refine ⟨fun k => [c0, c1, c2, c3, c4, c5, c6, c7, c8, c9, c10, c11, c12].getD k c0, fun k => [i0, i1, i2, i3, i4, i5, i6, i7, i8, i9, i10, i11, i12].getD k i0, ?_⟩
  intro k q hq
  match k, hq with
  | 0, hq => cases hq; exact n0
  | 1, hq => cases hq; exact n1
  | 2, hq => cases hq; exact n2
  | 3, hq => cases hq; exact n3
  | 4, hq => cases hq; exact n4
  | 5, hq => cases hq; exact n5
  | 6, hq => cases hq; exact n6
  | 7, hq => cases hq; exact n7
  | 8, hq => cases hq; exact n8
  | 9, hq => cases hq; exact n9
  | 10, hq => cases hq; exact n10
  | 11, hq => cases hq; exact n11
  | 12, hq => cases hq; exact n12
  | k + 13, hq => simp [jcl] at hq
theorem arr_of {s : State} {args : Array Value} {t : FieldType} (h : (Cond.arrayClass t).before args s = true) : ∃ c : ClassId, ArrOfT s c t ∧ s.vm.findClass ("[" ++ t.toString) = some c := by
  obtain ⟨c, k, comp, h1, h2, h3⟩ := Cond.arrayClass_spec h
  exact ⟨c, fun n z => ⟨fun k h => (by cases h), k, h2, comp, h3⟩, h1⟩
theorem grid_of {s : State} {args : Array Value} (h : (Cond.arrayOver (.array .int)).before args s = true) : ∃ c : ClassId, ArrOfT s c (.array .int) ∧ s.vm.findClass ("[" ++ (FieldType.array .int).toString) = some c := by
  obtain ⟨cI, c, k, h0, h1, h2, h3⟩ := gr_over h
  exact ⟨c, fun n z => ⟨fun k h => (by cases h), k, h2, cI, h3⟩, h1⟩
theorem S145 : Ssum 145 - Ssum 0 ≤ 7302250 := by decide +kernel
set_option maxRecDepth 20000 in
theorem whole_start {p : Program} {e : Env} {s : State} {m : MethodId} {below : List Frame} {meth : Method} {c : Code} (l : Launch) {b L : Nat} {xs : Nat → Int32} (hL : L ≤ 3584) (C0 : lw_At p s m meth c b L xs) : W p l e room_1 s m #[Value.ref b] below meth c s.heap [] 0 0 (lw_Z below #[Value.ref b] s) (entryFrame m ([Value.ref b] : List Value).toArray 4) := by
  obtain ⟨hx, hb, hr, hml, hown, hts, hX, hbl, hlocks, hgv, hnm⟩ := C0
  have htg : ∀ w ∈ lw_good, w.before #[Value.ref b] s = true := fun w hw => hts w (List.mem_filter.mp hw).1
  obtain ⟨dC, dI, hKc⟩ := kn_all htg
  obtain ⟨cI, aI, nI1⟩ := arr_of (htg _ ka_int)
  obtain ⟨cB, aB, nB⟩ := arr_of (htg _ ka_byte)
  obtain ⟨cZ, aZ, nZ⟩ := arr_of (htg _ ka_boolean)
  obtain ⟨cJ, aJ, nJ⟩ := arr_of (htg _ ka_long)
  obtain ⟨cG, aG, nG⟩ := grid_of (hts _ (List.mem_filter.mp ka_over).1)
  obtain ⟨cA, e1, e2, e3, e4, e5⟩ : ∃ cA : FieldType → ClassId, cA .int = cI ∧ cA .byte = cB ∧ cA .boolean = cZ ∧ cA .long = cJ ∧ cA (.array .int) = cG :=
    ⟨fun t => match t with | .int => cI | .byte => cB | .boolean => cZ | .long => cJ | _ => cG, rfl, rfl, rfl, rfl, rfl⟩
  have hK : va_K (dC, dI) jcl (tysL cA) s := by
    refine ⟨hKc, fun k q hq => ?_⟩
    unfold tysL at hq
    match k, hq with
    | 0, hq => cases hq; rw [e1]; exact ⟨aI, nI1⟩
    | 1, hq => cases hq; rw [e2]; exact ⟨aB, nB⟩
    | 2, hq => cases hq; rw [e3]; exact ⟨aZ, nZ⟩
    | 3, hq => cases hq; rw [e4]; exact ⟨aJ, nJ⟩
    | 4, hq => cases hq; rw [e5]; exact ⟨aG, nG⟩
    | k + 5, hq => simp at hq
  have hnest : ∀ w ∈ lw_nest, va_Nw w s := fun w hw => by
    have h1 := hts w (List.mem_filter.mp hw).1
    rcases nest_form hw with ⟨a9, i9, x9, h9, rfl⟩ | ⟨t9, rfl⟩
    · exact va_Nw.of rfl h1
    · exact ao_vm rfl h1
  have hxs : (fun k => Int32.ofInt ((fun k => (xs k).toInt) k)) = xs := by
    funext k
    exact Int32.ofInt_toInt _
  have C : Cx 40 145 (m_law L (fun k => (xs k).toInt)) p room_1 s m #[Value.ref b] meth c dC dI cA s.heap.size b 0 0 :=
    ⟨⟨hx, hb, hml, hown⟩, ⟨htg, hnest⟩, hK, ⟨by decide, by decide⟩, ⟨by decide, S145, Nat.le_refl _, by decide, by decide⟩, Nat.le_refl _, law_dec L _, Or.inr ⟨by show L + 1 ≤ 3585; omega, by show va_X b L (fun k => Int32.ofInt ((fun k => (xs k).toInt) k)) s s.heap; rw [hxs]; exact hX, hbl⟩, hnm, hlocks, hr⟩
  have hl := lv_entry ([.ref b]) (n := 4) (Nat.le_of_ble_eq_true rfl)
  rw [lg_entry_eq]
  generalize (lg_sl ([.ref b]) ++ List.replicate (4 - (lg_sl ([.ref b])).length) Slot.unset).toArray = la at hl ⊢
  have hl2 : lv_has la 4 (cvL s.heap.size b [(0, vR 9999)]) := hl
  have w := law_entry (law_wp L (fun k => (xs k).toInt) hL (fun k => ⟨by have := Int32.le_toInt (xs k); omega, by have := Int32.toInt_lt (xs k); omega⟩)) p l e room_1 s m #[Value.ref b] below meth c s.heap [] 0 (lw_Z below #[Value.ref b] s) dC dI cA s.heap.size b la C (fun k q hq => by simp [wsn] at hq) rfl va_S.rf hl2 ?_
  · exact w
  · intro pcR r n2 rf2 h2 H2 locs2 la2 hQ hrt hle hP2 hz2 hS2
    obtain ⟨rfl, rfl, z, rfl, rfl⟩ := hQ
    refine va_forget (fun q hq => hS2.2.2 q hq) ?_
    refine W.widen (k := 600000) (n := 7302250) (by decide) S145 ?_
    rcases hrt with ⟨hd, -⟩ | ⟨-, hc, -⟩
    · exact lw_ret hx hb hr hlocks (law_dec L _ _ _ _ hd)
    · cases hc
-- ===== YOUR PART ENDS =====
set_option maxHeartbeats 4000000 in
theorem lw_walk (l : Launch) (b : Addr) (xs : List Int32) : MetFree l x (headSpec (Jvm.Cond.code x code maxLocals ret :: tables_1) room_1) (lw_P b xs) (fun _ _ _ _ _ => True) lw_Q := by
  refine MetFree.of_bodyS (code := code) (maxLocals := maxLocals) (ret := ret) (by decide) ?_ ?_
  · intro args s m h hn
    obtain ⟨meth, c, h1, h2, h3, h4, h5, h6, -, -⟩ := Cond.code_spec hn (atoms_spec (ws := Jvm.Cond.code x code maxLocals ret :: tables_1) h _ List.mem_cons_self)
    exact ⟨meth, c, h1, h2, h3, h4, h5, h6⟩
  · intro p e s m args below meth c s₁ B hml0 hP _
    obtain ⟨rfl, hx, hbd, hgv⟩ := hP
    obtain ⟨scr, harrAt, hlist, hof, hsmall⟩ := hx
    obtain ⟨hcb, hkn, -, -⟩ := State.arrayAt?_spec harrAt
    have hown : s.vm.findClass R_law = some m.cls := findClass_of_methodNamed B.named
    have hts0 : ∀ c ∈ (Jvm.Cond.code x code maxLocals ret :: tables_1), c.before #[Value.ref b] s = true := atoms_spec (ws := Jvm.Cond.code x code maxLocals ret :: tables_1) B.pre
    have hts : ∀ w ∈ lw_tbl, w.before #[Value.ref b] s = true := k2_hts_sels lw_privs (fun w hw => hts0 w (List.mem_cons_of_mem _ hw)) lw_privs_ok
    have hml : c.maxLocals = 4 := B.maxLocals_eq (hts0 _ List.mem_cons_self)
    have X₀ : Stand p l e room_1 s m #[Value.ref b] below meth c s₁ [] 0 0 := Stand.of_body B
    have hh0 : s₁.heap = s.heap := by rw [B.state]; rfl
    have hsz : scr.slots.size = xs.length := by rw [← Array.length_toList, hlist, List.length_map]
    have hval : ∀ j : Nat, j < xs.length → scr.slots[j]? = some (.int (xs.getD j 0)) := fun j hj => by
      rw [← Array.getElem?_toList, hlist]
      simp [hj]
    have hbl : b < s.heap.size := (Array.getElem?_eq_some_iff.mp hcb).1
    have hX : va_X b xs.length (fun j => xs.getD j 0) s s.heap := ⟨scr, hcb, hof, hkn, hsz, hval⟩
    have K : W p l e room_1 s m #[Value.ref b] below meth c s₁.heap [] 0 0 (lw_Z below #[Value.ref b] s) (entryFrame m ([Value.ref b] : List Value).toArray 4) := by
      rw [hh0]
      exact whole_start l hbd ⟨B.exec, B.bytes, B.returns, hml, hown, hts, hX, hbl, B.notSynchronized, hgv, (name_of_methodNamed B.named B.method).1⟩
    obtain ⟨t, a1, o, b1, b2, b3⟩ := K s₁ rfl X₀
    exact ⟨t, o, a1, b1, b2, b3⟩
theorem lw_pre_spec {args : Array Value} {s : State} (h : (Jvm.Cond.and given_1 narrow_1).before args s = true) (hr : rest_1_c.before args s = true) : ∃ (b : Addr) (xs : List Int32), lw_P b xs args s := by
  have hs := flat_of_before _ h
  have hq := flat_of_before _ hr
  have hc : (Cond.count 1).before args s = true := hs _ (by decide +kernel)
  have harr : (Cond.arrayOf (.arg 0) .int).before args s = true := hs _ (by decide +kernel)
  have hle : (Cond.le (.length (.arg 0)) (.int 3584)).before args s = true := hs _ (by decide +kernel)
  have hlen : (Cond.isInt (.length (.arg 0))).before args s = true := hq _ (by decide +kernel)
  have hall : (Cond.all (.arg 0) (.isInt (.elem (.arg 0) (.index 0)))).before args s = true := hq _ (by decide +kernel)
  obtain ⟨b, xs, hb, hx⟩ := State.ints_of_pre rfl harr hlen hall
  have hsm : xs.length < 2 ^ 31 := hx.choose_spec.2.2.2
  have hev : (Term.length (.arg 0)).eval args s none [] s = some (.int xs.length.toInt32) := hx.length_eval hb
  have hv := Cond.le_ints hev (show (Term.int 3584).eval args s none [] s = some (.int 3584) from rfl)
  have hd : xs.length.toInt32 ≤ 3584 := by
    simpa [Cond.before, Cond.holds, hv] using hle
  have hN : xs.length ≤ 3584 := (Int32.ofNat_le_ofNat hsm (by decide)).mp (show Int32.ofNat xs.length ≤ Int32.ofNat 3584 from hd)
  exact ⟨b, xs, Cond.one_arg hc (show args[0]? = some (.ref b) from hb), hx, hN, h⟩
theorem lw_comes (l : Launch) : Comes l x (Jvm.Cond.code x code maxLocals ret :: tables_1) room_1 (fun tb e args s => Calls_1 tb e args s ∧ rest_1 tb e args s ∧ Pre_1 tb e args s)
    (fun _ _ args s o t => lw_Q args s o t) := by
  intro p e ha hc hk s m args below hf hfit hheap happ hpre
  obtain ⟨b, xs, hP⟩ := lw_pre_spec hpre.2.2 hpre.2.1
  obtain ⟨k, o, h1, h2, h3, hQ⟩ := lw_walk l b xs p e ha hc hk s m args below hf ((Spec.applies_iff_loose hf).mp happ).1 hP trivial
  exact ⟨k, o, h1, h2, h3, hQ⟩
theorem lw_frame {s t : State} {o : Outcome} {args : Array Value} (h : Framed s o t [] 600000 7302250) :
    Framed s o t (fieldLocs frame_1_writes args s ++ arrayLocs frame_1_arrays args s ++ staticLocs frame_1_statics s) 600000 7302250 := h
theorem lw_limb (L : Cond) (hL : ∀ (args : Array Value) (s t : State), L.after args s (.returned (some (.int 1))) t = true) :
    ArmFor flags0 classFile x code maxLocals ret World_1 tables_1 room_1 Calls_1 rest_1 Pre_1
      (fun tb e a s o t => postC L tb e a s o t ∧ Framed s o t (fieldLocs frame_1_writes a s ++ arrayLocs frame_1_arrays a s ++ staticLocs frame_1_statics s) 600000 7302250) := by
  intro l _ _ _ p e ha hc hk s m args below hf hfit hheap happ hpre
  obtain ⟨k, o, h1, h2, h3, rfl, hF⟩ := lw_comes l p e ha hc hk s m args below hf hfit hheap happ hpre
  exact ⟨k, _, h1, h2, h3, hL args s _, lw_frame hF⟩
theorem i_vc : Claimed_1_1 ∧ Claimed_1_2 := ⟨lw_limb limb_1_1 (fun args s t => by simp [limb_1_1, Cond.after, Cond.holds, Cond.value]), lw_limb limb_1_2 (fun args s t => Cond.after_iff.mpr (by
  first | (rw [show limb_1_2 = Cond.eq .result (.int 1) from rfl, Cond.eq_ints (x := 1) (y := 1) rfl rfl]; simp; done) | (simp [limb_1_2, Cond.value, Term.eval]; done)))⟩
