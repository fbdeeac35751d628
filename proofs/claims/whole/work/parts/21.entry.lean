def hF : St := fillC (zr (zr (zr (zr (zr (zr (zr (zr (zr (zr (zr (zr (zr (zr (zr (zr (zr (zr (zr (zr (zr (zr (up (up (zr (zr (zr (zr (zr (zr (zr (zr (zr (zr (zr (zr (zr ((zr (up (zr (zr (zr (zr (zr (up ((zr (zr (zr (zr (zr (zr (zr (up (up ((zr (zr (zr (up (zr (zr (zr (zr (zr (zr (zr (zr ((zr (up (zr (zr (zr (zr (zr (up (up ((zr (zr (up ((zr (zr ((zr (up (zr (zr (zr (zr (zr (zr (zr (zr (up (zr ((zr (zr (zr (zr (up (zr ((zr ((zr (zr (up (up ((zr (bkf (up (zr (zr (up (up (up (zr (zr (zr (zr (zr (up (zr ((zr (up (zr (zr (zr (zr (zr (zr ((zr ((zr (fun _ _ => 0) 0)) 1)) 2) 3) 4) 5) 6) 7) 1 6 0) 8)) 9) 8 1 0) 10) 11) 12) 13) 14) 8 7 0) 8 8 0) 8 9 0) 15) 36) 8 12 0) 20) 57)) 57 0 3) 57 1 0) 58) 59)) 60)) 61) 60 1 0) 62) 63) 64) 65)) 66) 65 1 0) 67) 68) 69) 70) 71) 72) 73) 74) 59 7 0) 75)) 76) 77)) 77 0 2) 78) 79)) 79 0 0) 79 1 0) 80) 81) 82) 83) 84) 79 7 0) 85)) 86) 87) 88) 89) 90) 91) 92) 93) 85 8 0) 94) 95) 96)) 96 0 0) 96 1 0) 97) 98) 99) 100) 101) 102) 103)) 103 0 0) 104) 105) 106) 107) 108) 0 14 0) 109)) 110) 111) 112) 113) 114) 115) 116) 117) 118) 119) 120) 121) 122) 109 14 3) 109 15 2) 123) 124) 125) 126) 127) 128) 129) 130) 131) 132) 133) 134) 135) 136) 137) 138) 139) 140) 141) 142) 143) 144) 126 240 (-4)
def rF : RF := rfS (rfS (rfS (rfS (rfS (rfS (rfS (rfS (rfS (rfS (rfS (rfS (rfS (rfS (rfS (rfS (rfS (rfS (rfS (rfS (rfS (rfS (rfS (rfS (rfS (rfS (rfS (rfS (rfS (rfS (rfS (rfS (rfS (rfS (rfS ((rfC (rfS (rfS (rfS (rfS (rfS (rfS ((rfC (rfS (rfS (rfS (rfS (rfS (rfS (rfS ((rfC (rfS (rfS (rfS (rfS (rfS (rfS (rfS (rfS (rfS (rfS (rfS ((rfC (rfS (rfS (rfS (rfS (rfS (rfS ((rfC (rfS (rfS ((rfC (rfS (rfS ((rfC (rfS (rfS (rfS (rfS (rfS (rfS (rfS (rfS (rfS (rfS (rfS ((rfC (rfS (rfS (rfS (rfS (rfS ((rfC ((rfC (rfS (rfS ((rfC (rfS (rfS (rfS (rfS (rfS (rfS (rfS (rfS (rfS ((rfC (rfS (rfS (rfS (rfS (rfS (rfS (rfS ((rfC ((rfC (fun _ _ => false) 0)) 1)) 1 0) 1 1) 1 2) 1 3) 1 4) 1 5) 0 0) 8)) 8 0) 8 2) 8 3) 8 4) 8 5) 8 6) 8 10) 8 11) 0 1) 57)) 57 2) 0 2) 59)) 60)) 60 0) 60 2) 60 3) 60 4) 59 0) 65)) 65 0) 65 2) 65 3) 65 4) 59 1) 59 2) 59 3) 59 4) 59 5) 59 6) 0 3) 75)) 75 0) 0 4) 77)) 77 1) 0 5) 79)) 79 2) 79 3) 79 4) 79 5) 79 6) 0 6) 85)) 85 0) 85 1) 85 2) 85 3) 85 4) 85 5) 85 6) 85 7) 85 9) 85 10) 0 7) 96)) 96 2) 96 3) 96 4) 96 5) 96 6) 96 7) 0 8) 103)) 103 1) 0 9) 0 10) 0 11) 0 12) 0 13) 109)) 109 0) 109 1) 109 2) 109 3) 109 4) 109 5) 109 6) 109 7) 109 8) 109 9) 109 10) 109 11) 109 12) 109 16) 109 17) 109 19) 109 21) 109 24) 109 25) 109 26) 109 27) 109 28) 109 31) 109 32) 109 33) 109 34) 109 35) 109 37) 109 38) 109 39) 109 40) 109 41) 109 43) 109 44) 109 45
def refF : List (Nat × Nat) := [(0, 0), (0, 1), (0, 2), (0, 3), (0, 4), (0, 5), (0, 6), (0, 7), (0, 8), (0, 9), (0, 10), (0, 11), (0, 12), (0, 13), (1, 0), (1, 1), (1, 2), (1, 3), (1, 4), (1, 5), (8, 0), (8, 2), (8, 3), (8, 4), (8, 5), (8, 6), (8, 10), (8, 11), (57, 2), (59, 0), (59, 1), (59, 2), (59, 3), (59, 4), (59, 5), (59, 6), (60, 0), (60, 2), (60, 3), (60, 4), (65, 0), (65, 2), (65, 3), (65, 4), (75, 0), (77, 1), (79, 2), (79, 3), (79, 4), (79, 5), (79, 6), (85, 0), (85, 1), (85, 2), (85, 3), (85, 4), (85, 5), (85, 6), (85, 7), (85, 9), (85, 10), (96, 2), (96, 3), (96, 4), (96, 5), (96, 6), (96, 7), (103, 1), (109, 0), (109, 1), (109, 2), (109, 3), (109, 4), (109, 5), (109, 6), (109, 7), (109, 8), (109, 9), (109, 10), (109, 11), (109, 12), (109, 16), (109, 17), (109, 19), (109, 21), (109, 24), (109, 25), (109, 26), (109, 27), (109, 28), (109, 31), (109, 32), (109, 33), (109, 34), (109, 35), (109, 37), (109, 38), (109, 39), (109, 40), (109, 41), (109, 43), (109, 44), (109, 45)]
def isRf (q : Sh) (k : Nat) : Bool := match q with | .inr (_, fs) => (match fs[k]? with | some (some _) => true | _ => false) | _ => false
theorem wsn_rf {cA : FieldType → ClassId} {b0 n : Nat} {rf rf2 : RF} {h : St} (hr : ∀ i, i < n → ∀ k, isRf (shp i) k = true → rf i k = rf2 i k) : wsn cA b0 n rf h = wsn cA b0 n rf2 h := by
  unfold wsn
  apply List.map_congr_left
  intro i hi
  have hi := hr i (List.mem_range.mp hi)
  congr 1
  unfold celE
  match hq : shp i with
  | .inl (t, n, b) => rfl
  | .inr (ci, fs) =>
    show Sum.inr (ci, fldV b0 rf h i fs) = Sum.inr (ci, fldV b0 rf2 h i fs)
    congr 2
    unfold fldV
    apply List.map_congr_left
    intro k hk
    have hk2 := hi k
    rw [hq] at hk2
    unfold isRf at hk2
    match hfk : fs[k]? with
    | some (some c) =>
      have hk3 : rf i k = rf2 i k := hk2 (by simp only [hfk])
      simp only [hk3]
    | some none => rfl
    | none => rfl
theorem w_rf {d nM : Nat} {M : MI} {pc : Nat} {ls : Lv} {st : List Vv} {n : Nat} {rf rf2 : RF} {h : St} {Q : Option Vv → Nat → RF → St → Prop} (hr : ∀ i, i < n → ∀ k, isRf (shp i) k = true → rf i k = rf2 i k) (k : wp d nM M pc ls st n rf2 h Q) : wp d nM M pc ls st n rf h Q := by
  intro p l e R s m args below meth c H locs nE QQ dC dI cA b0 bs la C hP hz hS hl hq
  rw [wsn_rf hr] at hP
  exact k p l e R s m args below meth c H locs nE QQ dC dI cA b0 bs la C hP hz hS hl hq
theorem refF_all : (List.range 145).all (fun i => (List.range 50).all (fun k => !(isRf (shp i) k) || refF.contains (i, k))) = true := by decide +kernel
theorem refF_out : (List.range 145).all (fun i => decide (shSz (shp i) ≤ 50) || (match shp i with | .inl _ => true | _ => false)) = true := by decide +kernel
theorem rF_ok : refF.all (fun q => rF q.1 q.2) = true := by decide +kernel
theorem rF_A : ∀ i, i < 145 → ∀ k, isRf (shp i) k = true → rF i k = rfA i k := by
  intro i hi k hk
  have hk50 : k < 50 := by
    have h1 := List.all_eq_true.mp refF_out i (List.mem_range.mpr hi)
    unfold isRf at hk
    match hq : shp i with
    | .inl _ => rw [hq] at hk; cases hk
    | .inr (ci, fs) =>
      rw [hq] at hk h1
      simp only [Bool.or_false, decide_eq_true_eq] at h1
      have h1 : fs.length ≤ 50 := h1
      match hfk : fs[k]? with
      | some (some c) => exact Nat.lt_of_lt_of_le (List.getElem?_eq_some_iff.mp hfk).1 h1
      | some none => simp only [hfk] at hk; cases hk
      | none => simp only [hfk] at hk; cases hk
  have h2 := List.all_eq_true.mp (List.all_eq_true.mp refF_all i (List.mem_range.mpr hi)) k (List.mem_range.mpr hk50)
  rw [hk] at h2
  simp only [Bool.not_true, Bool.false_or] at h2
  have h3 : (i, k) ∈ refF := List.contains_iff_mem.mp h2
  exact List.all_eq_true.mp rF_ok (i, k) h3
set_option maxRecDepth 20000 in
theorem law_entry {L : Nat} {xs : Nat → Int} {K : Int → St → Prop} (k : wI 40 (m_law L xs) 18 [(0, vR 9999), (1, vR 0), (2, vR 109), (3, vI 0)] [] hF K) : wp 40 145 (m_law L xs) 0 [(0, vR 9999)] [] 0 (fun _ _ => false) (fun _ _ => 0) (fun r n2 rf2 h2 => n2 = nC ∧ rf2 = rfA ∧ ∃ z, r = some (vI z) ∧ K z h2) := by
  refine w_new (ty := tyX11) rfl kl_L_7 ki_C.1 ki_C.2 rfl rfl rfl tyX11_ok (by decide +kernel) rfl ?_
  refine w_dup rfl rfl ?_
  refine w_callI rfl b_C_init rfl rfl k_L_9 rfl rfl rfl rfl (i_C_init (rf := _) (h := _)) (fun r9 rf9 h9 hk9 => ?_)
  obtain ⟨rfl, rfl, rfl⟩ := hk9
  refine w_astore_n rfl rfl rfl rfl (w_ls (ls2 := [(0, vR 9999), (1, vR 0)]) rfl ?_)
  refine w_new (ty := tyX12) rfl kl_L_10 ki_M.1 ki_M.2 rfl rfl rfl tyX12_ok (by decide +kernel) rfl ?_
  refine w_dup rfl rfl ?_
  refine w_callI rfl b_M_init rfl rfl k_L_12 rfl rfl rfl rfl (i_M_init (rf := _) (h := _)) (fun r9 rf9 h9 hk9 => ?_)
  obtain ⟨rfl, rfl, rfl⟩ := hk9
  refine w_astore_n rfl rfl rfl rfl (w_ls (ls2 := [(0, vR 9999), (1, vR 0), (2, vR 109)]) rfl ?_)
  refine w_iconst rfl ?_
  refine w_istore_n rfl rfl rfl rfl (w_ls (ls2 := [(0, vR 9999), (1, vR 0), (2, vR 109), (3, vI 0)]) rfl ?_)
  exact w_rf (rf := rF) (h := hF) rF_A k
