def bkf (h : St) (n : Nat) : St := fun i j => if (16 ≤ i ∧ i < 16 + n) ∨ (37 ≤ i ∧ i < 37 + n) then (if j < 12 then -4 else h i j) else h i j
theorem bkf_zero (h : St) : bkf h 0 = h := by
  funext i j
  simp only [bkf]
  rw [if_neg (by omega)]
theorem bkf_succ (h : St) (n : Nat) (hn : n < 20) : fillC (fillC (bkf h n) (16 + n) 12 (-4)) (37 + n) 12 (-4) = bkf h (n + 1) := by
  funext i j
  by_cases h1 : i = 37 + n
  · subst h1
    by_cases hj : j < 12
    · simp [fillC, bkf, hj]
    · simp [fillC, bkf, hj]
  · by_cases h2 : i = 16 + n
    · subst h2
      by_cases hj : j < 12
      · simp [fillC, bkf, hj, h1]
      · simp [fillC, bkf, hj, h1]
    · have e : ((16 ≤ i ∧ i < 16 + (n + 1)) ∨ (37 ≤ i ∧ i < 37 + (n + 1))) ↔ ((16 ≤ i ∧ i < 16 + n) ∨ (37 ≤ i ∧ i < 37 + n)) := by omega
      simp [fillC, bkf, h1, h2, e]
theorem book_rows {d n : Nat} {rf : RF} {Q : Option Vv → Nat → RF → St → Prop} (r10 : rf 8 10 = true) (r11 : rf 8 11 = true) (hn : n = 57) :
    ∀ (k i : Nat) (h : St), i + k = 20 → Q none n rf (bkf h 20) → wp (d + 1) n m_Book_init 103 [(0, vR 8), (1, vI (i : Int))] [] n rf (bkf h i) Q := by
  subst hn
  have key1 : ∀ k, k < 20 → shp (16 + k) = .inl (.int, 12, 0) ∧ Nat.blt (16 + k) 57 = true := by decide +kernel
  have key2 : ∀ k, k < 20 → shp (37 + k) = .inl (.int, 12, 0) ∧ Nat.blt (37 + k) 57 = true := by decide +kernel
  intro k
  induction k with
  | zero =>
    intro i h hi hq
    have e : i = 20 := by omega
    subst e
    refine w_iload_n rfl rfl ?_
    refine w_bipush (by decide) (by decide) rfl ?_
    refine w_icmp_ge (tgt := 137) rfl (by decide) ⟨r_lit rfl, r_lit rfl⟩ (fun q => ?_) (fun q => absurd (by decide) q)
    exact w_vret rfl rfl hq
  | succ k ih =>
    intro i h hi hq
    obtain ⟨a1, a2⟩ := key1 i (by omega)
    obtain ⟨a3, a4⟩ := key2 i (by omega)
    refine w_iload_n rfl rfl ?_
    refine w_bipush (by decide) (by decide) rfl ?_
    refine w_icmp_ge (tgt := 137) rfl (by decide) ⟨⟨by omega, by omega⟩, r_lit rfl⟩ (fun q => absurd q (by omega)) (fun q => ?_)
    refine w_aload_n rfl rfl ?_
    refine w_getR rfl f_Book_46 rfl rfl r10 rfl rfl ?_
    refine w_iload_n rfl rfl ?_
    refine w_aaload rfl rfl rfl ⟨by omega, by omega⟩ rfl ?_
    refine w_bipush (by decide) (by decide) rfl ?_
    refine w_callS (As := [vR (16 + i), vI (-4)]) (rest := []) rfl b_JA_fill k_Book_55 rfl rfl rfl rfl (fill_any a1 a2 (by decide)) (fun r9 rf9 h9 hk9 => ?_)
    obtain ⟨rfl, rfl, rfl⟩ := hk9
    refine w_aload_n rfl rfl ?_
    refine w_getR rfl f_Book_49 rfl rfl r11 rfl rfl ?_
    refine w_iload_n rfl rfl ?_
    refine w_aaload rfl rfl rfl ⟨by omega, by omega⟩ rfl ?_
    refine w_bipush (by decide) (by decide) rfl ?_
    refine w_callS (As := [vR (37 + i), vI (-4)]) (rest := []) rfl b_JA_fill k_Book_55 rfl rfl rfl rfl (fill_any a3 a4 (by decide)) (fun r9 rf9 h9 hk9 => ?_)
    obtain ⟨rfl, rfl, rfl⟩ := hk9
    refine w_iinc rfl rfl rfl rfl rfl (w_ls (ls2 := [(0, vR 8), (1, vI ((i : Int) + 1))]) rfl ?_)
    refine w_goto (tgt := 103) rfl (by decide) ?_
    rw [bkf_succ h i (by omega)]
    exact ih (i + 1) h (by omega) hq
theorem book_loop {d : Nat} {rf : RF} {h : St} {Q : Option Vv → Nat → RF → St → Prop} (r10 : rf 8 10 = true) (r11 : rf 8 11 = true) (hq : Q none 57 rf (bkf h 20)) : wp (d + 1) 57 m_Book_init 101 [(0, vR 8)] [] 57 rf h Q := by
  refine w_iconst rfl ?_
  refine w_istore_n rfl rfl rfl rfl (w_ls (ls2 := [(0, vR 8), (1, vI 0)]) rfl ?_)
  have w := book_rows (d := d) r10 r11 rfl 20 0 h rfl hq
  rw [bkf_zero] at w
  exact w
def mbf (h : St) (n : Nat) : St := fun i j => if i = 126 then (if j < n then -4 else h i j) else h i j
theorem mod_rows {d : Nat} {rf : RF} {Q : Option Vv → Nat → RF → St → Prop} (r : rf 109 21 = true) :
    ∀ (k i : Nat) (h : St), i + k = 240 → Q none 145 rf (fillC h 126 240 (-4)) → wp d 145 m_M_init 304 [(0, vR 109), (1, vI (i : Int))] [] 145 rf (fillC h 126 i (-4)) Q := by
  intro k
  induction k with
  | zero =>
    intro i h hi hq
    have e : i = 240 := by omega
    subst e
    refine w_iload_n rfl rfl ?_
    refine w_sipush (by decide) (by decide) rfl ?_
    refine w_icmp_ge (tgt := 325) rfl (by decide) ⟨r_lit rfl, r_lit rfl⟩ (fun q => ?_) (fun q => absurd (by decide) q)
    exact w_vret rfl rfl hq
  | succ k ih =>
    intro i h hi hq
    refine w_iload_n rfl rfl ?_
    refine w_sipush (by decide) (by decide) rfl ?_
    refine w_icmp_ge (tgt := 325) rfl (by decide) ⟨⟨by omega, by omega⟩, r_lit rfl⟩ (fun q => absurd q (by omega)) (fun q => ?_)
    refine w_aload_n rfl rfl ?_
    refine w_getR rfl f_M_66 rfl rfl r rfl rfl ?_
    refine w_iload_n rfl rfl ?_
    refine w_bipush (by decide) (by decide) rfl ?_
    refine w_iastore rfl rfl rfl ⟨by omega, by omega⟩ ?_
    refine w_iinc rfl rfl rfl rfl rfl (w_ls (ls2 := [(0, vR 109), (1, vI ((i : Int) + 1))]) rfl ?_)
    refine w_goto (tgt := 304) rfl (by decide) ?_
    have e2 : up (fillC h 126 i (-4)) 126 (Int.toNat (i : Int)) (-4) = fillC h 126 (i + 1) (-4) := fillC_succ h 126 i (-4)
    rw [e2]
    exact ih (i + 1) h (by omega) hq
theorem mod_loop {d : Nat} {rf : RF} {h : St} {Q : Option Vv → Nat → RF → St → Prop} (r : rf 109 21 = true) (hq : Q none 145 rf (fillC h 126 240 (-4))) : wp d 145 m_M_init 302 [(0, vR 109)] [] 145 rf h Q := by
  refine w_iconst rfl ?_
  refine w_istore_n rfl rfl rfl rfl (w_ls (ls2 := [(0, vR 109), (1, vI 0)]) rfl ?_)
  have w := mod_rows (d := d) r 240 0 h rfl hq
  rw [fillC_zero] at w
  exact w
set_option maxRecDepth 20000 in
theorem i_CallLog_init {d : Nat} {rf : RF} {h : St} : mwp (d + 1) m_CallLog_init [vR 1] 2 rf h 8 (fun r rf2 h2 => r = none ∧ rf2 = rfS (rfS (rfS (rfS (rfS (rfS (rf) 1 0) 1 1) 1 2) 1 3) 1 4) 1 5 ∧ h2 = up (zr (zr (zr (zr (zr (zr (h) 2) 3) 4) 5) 6) 7) 1 6 0) := by
  refine mwp_intro b_CallLog_init.1 (by decide) (by decide) rfl ?_
  refine w_aload_n rfl rfl ?_
  refine w_objInit rfl k_CallLog_3 rfl rfl ?_
  refine w_aload_n rfl rfl ?_
  refine w_bipush (by decide) (by decide) rfl ?_
  refine w_newarray (len := 60) (t0 := 0) rfl rfl (Or.inl rfl) rfl ka_int (fun _ => rfl) rfl (by decide) ?_
  refine w_putR rfl rfl f_CallLog_11 fr_1_0 rfl rfl rfl rfl rfl ?_
  refine w_aload_n rfl rfl ?_
  refine w_bipush (by decide) (by decide) rfl ?_
  refine w_newarray (len := 60) (t0 := 0) rfl rfl (Or.inl rfl) rfl ka_int (fun _ => rfl) rfl (by decide) ?_
  refine w_putR rfl rfl f_CallLog_15 fr_1_1 rfl rfl rfl rfl rfl ?_
  refine w_aload_n rfl rfl ?_
  refine w_bipush (by decide) (by decide) rfl ?_
  refine w_newarray (len := 60) (t0 := 0) rfl rfl (Or.inl rfl) rfl ka_int (fun _ => rfl) rfl (by decide) ?_
  refine w_putR rfl rfl f_CallLog_18 fr_1_2 rfl rfl rfl rfl rfl ?_
  refine w_aload_n rfl rfl ?_
  refine w_bipush (by decide) (by decide) rfl ?_
  refine w_newarray (len := 60) (t0 := 0) rfl rfl (Or.inl rfl) rfl ka_int (fun _ => rfl) rfl (by decide) ?_
  refine w_putR rfl rfl f_CallLog_21 fr_1_3 rfl rfl rfl rfl rfl ?_
  refine w_aload_n rfl rfl ?_
  refine w_bipush (by decide) (by decide) rfl ?_
  refine w_newarray (len := 60) (t0 := 0) rfl rfl (Or.inl rfl) rfl ka_int (fun _ => rfl) rfl (by decide) ?_
  refine w_putR rfl rfl f_CallLog_24 fr_1_4 rfl rfl rfl rfl rfl ?_
  refine w_aload_n rfl rfl ?_
  refine w_bipush (by decide) (by decide) rfl ?_
  refine w_newarray (len := 60) (t0 := 0) rfl rfl (Or.inl rfl) rfl ka_int (fun _ => rfl) rfl (by decide) ?_
  refine w_putR rfl rfl f_CallLog_27 fr_1_5 rfl rfl rfl rfl rfl ?_
  refine w_aload_n rfl rfl ?_
  refine w_iconst rfl ?_
  refine w_putI rfl f_CallLog_30 fw_1_6 rfl rfl rfl ?_
  exact w_vret rfl rfl ⟨rfl, rfl, rfl, rfl⟩
set_option maxRecDepth 20000 in
theorem i_Book_init {d : Nat} {rf : RF} {h : St} : mwp (d + 2) m_Book_init [vR 8] 9 rf h 57 (fun r rf2 h2 => r = none ∧ rf2 = rfS (rfS (rfS (rfS (rfS (rfS (rfS (rfS (rf) 8 0) 8 2) 8 3) 8 4) 8 5) 8 6) 8 10) 8 11 ∧ h2 = bkf (up (zr (zr (up (up (up (zr (zr (zr (zr (zr (up (zr (h) 9) 8 1 0) 10) 11) 12) 13) 14) 8 7 0) 8 8 0) 8 9 0) 15) 36) 8 12 0) 20) := by
  refine mwp_intro b_Book_init.1 (by decide) (by decide) rfl ?_
  refine w_aload_n rfl rfl ?_
  refine w_objInit rfl k_Book_5 rfl rfl ?_
  refine w_aload_n rfl rfl ?_
  refine w_sipush (by decide) (by decide) rfl ?_
  refine w_newarray (len := 200) (t0 := 1) rfl rfl (Or.inr (Or.inl rfl)) rfl ka_byte (fun _ => rfl) rfl (by decide) ?_
  refine w_putR rfl rfl f_Book_11 fr_0_0 rfl rfl rfl rfl rfl ?_
  refine w_aload_n rfl rfl ?_
  refine w_iconst rfl ?_
  refine w_putI rfl f_Book_15 fw_0_1 rfl rfl rfl ?_
  refine w_aload_n rfl rfl ?_
  refine w_iconst rfl ?_
  refine w_newarray (len := 3) (t0 := 0) rfl rfl (Or.inl rfl) rfl ka_int (fun _ => rfl) rfl (by decide) ?_
  refine w_putR rfl rfl f_Book_19 fr_0_2 rfl rfl rfl rfl rfl ?_
  refine w_aload_n rfl rfl ?_
  refine w_bipush (by decide) (by decide) rfl ?_
  refine w_newarray (len := 40) (t0 := 0) rfl rfl (Or.inl rfl) rfl ka_int (fun _ => rfl) rfl (by decide) ?_
  refine w_putR rfl rfl f_Book_23 fr_0_3 rfl rfl rfl rfl rfl ?_
  refine w_aload_n rfl rfl ?_
  refine w_bipush (by decide) (by decide) rfl ?_
  refine w_newarray (len := 40) (t0 := 0) rfl rfl (Or.inl rfl) rfl ka_int (fun _ => rfl) rfl (by decide) ?_
  refine w_putR rfl rfl f_Book_26 fr_0_4 rfl rfl rfl rfl rfl ?_
  refine w_aload_n rfl rfl ?_
  refine w_bipush (by decide) (by decide) rfl ?_
  refine w_newarray (len := 40) (t0 := 0) rfl rfl (Or.inl rfl) rfl ka_int (fun _ => rfl) rfl (by decide) ?_
  refine w_putR rfl rfl f_Book_29 fr_0_5 rfl rfl rfl rfl rfl ?_
  refine w_aload_n rfl rfl ?_
  refine w_bipush (by decide) (by decide) rfl ?_
  refine w_newarray (len := 40) (t0 := 0) rfl rfl (Or.inl rfl) rfl ka_int (fun _ => rfl) rfl (by decide) ?_
  refine w_putR rfl rfl f_Book_32 fr_0_6 rfl rfl rfl rfl rfl ?_
  refine w_aload_n rfl rfl ?_
  refine w_iconst rfl ?_
  refine w_putI rfl f_Book_35 fw_0_7 rfl rfl rfl ?_
  refine w_aload_n rfl rfl ?_
  refine w_iconst rfl ?_
  refine w_putI rfl f_Book_38 fw_0_8 rfl rfl rfl ?_
  refine w_aload_n rfl rfl ?_
  refine w_iconst rfl ?_
  refine w_putI rfl f_Book_41 fw_0_9 rfl rfl rfl ?_
  refine w_aload_n rfl rfl ?_
  refine w_bipush (by decide) (by decide) rfl ?_
  refine w_bipush (by decide) (by decide) rfl ?_
  refine w_mna (N := 20) (K := 12) rfl kl_Book_44 ka_over ka_int rfl (by decide +kernel) rfl (by decide) (by decide) ?_
  refine w_putR rfl rfl f_Book_46 fr_0_10 rfl rfl rfl rfl rfl ?_
  refine w_aload_n rfl rfl ?_
  refine w_bipush (by decide) (by decide) rfl ?_
  refine w_bipush (by decide) (by decide) rfl ?_
  refine w_mna (N := 20) (K := 12) rfl kl_Book_44 ka_over ka_int rfl (by decide +kernel) rfl (by decide) (by decide) ?_
  refine w_putR rfl rfl f_Book_49 fr_0_11 rfl rfl rfl rfl rfl ?_
  refine w_aload_n rfl rfl ?_
  refine w_iconst rfl ?_
  refine w_putI rfl f_Book_52 fw_0_12 rfl rfl rfl ?_
  exact book_loop (d := d) rfl rfl ⟨rfl, rfl, rfl, rfl⟩
set_option maxRecDepth 20000 in
theorem i_Hands_init {d : Nat} {rf : RF} {h : St} : mwp (d + 1) m_Hands_init [vR 57] 58 rf h 59 (fun r rf2 h2 => r = none ∧ rf2 = rfS (rf) 57 2 ∧ h2 = zr (up (up (h) 57 0 3) 57 1 0) 58) := by
  refine mwp_intro b_Hands_init.1 (by decide) (by decide) rfl ?_
  refine w_aload_n rfl rfl ?_
  refine w_objInit rfl k_Hands_3 rfl rfl ?_
  refine w_aload_n rfl rfl ?_
  refine w_iconst rfl ?_
  refine w_putI rfl f_Hands_9 fw_2_0 rfl rfl rfl ?_
  refine w_aload_n rfl rfl ?_
  refine w_iconst rfl ?_
  refine w_putI rfl f_Hands_15 fw_2_1 rfl rfl rfl ?_
  refine w_aload_n rfl rfl ?_
  refine w_bipush (by decide) (by decide) rfl ?_
  refine w_newarray (len := 100) (t0 := 0) rfl rfl (Or.inl rfl) rfl ka_int (fun _ => rfl) rfl (by decide) ?_
  refine w_putR rfl rfl f_Hands_18 fr_2_2 rfl rfl rfl rfl rfl ?_
  exact w_vret rfl rfl ⟨rfl, rfl, rfl, rfl⟩
set_option maxRecDepth 20000 in
theorem i_Senders_inita {d : Nat} {rf : RF} {h : St} : mwp (d + 1) m_Senders_init [vR 60] 61 rf h 65 (fun r rf2 h2 => r = none ∧ rf2 = rfS (rfS (rfS (rfS (rf) 60 0) 60 2) 60 3) 60 4 ∧ h2 = zr (zr (zr (up (zr (h) 61) 60 1 0) 62) 63) 64) := by
  refine mwp_intro b_Senders_init.1 (by decide) (by decide) rfl ?_
  refine w_aload_n rfl rfl ?_
  refine w_objInit rfl k_Senders_3 rfl rfl ?_
  refine w_aload_n rfl rfl ?_
  refine w_bipush (by decide) (by decide) rfl ?_
  refine w_newarray (len := 12) (t0 := 0) rfl rfl (Or.inl rfl) rfl ka_int (fun _ => rfl) rfl (by decide) ?_
  refine w_putR rfl rfl f_Senders_9 fr_7_0 rfl rfl rfl rfl rfl ?_
  refine w_aload_n rfl rfl ?_
  refine w_iconst rfl ?_
  refine w_putI rfl f_Senders_15 fw_7_1 rfl rfl rfl ?_
  refine w_aload_n rfl rfl ?_
  refine w_bipush (by decide) (by decide) rfl ?_
  refine w_newarray (len := 12) (t0 := 3) rfl rfl (Or.inr (Or.inr (Or.inr rfl))) rfl ka_long (fun _ => rfl) rfl (by decide) ?_
  refine w_putR rfl rfl f_Senders_19 fr_7_2 rfl rfl rfl rfl rfl ?_
  refine w_aload_n rfl rfl ?_
  refine w_bipush (by decide) (by decide) rfl ?_
  refine w_newarray (len := 12) (t0 := 0) rfl rfl (Or.inl rfl) rfl ka_int (fun _ => rfl) rfl (by decide) ?_
  refine w_putR rfl rfl f_Senders_23 fr_7_3 rfl rfl rfl rfl rfl ?_
  refine w_aload_n rfl rfl ?_
  refine w_bipush (by decide) (by decide) rfl ?_
  refine w_newarray (len := 12) (t0 := 0) rfl rfl (Or.inl rfl) rfl ka_int (fun _ => rfl) rfl (by decide) ?_
  refine w_putR rfl rfl f_Senders_26 fr_7_4 rfl rfl rfl rfl rfl ?_
  exact w_vret rfl rfl ⟨rfl, rfl, rfl, rfl⟩
set_option maxRecDepth 20000 in
theorem i_Senders_initb {d : Nat} {rf : RF} {h : St} : mwp (d + 1) m_Senders_init [vR 65] 66 rf h 70 (fun r rf2 h2 => r = none ∧ rf2 = rfS (rfS (rfS (rfS (rf) 65 0) 65 2) 65 3) 65 4 ∧ h2 = zr (zr (zr (up (zr (h) 66) 65 1 0) 67) 68) 69) := by
  refine mwp_intro b_Senders_init.1 (by decide) (by decide) rfl ?_
  refine w_aload_n rfl rfl ?_
  refine w_objInit rfl k_Senders_3 rfl rfl ?_
  refine w_aload_n rfl rfl ?_
  refine w_bipush (by decide) (by decide) rfl ?_
  refine w_newarray (len := 12) (t0 := 0) rfl rfl (Or.inl rfl) rfl ka_int (fun _ => rfl) rfl (by decide) ?_
  refine w_putR rfl rfl f_Senders_9 fr_7_0 rfl rfl rfl rfl rfl ?_
  refine w_aload_n rfl rfl ?_
  refine w_iconst rfl ?_
  refine w_putI rfl f_Senders_15 fw_7_1 rfl rfl rfl ?_
  refine w_aload_n rfl rfl ?_
  refine w_bipush (by decide) (by decide) rfl ?_
  refine w_newarray (len := 12) (t0 := 3) rfl rfl (Or.inr (Or.inr (Or.inr rfl))) rfl ka_long (fun _ => rfl) rfl (by decide) ?_
  refine w_putR rfl rfl f_Senders_19 fr_7_2 rfl rfl rfl rfl rfl ?_
  refine w_aload_n rfl rfl ?_
  refine w_bipush (by decide) (by decide) rfl ?_
  refine w_newarray (len := 12) (t0 := 0) rfl rfl (Or.inl rfl) rfl ka_int (fun _ => rfl) rfl (by decide) ?_
  refine w_putR rfl rfl f_Senders_23 fr_7_3 rfl rfl rfl rfl rfl ?_
  refine w_aload_n rfl rfl ?_
  refine w_bipush (by decide) (by decide) rfl ?_
  refine w_newarray (len := 12) (t0 := 0) rfl rfl (Or.inl rfl) rfl ka_int (fun _ => rfl) rfl (by decide) ?_
  refine w_putR rfl rfl f_Senders_26 fr_7_4 rfl rfl rfl rfl rfl ?_
  exact w_vret rfl rfl ⟨rfl, rfl, rfl, rfl⟩
set_option maxRecDepth 20000 in
theorem i_Pairing_init {d : Nat} {rf : RF} {h : St} : mwp (d + 2) m_Pairing_init [vR 59] 60 rf h 75 (fun r rf2 h2 => r = none ∧ rf2 = rfS (rfS (rfS (rfS (rfS (rfS (rfS (rfS (rfS (rfS ((rfC (rfS (rfS (rfS (rfS (rfS ((rfC (rf) 60)) 60 0) 60 2) 60 3) 60 4) 59 0) 65)) 65 0) 65 2) 65 3) 65 4) 59 1) 59 2) 59 3) 59 4) 59 5) 59 6 ∧ h2 = up (zr (zr (zr (zr (zr (zr (zr (zr (up (zr ((zr (zr (zr (zr (up (zr ((zr (h) 60)) 61) 60 1 0) 62) 63) 64) 65)) 66) 65 1 0) 67) 68) 69) 70) 71) 72) 73) 74) 59 7 0) := by
  refine mwp_intro b_Pairing_init.1 (by decide) (by decide) rfl ?_
  refine w_aload_n rfl rfl ?_
  refine w_objInit rfl k_Pairing_5 rfl rfl ?_
  refine w_aload_n rfl rfl ?_
  refine w_new (ty := tyX7) rfl kl_Pairing_11 ki_Senders.1 ki_Senders.2 rfl rfl rfl tyX7_ok (by decide +kernel) rfl ?_
  refine w_dup rfl rfl ?_
  refine w_callIN rfl b_Senders_init rfl rfl k_Pairing_13 rfl rfl rfl rfl (i_Senders_inita (rf := _) (h := _)) (fun r9 rf9 h9 hk9 => ?_)
  obtain ⟨rfl, rfl, rfl⟩ := hk9
  refine w_putR rfl rfl f_Pairing_14 fr_5_0 rfl rfl rfl rfl rfl ?_
  refine w_aload_n rfl rfl ?_
  refine w_new (ty := tyX7) rfl kl_Pairing_11 ki_Senders.1 ki_Senders.2 rfl rfl rfl tyX7_ok (by decide +kernel) rfl ?_
  refine w_dup rfl rfl ?_
  refine w_callIN rfl b_Senders_init rfl rfl k_Pairing_13 rfl rfl rfl rfl (i_Senders_initb (rf := _) (h := _)) (fun r9 rf9 h9 hk9 => ?_)
  obtain ⟨rfl, rfl, rfl⟩ := hk9
  refine w_putR rfl rfl f_Pairing_18 fr_5_1 rfl rfl rfl rfl rfl ?_
  refine w_aload_n rfl rfl ?_
  refine w_bipush (by decide) (by decide) rfl ?_
  refine w_newarray (len := 12) (t0 := 0) rfl rfl (Or.inl rfl) rfl ka_int (fun _ => rfl) rfl (by decide) ?_
  refine w_putR rfl rfl f_Pairing_21 fr_5_2 rfl rfl rfl rfl rfl ?_
  refine w_aload_n rfl rfl ?_
  refine w_bipush (by decide) (by decide) rfl ?_
  refine w_newarray (len := 12) (t0 := 0) rfl rfl (Or.inl rfl) rfl ka_int (fun _ => rfl) rfl (by decide) ?_
  refine w_putR rfl rfl f_Pairing_25 fr_5_3 rfl rfl rfl rfl rfl ?_
  refine w_aload_n rfl rfl ?_
  refine w_bipush (by decide) (by decide) rfl ?_
  refine w_newarray (len := 64) (t0 := 0) rfl rfl (Or.inl rfl) rfl ka_int (fun _ => rfl) rfl (by decide) ?_
  refine w_putR rfl rfl f_Pairing_28 fr_5_4 rfl rfl rfl rfl rfl ?_
  refine w_aload_n rfl rfl ?_
  refine w_sipush (by decide) (by decide) rfl ?_
  refine w_newarray (len := 2304) (t0 := 0) rfl rfl (Or.inl rfl) rfl ka_int (fun _ => rfl) rfl (by decide) ?_
  refine w_putR rfl rfl f_Pairing_31 fr_5_5 rfl rfl rfl rfl rfl ?_
  refine w_aload_n rfl rfl ?_
  refine w_sipush (by decide) (by decide) rfl ?_
  refine w_newarray (len := 2304) (t0 := 2) rfl rfl (Or.inr (Or.inr (Or.inl rfl))) rfl ka_boolean (fun _ => rfl) rfl (by decide) ?_
  refine w_putR rfl rfl f_Pairing_34 fr_5_6 rfl rfl rfl rfl rfl ?_
  refine w_aload_n rfl rfl ?_
  refine w_iconst rfl ?_
  refine w_putI rfl f_Pairing_38 fw_5_7 rfl rfl rfl ?_
  exact w_vret rfl rfl ⟨rfl, rfl, rfl, rfl⟩
set_option maxRecDepth 20000 in
theorem i_Trail_init {d : Nat} {rf : RF} {h : St} : mwp (d + 1) m_Trail_init [vR 75] 76 rf h 77 (fun r rf2 h2 => r = none ∧ rf2 = rfS (rf) 75 0 ∧ h2 = zr (h) 76) := by
  refine mwp_intro b_Trail_init.1 (by decide) (by decide) rfl ?_
  refine w_aload_n rfl rfl ?_
  refine w_objInit rfl k_Trail_3 rfl rfl ?_
  refine w_aload_n rfl rfl ?_
  refine w_bipush (by decide) (by decide) rfl ?_
  refine w_newarray (len := 12) (t0 := 0) rfl rfl (Or.inl rfl) rfl ka_int (fun _ => rfl) rfl (by decide) ?_
  refine w_putR rfl rfl f_Trail_9 fr_9_0 rfl rfl rfl rfl rfl ?_
  exact w_vret rfl rfl ⟨rfl, rfl, rfl, rfl⟩
set_option maxRecDepth 20000 in
theorem i_Orders_init {d : Nat} {rf : RF} {h : St} : mwp (d + 1) m_Orders_init [vR 77] 78 rf h 79 (fun r rf2 h2 => r = none ∧ rf2 = rfS (rf) 77 1 ∧ h2 = zr (up (h) 77 0 2) 78) := by
  refine mwp_intro b_Orders_init.1 (by decide) (by decide) rfl ?_
  refine w_aload_n rfl rfl ?_
  refine w_objInit rfl k_Orders_3 rfl rfl ?_
  refine w_aload_n rfl rfl ?_
  refine w_iconst rfl ?_
  refine w_putI rfl f_Orders_9 fw_4_0 rfl rfl rfl ?_
  refine w_aload_n rfl rfl ?_
  refine w_sipush (by decide) (by decide) rfl ?_
  refine w_newarray (len := 144) (t0 := 0) rfl rfl (Or.inl rfl) rfl ka_int (fun _ => rfl) rfl (by decide) ?_
  refine w_putR rfl rfl f_Orders_15 fr_4_1 rfl rfl rfl rfl rfl ?_
  exact w_vret rfl rfl ⟨rfl, rfl, rfl, rfl⟩
set_option maxRecDepth 20000 in
theorem i_Tree_init {d : Nat} {rf : RF} {h : St} : mwp (d + 1) m_Tree_init [vR 79] 80 rf h 85 (fun r rf2 h2 => r = none ∧ rf2 = rfS (rfS (rfS (rfS (rfS (rf) 79 2) 79 3) 79 4) 79 5) 79 6 ∧ h2 = up (zr (zr (zr (zr (zr (up (up (h) 79 0 0) 79 1 0) 80) 81) 82) 83) 84) 79 7 0) := by
  refine mwp_intro b_Tree_init.1 (by decide) (by decide) rfl ?_
  refine w_aload_n rfl rfl ?_
  refine w_objInit rfl k_Tree_3 rfl rfl ?_
  refine w_aload_n rfl rfl ?_
  refine w_iconst rfl ?_
  refine w_putI rfl f_Tree_9 fw_10_0 rfl rfl rfl ?_
  refine w_aload_n rfl rfl ?_
  refine w_iconst rfl ?_
  refine w_putI rfl f_Tree_15 fw_10_1 rfl rfl rfl ?_
  refine w_aload_n rfl rfl ?_
  refine w_bipush (by decide) (by decide) rfl ?_
  refine w_newarray (len := 6) (t0 := 0) rfl rfl (Or.inl rfl) rfl ka_int (fun _ => rfl) rfl (by decide) ?_
  refine w_putR rfl rfl f_Tree_18 fr_10_2 rfl rfl rfl rfl rfl ?_
  refine w_aload_n rfl rfl ?_
  refine w_bipush (by decide) (by decide) rfl ?_
  refine w_newarray (len := 36) (t0 := 0) rfl rfl (Or.inl rfl) rfl ka_int (fun _ => rfl) rfl (by decide) ?_
  refine w_putR rfl rfl f_Tree_22 fr_10_3 rfl rfl rfl rfl rfl ?_
  refine w_aload_n rfl rfl ?_
  refine w_bipush (by decide) (by decide) rfl ?_
  refine w_newarray (len := 7) (t0 := 0) rfl rfl (Or.inl rfl) rfl ka_int (fun _ => rfl) rfl (by decide) ?_
  refine w_putR rfl rfl f_Tree_25 fr_10_4 rfl rfl rfl rfl rfl ?_
  refine w_aload_n rfl rfl ?_
  refine w_bipush (by decide) (by decide) rfl ?_
  refine w_newarray (len := 6) (t0 := 0) rfl rfl (Or.inl rfl) rfl ka_int (fun _ => rfl) rfl (by decide) ?_
  refine w_putR rfl rfl f_Tree_28 fr_10_5 rfl rfl rfl rfl rfl ?_
  refine w_aload_n rfl rfl ?_
  refine w_bipush (by decide) (by decide) rfl ?_
  refine w_newarray (len := 6) (t0 := 0) rfl rfl (Or.inl rfl) rfl ka_int (fun _ => rfl) rfl (by decide) ?_
  refine w_putR rfl rfl f_Tree_31 fr_10_6 rfl rfl rfl rfl rfl ?_
  refine w_aload_n rfl rfl ?_
  refine w_iconst rfl ?_
  refine w_putI rfl f_Tree_34 fw_10_7 rfl rfl rfl ?_
  exact w_vret rfl rfl ⟨rfl, rfl, rfl, rfl⟩
set_option maxRecDepth 20000 in
theorem i_Places_init {d : Nat} {rf : RF} {h : St} : mwp (d + 1) m_Places_init [vR 85] 86 rf h 96 (fun r rf2 h2 => r = none ∧ rf2 = rfS (rfS (rfS (rfS (rfS (rfS (rfS (rfS (rfS (rfS (rf) 85 0) 85 1) 85 2) 85 3) 85 4) 85 5) 85 6) 85 7) 85 9) 85 10 ∧ h2 = zr (zr (up (zr (zr (zr (zr (zr (zr (zr (zr (h) 86) 87) 88) 89) 90) 91) 92) 93) 85 8 0) 94) 95) := by
  refine mwp_intro b_Places_init.1 (by decide) (by decide) rfl ?_
  refine w_aload_n rfl rfl ?_
  refine w_objInit rfl k_Places_5 rfl rfl ?_
  refine w_aload_n rfl rfl ?_
  refine w_iconst rfl ?_
  refine w_newarray (len := 4) (t0 := 0) rfl rfl (Or.inl rfl) rfl ka_int (fun _ => rfl) rfl (by decide) ?_
  refine w_putR rfl rfl f_Places_11 fr_6_0 rfl rfl rfl rfl rfl ?_
  refine w_aload_n rfl rfl ?_
  refine w_iconst rfl ?_
  refine w_newarray (len := 4) (t0 := 0) rfl rfl (Or.inl rfl) rfl ka_int (fun _ => rfl) rfl (by decide) ?_
  refine w_putR rfl rfl f_Places_15 fr_6_1 rfl rfl rfl rfl rfl ?_
  refine w_aload_n rfl rfl ?_
  refine w_bipush (by decide) (by decide) rfl ?_
  refine w_newarray (len := 40) (t0 := 0) rfl rfl (Or.inl rfl) rfl ka_int (fun _ => rfl) rfl (by decide) ?_
  refine w_putR rfl rfl f_Places_18 fr_6_2 rfl rfl rfl rfl rfl ?_
  refine w_aload_n rfl rfl ?_
  refine w_bipush (by decide) (by decide) rfl ?_
  refine w_newarray (len := 40) (t0 := 0) rfl rfl (Or.inl rfl) rfl ka_int (fun _ => rfl) rfl (by decide) ?_
  refine w_putR rfl rfl f_Places_21 fr_6_3 rfl rfl rfl rfl rfl ?_
  refine w_aload_n rfl rfl ?_
  refine w_bipush (by decide) (by decide) rfl ?_
  refine w_newarray (len := 40) (t0 := 0) rfl rfl (Or.inl rfl) rfl ka_int (fun _ => rfl) rfl (by decide) ?_
  refine w_putR rfl rfl f_Places_24 fr_6_4 rfl rfl rfl rfl rfl ?_
  refine w_aload_n rfl rfl ?_
  refine w_bipush (by decide) (by decide) rfl ?_
  refine w_newarray (len := 40) (t0 := 0) rfl rfl (Or.inl rfl) rfl ka_int (fun _ => rfl) rfl (by decide) ?_
  refine w_putR rfl rfl f_Places_27 fr_6_5 rfl rfl rfl rfl rfl ?_
  refine w_aload_n rfl rfl ?_
  refine w_bipush (by decide) (by decide) rfl ?_
  refine w_newarray (len := 40) (t0 := 0) rfl rfl (Or.inl rfl) rfl ka_int (fun _ => rfl) rfl (by decide) ?_
  refine w_putR rfl rfl f_Places_30 fr_6_6 rfl rfl rfl rfl rfl ?_
  refine w_aload_n rfl rfl ?_
  refine w_bipush (by decide) (by decide) rfl ?_
  refine w_newarray (len := 40) (t0 := 0) rfl rfl (Or.inl rfl) rfl ka_int (fun _ => rfl) rfl (by decide) ?_
  refine w_putR rfl rfl f_Places_33 fr_6_7 rfl rfl rfl rfl rfl ?_
  refine w_aload_n rfl rfl ?_
  refine w_iconst rfl ?_
  refine w_putI rfl f_Places_36 fw_6_8 rfl rfl rfl ?_
  refine w_aload_n rfl rfl ?_
  refine w_bipush (by decide) (by decide) rfl ?_
  refine w_newarray (len := 16) (t0 := 0) rfl rfl (Or.inl rfl) rfl ka_int (fun _ => rfl) rfl (by decide) ?_
  refine w_putR rfl rfl f_Places_40 fr_6_9 rfl rfl rfl rfl rfl ?_
  refine w_aload_n rfl rfl ?_
  refine w_bipush (by decide) (by decide) rfl ?_
  refine w_newarray (len := 16) (t0 := 0) rfl rfl (Or.inl rfl) rfl ka_int (fun _ => rfl) rfl (by decide) ?_
  refine w_putR rfl rfl f_Places_43 fr_6_10 rfl rfl rfl rfl rfl ?_
  exact w_vret rfl rfl ⟨rfl, rfl, rfl, rfl⟩
set_option maxRecDepth 20000 in
theorem i_Silence_init {d : Nat} {rf : RF} {h : St} : mwp (d + 1) m_Silence_init [vR 96] 97 rf h 103 (fun r rf2 h2 => r = none ∧ rf2 = rfS (rfS (rfS (rfS (rfS (rfS (rf) 96 2) 96 3) 96 4) 96 5) 96 6) 96 7 ∧ h2 = zr (zr (zr (zr (zr (zr (up (up (h) 96 0 0) 96 1 0) 97) 98) 99) 100) 101) 102) := by
  refine mwp_intro b_Silence_init.1 (by decide) (by decide) rfl ?_
  refine w_aload_n rfl rfl ?_
  refine w_objInit rfl k_Silence_3 rfl rfl ?_
  refine w_aload_n rfl rfl ?_
  refine w_iconst rfl ?_
  refine w_putI rfl f_Silence_9 fw_8_0 rfl rfl rfl ?_
  refine w_aload_n rfl rfl ?_
  refine w_iconst rfl ?_
  refine w_putI rfl f_Silence_15 fw_8_1 rfl rfl rfl ?_
  refine w_aload_n rfl rfl ?_
  refine w_bipush (by decide) (by decide) rfl ?_
  refine w_newarray (len := 20) (t0 := 0) rfl rfl (Or.inl rfl) rfl ka_int (fun _ => rfl) rfl (by decide) ?_
  refine w_putR rfl rfl f_Silence_18 fr_8_2 rfl rfl rfl rfl rfl ?_
  refine w_aload_n rfl rfl ?_
  refine w_bipush (by decide) (by decide) rfl ?_
  refine w_newarray (len := 20) (t0 := 0) rfl rfl (Or.inl rfl) rfl ka_int (fun _ => rfl) rfl (by decide) ?_
  refine w_putR rfl rfl f_Silence_22 fr_8_3 rfl rfl rfl rfl rfl ?_
  refine w_aload_n rfl rfl ?_
  refine w_bipush (by decide) (by decide) rfl ?_
  refine w_newarray (len := 20) (t0 := 0) rfl rfl (Or.inl rfl) rfl ka_int (fun _ => rfl) rfl (by decide) ?_
  refine w_putR rfl rfl f_Silence_25 fr_8_4 rfl rfl rfl rfl rfl ?_
  refine w_aload_n rfl rfl ?_
  refine w_bipush (by decide) (by decide) rfl ?_
  refine w_newarray (len := 10) (t0 := 0) rfl rfl (Or.inl rfl) rfl ka_int (fun _ => rfl) rfl (by decide) ?_
  refine w_putR rfl rfl f_Silence_28 fr_8_5 rfl rfl rfl rfl rfl ?_
  refine w_aload_n rfl rfl ?_
  refine w_sipush (by decide) (by decide) rfl ?_
  refine w_newarray (len := 480) (t0 := 0) rfl rfl (Or.inl rfl) rfl ka_int (fun _ => rfl) rfl (by decide) ?_
  refine w_putR rfl rfl f_Silence_31 fr_8_6 rfl rfl rfl rfl rfl ?_
  refine w_aload_n rfl rfl ?_
  refine w_sipush (by decide) (by decide) rfl ?_
  refine w_newarray (len := 480) (t0 := 0) rfl rfl (Or.inl rfl) rfl ka_int (fun _ => rfl) rfl (by decide) ?_
  refine w_putR rfl rfl f_Silence_34 fr_8_7 rfl rfl rfl rfl rfl ?_
  exact w_vret rfl rfl ⟨rfl, rfl, rfl, rfl⟩
set_option maxRecDepth 20000 in
theorem i_Links_init {d : Nat} {rf : RF} {h : St} : mwp (d + 1) m_Links_init [vR 103] 104 rf h 105 (fun r rf2 h2 => r = none ∧ rf2 = rfS (rf) 103 1 ∧ h2 = zr (up (h) 103 0 0) 104) := by
  refine mwp_intro b_Links_init.1 (by decide) (by decide) rfl ?_
  refine w_aload_n rfl rfl ?_
  refine w_objInit rfl k_Links_3 rfl rfl ?_
  refine w_aload_n rfl rfl ?_
  refine w_iconst rfl ?_
  refine w_putI rfl f_Links_9 fw_3_0 rfl rfl rfl ?_
  refine w_aload_n rfl rfl ?_
  refine w_sipush (by decide) (by decide) rfl ?_
  refine w_newarray (len := 144) (t0 := 0) rfl rfl (Or.inl rfl) rfl ka_int (fun _ => rfl) rfl (by decide) ?_
  refine w_putR rfl rfl f_Links_15 fr_3_1 rfl rfl rfl rfl rfl ?_
  exact w_vret rfl rfl ⟨rfl, rfl, rfl, rfl⟩
set_option maxRecDepth 20000 in
theorem i_C_init {d : Nat} {rf : RF} {h : St} : mwp (d + 3) m_C_init [vR 0] 1 rf h 109 (fun r rf2 h2 => r = none ∧ rf2 = rfS (rfS (rfS (rfS (rfS (rfS ((rfC (rfS (rfS (rfS (rfS (rfS (rfS (rfS ((rfC (rfS (rfS (rfS (rfS (rfS (rfS (rfS (rfS (rfS (rfS (rfS ((rfC (rfS (rfS (rfS (rfS (rfS (rfS ((rfC (rfS (rfS ((rfC (rfS (rfS ((rfC (rfS (rfS (rfS (rfS (rfS (rfS (rfS (rfS (rfS (rfS (rfS ((rfC (rfS (rfS (rfS (rfS (rfS ((rfC ((rfC (rfS (rfS ((rfC (rfS (rfS (rfS (rfS (rfS (rfS (rfS (rfS (rfS ((rfC (rfS (rfS (rfS (rfS (rfS (rfS (rfS ((rfC (rf) 1)) 1 0) 1 1) 1 2) 1 3) 1 4) 1 5) 0 0) 8)) 8 0) 8 2) 8 3) 8 4) 8 5) 8 6) 8 10) 8 11) 0 1) 57)) 57 2) 0 2) 59)) 60)) 60 0) 60 2) 60 3) 60 4) 59 0) 65)) 65 0) 65 2) 65 3) 65 4) 59 1) 59 2) 59 3) 59 4) 59 5) 59 6) 0 3) 75)) 75 0) 0 4) 77)) 77 1) 0 5) 79)) 79 2) 79 3) 79 4) 79 5) 79 6) 0 6) 85)) 85 0) 85 1) 85 2) 85 3) 85 4) 85 5) 85 6) 85 7) 85 9) 85 10) 0 7) 96)) 96 2) 96 3) 96 4) 96 5) 96 6) 96 7) 0 8) 103)) 103 1) 0 9) 0 10) 0 11) 0 12) 0 13 ∧ h2 = up (zr (zr (zr (zr (zr (up ((zr (zr (zr (zr (zr (zr (zr (up (up ((zr (zr (zr (up (zr (zr (zr (zr (zr (zr (zr (zr ((zr (up (zr (zr (zr (zr (zr (up (up ((zr (zr (up ((zr (zr ((zr (up (zr (zr (zr (zr (zr (zr (zr (zr (up (zr ((zr (zr (zr (zr (up (zr ((zr ((zr (zr (up (up ((zr (bkf (up (zr (zr (up (up (up (zr (zr (zr (zr (zr (up (zr ((zr (up (zr (zr (zr (zr (zr (zr ((zr (h) 1)) 2) 3) 4) 5) 6) 7) 1 6 0) 8)) 9) 8 1 0) 10) 11) 12) 13) 14) 8 7 0) 8 8 0) 8 9 0) 15) 36) 8 12 0) 20) 57)) 57 0 3) 57 1 0) 58) 59)) 60)) 61) 60 1 0) 62) 63) 64) 65)) 66) 65 1 0) 67) 68) 69) 70) 71) 72) 73) 74) 59 7 0) 75)) 76) 77)) 77 0 2) 78) 79)) 79 0 0) 79 1 0) 80) 81) 82) 83) 84) 79 7 0) 85)) 86) 87) 88) 89) 90) 91) 92) 93) 85 8 0) 94) 95) 96)) 96 0 0) 96 1 0) 97) 98) 99) 100) 101) 102) 103)) 103 0 0) 104) 105) 106) 107) 108) 0 14 0) := by
  refine mwp_intro b_C_init.1 (by decide) (by decide) rfl ?_
  refine w_aload_n rfl rfl ?_
  refine w_objInit rfl k_C_1 rfl rfl ?_
  refine w_aload_n rfl rfl ?_
  refine w_new (ty := tyX1) rfl kl_C_7 ki_CallLog.1 ki_CallLog.2 rfl rfl rfl tyX1_ok (by decide +kernel) rfl ?_
  refine w_dup rfl rfl ?_
  refine w_callIN rfl b_CallLog_init rfl rfl k_C_9 rfl rfl rfl rfl (i_CallLog_init (rf := _) (h := _)) (fun r9 rf9 h9 hk9 => ?_)
  obtain ⟨rfl, rfl, rfl⟩ := hk9
  refine w_putR rfl rfl f_C_10 fr_11_0 rfl rfl rfl rfl rfl ?_
  refine w_aload_n rfl rfl ?_
  refine w_new (ty := tyX0) rfl kl_C_16 ki_Book.1 ki_Book.2 rfl rfl rfl tyX0_ok (by decide +kernel) rfl ?_
  refine w_dup rfl rfl ?_
  refine w_callI rfl b_Book_init rfl rfl k_C_18 rfl rfl rfl rfl (i_Book_init (rf := _) (h := _)) (fun r9 rf9 h9 hk9 => ?_)
  obtain ⟨rfl, rfl, rfl⟩ := hk9
  refine w_putR rfl rfl f_C_19 fr_11_1 rfl rfl rfl rfl rfl ?_
  refine w_aload_n rfl rfl ?_
  refine w_new (ty := tyX2) rfl kl_C_23 ki_Hands.1 ki_Hands.2 rfl rfl rfl tyX2_ok (by decide +kernel) rfl ?_
  refine w_dup rfl rfl ?_
  refine w_callIN rfl b_Hands_init rfl rfl k_C_25 rfl rfl rfl rfl (i_Hands_init (rf := _) (h := _)) (fun r9 rf9 h9 hk9 => ?_)
  obtain ⟨rfl, rfl, rfl⟩ := hk9
  refine w_putR rfl rfl f_C_26 fr_11_2 rfl rfl rfl rfl rfl ?_
  refine w_aload_n rfl rfl ?_
  refine w_new (ty := tyX5) rfl kl_C_30 ki_Pairing.1 ki_Pairing.2 rfl rfl rfl tyX5_ok (by decide +kernel) rfl ?_
  refine w_dup rfl rfl ?_
  refine w_callIN rfl b_Pairing_init rfl rfl k_C_32 rfl rfl rfl rfl (i_Pairing_init (rf := _) (h := _)) (fun r9 rf9 h9 hk9 => ?_)
  obtain ⟨rfl, rfl, rfl⟩ := hk9
  refine w_putR rfl rfl f_C_33 fr_11_3 rfl rfl rfl rfl rfl ?_
  refine w_aload_n rfl rfl ?_
  refine w_new (ty := tyX9) rfl kl_C_37 ki_Trail.1 ki_Trail.2 rfl rfl rfl tyX9_ok (by decide +kernel) rfl ?_
  refine w_dup rfl rfl ?_
  refine w_callIN rfl b_Trail_init rfl rfl k_C_39 rfl rfl rfl rfl (i_Trail_init (rf := _) (h := _)) (fun r9 rf9 h9 hk9 => ?_)
  obtain ⟨rfl, rfl, rfl⟩ := hk9
  refine w_putR rfl rfl f_C_40 fr_11_4 rfl rfl rfl rfl rfl ?_
  refine w_aload_n rfl rfl ?_
  refine w_new (ty := tyX4) rfl kl_C_44 ki_Orders.1 ki_Orders.2 rfl rfl rfl tyX4_ok (by decide +kernel) rfl ?_
  refine w_dup rfl rfl ?_
  refine w_callIN rfl b_Orders_init rfl rfl k_C_46 rfl rfl rfl rfl (i_Orders_init (rf := _) (h := _)) (fun r9 rf9 h9 hk9 => ?_)
  obtain ⟨rfl, rfl, rfl⟩ := hk9
  refine w_putR rfl rfl f_C_47 fr_11_5 rfl rfl rfl rfl rfl ?_
  refine w_aload_n rfl rfl ?_
  refine w_new (ty := tyX10) rfl kl_C_51 ki_Tree.1 ki_Tree.2 rfl rfl rfl tyX10_ok (by decide +kernel) rfl ?_
  refine w_dup rfl rfl ?_
  refine w_callIN rfl b_Tree_init rfl rfl k_C_53 rfl rfl rfl rfl (i_Tree_init (rf := _) (h := _)) (fun r9 rf9 h9 hk9 => ?_)
  obtain ⟨rfl, rfl, rfl⟩ := hk9
  refine w_putR rfl rfl f_C_54 fr_11_6 rfl rfl rfl rfl rfl ?_
  refine w_aload_n rfl rfl ?_
  refine w_new (ty := tyX6) rfl kl_C_58 ki_Places.1 ki_Places.2 rfl rfl rfl tyX6_ok (by decide +kernel) rfl ?_
  refine w_dup rfl rfl ?_
  refine w_callIN rfl b_Places_init rfl rfl k_C_60 rfl rfl rfl rfl (i_Places_init (rf := _) (h := _)) (fun r9 rf9 h9 hk9 => ?_)
  obtain ⟨rfl, rfl, rfl⟩ := hk9
  refine w_putR rfl rfl f_C_61 fr_11_7 rfl rfl rfl rfl rfl ?_
  refine w_aload_n rfl rfl ?_
  refine w_new (ty := tyX8) rfl kl_C_65 ki_Silence.1 ki_Silence.2 rfl rfl rfl tyX8_ok (by decide +kernel) rfl ?_
  refine w_dup rfl rfl ?_
  refine w_callIN rfl b_Silence_init rfl rfl k_C_67 rfl rfl rfl rfl (i_Silence_init (rf := _) (h := _)) (fun r9 rf9 h9 hk9 => ?_)
  obtain ⟨rfl, rfl, rfl⟩ := hk9
  refine w_putR rfl rfl f_C_68 fr_11_8 rfl rfl rfl rfl rfl ?_
  refine w_aload_n rfl rfl ?_
  refine w_new (ty := tyX3) rfl kl_C_72 ki_Links.1 ki_Links.2 rfl rfl rfl tyX3_ok (by decide +kernel) rfl ?_
  refine w_dup rfl rfl ?_
  refine w_callIN rfl b_Links_init rfl rfl k_C_74 rfl rfl rfl rfl (i_Links_init (rf := _) (h := _)) (fun r9 rf9 h9 hk9 => ?_)
  obtain ⟨rfl, rfl, rfl⟩ := hk9
  refine w_putR rfl rfl f_C_75 fr_11_9 rfl rfl rfl rfl rfl ?_
  refine w_aload_n rfl rfl ?_
  refine w_iconst rfl ?_
  refine w_newarray (len := 2) (t0 := 0) rfl rfl (Or.inl rfl) rfl ka_int (fun _ => rfl) rfl (by decide) ?_
  refine w_putR rfl rfl f_C_79 fr_11_10 rfl rfl rfl rfl rfl ?_
  refine w_aload_n rfl rfl ?_
  refine w_iconst rfl ?_
  refine w_newarray (len := 2) (t0 := 0) rfl rfl (Or.inl rfl) rfl ka_int (fun _ => rfl) rfl (by decide) ?_
  refine w_putR rfl rfl f_C_83 fr_11_11 rfl rfl rfl rfl rfl ?_
  refine w_aload_n rfl rfl ?_
  refine w_iconst rfl ?_
  refine w_newarray (len := 2) (t0 := 0) rfl rfl (Or.inl rfl) rfl ka_int (fun _ => rfl) rfl (by decide) ?_
  refine w_putR rfl rfl f_C_86 fr_11_12 rfl rfl rfl rfl rfl ?_
  refine w_aload_n rfl rfl ?_
  refine w_iconst rfl ?_
  refine w_newarray (len := 2) (t0 := 0) rfl rfl (Or.inl rfl) rfl ka_int (fun _ => rfl) rfl (by decide) ?_
  refine w_putR rfl rfl f_C_89 fr_11_13 rfl rfl rfl rfl rfl ?_
  refine w_aload_n rfl rfl ?_
  refine w_iconst rfl ?_
  refine w_putI rfl f_C_92 fw_11_14 rfl rfl rfl ?_
  exact w_vret rfl rfl ⟨rfl, rfl, rfl, rfl⟩
set_option maxRecDepth 20000 in
theorem i_M_init {d : Nat} {rf : RF} {h : St} : mwp (d + 1) m_M_init [vR 109] 110 rf h 145 (fun r rf2 h2 => r = none ∧ rf2 = rfS (rfS (rfS (rfS (rfS (rfS (rfS (rfS (rfS (rfS (rfS (rfS (rfS (rfS (rfS (rfS (rfS (rfS (rfS (rfS (rfS (rfS (rfS (rfS (rfS (rfS (rfS (rfS (rfS (rfS (rfS (rfS (rfS (rfS (rfS (rf) 109 0) 109 1) 109 2) 109 3) 109 4) 109 5) 109 6) 109 7) 109 8) 109 9) 109 10) 109 11) 109 12) 109 16) 109 17) 109 19) 109 21) 109 24) 109 25) 109 26) 109 27) 109 28) 109 31) 109 32) 109 33) 109 34) 109 35) 109 37) 109 38) 109 39) 109 40) 109 41) 109 43) 109 44) 109 45 ∧ h2 = fillC (zr (zr (zr (zr (zr (zr (zr (zr (zr (zr (zr (zr (zr (zr (zr (zr (zr (zr (zr (zr (zr (zr (up (up (zr (zr (zr (zr (zr (zr (zr (zr (zr (zr (zr (zr (zr (h) 110) 111) 112) 113) 114) 115) 116) 117) 118) 119) 120) 121) 122) 109 14 3) 109 15 2) 123) 124) 125) 126) 127) 128) 129) 130) 131) 132) 133) 134) 135) 136) 137) 138) 139) 140) 141) 142) 143) 144) 126 240 (-4)) := by
  refine mwp_intro b_M_init.1 (by decide) (by decide) rfl ?_
  refine w_aload_n rfl rfl ?_
  refine w_objInit rfl k_M_1 rfl rfl ?_
  refine w_aload_n rfl rfl ?_
  refine w_iconst rfl ?_
  refine w_newarray (len := 3) (t0 := 0) rfl rfl (Or.inl rfl) rfl ka_int (fun _ => rfl) rfl (by decide) ?_
  refine w_putR rfl rfl f_M_7 fr_12_0 rfl rfl rfl rfl rfl ?_
  refine w_aload_n rfl rfl ?_
  refine w_sipush (by decide) (by decide) rfl ?_
  refine w_newarray (len := 180) (t0 := 0) rfl rfl (Or.inl rfl) rfl ka_int (fun _ => rfl) rfl (by decide) ?_
  refine w_putR rfl rfl f_M_13 fr_12_1 rfl rfl rfl rfl rfl ?_
  refine w_aload_n rfl rfl ?_
  refine w_sipush (by decide) (by decide) rfl ?_
  refine w_newarray (len := 180) (t0 := 0) rfl rfl (Or.inl rfl) rfl ka_int (fun _ => rfl) rfl (by decide) ?_
  refine w_putR rfl rfl f_M_16 fr_12_2 rfl rfl rfl rfl rfl ?_
  refine w_aload_n rfl rfl ?_
  refine w_sipush (by decide) (by decide) rfl ?_
  refine w_newarray (len := 180) (t0 := 0) rfl rfl (Or.inl rfl) rfl ka_int (fun _ => rfl) rfl (by decide) ?_
  refine w_putR rfl rfl f_M_19 fr_12_3 rfl rfl rfl rfl rfl ?_
  refine w_aload_n rfl rfl ?_
  refine w_sipush (by decide) (by decide) rfl ?_
  refine w_newarray (len := 180) (t0 := 0) rfl rfl (Or.inl rfl) rfl ka_int (fun _ => rfl) rfl (by decide) ?_
  refine w_putR rfl rfl f_M_22 fr_12_4 rfl rfl rfl rfl rfl ?_
  refine w_aload_n rfl rfl ?_
  refine w_sipush (by decide) (by decide) rfl ?_
  refine w_newarray (len := 180) (t0 := 0) rfl rfl (Or.inl rfl) rfl ka_int (fun _ => rfl) rfl (by decide) ?_
  refine w_putR rfl rfl f_M_25 fr_12_5 rfl rfl rfl rfl rfl ?_
  refine w_aload_n rfl rfl ?_
  refine w_sipush (by decide) (by decide) rfl ?_
  refine w_newarray (len := 180) (t0 := 0) rfl rfl (Or.inl rfl) rfl ka_int (fun _ => rfl) rfl (by decide) ?_
  refine w_putR rfl rfl f_M_28 fr_12_6 rfl rfl rfl rfl rfl ?_
  refine w_aload_n rfl rfl ?_
  refine w_iconst rfl ?_
  refine w_newarray (len := 3) (t0 := 0) rfl rfl (Or.inl rfl) rfl ka_int (fun _ => rfl) rfl (by decide) ?_
  refine w_putR rfl rfl f_M_31 fr_12_7 rfl rfl rfl rfl rfl ?_
  refine w_aload_n rfl rfl ?_
  refine w_sipush (by decide) (by decide) rfl ?_
  refine w_newarray (len := 720) (t0 := 0) rfl rfl (Or.inl rfl) rfl ka_int (fun _ => rfl) rfl (by decide) ?_
  refine w_putR rfl rfl f_M_34 fr_12_8 rfl rfl rfl rfl rfl ?_
  refine w_aload_n rfl rfl ?_
  refine w_iconst rfl ?_
  refine w_newarray (len := 3) (t0 := 0) rfl rfl (Or.inl rfl) rfl ka_int (fun _ => rfl) rfl (by decide) ?_
  refine w_putR rfl rfl f_M_37 fr_12_9 rfl rfl rfl rfl rfl ?_
  refine w_aload_n rfl rfl ?_
  refine w_sipush (by decide) (by decide) rfl ?_
  refine w_newarray (len := 180) (t0 := 0) rfl rfl (Or.inl rfl) rfl ka_int (fun _ => rfl) rfl (by decide) ?_
  refine w_putR rfl rfl f_M_40 fr_12_10 rfl rfl rfl rfl rfl ?_
  refine w_aload_n rfl rfl ?_
  refine w_iconst rfl ?_
  refine w_newarray (len := 3) (t0 := 0) rfl rfl (Or.inl rfl) rfl ka_int (fun _ => rfl) rfl (by decide) ?_
  refine w_putR rfl rfl f_M_43 fr_12_11 rfl rfl rfl rfl rfl ?_
  refine w_aload_n rfl rfl ?_
  refine w_bipush (by decide) (by decide) rfl ?_
  refine w_newarray (len := 30) (t0 := 0) rfl rfl (Or.inl rfl) rfl ka_int (fun _ => rfl) rfl (by decide) ?_
  refine w_putR rfl rfl f_M_46 fr_12_12 rfl rfl rfl rfl rfl ?_
  refine w_aload_n rfl rfl ?_
  refine w_iconst rfl ?_
  refine w_putI rfl f_M_49 fw_12_14 rfl rfl rfl ?_
  refine w_aload_n rfl rfl ?_
  refine w_iconst rfl ?_
  refine w_putI rfl f_M_53 fw_12_15 rfl rfl rfl ?_
  refine w_aload_n rfl rfl ?_
  refine w_iconst rfl ?_
  refine w_newarray (len := 4) (t0 := 0) rfl rfl (Or.inl rfl) rfl ka_int (fun _ => rfl) rfl (by decide) ?_
  refine w_putR rfl rfl f_M_56 fr_12_16 rfl rfl rfl rfl rfl ?_
  refine w_aload_n rfl rfl ?_
  refine w_iconst rfl ?_
  refine w_newarray (len := 4) (t0 := 0) rfl rfl (Or.inl rfl) rfl ka_int (fun _ => rfl) rfl (by decide) ?_
  refine w_putR rfl rfl f_M_59 fr_12_17 rfl rfl rfl rfl rfl ?_
  refine w_aload_n rfl rfl ?_
  refine w_sipush (by decide) (by decide) rfl ?_
  refine w_newarray (len := 200) (t0 := 1) rfl rfl (Or.inr (Or.inl rfl)) rfl ka_byte (fun _ => rfl) rfl (by decide) ?_
  refine w_putR rfl rfl f_M_62 fr_12_19 rfl rfl rfl rfl rfl ?_
  refine w_aload_n rfl rfl ?_
  refine w_sipush (by decide) (by decide) rfl ?_
  refine w_newarray (len := 240) (t0 := 0) rfl rfl (Or.inl rfl) rfl ka_int (fun _ => rfl) rfl (by decide) ?_
  refine w_putR rfl rfl f_M_66 fr_12_21 rfl rfl rfl rfl rfl ?_
  refine w_aload_n rfl rfl ?_
  refine w_bipush (by decide) (by decide) rfl ?_
  refine w_newarray (len := 50) (t0 := 0) rfl rfl (Or.inl rfl) rfl ka_int (fun _ => rfl) rfl (by decide) ?_
  refine w_putR rfl rfl f_M_69 fr_12_24 rfl rfl rfl rfl rfl ?_
  refine w_aload_n rfl rfl ?_
  refine w_bipush (by decide) (by decide) rfl ?_
  refine w_newarray (len := 50) (t0 := 0) rfl rfl (Or.inl rfl) rfl ka_int (fun _ => rfl) rfl (by decide) ?_
  refine w_putR rfl rfl f_M_72 fr_12_25 rfl rfl rfl rfl rfl ?_
  refine w_aload_n rfl rfl ?_
  refine w_bipush (by decide) (by decide) rfl ?_
  refine w_newarray (len := 50) (t0 := 0) rfl rfl (Or.inl rfl) rfl ka_int (fun _ => rfl) rfl (by decide) ?_
  refine w_putR rfl rfl f_M_75 fr_12_26 rfl rfl rfl rfl rfl ?_
  refine w_aload_n rfl rfl ?_
  refine w_bipush (by decide) (by decide) rfl ?_
  refine w_newarray (len := 50) (t0 := 0) rfl rfl (Or.inl rfl) rfl ka_int (fun _ => rfl) rfl (by decide) ?_
  refine w_putR rfl rfl f_M_78 fr_12_27 rfl rfl rfl rfl rfl ?_
  refine w_aload_n rfl rfl ?_
  refine w_bipush (by decide) (by decide) rfl ?_
  refine w_newarray (len := 60) (t0 := 0) rfl rfl (Or.inl rfl) rfl ka_int (fun _ => rfl) rfl (by decide) ?_
  refine w_putR rfl rfl f_M_81 fr_12_28 rfl rfl rfl rfl rfl ?_
  refine w_aload_n rfl rfl ?_
  refine w_bipush (by decide) (by decide) rfl ?_
  refine w_newarray (len := 12) (t0 := 0) rfl rfl (Or.inl rfl) rfl ka_int (fun _ => rfl) rfl (by decide) ?_
  refine w_putR rfl rfl f_M_84 fr_12_31 rfl rfl rfl rfl rfl ?_
  refine w_aload_n rfl rfl ?_
  refine w_bipush (by decide) (by decide) rfl ?_
  refine w_newarray (len := 12) (t0 := 0) rfl rfl (Or.inl rfl) rfl ka_int (fun _ => rfl) rfl (by decide) ?_
  refine w_putR rfl rfl f_M_87 fr_12_32 rfl rfl rfl rfl rfl ?_
  refine w_aload_n rfl rfl ?_
  refine w_bipush (by decide) (by decide) rfl ?_
  refine w_newarray (len := 64) (t0 := 0) rfl rfl (Or.inl rfl) rfl ka_int (fun _ => rfl) rfl (by decide) ?_
  refine w_putR rfl rfl f_M_90 fr_12_33 rfl rfl rfl rfl rfl ?_
  refine w_aload_n rfl rfl ?_
  refine w_sipush (by decide) (by decide) rfl ?_
  refine w_newarray (len := 2304) (t0 := 0) rfl rfl (Or.inl rfl) rfl ka_int (fun _ => rfl) rfl (by decide) ?_
  refine w_putR rfl rfl f_M_93 fr_12_34 rfl rfl rfl rfl rfl ?_
  refine w_aload_n rfl rfl ?_
  refine w_bipush (by decide) (by decide) rfl ?_
  refine w_newarray (len := 8) (t0 := 0) rfl rfl (Or.inl rfl) rfl ka_int (fun _ => rfl) rfl (by decide) ?_
  refine w_putR rfl rfl f_M_96 fr_12_35 rfl rfl rfl rfl rfl ?_
  refine w_aload_n rfl rfl ?_
  refine w_bipush (by decide) (by decide) rfl ?_
  refine w_newarray (len := 12) (t0 := 0) rfl rfl (Or.inl rfl) rfl ka_int (fun _ => rfl) rfl (by decide) ?_
  refine w_putR rfl rfl f_M_99 fr_12_37 rfl rfl rfl rfl rfl ?_
  refine w_aload_n rfl rfl ?_
  refine w_bipush (by decide) (by decide) rfl ?_
  refine w_newarray (len := 36) (t0 := 0) rfl rfl (Or.inl rfl) rfl ka_int (fun _ => rfl) rfl (by decide) ?_
  refine w_putR rfl rfl f_M_102 fr_12_38 rfl rfl rfl rfl rfl ?_
  refine w_aload_n rfl rfl ?_
  refine w_bipush (by decide) (by decide) rfl ?_
  refine w_newarray (len := 6) (t0 := 0) rfl rfl (Or.inl rfl) rfl ka_int (fun _ => rfl) rfl (by decide) ?_
  refine w_putR rfl rfl f_M_105 fr_12_39 rfl rfl rfl rfl rfl ?_
  refine w_aload_n rfl rfl ?_
  refine w_bipush (by decide) (by decide) rfl ?_
  refine w_newarray (len := 6) (t0 := 0) rfl rfl (Or.inl rfl) rfl ka_int (fun _ => rfl) rfl (by decide) ?_
  refine w_putR rfl rfl f_M_108 fr_12_40 rfl rfl rfl rfl rfl ?_
  refine w_aload_n rfl rfl ?_
  refine w_bipush (by decide) (by decide) rfl ?_
  refine w_newarray (len := 6) (t0 := 0) rfl rfl (Or.inl rfl) rfl ka_int (fun _ => rfl) rfl (by decide) ?_
  refine w_putR rfl rfl f_M_111 fr_12_41 rfl rfl rfl rfl rfl ?_
  refine w_aload_n rfl rfl ?_
  refine w_sipush (by decide) (by decide) rfl ?_
  refine w_newarray (len := 256) (t0 := 2) rfl rfl (Or.inr (Or.inr (Or.inl rfl))) rfl ka_boolean (fun _ => rfl) rfl (by decide) ?_
  refine w_putR rfl rfl f_M_114 fr_12_43 rfl rfl rfl rfl rfl ?_
  refine w_aload_n rfl rfl ?_
  refine w_sipush (by decide) (by decide) rfl ?_
  refine w_newarray (len := 256) (t0 := 2) rfl rfl (Or.inr (Or.inr (Or.inl rfl))) rfl ka_boolean (fun _ => rfl) rfl (by decide) ?_
  refine w_putR rfl rfl f_M_118 fr_12_44 rfl rfl rfl rfl rfl ?_
  refine w_aload_n rfl rfl ?_
  refine w_sipush (by decide) (by decide) rfl ?_
  refine w_newarray (len := 144) (t0 := 0) rfl rfl (Or.inl rfl) rfl ka_int (fun _ => rfl) rfl (by decide) ?_
  refine w_putR rfl rfl f_M_121 fr_12_45 rfl rfl rfl rfl rfl ?_
  exact mod_loop (d := d) rfl ⟨rfl, rfl, rfl, rfl⟩
