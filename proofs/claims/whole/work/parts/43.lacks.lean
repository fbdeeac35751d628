theorem s_CallLog_isFromOn_0 {d : Nat}  (x1 x2 x3 x4 : Int) (h : St) (K : Int → St → Prop) (F : (0 ≤ x1 ∧ x1 < 60) ∧ (inR (h 2 x1.toNat)) ∧ (inR x2) ∧ (((h 2 x1.toNat) ≠ x2 → (K 0 h)) ∧ (¬ ((h 2 x1.toNat) ≠ x2) → (mwpI (d + 1) m_CallLog_isOn [vR 1, vI x1, vI x3, vI x4] h (fun z5 h5 => (((inR z5))) ∧ (K (b2i (¬ (z5 = 0))) h5)))))) : wI (d + 1) m_CallLog_isFromOn 0 [(0, vR 1), (1, vI x1), (2, vI x2), (3, vI x3), (4, vI x4)] [] h K := by
  refine w_aload_n rfl rfl ?_
  refine w_getR rfl f_CallLog_11 rfl rfl rfl rfl rfl ?_
  refine w_iload_n rfl rfl ?_
  obtain ⟨b1, F⟩ := F
  refine w_iaload rfl rfl rfl b1 ?_
  refine w_iload_n rfl rfl ?_
  obtain ⟨b2, F⟩ := F
  obtain ⟨b3, F⟩ := F
  refine w_icmp_ne (tgt := 25) rfl (by decide) ⟨b2, b3⟩ (fun q4 => ?_) (fun q4 => ?_)
  · replace F := F.1 q4
    refine w_iconst rfl ?_
    exact w_zret rfl rfl (by decide) ⟨rfl, rfl, _, rfl, F⟩
  · replace F := F.2 q4
    refine w_aload_n rfl rfl ?_
    refine w_iload_n rfl rfl ?_
    refine w_iload_n rfl rfl ?_
    refine w_iload rfl rfl ?_
    refine c_VI [vI x1, vI x3, vI x4] [] rfl b_CallLog_isOn k_CallLog_34 rfl rfl rfl rfl rfl rfl (mwpI_mono (fun z5 h5 F => ?_) F)
    obtain ⟨G, F⟩ := F
    have J : ∀ (t8 : Int), t8 = b2i (¬ (z5 = 0)) → wI (d + 1) m_CallLog_isFromOn 26 [(0, vR 1), (1, vI x1), (2, vI x2), (3, vI x3), (4, vI x4)] [vI t8] h5 K := by
      intro t8 et8
      subst et8
      exact w_zret rfl rfl b2i_01 ⟨rfl, rfl, _, rfl, F⟩
    have b6 := G
    refine w_if_eq (tgt := 25) rfl (by decide) b6 (fun q7 => ?_) (fun q7 => ?_)
    · refine w_iconst rfl ?_
      exact J _ (b2i_f (fun z => z q7)).symm
    · refine w_iconst rfl ?_
      refine w_goto (tgt := 26) rfl (by decide) ?_
      exact J _ (b2i_t q7).symm
theorem s_Orders_answersAny_0 {d : Nat}  (x2 : Int) (h : St) (K : Int → St → Prop) (F : (wI (d + 2) m_Orders_answersAny 2 [(0, vR 77), (1, vR 1), (2, vI x2), (3, vI 0)] [] h K)) : wI (d + 2) m_Orders_answersAny 0 [(0, vR 77), (1, vR 1), (2, vI x2)] [] h K := by
  refine w_iconst rfl ?_
  refine w_istore_n rfl rfl rfl rfl (w_ls (ls2 := [(0, vR 77), (1, vR 1), (2, vI x2), (3, vI 0)]) rfl ?_)
  exact F
theorem s_Orders_answersAny_2 {d : Nat}  (x2 x3 : Int) (h : St) (K : Int → St → Prop) (F : (inR x3) ∧ (inR (h 1 6)) ∧ (((h 1 6) ≤ x3 → (K 0 h)) ∧ (¬ ((h 1 6) ≤ x3) → (mwpI (d + 2) m_Orders_answers [vR 77, vR 1, vI x3, vI x2] h (fun z4 h4 => (inR z4) ∧ ((z4 = 0 → (wI (d + 2) m_Orders_answersAny 2 [(0, vR 77), (1, vR 1), (2, vI x2), (3, vI (x3 + 1))] [] h4 K)) ∧ (¬ (z4 = 0) → (K 1 h4)))))))) : wI (d + 2) m_Orders_answersAny 2 [(0, vR 77), (1, vR 1), (2, vI x2), (3, vI x3)] [] h K := by
  refine w_iload_n rfl rfl ?_
  refine w_aload_n rfl rfl ?_
  refine w_getI rfl f_Orders_19 rfl rfl rfl ?_
  obtain ⟨b1, F⟩ := F
  obtain ⟨b2, F⟩ := F
  refine w_icmp_ge (tgt := 28) rfl (by decide) ⟨b1, b2⟩ (fun q3 => ?_) (fun q3 => ?_)
  · replace F := F.1 q3
    refine w_iconst rfl ?_
    exact w_zret rfl rfl (by decide) ⟨rfl, rfl, _, rfl, F⟩
  · replace F := F.2 q3
    refine w_aload_n rfl rfl ?_
    refine w_aload_n rfl rfl ?_
    refine w_iload_n rfl rfl ?_
    refine w_iload_n rfl rfl ?_
    refine c_VI [vR 1, vI x3, vI x2] [] rfl b_Orders_answers k_Orders_24 rfl rfl rfl rfl rfl rfl (mwpI_mono (fun z4 h4 F => ?_) F)
    obtain ⟨b5, F⟩ := F
    refine w_if_eq (tgt := 22) rfl (by decide) b5 (fun q6 => ?_) (fun q6 => ?_)
    · replace F := F.1 q6
      refine w_iinc rfl rfl rfl rfl rfl (w_ls (ls2 := [(0, vR 77), (1, vR 1), (2, vI x2), (3, vI (x3 + 1))]) rfl ?_)
      refine w_goto (tgt := 2) rfl (by decide) ?_
      exact F
    · replace F := F.2 q6
      refine w_iconst rfl ?_
      exact w_zret rfl rfl (by decide) ⟨rfl, rfl, _, rfl, F⟩
theorem s_Orders_isShared_0 {d : Nat}  (x3 x4 x5 : Int) (h : St) (K : Int → St → Prop) (F : (wI (d + 1) m_Orders_isShared 3 [(0, vR 77), (1, vR 1), (2, vR 57), (3, vI x3), (4, vI x4), (5, vI x5), (6, vI 0)] [] h K)) : wI (d + 1) m_Orders_isShared 0 [(0, vR 77), (1, vR 1), (2, vR 57), (3, vI x3), (4, vI x4), (5, vI x5)] [] h K := by
  refine w_iconst rfl ?_
  refine w_istore rfl rfl rfl rfl (w_ls (ls2 := [(0, vR 77), (1, vR 1), (2, vR 57), (3, vI x3), (4, vI x4), (5, vI x5), (6, vI 0)]) rfl ?_)
  exact F
theorem s_Orders_isShared_3 {d : Nat}  (x3 x4 x5 x6 : Int) (h : St) (K : Int → St → Prop) (F : (inR x6) ∧ (inR (h 1 6)) ∧ (((h 1 6) ≤ x6 → (K 0 h)) ∧ (¬ ((h 1 6) ≤ x6) → (0 ≤ x6 ∧ x6 < 60) ∧ (0 ≤ x3 ∧ x3 < 60) ∧ (inR (h 2 x6.toNat)) ∧ (inR (h 2 x3.toNat)) ∧ (((h 2 x6.toNat) = (h 2 x3.toNat) → (wI (d + 1) m_Orders_isShared 3 [(0, vR 77), (1, vR 1), (2, vR 57), (3, vI x3), (4, vI x4), (5, vI x5), (6, vI (x6 + 1))] [] h K)) ∧ (¬ ((h 2 x6.toNat) = (h 2 x3.toNat)) → (mwpI (d + 1) m_CallLog_isOn [vR 1, vI x6, vI x4, vI x5] h (fun z9 h9 => (inR z9) ∧ ((z9 = 0 → (wI (d + 1) m_Orders_isShared 3 [(0, vR 77), (1, vR 1), (2, vR 57), (3, vI x3), (4, vI x4), (5, vI x5), (6, vI (x6 + 1))] [] h9 K)) ∧ (¬ (z9 = 0) → (mwpI (d + 1) m_Hands_handOf [vR 57, vR 1, vI x6] h9 (fun z12 h12 => (mwpI (d + 1) m_Hands_handOf [vR 57, vR 1, vI x3] h12 (fun z13 h13 => (inR z12) ∧ (inR z13) ∧ ((z12 ≠ z13 → (wI (d + 1) m_Orders_isShared 3 [(0, vR 77), (1, vR 1), (2, vR 57), (3, vI x3), (4, vI x4), (5, vI x5), (6, vI (x6 + 1))] [] h13 K)) ∧ (¬ (z12 ≠ z13) → (K 1 h13)))))))))))))))) : wI (d + 1) m_Orders_isShared 3 [(0, vR 77), (1, vR 1), (2, vR 57), (3, vI x3), (4, vI x4), (5, vI x5), (6, vI x6)] [] h K := by
  refine w_iload rfl rfl ?_
  refine w_aload_n rfl rfl ?_
  refine w_getI rfl f_Orders_19 rfl rfl rfl ?_
  obtain ⟨b1, F⟩ := F
  obtain ⟨b2, F⟩ := F
  refine w_icmp_ge (tgt := 65) rfl (by decide) ⟨b1, b2⟩ (fun q3 => ?_) (fun q3 => ?_)
  · replace F := F.1 q3
    refine w_iconst rfl ?_
    exact w_zret rfl rfl (by decide) ⟨rfl, rfl, _, rfl, F⟩
  · replace F := F.2 q3
    refine w_aload_n rfl rfl ?_
    refine w_getR rfl f_Orders_37 rfl rfl rfl rfl rfl ?_
    refine w_iload rfl rfl ?_
    obtain ⟨b4, F⟩ := F
    refine w_iaload rfl rfl rfl b4 ?_
    refine w_aload_n rfl rfl ?_
    refine w_getR rfl f_Orders_37 rfl rfl rfl rfl rfl ?_
    refine w_iload_n rfl rfl ?_
    obtain ⟨b5, F⟩ := F
    refine w_iaload rfl rfl rfl b5 ?_
    obtain ⟨b6, F⟩ := F
    obtain ⟨b7, F⟩ := F
    refine w_icmp_eq (tgt := 59) rfl (by decide) ⟨b6, b7⟩ (fun q8 => ?_) (fun q8 => ?_)
    · replace F := F.1 q8
      refine w_iinc rfl rfl rfl rfl rfl (w_ls (ls2 := [(0, vR 77), (1, vR 1), (2, vR 57), (3, vI x3), (4, vI x4), (5, vI x5), (6, vI (x6 + 1))]) rfl ?_)
      refine w_goto (tgt := 3) rfl (by decide) ?_
      exact F
    · replace F := F.2 q8
      refine w_aload_n rfl rfl ?_
      refine w_iload rfl rfl ?_
      refine w_iload rfl rfl ?_
      refine w_iload rfl rfl ?_
      refine c_VI [vI x6, vI x4, vI x5] [] rfl b_CallLog_isOn k_Orders_52 rfl rfl rfl rfl rfl rfl (mwpI_mono (fun z9 h9 F => ?_) F)
      obtain ⟨b10, F⟩ := F
      refine w_if_eq (tgt := 59) rfl (by decide) b10 (fun q11 => ?_) (fun q11 => ?_)
      · replace F := F.1 q11
        refine w_iinc rfl rfl rfl rfl rfl (w_ls (ls2 := [(0, vR 77), (1, vR 1), (2, vR 57), (3, vI x3), (4, vI x4), (5, vI x5), (6, vI (x6 + 1))]) rfl ?_)
        refine w_goto (tgt := 3) rfl (by decide) ?_
        exact F
      · replace F := F.2 q11
        refine w_aload_n rfl rfl ?_
        refine w_aload_n rfl rfl ?_
        refine w_iload rfl rfl ?_
        refine c_VI [vR 1, vI x6] [] rfl b_Hands_handOf k_Orders_68 rfl rfl rfl rfl rfl rfl (mwpI_mono (fun z12 h12 F => ?_) F)
        refine w_aload_n rfl rfl ?_
        refine w_aload_n rfl rfl ?_
        refine w_iload_n rfl rfl ?_
        refine c_VI [vR 1, vI x3] [vI z12] rfl b_Hands_handOf k_Orders_68 rfl rfl rfl rfl rfl rfl (mwpI_mono (fun z13 h13 F => ?_) F)
        obtain ⟨b14, F⟩ := F
        obtain ⟨b15, F⟩ := F
        refine w_icmp_ne (tgt := 59) rfl (by decide) ⟨b14, b15⟩ (fun q16 => ?_) (fun q16 => ?_)
        · replace F := F.1 q16
          refine w_iinc rfl rfl rfl rfl rfl (w_ls (ls2 := [(0, vR 77), (1, vR 1), (2, vR 57), (3, vI x3), (4, vI x4), (5, vI x5), (6, vI (x6 + 1))]) rfl ?_)
          refine w_goto (tgt := 3) rfl (by decide) ?_
          exact F
        · replace F := F.2 q16
          refine w_iconst rfl ?_
          exact w_zret rfl rfl (by decide) ⟨rfl, rfl, _, rfl, F⟩
def rlA (lg : Nat → Nat → Int) (nm d e : Int) (c : Nat) : Prop := lg 0 c = nm ∧ onD lg c d e
def shA (lg : Nat → Nat → Int) (d e : Int) (f : Nat → Int) (c o : Nat) : Prop := lg 0 o ≠ lg 0 c ∧ onD lg o d e ∧ f o = f c
section L43
variable {D : Nat} {h : St} {K : Int → St → Prop} {n : Nat} {lg : Nat → Nat → Int} {w d e nm : Int} {c : Nat}
theorem c_CallLog_isFromOn (cl : CLog h n lg) (vl : VLog n lg) (hc : c < n) (r1 : inR nm) (r2 : inR d) (r3 : inR e) (k : K (b2i (rlA lg nm d e c)) h) : mwpI (D + 2) m_CallLog_isFromOn [vR 1, vI c, vI nm, vI d, vI e] h K := by
  have hn := cl.2.1
  obtain ⟨a0, a1, a2, a3, a4, a5⟩ := CLog_at cl hc
  have q1 := vl c hc
  refine mI_intro b_CallLog_isFromOn rfl (s_CallLog_isFromOn_0 (d := D) _ _ _ _ h K ?_)
  rw [Int.toNat_natCast, a0]
  refine ⟨by omega, ⟨by omega, by omega⟩, r1, fun z => ?_, fun z => c_CallLog_isOn cl vl hc r2 r3 ⟨b2i_R, ?_⟩⟩
  · rw [b2i_f (fun q : rlA lg nm d e c => z q.1)] at k
    exact k
  · rw [bb, b2i_congr (q := rlA lg nm d e c) ⟨fun q => ⟨by omega, q⟩, fun q => q.2⟩]
    exact k
theorem c_Orders_answersAny (cl : CLog h n lg) (vl : VLog n lg) (hw : h 77 0 = w) (w1 : 1 ≤ w ∧ w ≤ 23) (hc : c < n) (k : K (b2i (exA n (fun o => ansA lg w o c))) h) : mwpI (D + 3) m_Orders_answersAny [vR 77, vR 1, vI c] h K := by
  have hn := cl.2.1
  have h8 := cl.1
  have lp : ∀ (r o : Nat), o + r = n → ¬ exA o (fun o => ansA lg w o c) → wI (D + 2) m_Orders_answersAny 2 [(0, vR 77), (1, vR 1), (2, vI (c : Int)), (3, vI (o : Int))] [] h K := by
    intro r
    induction r with
    | zero =>
      intro o ho no
      have e : o = n := by omega
      subst e
      rw [b2i_f no] at k
      exact s_Orders_answersAny_2 _ _ h K ⟨⟨by omega, by omega⟩, ⟨by omega, by omega⟩, fun _ => k, fun z => absurd (by omega) z⟩
    | succ r ih =>
      intro o ho no
      refine s_Orders_answersAny_2 _ _ h K ⟨⟨by omega, by omega⟩, ⟨by omega, by omega⟩, fun z => by omega, fun _ => c_Orders_answers cl vl hw w1 (by omega) hc ⟨b2i_R, fun z => ih (o + 1) (by omega) (fun q => (exA_s.mp q).elim no (b2i_eq0.mp z)), fun z => ?_⟩⟩
      rw [b2i_t (p := exA n (fun o => ansA lg w o c)) ⟨o, by omega, b2i_ne0.mp z⟩] at k
      exact k
  exact mI_intro b_Orders_answersAny rfl (s_Orders_answersAny_0 (d := D) _ h K (lp n 0 (by omega) exA_0))
theorem c_Orders_isShared (cl : CLog h n lg) (vl : VLog n lg) {f : Nat → Int} (hf : ∀ c, c < n → h 58 (paA lg c) = f c) (fr : ∀ c, c < n → inR (f c)) (hc : c < n) (r2 : inR d) (r3 : inR e) (k : K (b2i (exA n (shA lg d e f c))) h) : mwpI (D + 2) m_Orders_isShared [vR 77, vR 1, vR 57, vI c, vI d, vI e] h K := by
  have hn := cl.2.1
  have h8 := cl.1
  obtain ⟨a0, a1, a2, a3, a4, a5⟩ := CLog_at cl hc
  have q1 := vl c hc
  have lp : ∀ (r o : Nat), o + r = n → ¬ exA o (shA lg d e f c) → wI (D + 1) m_Orders_isShared 3 [(0, vR 77), (1, vR 1), (2, vR 57), (3, vI (c : Int)), (4, vI d), (5, vI e), (6, vI (o : Int))] [] h K := by
    intro r
    induction r with
    | zero =>
      intro o ho no
      have e : o = n := by omega
      subst e
      rw [b2i_f no] at k
      exact s_Orders_isShared_3 _ _ _ _ h K ⟨⟨by omega, by omega⟩, ⟨by omega, by omega⟩, fun _ => k, fun z => absurd (by omega) z⟩
    | succ r ih =>
      intro o ho no
      have ho2 : o < n := by omega
      obtain ⟨b0, b1, b2, b3, b4, b5⟩ := CLog_at cl ho2
      have q2 := vl o ho2
      have nx : ¬ shA lg d e f c o → wI (D + 1) m_Orders_isShared 3 [(0, vR 77), (1, vR 1), (2, vR 57), (3, vI (c : Int)), (4, vI d), (5, vI e), (6, vI ((o : Int) + 1))] [] h K := fun q => ih (o + 1) (by omega) (fun z => (exA_s.mp z).elim no q)
      refine s_Orders_isShared_3 _ _ _ _ h K ?_
      rw [Int.toNat_natCast, Int.toNat_natCast, a0, b0]
      refine ⟨⟨by omega, by omega⟩, ⟨by omega, by omega⟩, fun z => by omega, fun _ => ⟨by omega, by omega, ⟨by omega, by omega⟩, ⟨by omega, by omega⟩, fun z => nx (fun q => q.1 z), fun z => c_CallLog_isOn cl vl ho2 r2 r3 ⟨b2i_R, fun z2 => nx (fun q => b2i_eq0.mp z2 q.2.1), fun z2 => c_Hands_handOf cl vl ho2 (c_Hands_handOf cl vl hc ?_)⟩⟩⟩
      rw [hf o ho2, hf c hc]
      refine ⟨fr o ho2, fr c hc, fun z3 => nx (fun q => z3 q.2.2), fun z3 => ?_⟩
      rw [b2i_t (p := exA n (shA lg d e f c)) ⟨o, ho2, z, b2i_ne0.mp z2, Classical.not_not.mp z3⟩] at k
      exact k
  exact mI_intro b_Orders_isShared rfl (s_Orders_isShared_0 (d := D) _ _ _ h K (lp n 0 (by omega) exA_0))
end L43
