theorem s_C_lacks_0 {d : Nat}  (x1 x2 x3 : Int) (h : St) (K : Int → St → Prop) (F : (inR x1) ∧ ((¬ (0 ≤ x1 ∧ x1 ≤ 11) → (K ((-1)) h)) ∧ (0 ≤ x1 ∧ x1 ≤ 11 → (inR x2) ∧ (inR x3) ∧ ((0 ≤ x2 ∧ x2 ≤ x3 ∧ x3 ≤ 19 → (mwpV (d + 4) m_Hands_group [vR 57, vR 1] h (fun h6 => (mwpI (d + 4) m_Orders_lacksOf [vR 77, vR 1, vR 57, vI x1, vI x2, vI x3] h6 (fun z7 h7 => (K z7 h7)))))) ∧ (¬ (0 ≤ x2 ∧ x2 ≤ x3 ∧ x3 ≤ 19) → (K ((-1)) h)))))) : wI (d + 4) m_C_lacks 0 [(0, vR 0), (1, vI x1), (2, vI x2), (3, vI x3)] [] h K := by
  refine w_iload_n rfl rfl ?_
  obtain ⟨b1, F⟩ := F
  refine c_SI [vI x1] [] rfl b_C_isName k_C_96 rfl rfl rfl (c_C_isName b1 ?_)
  refine w_ifeq_b (tgt := 15) rfl (by decide) (fun q2 => ?_) (fun q2 => ?_)
  · replace F := F.1 q2
    refine w_iconst rfl ?_
    exact w_iret rfl rfl ⟨rfl, rfl, _, rfl, F⟩
  · replace F := F.2 q2
    refine w_iload_n rfl rfl ?_
    refine w_iload_n rfl rfl ?_
    obtain ⟨b3, F⟩ := F
    obtain ⟨b4, F⟩ := F
    refine c_SI [vI x2, vI x3] [] rfl b_C_isSpan k_C_224 rfl rfl rfl (c_C_isSpan b3 b4 ?_)
    refine w_ifne_b (tgt := 17) rfl (by decide) (fun q5 => ?_) (fun q5 => ?_)
    · replace F := F.1 q5
      refine w_aload_n rfl rfl ?_
      refine w_getR rfl f_C_26 rfl rfl rfl rfl rfl ?_
      refine w_aload_n rfl rfl ?_
      refine w_getR rfl f_C_10 rfl rfl rfl rfl rfl ?_
      refine c_VV [vR 1] [] rfl b_Hands_group k_C_147 rfl rfl rfl rfl rfl rfl (mwpV_mono (fun h6 F => ?_) F)
      refine w_aload_n rfl rfl ?_
      refine w_getR rfl f_C_47 rfl rfl rfl rfl rfl ?_
      refine w_aload_n rfl rfl ?_
      refine w_getR rfl f_C_10 rfl rfl rfl rfl rfl ?_
      refine w_aload_n rfl rfl ?_
      refine w_getR rfl f_C_26 rfl rfl rfl rfl rfl ?_
      refine w_iload_n rfl rfl ?_
      refine w_iload_n rfl rfl ?_
      refine w_iload_n rfl rfl ?_
      refine c_VI [vR 1, vR 57, vI x1, vI x2, vI x3] [] rfl b_Orders_lacksOf k_C_255 rfl rfl rfl rfl rfl rfl (mwpI_mono (fun z7 h7 F => ?_) F)
      exact w_iret rfl rfl ⟨rfl, rfl, _, rfl, F⟩
    · replace F := F.2 q5
      refine w_iconst rfl ?_
      exact w_iret rfl rfl ⟨rfl, rfl, _, rfl, F⟩
theorem s_M_lacks_0 {d : Nat}  (x1 x2 x3 : Int) (h : St) (K : Int → St → Prop) (F : (inR x1) ∧ ((¬ (0 ≤ x1 ∧ x1 ≤ 11) → (K ((-1)) h)) ∧ (0 ≤ x1 ∧ x1 ≤ 11 → (inR x2) ∧ (inR x3) ∧ ((0 ≤ x2 ∧ x2 ≤ x3 ∧ x3 ≤ 19 → (mwpV (d + 5) m_M_handsOf [vR 109] h (fun h6 => (mwpI (d + 5) m_M_lacksOf [vR 109, vI x1, vI x2, vI x3] h6 (fun z7 h7 => (K z7 h7)))))) ∧ (¬ (0 ≤ x2 ∧ x2 ≤ x3 ∧ x3 ≤ 19) → (K ((-1)) h)))))) : wI (d + 5) m_M_lacks 0 [(0, vR 109), (1, vI x1), (2, vI x2), (3, vI x3)] [] h K := by
  refine w_iload_n rfl rfl ?_
  obtain ⟨b1, F⟩ := F
  refine c_SI [vI x1] [] rfl b_M_isName k_M_142 rfl rfl rfl (c_M_isName b1 ?_)
  refine w_ifeq_b (tgt := 15) rfl (by decide) (fun q2 => ?_) (fun q2 => ?_)
  · replace F := F.1 q2
    refine w_iconst rfl ?_
    exact w_iret rfl rfl ⟨rfl, rfl, _, rfl, F⟩
  · replace F := F.2 q2
    refine w_iload_n rfl rfl ?_
    refine w_iload_n rfl rfl ?_
    obtain ⟨b3, F⟩ := F
    obtain ⟨b4, F⟩ := F
    refine c_SI [vI x2, vI x3] [] rfl b_M_isSpan k_M_254 rfl rfl rfl (c_M_isSpan b3 b4 ?_)
    refine w_ifne_b (tgt := 17) rfl (by decide) (fun q5 => ?_) (fun q5 => ?_)
    · replace F := F.1 q5
      refine w_aload_n rfl rfl ?_
      refine c_VV [] [] rfl b_M_handsOf k_M_200 rfl rfl rfl rfl rfl rfl (mwpV_mono (fun h6 F => ?_) F)
      refine w_aload_n rfl rfl ?_
      refine w_iload_n rfl rfl ?_
      refine w_iload_n rfl rfl ?_
      refine w_iload_n rfl rfl ?_
      refine c_VI [vI x1, vI x2, vI x3] [] rfl b_M_lacksOf k_M_277 rfl rfl rfl rfl rfl rfl (mwpI_mono (fun z7 h7 F => ?_) F)
      exact w_iret rfl rfl ⟨rfl, rfl, _, rfl, F⟩
    · replace F := F.2 q5
      refine w_iconst rfl ?_
      exact w_iret rfl rfl ⟨rfl, rfl, _, rfl, F⟩
theorem s_C_show_0 {d : Nat}  (x1 x2 : Int) (h : St) (K : Int → St → Prop) (F : (inR x1) ∧ (inR x2) ∧ ((0 ≤ x1 ∧ x1 ≤ x2 ∧ x2 ≤ 19 → (mwpV (d + 4) m_Hands_group [vR 57, vR 1] h (fun h4 => (wI (d + 4) m_C_show 26 [(0, vR 0), (1, vI x1), (2, vI x2), (3, vI 0), (4, vI 0)] [] h4 K)))) ∧ (¬ (0 ≤ x1 ∧ x1 ≤ x2 ∧ x2 ≤ 19) → (K ((-1)) h)))) : wI (d + 4) m_C_show 0 [(0, vR 0), (1, vI x1), (2, vI x2)] [] h K := by
  refine w_iload_n rfl rfl ?_
  refine w_iload_n rfl rfl ?_
  obtain ⟨b1, F⟩ := F
  obtain ⟨b2, F⟩ := F
  refine c_SI [vI x1, vI x2] [] rfl b_C_isSpan k_C_224 rfl rfl rfl (c_C_isSpan b1 b2 ?_)
  refine w_ifne_b (tgt := 10) rfl (by decide) (fun q3 => ?_) (fun q3 => ?_)
  · replace F := F.1 q3
    refine w_aload_n rfl rfl ?_
    refine w_getR rfl f_C_26 rfl rfl rfl rfl rfl ?_
    refine w_aload_n rfl rfl ?_
    refine w_getR rfl f_C_10 rfl rfl rfl rfl rfl ?_
    refine c_VV [vR 1] [] rfl b_Hands_group k_C_147 rfl rfl rfl rfl rfl rfl (mwpV_mono (fun h4 F => ?_) F)
    refine w_iconst rfl ?_
    refine w_istore_n rfl rfl rfl rfl (w_ls (ls2 := [(0, vR 0), (1, vI x1), (2, vI x2), (3, vI 0)]) rfl ?_)
    refine w_iconst rfl ?_
    refine w_istore rfl rfl rfl rfl (w_ls (ls2 := [(0, vR 0), (1, vI x1), (2, vI x2), (3, vI 0), (4, vI 0)]) rfl ?_)
    exact F
  · replace F := F.2 q3
    refine w_iconst rfl ?_
    exact w_iret rfl rfl ⟨rfl, rfl, _, rfl, F⟩
theorem s_C_show_26 {d : Nat}  (x1 x2 x3 x4 : Int) (h : St) (K : Int → St → Prop) (F : (inR x4) ∧ ((12 ≤ x4 → (K x3 h)) ∧ (¬ (12 ≤ x4) → (mwpI (d + 4) m_Orders_lacksOf [vR 77, vR 1, vR 57, vI x4, vI x1, vI x2] h (fun z3 h3 => (mwpI (d + 4) m_JI_bitCount [vI z3] h3 (fun z4 h4 => (inR z4) ∧ ((z4 < 3 → (wI (d + 4) m_C_show 26 [(0, vR 0), (1, vI x1), (2, vI x2), (3, vI x3), (4, vI (x4 + 1))] [] h4 K)) ∧ (¬ (z4 < 3) → (wI (d + 4) m_C_show 26 [(0, vR 0), (1, vI x1), (2, vI x2), (3, vI (or3 x3 (shl3 1 x4))), (4, vI (x4 + 1))] [] h4 K)))))))))) : wI (d + 4) m_C_show 26 [(0, vR 0), (1, vI x1), (2, vI x2), (3, vI x3), (4, vI x4)] [] h K := by
  refine w_iload rfl rfl ?_
  refine w_bipush (by decide) (by decide) rfl ?_
  obtain ⟨b1, F⟩ := F
  refine w_icmp_ge (tgt := 72) rfl (by decide) ⟨b1, (r_lit rfl)⟩ (fun q2 => ?_) (fun q2 => ?_)
  · replace F := F.1 q2
    refine w_iload_n rfl rfl ?_
    exact w_iret rfl rfl ⟨rfl, rfl, _, rfl, F⟩
  · replace F := F.2 q2
    refine w_aload_n rfl rfl ?_
    refine w_getR rfl f_C_47 rfl rfl rfl rfl rfl ?_
    refine w_aload_n rfl rfl ?_
    refine w_getR rfl f_C_10 rfl rfl rfl rfl rfl ?_
    refine w_aload_n rfl rfl ?_
    refine w_getR rfl f_C_26 rfl rfl rfl rfl rfl ?_
    refine w_iload rfl rfl ?_
    refine w_iload_n rfl rfl ?_
    refine w_iload_n rfl rfl ?_
    refine c_VI [vR 1, vR 57, vI x4, vI x1, vI x2] [] rfl b_Orders_lacksOf k_C_255 rfl rfl rfl rfl rfl rfl (mwpI_mono (fun z3 h3 F => ?_) F)
    refine c_SI [vI z3] [] rfl b_JI_bitCount k_C_238 rfl rfl rfl (mwpI_mono (fun z4 h4 F => ?_) F)
    refine w_iconst rfl ?_
    obtain ⟨b5, F⟩ := F
    refine w_icmp_lt (tgt := 66) rfl (by decide) ⟨b5, (r_lit rfl)⟩ (fun q6 => ?_) (fun q6 => ?_)
    · replace F := F.1 q6
      refine w_iinc rfl rfl rfl rfl rfl (w_ls (ls2 := [(0, vR 0), (1, vI x1), (2, vI x2), (3, vI x3), (4, vI (x4 + 1))]) rfl ?_)
      refine w_goto (tgt := 26) rfl (by decide) ?_
      exact F
    · replace F := F.2 q6
      refine w_iload_n rfl rfl ?_
      refine w_iconst rfl ?_
      refine w_iload rfl rfl ?_
      refine w_ishl rfl ?_
      refine w_ior rfl ?_
      refine w_istore_n rfl rfl rfl rfl (w_ls (ls2 := [(0, vR 0), (1, vI x1), (2, vI x2), (3, vI (or3 x3 (shl3 1 x4))), (4, vI x4)]) rfl ?_)
      refine w_iinc rfl rfl rfl rfl rfl (w_ls (ls2 := [(0, vR 0), (1, vI x1), (2, vI x2), (3, vI (or3 x3 (shl3 1 x4))), (4, vI (x4 + 1))]) rfl ?_)
      refine w_goto (tgt := 26) rfl (by decide) ?_
      exact F
theorem s_M_show_0 {d : Nat}  (x1 x2 : Int) (h : St) (K : Int → St → Prop) (F : (inR x1) ∧ (inR x2) ∧ ((0 ≤ x1 ∧ x1 ≤ x2 ∧ x2 ≤ 19 → (mwpV (d + 5) m_M_handsOf [vR 109] h (fun h4 => (wI (d + 5) m_M_show 19 [(0, vR 109), (1, vI x1), (2, vI x2), (3, vI 0), (4, vI 0)] [] h4 K)))) ∧ (¬ (0 ≤ x1 ∧ x1 ≤ x2 ∧ x2 ≤ 19) → (K ((-1)) h)))) : wI (d + 5) m_M_show 0 [(0, vR 109), (1, vI x1), (2, vI x2)] [] h K := by
  refine w_iload_n rfl rfl ?_
  refine w_iload_n rfl rfl ?_
  obtain ⟨b1, F⟩ := F
  obtain ⟨b2, F⟩ := F
  refine c_SI [vI x1, vI x2] [] rfl b_M_isSpan k_M_254 rfl rfl rfl (c_M_isSpan b1 b2 ?_)
  refine w_ifne_b (tgt := 10) rfl (by decide) (fun q3 => ?_) (fun q3 => ?_)
  · replace F := F.1 q3
    refine w_aload_n rfl rfl ?_
    refine c_VV [] [] rfl b_M_handsOf k_M_200 rfl rfl rfl rfl rfl rfl (mwpV_mono (fun h4 F => ?_) F)
    refine w_iconst rfl ?_
    refine w_istore_n rfl rfl rfl rfl (w_ls (ls2 := [(0, vR 109), (1, vI x1), (2, vI x2), (3, vI 0)]) rfl ?_)
    refine w_iconst rfl ?_
    refine w_istore rfl rfl rfl rfl (w_ls (ls2 := [(0, vR 109), (1, vI x1), (2, vI x2), (3, vI 0), (4, vI 0)]) rfl ?_)
    exact F
  · replace F := F.2 q3
    refine w_iconst rfl ?_
    exact w_iret rfl rfl ⟨rfl, rfl, _, rfl, F⟩
theorem s_M_show_19 {d : Nat}  (x1 x2 x3 x4 : Int) (h : St) (K : Int → St → Prop) (F : (inR x4) ∧ ((12 ≤ x4 → (K x3 h)) ∧ (¬ (12 ≤ x4) → (mwpI (d + 5) m_M_lacksOf [vR 109, vI x4, vI x1, vI x2] h (fun z3 h3 => (mwpI (d + 5) m_M_many [vI z3] h3 (fun z4 h4 => (((inR z4))) ∧ (wI (d + 5) m_M_show 19 [(0, vR 109), (1, vI x1), (2, vI x2), (3, vI (or3 x3 (cif (z4 ≤ 2) 0 (shl3 1 x4)))), (4, vI (x4 + 1))] [] h4 K)))))))) : wI (d + 5) m_M_show 19 [(0, vR 109), (1, vI x1), (2, vI x2), (3, vI x3), (4, vI x4)] [] h K := by
  refine w_iload rfl rfl ?_
  refine w_bipush (by decide) (by decide) rfl ?_
  obtain ⟨b1, F⟩ := F
  refine w_icmp_ge (tgt := 58) rfl (by decide) ⟨b1, (r_lit rfl)⟩ (fun q2 => ?_) (fun q2 => ?_)
  · replace F := F.1 q2
    refine w_iload_n rfl rfl ?_
    exact w_iret rfl rfl ⟨rfl, rfl, _, rfl, F⟩
  · replace F := F.2 q2
    refine w_iload_n rfl rfl ?_
    refine w_aload_n rfl rfl ?_
    refine w_iload rfl rfl ?_
    refine w_iload_n rfl rfl ?_
    refine w_iload_n rfl rfl ?_
    refine c_VI [vI x4, vI x1, vI x2] [vI x3] rfl b_M_lacksOf k_M_277 rfl rfl rfl rfl rfl rfl (mwpI_mono (fun z3 h3 F => ?_) F)
    refine c_SI [vI z3] [vI x3] rfl b_M_many k_M_280 rfl rfl rfl (mwpI_mono (fun z4 h4 F => ?_) F)
    refine w_iconst rfl ?_
    obtain ⟨G, F⟩ := F
    have J : ∀ (t7 : Int), t7 = cif (z4 ≤ 2) 0 (shl3 1 x4) → wI (d + 5) m_M_show 50 [(0, vR 109), (1, vI x1), (2, vI x2), (3, vI x3), (4, vI x4)] [vI t7, vI x3] h4 K := by
      intro t7 et7
      subst et7
      refine w_ior rfl ?_
      refine w_istore_n rfl rfl rfl rfl (w_ls (ls2 := [(0, vR 109), (1, vI x1), (2, vI x2), (3, vI (or3 x3 (cif (z4 ≤ 2) 0 (shl3 1 x4)))), (4, vI x4)]) rfl ?_)
      refine w_iinc rfl rfl rfl rfl rfl (w_ls (ls2 := [(0, vR 109), (1, vI x1), (2, vI x2), (3, vI (or3 x3 (cif (z4 ≤ 2) 0 (shl3 1 x4)))), (4, vI (x4 + 1))]) rfl ?_)
      refine w_goto (tgt := 19) rfl (by decide) ?_
      exact F
    have b5 := G
    refine w_icmp_le (tgt := 49) rfl (by decide) ⟨b5, (r_lit rfl)⟩ (fun q6 => ?_) (fun q6 => ?_)
    · refine w_iconst rfl ?_
      exact J _ (cif_t q6).symm
    · refine w_iconst rfl ?_
      refine w_iload rfl rfl ?_
      refine w_ishl rfl ?_
      refine w_goto (tgt := 50) rfl (by decide) ?_
      exact J _ (cif_f q6).symm
theorem lackA_f {lg : Nat → Nat → Int} {w : Int} {f f2 : Nat → Int} {n : Nat} {nm d e : Int} (hf : ∀ c, c < n → f c = f2 c) : lackA lg w f n nm d e = lackA lg w f2 n nm d e := by
  have e1 : sameA lg nm d e f n ↔ sameA lg nm d e f2 n := by
    constructor
    · intro q a b ha hb ra rb; rw [← hf a ha, ← hf b hb]; exact q a b ha hb ra rb
    · intro q a b ha hb ra rb; rw [hf a ha, hf b hb]; exact q a b ha hb ra rb
  have e2 : seA lg nm d e f n n ↔ seA lg nm d e f2 n n := by
    constructor
    · rintro ⟨i, hi, ri, o, ho, s1, s2, s3⟩; exact ⟨i, hi, ri, o, ho, s1, s2, by rw [← hf i hi, ← hf o ho]; exact s3⟩
    · rintro ⟨i, hi, ri, o, ho, s1, s2, s3⟩; exact ⟨i, hi, ri, o, ho, s1, s2, by rw [hf i hi, hf o ho]; exact s3⟩
  unfold lackA
  rw [b2i_congr (and_congr e1 e2)]
theorem hand_R {lg : Nat → Nat → Int} {n : Nat} {t : Int} {f : Nat → Int} (hn : n ≤ 60) (hf : isHand lg n t f) : ∀ c, c < n → inR (f c) := fun c hc => by
  have q := hf.2 c hc
  have q1 := q.1
  have q2 := q.2.1
  exact ⟨by omega, by omega⟩
theorem P_lacks {KK : Int → Int → St → Prop} {h : St} (hr : Rel h) {a1 a2 a3 : Int} (r1 : inR a1) (r2 : inR a2) (r3 : inR a3) (k : ∀ z h2, inR z → Rel h2 → KK z z h2) : mwpI 40 m_C_lacks [vR 0, vI a1, vI a2, vI a3] h (fun z h1 => mwpI 40 m_M_lacks [vR 109, vI a1, vI a2, vI a3] h1 (fun z2 h2 => KK z z2 h2)) := by
  obtain ⟨⟨n, lg, cl, ml, vl⟩, c2, c3, ⟨t1, t2, t3, t4⟩, c9⟩ := id hr
  have hn := cl.2.1
  have kb := k (-1) h (by decide) hr
  have bad : ¬ ((0 ≤ a1 ∧ a1 ≤ 11) ∧ (0 ≤ a2 ∧ a2 ≤ a3 ∧ a3 ≤ 19)) → mwpI 40 m_M_lacks [vR 109, vI a1, vI a2, vI a3] h (fun z2 h2 => KK (-1) z2 h2) := fun q =>
    mI_intro b_M_lacks rfl (s_M_lacks_0 (d := 34) a1 a2 a3 _ _ ⟨r1, fun _ => kb, fun q1 => ⟨r2, r3, fun q2 => absurd ⟨q1, q2⟩ q, fun _ => kb⟩⟩)
  refine mI_intro b_C_lacks rfl (s_C_lacks_0 (d := 35) a1 a2 a3 h _ ⟨r1, fun q => bad (fun z => q z.1), fun q1 => ⟨r2, r3, fun q2 => ?_, fun q => bad (fun z => q z.2)⟩⟩)
  refine c_Hands_group cl vl rfl t2 (fun h1 g1 _ hh => ?_)
  have hr1 : Rel h1 := Rel_c (ag_sub (fun c k p => by omega) g1) hr
  have ml1 : MLog h1 n lg := MLog_c (ag_sub (fun c k p => by omega) g1) ml
  refine c_Orders_lacksOf (w := h 77 0) (f := fun c => h1 58 (paA lg c)) (CLog_c (ag_sub (fun c k p => by omega) g1) cl) vl (g1 77 0 (by omega)) t4 (fun c _ => rfl) (hand_R hn hh) r1 r2 r3 ?_
  refine mI_intro b_M_lacks rfl (s_M_lacks_0 (d := 34) a1 a2 a3 _ _ ⟨r1, fun q => absurd q1 q, fun _ => ⟨r2, r3, fun _ => ?_, fun q => absurd q2 q⟩⟩)
  refine c_M_handsOf (t := h 57 0) ml1 vl (by rw [g1 109 14 (by omega)]; exact t1.symm) t2 (fun h2 g2 hh2 => ?_)
  refine c_M_lacksOf (w := h 77 0) (MLog_c (ag_sub (fun c k p => by omega) g2) ml1) vl (by rw [g2 109 15 (by omega), g1 109 15 (by omega)]; exact t3.symm) t4 (hand_R hn hh2) r1 r2 r3 ?_
  rw [lackA_f (isHand_uni hh2 hh)]
  have := lackA_R (lg := lg) (w := h 77 0) (f := fun c => h1 58 (paA lg c)) (n := n) (nm := a1) (d := a2) (e := a3)
  exact k _ _ ⟨by omega, by omega⟩ (Rel_c (ag_sub (fun c k p => by omega) g2) hr1)
noncomputable def swA (lk : Nat → Int) : Nat → Nat
  | 0 => 0
  | c + 1 => nif (2 < pb 32 (lk c).toNat) (swA lk c ||| 2 ^ c) (swA lk c)
theorem swA_lt {lk : Nat → Int} : ∀ c : Nat, swA lk c < 2 ^ c
  | 0 => by simp [swA]
  | y + 1 => by
    have ih := swA_lt (lk := lk) y
    have h1 : swA lk y < 2 ^ (y + 1) := by rw [Nat.pow_succ]; omega
    unfold swA
    by_cases z : 2 < pb 32 (lk y).toNat
    · rw [nif_t z]
      exact Nat.or_lt_two_pow h1 (Nat.pow_lt_pow_right (by omega) (by omega))
    · rw [nif_f z]; exact h1
theorem P_show {KK : Int → Int → St → Prop} {h : St} (hr : Rel h) {a1 a2 : Int} (r1 : inR a1) (r2 : inR a2) (k : ∀ z h2, inR z → Rel h2 → KK z z h2) : mwpI 40 m_C_show [vR 0, vI a1, vI a2] h (fun z h1 => mwpI 40 m_M_show [vR 109, vI a1, vI a2] h1 (fun z2 h2 => KK z z2 h2)) := by
  obtain ⟨⟨n, lg, cl, ml, vl⟩, c2, c3, ⟨t1, t2, t3, t4⟩, c9⟩ := id hr
  have hn := cl.2.1
  have kb := k (-1) h (by decide) hr
  have p12 : ∀ c : Nat, c ≤ 12 → 2 ^ c ≤ 4096 := by decide
  refine mI_intro b_C_show rfl (s_C_show_0 (d := 35) a1 a2 h _ ⟨r1, r2, fun q2 => ?_, fun q => mI_intro b_M_show rfl (s_M_show_0 (d := 34) a1 a2 _ _ ⟨r1, r2, fun z => absurd z q, fun _ => kb⟩)⟩)
  refine c_Hands_group cl vl rfl t2 (fun h1 g1 _ hh => ?_)
  have hr1 : Rel h1 := Rel_c (ag_sub (fun c k p => by omega) g1) hr
  have ml1 : MLog h1 n lg := MLog_c (ag_sub (fun c k p => by omega) g1) ml
  have cl1 : CLog h1 n lg := CLog_c (ag_sub (fun c k p => by omega) g1) cl
  generalize elk : (fun c : Nat => lackA lg (h 77 0) (fun c => h1 58 (paA lg c)) n (c : Int) a1 a2) = lk
  have lkR : ∀ c, 0 ≤ lk c ∧ lk c ≤ 15 := fun c => by rw [← elk]; exact lackA_R
  have step : ∀ c : Nat, c < 12 → ∀ s : Prop, (s ↔ 2 < pb 32 (lk c).toNat) → or3 ((swA lk c : Nat) : Int) (cif s (shl3 1 (c : Int)) 0) = ((swA lk (c + 1) : Nat) : Int) := fun c hc s hs => by
    have b := swA_lt (lk := lk) c
    have b2 := p12 c (by omega)
    by_cases q : 2 < pb 32 (lk c).toNat
    · rw [cif_t (hs.mpr q), show swA lk (c + 1) = (swA lk c ||| 2 ^ c) from nif_t q, shl_1 (by omega), or3_nat (by omega) (by omega)]
    · rw [cif_f (fun z => q (hs.mp z)), show swA lk (c + 1) = swA lk c from nif_f q]
      have := or3_nat (a := swA lk c) (b := 0) (by omega) (by omega)
      rw [Nat.or_zero] at this
      exact this
  have cls : ∀ (K : Int → St → Prop), K ((swA lk 12 : Nat) : Int) h1 → ∀ (r c : Nat), c + r = 12 → wI 39 m_C_show 26 [(0, vR 0), (1, vI a1), (2, vI a2), (3, vI ((swA lk c : Nat) : Int)), (4, vI (c : Int))] [] h1 K := by
    intro K kk r
    induction r with
    | zero =>
      intro c hc
      have e : c = 12 := by omega
      subst e
      exact s_C_show_26 (d := 35) _ _ _ _ h1 K ⟨⟨by omega, by omega⟩, fun _ => kk, fun z => absurd (by omega) z⟩
    | succ r ih =>
      intro c hc
      have lr := lkR c
      have pr := pb_le 32 (lk c).toNat
      refine s_C_show_26 (d := 35) _ _ _ _ h1 K ⟨⟨by omega, by omega⟩, fun z => by omega, fun _ => c_Orders_lacksOf (w := h 77 0) (f := fun c => h1 58 (paA lg c)) cl1 vl (g1 77 0 (by omega)) t4 (fun c _ => rfl) (hand_R hn hh) ⟨by omega, by omega⟩ r1 r2 ?_⟩
      rw [show lackA lg (h 77 0) (fun c => h1 58 (paA lg c)) n (c : Int) a1 a2 = lk c by rw [← elk], show lk c = (((lk c).toNat : Nat) : Int) by omega]
      refine c_JI_bitCount (by omega) ⟨⟨by omega, by omega⟩, fun z => ?_, fun z => ?_⟩
      · have ih2 := ih (c + 1) (by omega)
        rw [show swA lk (c + 1) = swA lk c from nif_f (by omega)] at ih2
        exact ih2
      · have e := step c (by omega) True ⟨fun _ => by omega, fun _ => trivial⟩
        rw [cif_t trivial] at e
        rw [e]
        exact ih (c + 1) (by omega)
  refine cls _ ?_ 12 0 (by omega)
  refine mI_intro b_M_show rfl (s_M_show_0 (d := 34) a1 a2 _ _ ⟨r1, r2, fun _ => ?_, fun q => absurd q2 q⟩)
  refine c_M_handsOf (t := h 57 0) ml1 vl (by rw [g1 109 14 (by omega)]; exact t1.symm) t2 (fun h2 g2 hh2 => ?_)
  have ml2 : MLog h2 n lg := MLog_c (ag_sub (fun c k p => by omega) g2) ml1
  have lp : ∀ (r c : Nat), c + r = 12 → wI 39 m_M_show 19 [(0, vR 109), (1, vI a1), (2, vI a2), (3, vI ((swA lk c : Nat) : Int)), (4, vI (c : Int))] [] h2 (fun z2 h3 => KK ((swA lk 12 : Nat) : Int) z2 h3) := by
    intro r
    induction r with
    | zero =>
      intro c hc
      have e : c = 12 := by omega
      subst e
      have b := swA_lt (lk := lk) 12
      exact s_M_show_19 (d := 34) _ _ _ _ h2 _ ⟨⟨by omega, by omega⟩, fun _ => k _ _ ⟨by omega, by omega⟩ (Rel_c (ag_sub (fun c k p => by omega) g2) hr1), fun z => absurd (by omega) z⟩
    | succ r ih =>
      intro c hc
      have lr := lkR c
      have pr := pb_le 32 (lk c).toNat
      refine s_M_show_19 (d := 34) _ _ _ _ h2 _ ⟨⟨by omega, by omega⟩, fun z => by omega, fun _ => c_M_lacksOf (w := h 77 0) ml2 vl (by rw [g2 109 15 (by omega), g1 109 15 (by omega)]; exact t3.symm) t4 (hand_R hn hh2) ⟨by omega, by omega⟩ r1 r2 ?_⟩
      rw [lackA_f (isHand_uni hh2 hh), show lackA lg (h 77 0) (fun c => h1 58 (paA lg c)) n (c : Int) a1 a2 = lk c by rw [← elk], show lk c = (((lk c).toNat : Nat) : Int) by omega]
      refine c_M_many (by omega) ⟨⟨by omega, by omega⟩, ?_⟩
      have e := step c (by omega) (2 < pb 32 (lk c).toNat) Iff.rfl
      have e2 : cif (((pb 32 (lk c).toNat : Nat) : Int) ≤ 2) 0 (shl3 1 (c : Int)) = cif (2 < pb 32 (lk c).toNat) (shl3 1 (c : Int)) 0 := by
        by_cases q : 2 < pb 32 (lk c).toNat
        · rw [cif_t q, cif_f (by omega)]
        · rw [cif_f q, cif_t (by omega)]
      rw [e2, e]
      exact ih (c + 1) (by omega)
  exact lp 12 0 (by omega)
