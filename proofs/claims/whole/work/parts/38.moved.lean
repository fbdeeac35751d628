theorem s_C_moved_0 {d : Nat}  (x1 x2 x3 : Int) (h : St) (K : Int → St → Prop) (F : (inR x1) ∧ ((¬ (0 ≤ x1 ∧ x1 ≤ 11) → (K ((-1)) h)) ∧ (0 ≤ x1 ∧ x1 ≤ 11 → (inR x2) ∧ ((¬ (0 ≤ x2 ∧ x2 ≤ 19) → (K ((-1)) h)) ∧ (0 ≤ x2 ∧ x2 ≤ 19 → (inR x3) ∧ ((0 ≤ x3 ∧ x3 ≤ 19 → (mwpI (d + 5) m_Places_leastWay [vR 85, vI x1, vI x2, vI x3] h (fun z7 h7 => (K z7 h7)))) ∧ (¬ (0 ≤ x3 ∧ x3 ≤ 19) → (K ((-1)) h)))))))) : wI (d + 5) m_C_moved 0 [(0, vR 0), (1, vI x1), (2, vI x2), (3, vI x3)] [] h K := by
  refine w_iload_n rfl rfl ?_
  obtain ⟨b1, F⟩ := F
  refine c_SI [vI x1] [] rfl b_C_isName k_C_96 rfl rfl rfl (c_C_isName b1 ?_)
  refine w_ifeq_b (tgt := 21) rfl (by decide) (fun q2 => ?_) (fun q2 => ?_)
  · replace F := F.1 q2
    refine w_iconst rfl ?_
    exact w_iret rfl rfl ⟨rfl, rfl, _, rfl, F⟩
  · replace F := F.2 q2
    refine w_iload_n rfl rfl ?_
    obtain ⟨b3, F⟩ := F
    refine c_SI [vI x2] [] rfl b_C_isDay k_C_131 rfl rfl rfl (c_C_isDay b3 ?_)
    refine w_ifeq_b (tgt := 21) rfl (by decide) (fun q4 => ?_) (fun q4 => ?_)
    · replace F := F.1 q4
      refine w_iconst rfl ?_
      exact w_iret rfl rfl ⟨rfl, rfl, _, rfl, F⟩
    · replace F := F.2 q4
      refine w_iload_n rfl rfl ?_
      obtain ⟨b5, F⟩ := F
      refine c_SI [vI x3] [] rfl b_C_isDay k_C_131 rfl rfl rfl (c_C_isDay b5 ?_)
      refine w_ifne_b (tgt := 23) rfl (by decide) (fun q6 => ?_) (fun q6 => ?_)
      · replace F := F.1 q6
        refine w_aload_n rfl rfl ?_
        refine w_getR rfl f_C_61 rfl rfl rfl rfl rfl ?_
        refine w_iload_n rfl rfl ?_
        refine w_iload_n rfl rfl ?_
        refine w_iload_n rfl rfl ?_
        refine c_VI [vI x1, vI x2, vI x3] [] rfl b_Places_leastWay k_C_292 rfl rfl rfl rfl rfl rfl (mwpI_mono (fun z7 h7 F => ?_) F)
        exact w_iret rfl rfl ⟨rfl, rfl, _, rfl, F⟩
      · replace F := F.2 q6
        refine w_iconst rfl ?_
        exact w_iret rfl rfl ⟨rfl, rfl, _, rfl, F⟩
theorem s_Places_leastWay_0 {d : Nat}  (x1 x2 x3 : Int) (h : St) (K : Int → St → Prop) (F : (mwpV (d + 4) m_Places_fit [vR 85, vI x1, vI x2, vR 94] h (fun h1 => (mwpV (d + 4) m_Places_fit [vR 85, vI x1, vI x3, vR 95] h1 (fun h2 => (wI (d + 4) m_Places_leastWay 23 [(0, vR 85), (1, vI x1), (2, vI x2), (3, vI x3), (4, vI 0)] [] h2 K)))))) : wI (d + 4) m_Places_leastWay 0 [(0, vR 85), (1, vI x1), (2, vI x2), (3, vI x3)] [] h K := by
  refine w_aload_n rfl rfl ?_
  refine w_iload_n rfl rfl ?_
  refine w_iload_n rfl rfl ?_
  refine w_aload_n rfl rfl ?_
  refine w_getR rfl f_Places_40 rfl rfl rfl rfl rfl ?_
  refine c_VV [vI x1, vI x2, vR 94] [] rfl b_Places_fit k_Places_69 rfl rfl rfl rfl rfl rfl (mwpV_mono (fun h1 F => ?_) F)
  refine w_aload_n rfl rfl ?_
  refine w_iload_n rfl rfl ?_
  refine w_iload_n rfl rfl ?_
  refine w_aload_n rfl rfl ?_
  refine w_getR rfl f_Places_43 rfl rfl rfl rfl rfl ?_
  refine c_VV [vI x1, vI x3, vR 95] [] rfl b_Places_fit k_Places_69 rfl rfl rfl rfl rfl rfl (mwpV_mono (fun h2 F => ?_) F)
  refine w_iconst rfl ?_
  refine w_istore rfl rfl rfl rfl (w_ls (ls2 := [(0, vR 85), (1, vI x1), (2, vI x2), (3, vI x3), (4, vI 0)]) rfl ?_)
  exact F
theorem s_Places_leastWay_23 {d : Nat}  (x1 x2 x3 x4 : Int) (h : St) (K : Int → St → Prop) (F : (inR x4) ∧ ((16 ≤ x4 → (K ((-4)) h)) ∧ (¬ (16 ≤ x4) → (mwpI (d + 4) m_Places_doMeet [vR 94, vR 95] h (fun z3 h3 => (inR z3) ∧ ((z3 = 0 → (mwpV (d + 4) m_Places_widen [vR 94] h3 (fun h6 => (wI (d + 4) m_Places_leastWay 23 [(0, vR 85), (1, vI x1), (2, vI x2), (3, vI x3), (4, vI (x4 + 1))] [] h6 K)))) ∧ (¬ (z3 = 0) → (K x4 h3)))))))) : wI (d + 4) m_Places_leastWay 23 [(0, vR 85), (1, vI x1), (2, vI x2), (3, vI x3), (4, vI x4)] [] h K := by
  refine w_iload rfl rfl ?_
  refine w_bipush (by decide) (by decide) rfl ?_
  obtain ⟨b1, F⟩ := F
  refine w_icmp_ge (tgt := 60) rfl (by decide) ⟨b1, (r_lit rfl)⟩ (fun q2 => ?_) (fun q2 => ?_)
  · replace F := F.1 q2
    refine w_bipush (by decide) (by decide) rfl ?_
    exact w_iret rfl rfl ⟨rfl, rfl, _, rfl, F⟩
  · replace F := F.2 q2
    refine w_aload_n rfl rfl ?_
    refine w_getR rfl f_Places_40 rfl rfl rfl rfl rfl ?_
    refine w_aload_n rfl rfl ?_
    refine w_getR rfl f_Places_43 rfl rfl rfl rfl rfl ?_
    refine c_SI [vR 94, vR 95] [] rfl b_Places_doMeet k_Places_73 rfl rfl rfl (mwpI_mono (fun z3 h3 F => ?_) F)
    obtain ⟨b4, F⟩ := F
    refine w_if_eq (tgt := 47) rfl (by decide) b4 (fun q5 => ?_) (fun q5 => ?_)
    · replace F := F.1 q5
      refine w_aload_n rfl rfl ?_
      refine w_getR rfl f_Places_40 rfl rfl rfl rfl rfl ?_
      refine c_SV [vR 94] [] rfl b_Places_widen k_Places_77 rfl rfl rfl (mwpV_mono (fun h6 F => ?_) F)
      refine w_iinc rfl rfl rfl rfl rfl (w_ls (ls2 := [(0, vR 85), (1, vI x1), (2, vI x2), (3, vI x3), (4, vI (x4 + 1))]) rfl ?_)
      refine w_goto (tgt := 23) rfl (by decide) ?_
      exact F
    · replace F := F.2 q5
      refine w_iload rfl rfl ?_
      exact w_iret rfl rfl ⟨rfl, rfl, _, rfl, F⟩
theorem s_Places_doMeet_0 {d : Nat}  (h : St) (K : Int → St → Prop) (F : (wI d m_Places_doMeet 2 [(0, vR 94), (1, vR 95), (2, vI 0)] [] h K)) : wI d m_Places_doMeet 0 [(0, vR 94), (1, vR 95)] [] h K := by
  refine w_iconst rfl ?_
  refine w_istore_n rfl rfl rfl rfl (w_ls (ls2 := [(0, vR 94), (1, vR 95), (2, vI 0)]) rfl ?_)
  exact F
theorem s_Places_doMeet_2 {d : Nat}  (x2 : Int) (h : St) (K : Int → St → Prop) (F : (inR x2) ∧ ((16 ≤ x2 → (K 0 h)) ∧ (¬ (16 ≤ x2) → (0 ≤ x2 ∧ x2 < 16) ∧ (inR (and3 (h 94 x2.toNat) (h 95 x2.toNat))) ∧ (((and3 (h 94 x2.toNat) (h 95 x2.toNat)) = 0 → (wI d m_Places_doMeet 2 [(0, vR 94), (1, vR 95), (2, vI (x2 + 1))] [] h K)) ∧ (¬ ((and3 (h 94 x2.toNat) (h 95 x2.toNat)) = 0) → (K 1 h)))))) : wI d m_Places_doMeet 2 [(0, vR 94), (1, vR 95), (2, vI x2)] [] h K := by
  refine w_iload_n rfl rfl ?_
  refine w_bipush (by decide) (by decide) rfl ?_
  obtain ⟨b1, F⟩ := F
  refine w_icmp_ge (tgt := 26) rfl (by decide) ⟨b1, (r_lit rfl)⟩ (fun q2 => ?_) (fun q2 => ?_)
  · replace F := F.1 q2
    refine w_iconst rfl ?_
    exact w_zret rfl rfl (by decide) ⟨rfl, rfl, _, rfl, F⟩
  · replace F := F.2 q2
    refine w_aload_n rfl rfl ?_
    refine w_iload_n rfl rfl ?_
    obtain ⟨b3, F⟩ := F
    refine w_iaload rfl rfl rfl b3 ?_
    refine w_aload_n rfl rfl ?_
    refine w_iload_n rfl rfl ?_
    refine w_iaload rfl rfl rfl b3 ?_
    refine w_iand rfl ?_
    obtain ⟨b4, F⟩ := F
    refine w_if_eq (tgt := 20) rfl (by decide) b4 (fun q5 => ?_) (fun q5 => ?_)
    · replace F := F.1 q5
      refine w_iinc rfl rfl rfl rfl rfl (w_ls (ls2 := [(0, vR 94), (1, vR 95), (2, vI (x2 + 1))]) rfl ?_)
      refine w_goto (tgt := 2) rfl (by decide) ?_
      exact F
    · replace F := F.2 q5
      refine w_iconst rfl ?_
      exact w_zret rfl rfl (by decide) ⟨rfl, rfl, _, rfl, F⟩
theorem s_Places_widen_0 {d : Nat}  (h : St) (K : St → Prop) (F : (wV d m_Places_widen 4 [(0, vR 94), (1, vI 0), (2, vI 0)] [] h K)) : wV d m_Places_widen 0 [(0, vR 94)] [] h K := by
  refine w_iconst rfl ?_
  refine w_istore_n rfl rfl rfl rfl (w_ls (ls2 := [(0, vR 94), (1, vI 0)]) rfl ?_)
  refine w_iconst rfl ?_
  refine w_istore_n rfl rfl rfl rfl (w_ls (ls2 := [(0, vR 94), (1, vI 0), (2, vI 0)]) rfl ?_)
  exact F
theorem s_Places_widen_4 {d : Nat}  (x1 x2 : Int) (h : St) (K : St → Prop) (F : (inR x2) ∧ ((16 ≤ x2 → (K h)) ∧ (¬ (16 ≤ x2) → (0 ≤ x2 ∧ x2 < 16) ∧ (((inR (x2 + 1)) ∧ (¬ (16 ≤ (x2 + 1)) → ((0 ≤ x2 + 1 ∧ x2 + 1 < 16))))) ∧ (wV d m_Places_widen 4 [(0, vR 94), (1, vI (h 94 x2.toNat)), (2, vI (x2 + 1))] [] (up h 94 x2.toNat (and3 (or3 (or3 (or3 (or3 x1 (h 94 x2.toNat)) (cif (16 ≤ (x2 + 1)) 0 (h 94 ((x2 + 1).toNat)))) (shl3 (or3 (or3 x1 (h 94 x2.toNat)) (cif (16 ≤ (x2 + 1)) 0 (h 94 ((x2 + 1).toNat)))) 1)) (shr3 (or3 (or3 x1 (h 94 x2.toNat)) (cif (16 ≤ (x2 + 1)) 0 (h 94 ((x2 + 1).toNat)))) 1)) 65535)) K)))) : wV d m_Places_widen 4 [(0, vR 94), (1, vI x1), (2, vI x2)] [] h K := by
  refine w_iload_n rfl rfl ?_
  refine w_bipush (by decide) (by decide) rfl ?_
  obtain ⟨b1, F⟩ := F
  refine w_icmp_ge (tgt := 67) rfl (by decide) ⟨b1, (r_lit rfl)⟩ (fun q2 => ?_) (fun q2 => ?_)
  · replace F := F.1 q2
    exact w_vret rfl rfl ⟨rfl, rfl, rfl, F⟩
  · replace F := F.2 q2
    refine w_aload_n rfl rfl ?_
    refine w_iload_n rfl rfl ?_
    obtain ⟨b3, F⟩ := F
    refine w_iaload rfl rfl rfl b3 ?_
    refine w_istore_n rfl rfl rfl rfl (w_ls (ls2 := [(0, vR 94), (1, vI x1), (2, vI x2), (3, vI (h 94 x2.toNat))]) rfl ?_)
    refine w_iload_n rfl rfl ?_
    refine w_iconst rfl ?_
    refine w_iadd rfl ?_
    refine w_bipush (by decide) (by decide) rfl ?_
    obtain ⟨G, F⟩ := F
    have J : ∀ (t7 : Int), t7 = cif (16 ≤ (x2 + 1)) 0 (h 94 ((x2 + 1).toNat)) → wV d m_Places_widen 31 [(0, vR 94), (1, vI x1), (2, vI x2), (3, vI (h 94 x2.toNat))] [vI t7] h K := by
      intro t7 et7
      subst et7
      refine w_istore rfl rfl rfl rfl (w_ls (ls2 := [(0, vR 94), (1, vI x1), (2, vI x2), (3, vI (h 94 x2.toNat)), (4, vI (cif (16 ≤ (x2 + 1)) 0 (h 94 ((x2 + 1).toNat))))]) rfl ?_)
      refine w_iload_n rfl rfl ?_
      refine w_iload_n rfl rfl ?_
      refine w_ior rfl ?_
      refine w_iload rfl rfl ?_
      refine w_ior rfl ?_
      refine w_istore rfl rfl rfl rfl (w_ls (ls2 := [(0, vR 94), (1, vI x1), (2, vI x2), (3, vI (h 94 x2.toNat)), (4, vI (cif (16 ≤ (x2 + 1)) 0 (h 94 ((x2 + 1).toNat)))), (5, vI (or3 (or3 x1 (h 94 x2.toNat)) (cif (16 ≤ (x2 + 1)) 0 (h 94 ((x2 + 1).toNat)))))]) rfl ?_)
      refine w_aload_n rfl rfl ?_
      refine w_iload_n rfl rfl ?_
      refine w_iload rfl rfl ?_
      refine w_iload rfl rfl ?_
      refine w_iconst rfl ?_
      refine w_ishl rfl ?_
      refine w_ior rfl ?_
      refine w_iload rfl rfl ?_
      refine w_iconst rfl ?_
      refine w_ishr rfl ?_
      refine w_ior rfl ?_
      refine w_ldc (z := 65535) kc_Places_81 (by decide) rfl ?_
      refine w_iand rfl ?_
      refine w_iastore rfl rfl rfl b3 ?_
      refine w_iload_n rfl rfl ?_
      refine w_istore_n rfl rfl rfl rfl (w_ls (ls2 := [(0, vR 94), (1, vI (h 94 x2.toNat)), (2, vI x2), (3, vI (h 94 x2.toNat)), (4, vI (cif (16 ≤ (x2 + 1)) 0 (h 94 ((x2 + 1).toNat)))), (5, vI (or3 (or3 x1 (h 94 x2.toNat)) (cif (16 ≤ (x2 + 1)) 0 (h 94 ((x2 + 1).toNat)))))]) rfl ?_)
      refine w_iinc rfl rfl rfl rfl rfl (w_ls (ls2 := [(0, vR 94), (1, vI (h 94 x2.toNat)), (2, vI (x2 + 1)), (3, vI (h 94 x2.toNat)), (4, vI (cif (16 ≤ (x2 + 1)) 0 (h 94 ((x2 + 1).toNat)))), (5, vI (or3 (or3 x1 (h 94 x2.toNat)) (cif (16 ≤ (x2 + 1)) 0 (h 94 ((x2 + 1).toNat)))))]) rfl ?_)
      refine w_goto (tgt := 4) rfl (by decide) ?_
      exact w_kp [0, 1, 2] F
    obtain ⟨b4, gb_⟩ := G
    refine w_icmp_ge (tgt := 30) rfl (by decide) ⟨b4, (r_lit rfl)⟩ (fun q5 => ?_) (fun q5 => ?_)
    · refine w_iconst rfl ?_
      exact J _ (cif_t q5).symm
    · have G := gb_ q5
      have b6 := G
      refine w_aload_n rfl rfl ?_
      refine w_iload_n rfl rfl ?_
      refine w_iconst rfl ?_
      refine w_iadd rfl ?_
      refine w_iaload rfl rfl rfl b6 ?_
      refine w_goto (tgt := 31) rfl (by decide) ?_
      exact J _ (cif_f q5).symm
theorem s_M_moved_0 {d : Nat}  (x1 x2 x3 : Int) (h : St) (K : Int → St → Prop) (F : (inR x1) ∧ ((¬ (0 ≤ x1 ∧ x1 ≤ 11) → (K ((-1)) h)) ∧ (0 ≤ x1 ∧ x1 ≤ 11 → (inR x2) ∧ ((¬ (0 ≤ x2 ∧ x2 ≤ 19) → (K ((-1)) h)) ∧ (0 ≤ x2 ∧ x2 ≤ 19 → (inR x3) ∧ ((0 ≤ x3 ∧ x3 ≤ 19 → (wI (d + 2) m_M_moved 26 [(0, vR 109), (1, vI x1), (2, vI x2), (3, vI x3), (4, vI 0)] [] h K)) ∧ (¬ (0 ≤ x3 ∧ x3 ≤ 19) → (K ((-1)) h)))))))) : wI (d + 2) m_M_moved 0 [(0, vR 109), (1, vI x1), (2, vI x2), (3, vI x3)] [] h K := by
  refine w_iload_n rfl rfl ?_
  obtain ⟨b1, F⟩ := F
  refine c_SI [vI x1] [] rfl b_M_isName k_M_142 rfl rfl rfl (c_M_isName b1 ?_)
  refine w_ifeq_b (tgt := 21) rfl (by decide) (fun q2 => ?_) (fun q2 => ?_)
  · replace F := F.1 q2
    refine w_iconst rfl ?_
    exact w_iret rfl rfl ⟨rfl, rfl, _, rfl, F⟩
  · replace F := F.2 q2
    refine w_iload_n rfl rfl ?_
    obtain ⟨b3, F⟩ := F
    refine c_SI [vI x2] [] rfl b_M_isDay k_M_138 rfl rfl rfl (c_M_isDay b3 ?_)
    refine w_ifeq_b (tgt := 21) rfl (by decide) (fun q4 => ?_) (fun q4 => ?_)
    · replace F := F.1 q4
      refine w_iconst rfl ?_
      exact w_iret rfl rfl ⟨rfl, rfl, _, rfl, F⟩
    · replace F := F.2 q4
      refine w_iload_n rfl rfl ?_
      obtain ⟨b5, F⟩ := F
      refine c_SI [vI x3] [] rfl b_M_isDay k_M_138 rfl rfl rfl (c_M_isDay b5 ?_)
      refine w_ifne_b (tgt := 23) rfl (by decide) (fun q6 => ?_) (fun q6 => ?_)
      · replace F := F.1 q6
        refine w_iconst rfl ?_
        refine w_istore rfl rfl rfl rfl (w_ls (ls2 := [(0, vR 109), (1, vI x1), (2, vI x2), (3, vI x3), (4, vI 0)]) rfl ?_)
        exact F
      · replace F := F.2 q6
        refine w_iconst rfl ?_
        exact w_iret rfl rfl ⟨rfl, rfl, _, rfl, F⟩
theorem s_M_moved_26 {d : Nat}  (x1 x2 x3 x4 : Int) (h : St) (K : Int → St → Prop) (F : (inR x4) ∧ ((256 ≤ x4 → (wI (d + 2) m_M_moved 93 [(0, vR 109), (1, vI x1), (2, vI x2), (3, vI x3), (4, vI ((-4))), (5, vI 0)] [] h K)) ∧ (¬ (256 ≤ x4) → (mwpI (d + 2) m_M_fits [vR 109, vI x1, vI x2, vI (x4.tdiv 16), vI (x4.tmod 16)] h (fun z3 h3 => (0 ≤ x4 ∧ x4 < 256) ∧ (z3 = 0 ∨ z3 = 1) ∧ (mwpI (d + 2) m_M_fits [vR 109, vI x1, vI x3, vI (x4.tdiv 16), vI (x4.tmod 16)] (up h3 142 x4.toNat z3) (fun z6 h6 => (z6 = 0 ∨ z6 = 1) ∧ (wI (d + 2) m_M_moved 26 [(0, vR 109), (1, vI x1), (2, vI x2), (3, vI x3), (4, vI (x4 + 1))] [] (up h6 143 x4.toNat z6) K)))))))) : wI (d + 2) m_M_moved 26 [(0, vR 109), (1, vI x1), (2, vI x2), (3, vI x3), (4, vI x4)] [] h K := by
  refine w_iload rfl rfl ?_
  refine w_sipush (by decide) (by decide) rfl ?_
  obtain ⟨b1, F⟩ := F
  refine w_icmp_ge (tgt := 86) rfl (by decide) ⟨b1, (r_lit rfl)⟩ (fun q2 => ?_) (fun q2 => ?_)
  · replace F := F.1 q2
    refine w_bipush (by decide) (by decide) rfl ?_
    refine w_istore rfl rfl rfl rfl (w_ls (ls2 := [(0, vR 109), (1, vI x1), (2, vI x2), (3, vI x3), (4, vI ((-4)))]) rfl ?_)
    refine w_iconst rfl ?_
    refine w_istore rfl rfl rfl rfl (w_ls (ls2 := [(0, vR 109), (1, vI x1), (2, vI x2), (3, vI x3), (4, vI ((-4))), (5, vI 0)]) rfl ?_)
    exact F
  · replace F := F.2 q2
    refine w_aload_n rfl rfl ?_
    refine w_getR rfl f_M_114 rfl rfl rfl rfl rfl ?_
    refine w_iload rfl rfl ?_
    refine w_aload_n rfl rfl ?_
    refine w_iload_n rfl rfl ?_
    refine w_iload_n rfl rfl ?_
    refine w_iload rfl rfl ?_
    refine w_bipush (by decide) (by decide) rfl ?_
    refine w_idiv ⟨b1, (r_lit rfl), (by decide)⟩ rfl ?_
    refine w_iload rfl rfl ?_
    refine w_bipush (by decide) (by decide) rfl ?_
    refine w_irem ⟨b1, (r_lit rfl), (by decide)⟩ rfl ?_
    refine c_VI [vI x1, vI x2, vI (x4.tdiv 16), vI (x4.tmod 16)] [vI x4, vR 142] rfl b_M_fits k_M_294 rfl rfl rfl rfl rfl rfl (mwpI_mono (fun z3 h3 F => ?_) F)
    obtain ⟨b4, F⟩ := F
    obtain ⟨b5, F⟩ := F
    refine w_zastore rfl rfl rfl b4 b5 ?_
    refine w_aload_n rfl rfl ?_
    refine w_getR rfl f_M_118 rfl rfl rfl rfl rfl ?_
    refine w_iload rfl rfl ?_
    refine w_aload_n rfl rfl ?_
    refine w_iload_n rfl rfl ?_
    refine w_iload_n rfl rfl ?_
    refine w_iload rfl rfl ?_
    refine w_bipush (by decide) (by decide) rfl ?_
    refine w_idiv ⟨b1, (r_lit rfl), (by decide)⟩ rfl ?_
    refine w_iload rfl rfl ?_
    refine w_bipush (by decide) (by decide) rfl ?_
    refine w_irem ⟨b1, (r_lit rfl), (by decide)⟩ rfl ?_
    refine c_VI [vI x1, vI x3, vI (x4.tdiv 16), vI (x4.tmod 16)] [vI x4, vR 143] rfl b_M_fits k_M_294 rfl rfl rfl rfl rfl rfl (mwpI_mono (fun z6 h6 F => ?_) F)
    obtain ⟨b7, F⟩ := F
    refine w_zastore rfl rfl rfl b4 b7 ?_
    refine w_iinc rfl rfl rfl rfl rfl (w_ls (ls2 := [(0, vR 109), (1, vI x1), (2, vI x2), (3, vI x3), (4, vI (x4 + 1))]) rfl ?_)
    refine w_goto (tgt := 26) rfl (by decide) ?_
    exact F
theorem s_M_moved_93 {d : Nat}  (x1 x2 x3 x4 x5 : Int) (h : St) (K : Int → St → Prop) (F : (inR x5) ∧ ((256 ≤ x5 → (K x4 h)) ∧ (¬ (256 ≤ x5) → (wI (d + 2) m_M_moved 104 [(0, vR 109), (1, vI x1), (2, vI x2), (3, vI x3), (4, vI x4), (5, vI x5), (6, vI 0)] [] h K)))) : wI (d + 2) m_M_moved 93 [(0, vR 109), (1, vI x1), (2, vI x2), (3, vI x3), (4, vI x4), (5, vI x5)] [] h K := by
  refine w_iload rfl rfl ?_
  refine w_sipush (by decide) (by decide) rfl ?_
  obtain ⟨b1, F⟩ := F
  refine w_icmp_ge (tgt := 213) rfl (by decide) ⟨b1, (r_lit rfl)⟩ (fun q2 => ?_) (fun q2 => ?_)
  · replace F := F.1 q2
    refine w_iload rfl rfl ?_
    exact w_iret rfl rfl ⟨rfl, rfl, _, rfl, F⟩
  · replace F := F.2 q2
    refine w_iconst rfl ?_
    refine w_istore rfl rfl rfl rfl (w_ls (ls2 := [(0, vR 109), (1, vI x1), (2, vI x2), (3, vI x3), (4, vI x4), (5, vI x5), (6, vI 0)]) rfl ?_)
    exact F
theorem s_M_moved_104 {d : Nat}  (x1 x2 x3 x4 x5 x6 : Int) (h : St) (K : Int → St → Prop) (F : (inR x6) ∧ ((256 ≤ x6 → (wI (d + 2) m_M_moved 93 [(0, vR 109), (1, vI x1), (2, vI x2), (3, vI x3), (4, vI x4), (5, vI (x5 + 1))] [] h K)) ∧ (¬ (256 ≤ x6) → (0 ≤ x5 ∧ x5 < 256) ∧ (inR (h 142 x5.toNat)) ∧ (((h 142 x5.toNat) = 0 → (wI (d + 2) m_M_moved 93 [(0, vR 109), (1, vI x1), (2, vI x2), (3, vI x3), (4, vI x4), (5, vI (x5 + 1))] [] h K)) ∧ (¬ ((h 142 x5.toNat) = 0) → (-2147483648 < ((x5.tdiv 16) - (x6.tdiv 16)) ∧ ((x5.tdiv 16) - (x6.tdiv 16)) < 2147483648) ∧ (-2147483648 < ((x5.tmod 16) - (x6.tmod 16)) ∧ ((x5.tmod 16) - (x6.tmod 16)) < 2147483648) ∧ (((inR ((((x5.tdiv 16) - (x6.tdiv 16)).natAbs : Int))) ∧ (inR ((((x5.tmod 16) - (x6.tmod 16)).natAbs : Int))))) ∧ (0 ≤ x6 ∧ x6 < 256) ∧ (((inR (h 143 x6.toNat)) ∧ (¬ ((h 143 x6.toNat) = 0) → ((inR x4) ∧ (¬ (x4 < 0) → ((inR (cif (((((x5.tdiv 16) - (x6.tdiv 16)).natAbs : Int)) ≤ ((((x5.tmod 16) - (x6.tmod 16)).natAbs : Int))) ((((x5.tmod 16) - (x6.tmod 16)).natAbs : Int)) ((((x5.tdiv 16) - (x6.tdiv 16)).natAbs : Int)))))))))) ∧ (wI (d + 2) m_M_moved 104 [(0, vR 109), (1, vI x1), (2, vI x2), (3, vI x3), (4, vI (cif ((h 143 x6.toNat) = 0) x4 (cif (x4 < 0) (cif (((((x5.tdiv 16) - (x6.tdiv 16)).natAbs : Int)) ≤ ((((x5.tmod 16) - (x6.tmod 16)).natAbs : Int))) ((((x5.tmod 16) - (x6.tmod 16)).natAbs : Int)) ((((x5.tdiv 16) - (x6.tdiv 16)).natAbs : Int))) (cif (x4 ≤ (cif (((((x5.tdiv 16) - (x6.tdiv 16)).natAbs : Int)) ≤ ((((x5.tmod 16) - (x6.tmod 16)).natAbs : Int))) ((((x5.tmod 16) - (x6.tmod 16)).natAbs : Int)) ((((x5.tdiv 16) - (x6.tdiv 16)).natAbs : Int)))) x4 (cif (((((x5.tdiv 16) - (x6.tdiv 16)).natAbs : Int)) ≤ ((((x5.tmod 16) - (x6.tmod 16)).natAbs : Int))) ((((x5.tmod 16) - (x6.tmod 16)).natAbs : Int)) ((((x5.tdiv 16) - (x6.tdiv 16)).natAbs : Int))))))), (5, vI x5), (6, vI (x6 + 1))] [] h K)))))) : wI (d + 2) m_M_moved 104 [(0, vR 109), (1, vI x1), (2, vI x2), (3, vI x3), (4, vI x4), (5, vI x5), (6, vI x6)] [] h K := by
  refine w_iload rfl rfl ?_
  refine w_sipush (by decide) (by decide) rfl ?_
  obtain ⟨b1, F⟩ := F
  refine w_icmp_ge (tgt := 207) rfl (by decide) ⟨b1, (r_lit rfl)⟩ (fun q2 => ?_) (fun q2 => ?_)
  · replace F := F.1 q2
    refine w_iinc rfl rfl rfl rfl rfl (w_ls (ls2 := [(0, vR 109), (1, vI x1), (2, vI x2), (3, vI x3), (4, vI x4), (5, vI (x5 + 1)), (6, vI x6)]) rfl ?_)
    refine w_goto (tgt := 93) rfl (by decide) ?_
    exact w_kp [0, 1, 2, 3, 4, 5] F
  · replace F := F.2 q2
    refine w_aload_n rfl rfl ?_
    refine w_getR rfl f_M_114 rfl rfl rfl rfl rfl ?_
    refine w_iload rfl rfl ?_
    obtain ⟨b3, F⟩ := F
    refine w_zaload rfl rfl rfl b3 ?_
    obtain ⟨b4, F⟩ := F
    refine w_if_eq (tgt := 207) rfl (by decide) b4 (fun q5 => ?_) (fun q5 => ?_)
    · replace F := F.1 q5
      refine w_iinc rfl rfl rfl rfl rfl (w_ls (ls2 := [(0, vR 109), (1, vI x1), (2, vI x2), (3, vI x3), (4, vI x4), (5, vI (x5 + 1)), (6, vI x6)]) rfl ?_)
      refine w_goto (tgt := 93) rfl (by decide) ?_
      exact w_kp [0, 1, 2, 3, 4, 5] F
    · replace F := F.2 q5
      refine w_iload rfl rfl ?_
      refine w_bipush (by decide) (by decide) rfl ?_
      refine w_idiv ⟨⟨by omega, by omega⟩, (r_lit rfl), (by decide)⟩ rfl ?_
      refine w_iload rfl rfl ?_
      refine w_bipush (by decide) (by decide) rfl ?_
      refine w_idiv ⟨b1, (r_lit rfl), (by decide)⟩ rfl ?_
      refine w_isub rfl ?_
      obtain ⟨b6, F⟩ := F
      refine c_SI [vI ((x5.tdiv 16) - (x6.tdiv 16))] [] rfl b_M_size k_M_193 rfl rfl rfl (c_M_size b6 ?_)
      refine w_istore rfl rfl rfl rfl (w_ls (ls2 := [(0, vR 109), (1, vI x1), (2, vI x2), (3, vI x3), (4, vI x4), (5, vI x5), (6, vI x6), (7, vI ((((x5.tdiv 16) - (x6.tdiv 16)).natAbs : Int)))]) rfl ?_)
      refine w_iload rfl rfl ?_
      refine w_bipush (by decide) (by decide) rfl ?_
      refine w_irem ⟨⟨by omega, by omega⟩, (r_lit rfl), (by decide)⟩ rfl ?_
      refine w_iload rfl rfl ?_
      refine w_bipush (by decide) (by decide) rfl ?_
      refine w_irem ⟨b1, (r_lit rfl), (by decide)⟩ rfl ?_
      refine w_isub rfl ?_
      obtain ⟨b7, F⟩ := F
      refine c_SI [vI ((x5.tmod 16) - (x6.tmod 16))] [] rfl b_M_size k_M_193 rfl rfl rfl (c_M_size b7 ?_)
      refine w_istore rfl rfl rfl rfl (w_ls (ls2 := [(0, vR 109), (1, vI x1), (2, vI x2), (3, vI x3), (4, vI x4), (5, vI x5), (6, vI x6), (7, vI ((((x5.tdiv 16) - (x6.tdiv 16)).natAbs : Int))), (8, vI ((((x5.tmod 16) - (x6.tmod 16)).natAbs : Int)))]) rfl ?_)
      refine w_iload rfl rfl ?_
      refine w_iload rfl rfl ?_
      obtain ⟨G, F⟩ := F
      have J : ∀ (t11 : Int), t11 = cif (((((x5.tdiv 16) - (x6.tdiv 16)).natAbs : Int)) ≤ ((((x5.tmod 16) - (x6.tmod 16)).natAbs : Int))) ((((x5.tmod 16) - (x6.tmod 16)).natAbs : Int)) ((((x5.tdiv 16) - (x6.tdiv 16)).natAbs : Int)) → wI (d + 2) m_M_moved 168 [(0, vR 109), (1, vI x1), (2, vI x2), (3, vI x3), (4, vI x4), (5, vI x5), (6, vI x6), (7, vI ((((x5.tdiv 16) - (x6.tdiv 16)).natAbs : Int))), (8, vI ((((x5.tmod 16) - (x6.tmod 16)).natAbs : Int)))] [vI t11] h K := by
        intro t11 et11
        subst et11
        refine w_istore rfl rfl rfl rfl (w_ls (ls2 := [(0, vR 109), (1, vI x1), (2, vI x2), (3, vI x3), (4, vI x4), (5, vI x5), (6, vI x6), (7, vI ((((x5.tdiv 16) - (x6.tdiv 16)).natAbs : Int))), (8, vI ((((x5.tmod 16) - (x6.tmod 16)).natAbs : Int))), (9, vI (cif (((((x5.tdiv 16) - (x6.tdiv 16)).natAbs : Int)) ≤ ((((x5.tmod 16) - (x6.tmod 16)).natAbs : Int))) ((((x5.tmod 16) - (x6.tmod 16)).natAbs : Int)) ((((x5.tdiv 16) - (x6.tdiv 16)).natAbs : Int))))]) rfl ?_)
        refine w_aload_n rfl rfl ?_
        refine w_getR rfl f_M_118 rfl rfl rfl rfl rfl ?_
        refine w_iload rfl rfl ?_
        obtain ⟨b12, F⟩ := F
        refine w_zaload rfl rfl rfl b12 ?_
        obtain ⟨G, F⟩ := F
        have J : ∀ (t19 : Int), t19 = cif ((h 143 x6.toNat) = 0) x4 (cif (x4 < 0) (cif (((((x5.tdiv 16) - (x6.tdiv 16)).natAbs : Int)) ≤ ((((x5.tmod 16) - (x6.tmod 16)).natAbs : Int))) ((((x5.tmod 16) - (x6.tmod 16)).natAbs : Int)) ((((x5.tdiv 16) - (x6.tdiv 16)).natAbs : Int))) (cif (x4 ≤ (cif (((((x5.tdiv 16) - (x6.tdiv 16)).natAbs : Int)) ≤ ((((x5.tmod 16) - (x6.tmod 16)).natAbs : Int))) ((((x5.tmod 16) - (x6.tmod 16)).natAbs : Int)) ((((x5.tdiv 16) - (x6.tdiv 16)).natAbs : Int)))) x4 (cif (((((x5.tdiv 16) - (x6.tdiv 16)).natAbs : Int)) ≤ ((((x5.tmod 16) - (x6.tmod 16)).natAbs : Int))) ((((x5.tmod 16) - (x6.tmod 16)).natAbs : Int)) ((((x5.tdiv 16) - (x6.tdiv 16)).natAbs : Int))))) → wI (d + 2) m_M_moved 199 [(0, vR 109), (1, vI x1), (2, vI x2), (3, vI x3), (4, vI x4), (5, vI x5), (6, vI x6), (7, vI ((((x5.tdiv 16) - (x6.tdiv 16)).natAbs : Int))), (8, vI ((((x5.tmod 16) - (x6.tmod 16)).natAbs : Int))), (9, vI (cif (((((x5.tdiv 16) - (x6.tdiv 16)).natAbs : Int)) ≤ ((((x5.tmod 16) - (x6.tmod 16)).natAbs : Int))) ((((x5.tmod 16) - (x6.tmod 16)).natAbs : Int)) ((((x5.tdiv 16) - (x6.tdiv 16)).natAbs : Int))))] [vI t19] h K := by
          intro t19 et19
          subst et19
          refine w_istore rfl rfl rfl rfl (w_ls (ls2 := [(0, vR 109), (1, vI x1), (2, vI x2), (3, vI x3), (4, vI (cif ((h 143 x6.toNat) = 0) x4 (cif (x4 < 0) (cif (((((x5.tdiv 16) - (x6.tdiv 16)).natAbs : Int)) ≤ ((((x5.tmod 16) - (x6.tmod 16)).natAbs : Int))) ((((x5.tmod 16) - (x6.tmod 16)).natAbs : Int)) ((((x5.tdiv 16) - (x6.tdiv 16)).natAbs : Int))) (cif (x4 ≤ (cif (((((x5.tdiv 16) - (x6.tdiv 16)).natAbs : Int)) ≤ ((((x5.tmod 16) - (x6.tmod 16)).natAbs : Int))) ((((x5.tmod 16) - (x6.tmod 16)).natAbs : Int)) ((((x5.tdiv 16) - (x6.tdiv 16)).natAbs : Int)))) x4 (cif (((((x5.tdiv 16) - (x6.tdiv 16)).natAbs : Int)) ≤ ((((x5.tmod 16) - (x6.tmod 16)).natAbs : Int))) ((((x5.tmod 16) - (x6.tmod 16)).natAbs : Int)) ((((x5.tdiv 16) - (x6.tdiv 16)).natAbs : Int))))))), (5, vI x5), (6, vI x6), (7, vI ((((x5.tdiv 16) - (x6.tdiv 16)).natAbs : Int))), (8, vI ((((x5.tmod 16) - (x6.tmod 16)).natAbs : Int))), (9, vI (cif (((((x5.tdiv 16) - (x6.tdiv 16)).natAbs : Int)) ≤ ((((x5.tmod 16) - (x6.tmod 16)).natAbs : Int))) ((((x5.tmod 16) - (x6.tmod 16)).natAbs : Int)) ((((x5.tdiv 16) - (x6.tdiv 16)).natAbs : Int))))]) rfl ?_)
          refine w_iinc rfl rfl rfl rfl rfl (w_ls (ls2 := [(0, vR 109), (1, vI x1), (2, vI x2), (3, vI x3), (4, vI (cif ((h 143 x6.toNat) = 0) x4 (cif (x4 < 0) (cif (((((x5.tdiv 16) - (x6.tdiv 16)).natAbs : Int)) ≤ ((((x5.tmod 16) - (x6.tmod 16)).natAbs : Int))) ((((x5.tmod 16) - (x6.tmod 16)).natAbs : Int)) ((((x5.tdiv 16) - (x6.tdiv 16)).natAbs : Int))) (cif (x4 ≤ (cif (((((x5.tdiv 16) - (x6.tdiv 16)).natAbs : Int)) ≤ ((((x5.tmod 16) - (x6.tmod 16)).natAbs : Int))) ((((x5.tmod 16) - (x6.tmod 16)).natAbs : Int)) ((((x5.tdiv 16) - (x6.tdiv 16)).natAbs : Int)))) x4 (cif (((((x5.tdiv 16) - (x6.tdiv 16)).natAbs : Int)) ≤ ((((x5.tmod 16) - (x6.tmod 16)).natAbs : Int))) ((((x5.tmod 16) - (x6.tmod 16)).natAbs : Int)) ((((x5.tdiv 16) - (x6.tdiv 16)).natAbs : Int))))))), (5, vI x5), (6, vI (x6 + 1)), (7, vI ((((x5.tdiv 16) - (x6.tdiv 16)).natAbs : Int))), (8, vI ((((x5.tmod 16) - (x6.tmod 16)).natAbs : Int))), (9, vI (cif (((((x5.tdiv 16) - (x6.tdiv 16)).natAbs : Int)) ≤ ((((x5.tmod 16) - (x6.tmod 16)).natAbs : Int))) ((((x5.tmod 16) - (x6.tmod 16)).natAbs : Int)) ((((x5.tdiv 16) - (x6.tdiv 16)).natAbs : Int))))]) rfl ?_)
          refine w_goto (tgt := 104) rfl (by decide) ?_
          exact w_kp [0, 1, 2, 3, 4, 5, 6] F
        obtain ⟨b13, gb_⟩ := G
        refine w_if_eq (tgt := 197) rfl (by decide) b13 (fun q14 => ?_) (fun q14 => ?_)
        · refine w_iload rfl rfl ?_
          exact J _ (cif_t q14).symm
        · have G := gb_ q14
          obtain ⟨b15, gb_⟩ := G
          refine w_iload rfl rfl ?_
          refine w_if_lt (tgt := 192) rfl (by decide) b15 (fun q16 => ?_) (fun q16 => ?_)
          · refine w_iload rfl rfl ?_
            refine w_goto (tgt := 199) rfl (by decide) ?_
            exact J _ ((cif_f q14).trans (cif_t q16)).symm
          · have G := gb_ q16
            have b17 := G
            refine w_iload rfl rfl ?_
            refine w_iload rfl rfl ?_
            refine w_icmp_ge (tgt := 197) rfl (by decide) ⟨b17, b15⟩ (fun q18 => ?_) (fun q18 => ?_)
            · refine w_iload rfl rfl ?_
              exact J _ ((cif_f q14).trans ((cif_f q16).trans (cif_t q18))).symm
            · refine w_iload rfl rfl ?_
              refine w_goto (tgt := 199) rfl (by decide) ?_
              exact J _ ((cif_f q14).trans ((cif_f q16).trans (cif_f q18))).symm
      obtain ⟨b8, b9⟩ := G
      refine w_icmp_le (tgt := 166) rfl (by decide) ⟨b8, b9⟩ (fun q10 => ?_) (fun q10 => ?_)
      · refine w_iload rfl rfl ?_
        exact J _ (cif_t q10).symm
      · refine w_iload rfl rfl ?_
        refine w_goto (tgt := 168) rfl (by decide) ?_
        exact J _ (cif_f q10).symm
def nbQ (Q : Nat → Nat → Prop) (x y : Nat) : Prop := ∃ u v, u < 16 ∧ v < 16 ∧ (x ≤ u + 1 ∧ u ≤ x + 1) ∧ (y ≤ v + 1 ∧ v ≤ y + 1) ∧ Q u v
def itQ (P : Nat → Nat → Prop) : Nat → Nat → Nat → Prop
  | 0 => P
  | w + 1 => nbQ (itQ P w)
theorem itQ_iff {P : Nat → Nat → Prop} : ∀ w x y : Nat, x < 16 → y < 16 → (itQ P w x y ↔ ∃ u v, u < 16 ∧ v < 16 ∧ (x ≤ u + w ∧ u ≤ x + w) ∧ (y ≤ v + w ∧ v ≤ y + w) ∧ P u v)
  | 0, x, y, hx, hy => by
    constructor
    · intro q; exact ⟨x, y, hx, hy, by omega, by omega, q⟩
    · rintro ⟨u, v, _, _, h1, h2, q⟩
      have e1 : u = x := by omega
      have e2 : v = y := by omega
      subst e1; subst e2; exact q
  | w + 1, x, y, hx, hy => by
    constructor
    · rintro ⟨u, v, hu, hv, h1, h2, q⟩
      obtain ⟨u2, v2, hu2, hv2, h3, h4, q2⟩ := (itQ_iff w u v hu hv).mp q
      exact ⟨u2, v2, hu2, hv2, by omega, by omega, q2⟩
    · rintro ⟨u, v, hu, hv, h1, h2, q⟩
      have st : ∀ a b : Nat, a < 16 → b < 16 → (a ≤ b + (w + 1) ∧ b ≤ a + (w + 1)) → ∃ c, c < 16 ∧ (a ≤ c + 1 ∧ c ≤ a + 1) ∧ (c ≤ b + w ∧ b ≤ c + w) := by
        intro a b ha hb hab
        by_cases q1 : a < b
        · exact ⟨a + 1, by omega, by omega, by omega⟩
        · by_cases q2 : b < a
          · exact ⟨a - 1, by omega, by omega, by omega⟩
          · exact ⟨a, by omega, by omega, by omega⟩
      obtain ⟨x1, a1, a2, a3⟩ := st x u hx hu h1
      obtain ⟨y1, b1, b2, b3⟩ := st y v hy hv h2
      exact ⟨x1, y1, a1, b1, a2, b2, (itQ_iff w x1 y1 a1 b1).mpr ⟨u, v, hu, hv, a3, b3, q⟩⟩
theorem rwA_ext {Q : Nat → Nat → Prop} {x a : Nat} (h1 : ∀ y, a.testBit y = true ↔ y < 16 ∧ Q x y) : a = rwA Q x 16 := by
  apply Nat.eq_of_testBit_eq
  intro y
  have h2 := h1 y
  rw [← rwA_tb (P := Q) (x := x) (y := y) 16] at h2
  exact Bool.eq_iff_iff.mpr h2
noncomputable def bfA (Q : Nat → Nat → Prop) : Nat → Nat
  | 0 => 0
  | x + 1 => rwA Q x 16
noncomputable def bhA (Q : Nat → Nat → Prop) (x : Nat) : Nat := nif (16 ≤ x + 1) 0 (rwA Q (x + 1) 16)
theorem bfA_lt {Q : Nat → Nat → Prop} {x : Nat} : bfA Q x < 65536 := by
  cases x with
  | zero => simp [bfA]
  | succ x => exact rwA_lt 16
theorem bhA_lt {Q : Nat → Nat → Prop} {x : Nat} : bhA Q x < 65536 := by
  unfold bhA
  by_cases q : 16 ≤ x + 1
  · rw [nif_t q]; omega
  · rw [nif_f q]; exact rwA_lt 16
theorem jn_tb {Q : Nat → Nat → Prop} {x y : Nat} (hx : x < 16) : (bfA Q x ||| rwA Q x 16 ||| bhA Q x).testBit y = true ↔ y < 16 ∧ ∃ u, u < 16 ∧ (x ≤ u + 1 ∧ u ≤ x + 1) ∧ Q u y := by
  have e1 : (bfA Q x).testBit y = true ↔ y < 16 ∧ ∃ u, u + 1 = x ∧ Q u y := by
    cases x with
    | zero => simp [bfA]
    | succ x =>
      rw [show bfA Q (x + 1) = rwA Q x 16 from rfl, rwA_tb]
      constructor
      · rintro ⟨a, b⟩; exact ⟨a, x, rfl, b⟩
      · rintro ⟨a, u, h1, b⟩
        have : u = x := by omega
        subst this; exact ⟨a, b⟩
  have e2 : (bhA Q x).testBit y = true ↔ y < 16 ∧ x + 1 < 16 ∧ Q (x + 1) y := by
    unfold bhA
    by_cases q : 16 ≤ x + 1
    · rw [nif_t q]
      constructor
      · intro z; simp at z
      · rintro ⟨_, a, _⟩; omega
    · rw [nif_f q, rwA_tb]
      exact ⟨fun z => ⟨z.1, by omega, z.2⟩, fun z => ⟨z.1, z.2.2⟩⟩
  rw [Nat.testBit_or, Nat.testBit_or, Bool.or_eq_true, Bool.or_eq_true, e1, e2, rwA_tb]
  constructor
  · rintro ((⟨a, u, h1, b⟩ | ⟨a, b⟩) | ⟨a, h1, b⟩)
    · exact ⟨a, u, by omega, by omega, b⟩
    · exact ⟨a, x, hx, by omega, b⟩
    · exact ⟨a, x + 1, h1, by omega, b⟩
  · rintro ⟨a, u, h1, h2, b⟩
    by_cases q1 : u + 1 = x
    · exact Or.inl (Or.inl ⟨a, u, q1, b⟩)
    · by_cases q2 : u = x
      · subst q2; exact Or.inl (Or.inr ⟨a, b⟩)
      · have : u = x + 1 := by omega
        subst this; exact Or.inr ⟨a, h1, b⟩
theorem wd_eq {Q : Nat → Nat → Prop} {x : Nat} (hx : x < 16) {J : Nat} (eJ : bfA Q x ||| rwA Q x 16 ||| bhA Q x = J) : (J ||| J * 2 ^ 1 ||| J >>> 1) &&& 65535 = rwA (nbQ Q) x 16 := by
  have tJ : ∀ y, J.testBit y = true ↔ y < 16 ∧ ∃ u, u < 16 ∧ (x ≤ u + 1 ∧ u ≤ x + 1) ∧ Q u y := fun y => by rw [← eJ]; exact jn_tb hx
  refine rwA_ext (fun y => ?_)
  rw [show 65535 = 2 ^ 16 - 1 from rfl, Nat.and_two_pow_sub_one_eq_mod, Nat.testBit_mod_two_pow, Bool.and_eq_true, decide_eq_true_iff, Nat.testBit_or, Nat.testBit_or, Bool.or_eq_true, Bool.or_eq_true, ← Nat.shiftLeft_eq, Nat.testBit_shiftLeft, Nat.testBit_shiftRight, Bool.and_eq_true, decide_eq_true_iff, tJ, tJ, tJ]
  constructor
  · rintro ⟨hy, ((⟨a, u, h1, h2, q⟩ | ⟨h0, a, u, h1, h2, q⟩) | ⟨a, u, h1, h2, q⟩)⟩
    · exact ⟨hy, u, y, h1, hy, h2, by omega, q⟩
    · exact ⟨hy, u, y - 1, h1, a, h2, by omega, q⟩
    · exact ⟨hy, u, 1 + y, h1, a, h2, by omega, q⟩
  · rintro ⟨hy, u, v, h1, h2, h3, h4, q⟩
    refine ⟨hy, ?_⟩
    by_cases q1 : v = y
    · subst q1; exact Or.inl (Or.inl ⟨hy, u, h1, h3, q⟩)
    · by_cases q2 : v + 1 = y
      · have e : v = y - 1 := by omega
        rw [e] at q
        exact Or.inl (Or.inr ⟨by omega, by omega, u, h1, h3, q⟩)
      · have e : v = 1 + y := by omega
        rw [e] at q
        exact Or.inr ⟨by omega, u, h1, h3, q⟩
theorem c_Places_widen {D : Nat} {K : St → Prop} {Q : Nat → Nat → Prop} {h : St} (f : ∀ u : Nat, u < 16 → h 94 u = ((rwA Q u 16 : Nat) : Int)) (k : ∀ h2, ag (fun c _ => c ≠ 94) h h2 → (∀ u : Nat, u < 16 → h2 94 u = ((rwA (nbQ Q) u 16 : Nat) : Int)) → K h2) : mwpV (D + 1) m_Places_widen [vR 94] h K := by
  have lp : ∀ (r x : Nat) (h1 : St), x + r = 16 → ag (fun c _ => c ≠ 94) h h1 → (∀ u : Nat, u < x → h1 94 u = ((rwA (nbQ Q) u 16 : Nat) : Int)) → (∀ u : Nat, x ≤ u → u < 16 → h1 94 u = ((rwA Q u 16 : Nat) : Int)) → wV D m_Places_widen 4 [(0, vR 94), (1, vI ((bfA Q x : Nat) : Int)), (2, vI (x : Int))] [] h1 K := by
    intro r
    induction r with
    | zero =>
      intro x h1 hx g f1 f2
      have e : x = 16 := by omega
      subst e
      exact s_Places_widen_4 _ _ h1 K ⟨⟨by omega, by omega⟩, fun _ => k h1 g f1, fun z => absurd (by omega) z⟩
    | succ r ih =>
      intro x h1 hx g f1 f2
      have b1 := bfA_lt (Q := Q) (x := x)
      have b2 : rwA Q x 16 < 65536 := rwA_lt 16
      have b3 := bhA_lt (Q := Q) (x := x)
      have b4 : bfA Q x ||| rwA Q x 16 < 65536 := Nat.or_lt_two_pow (n := 16) b1 b2
      have b5 : bfA Q x ||| rwA Q x 16 ||| bhA Q x < 65536 := Nat.or_lt_two_pow (n := 16) b4 b3
      have eb : cif (16 ≤ (x : Int) + 1) 0 (h1 94 (((x : Int) + 1).toNat)) = ((bhA Q x : Nat) : Int) := by
        unfold bhA
        by_cases q : 16 ≤ x + 1
        · rw [cif_t (by omega), nif_t q]; rfl
        · rw [cif_f (by omega), nif_f q, show ((x : Int) + 1).toNat = x + 1 by omega, f2 (x + 1) (by omega) (by omega)]
      refine s_Places_widen_4 _ _ h1 K ?_
      rw [eb, Int.toNat_natCast, f2 x (by omega) (by omega), or3_nat (by omega) (by omega), or3_nat (by omega) (by omega)]
      generalize eJ : bfA Q x ||| rwA Q x 16 ||| bhA Q x = J at *
      have b6 : J ||| J * 2 ^ 1 < 131072 := Nat.or_lt_two_pow (n := 17) (by omega) (by omega)
      have b7 : J >>> 1 ≤ J := Nat.shiftRight_le J 1
      have b8 : J ||| J * 2 ^ 1 ||| J >>> 1 < 131072 := Nat.or_lt_two_pow (n := 17) b6 (by omega)
      have s1 : shl3 (J : Int) 1 = ((J * 2 ^ 1 : Nat) : Int) := shl3_nat (a := J) (k := 1) (by omega) (by omega)
      have s2 : shr3 (J : Int) 1 = ((J >>> 1 : Nat) : Int) := shr3_nat (a := J) (k := 1) (by omega) (by omega)
      have s3 : and3 ((J ||| J * 2 ^ 1 ||| J >>> 1 : Nat) : Int) 65535 = (((J ||| J * 2 ^ 1 ||| J >>> 1) &&& 65535 : Nat) : Int) := and3_nat (b := 65535) (by omega) (by omega)
      rw [s1, s2, or3_nat (by omega) (by omega), or3_nat (by omega) (by omega), s3, wd_eq (by omega) eJ]
      refine ⟨⟨by omega, by omega⟩, fun z => by omega, fun _ => ⟨by omega, ⟨⟨by omega, by omega⟩, fun _ => by omega⟩, ?_⟩⟩
      refine ih (x + 1) _ (by omega) (ag_up (by omega) g) (fun u hu => ?_) (fun u hu hu2 => ?_)
      · by_cases q : u = x
        · subst q; rw [up_same]
        · rw [up_ne (by omega)]; exact f1 u (by omega)
      · rw [up_ne (by omega)]; exact f2 u (by omega) hu2
  exact mV_intro b_Places_widen rfl (s_Places_widen_0 (d := D) h K (lp 16 0 h (by omega) ag_rfl (fun u hu => absurd hu (Nat.not_lt_zero u)) (fun u _ hu => f u hu)))
def mtQ (Q O : Nat → Nat → Prop) : Prop := ∃ x y, x < 16 ∧ y < 16 ∧ Q x y ∧ O x y
theorem c_Places_doMeet {D : Nat} {K : Int → St → Prop} {Q O : Nat → Nat → Prop} {h : St} (f : ∀ u : Nat, u < 16 → h 94 u = ((rwA Q u 16 : Nat) : Int)) (g : ∀ u : Nat, u < 16 → h 95 u = ((rwA O u 16 : Nat) : Int)) (k : K (b2i (mtQ Q O)) h) : mwpI (D + 1) m_Places_doMeet [vR 94, vR 95] h K := by
  have lp : ∀ (r x : Nat), x + r = 16 → (∀ u y, u < x → y < 16 → ¬ (Q u y ∧ O u y)) → wI D m_Places_doMeet 2 [(0, vR 94), (1, vR 95), (2, vI (x : Int))] [] h K := by
    intro r
    induction r with
    | zero =>
      intro x hx no
      have e : x = 16 := by omega
      subst e
      rw [b2i_f (p := mtQ Q O) (fun ⟨u, y, hu, hy, q⟩ => no u y hu hy q)] at k
      exact s_Places_doMeet_2 _ h K ⟨⟨by omega, by omega⟩, fun _ => k, fun z => absurd (by omega) z⟩
    | succ r ih =>
      intro x hx no
      have b1 : rwA Q x 16 < 65536 := rwA_lt 16
      have b2 : rwA O x 16 < 65536 := rwA_lt 16
      have b3 : rwA Q x 16 &&& rwA O x 16 ≤ rwA Q x 16 := Nat.and_le_left
      have tb : ∀ y, (rwA Q x 16 &&& rwA O x 16).testBit y = true ↔ y < 16 ∧ Q x y ∧ O x y := fun y => by
        rw [Nat.testBit_and, Bool.and_eq_true, rwA_tb, rwA_tb]
        exact ⟨fun z => ⟨z.1.1, z.1.2, z.2.2⟩, fun z => ⟨⟨z.1, z.2.1⟩, z.1, z.2.2⟩⟩
      refine s_Places_doMeet_2 _ h K ?_
      rw [Int.toNat_natCast, f x (by omega), g x (by omega), and3_nat (by omega) (by omega)]
      refine ⟨⟨by omega, by omega⟩, fun z => by omega, fun _ => ⟨by omega, ⟨by omega, by omega⟩, fun z => ih (x + 1) (by omega) (fun u y hu hy q => ?_), fun z => ?_⟩⟩
      · by_cases e : u = x
        · subst e
          have := (tb y).mpr ⟨hy, q⟩
          rw [show rwA Q u 16 &&& rwA O u 16 = 0 by omega] at this
          simp at this
        · exact no u y (by omega) hy q
      · obtain ⟨y, hy⟩ := Nat.exists_testBit_of_ne_zero (show rwA Q x 16 &&& rwA O x 16 ≠ 0 by omega)
        have := (tb y).mp hy
        rw [b2i_t (p := mtQ Q O) ⟨x, y, by omega, this.1, this.2⟩] at k
        exact k
  exact mI_intro b_Places_doMeet rfl (s_Places_doMeet_0 (d := D) h K (lp 16 0 (by omega) (fun u y hu => absurd hu (Nat.not_lt_zero u))))
