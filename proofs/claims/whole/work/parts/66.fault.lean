theorem s_C_fault_0 {d : Nat}  (h : St) (K : Int → St → Prop) (F : (mwpI (d + 5) m_Book_read [vR 8] h (fun z1 h1 => (K z1 h1)))) : wI (d + 5) m_C_fault 0 [(0, vR 0)] [] h K := by
  refine w_aload_n rfl rfl ?_
  refine w_getR rfl f_C_19 rfl rfl rfl rfl rfl ?_
  refine c_VI [] [] rfl b_Book_read k_C_124 rfl rfl rfl rfl rfl rfl (mwpI_mono (fun z1 h1 F => ?_) F)
  exact w_iret rfl rfl ⟨rfl, rfl, _, rfl, F⟩
theorem P_fault {KK : Int → Int → St → Prop} {h : St} (hr : Rel h) (k : ∀ z h2, inR z → Rel h2 → KK z z h2) : mwpI 40 m_C_fault [vR 0] h (fun z h1 => mwpI 40 m_M_fault [vR 109] h1 (fun z2 h2 => KK z z2 h2)) := by
  obtain ⟨_, ⟨n, tx, ct, mt, vt⟩, _⟩ := id hr
  refine mI_intro b_C_fault rfl (s_C_fault_0 (d := 34) h _ (c_Book_read ct vt (fun h2 g2 _ al => ?_)))
  have fr := ft_R ct.2.1 al
  refine c_M_fault (MTxt_c2 (ag_sub (fun c k p => by omega) g2) mt) vt (fun h3 g3 _ => ?_)
  exact k _ _ ⟨by omega, by omega⟩ (Rel_c (ag_sub (fun c k p => by omega) g3) (Rel_c (ag_sub (fun c k p => by omega) g2) hr))
