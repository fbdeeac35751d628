theorem s_JL_bitCount_0 {d : Nat}  (x0 : Int) (h : St) (K : Int → St → Prop) (F : (K (and3 ((((and6 (((and6 (x0 - (and6 (ushr6 x0 1) 6148914691236517205)) 3689348814741910323) + (and6 (ushr6 (x0 - (and6 (ushr6 x0 1) 6148914691236517205)) 2) 3689348814741910323)) + (ushr6 ((and6 (x0 - (and6 (ushr6 x0 1) 6148914691236517205)) 3689348814741910323) + (and6 (ushr6 (x0 - (and6 (ushr6 x0 1) 6148914691236517205)) 2) 3689348814741910323)) 4)) 1085102592571150095) + (ushr6 (and6 (((and6 (x0 - (and6 (ushr6 x0 1) 6148914691236517205)) 3689348814741910323) + (and6 (ushr6 (x0 - (and6 (ushr6 x0 1) 6148914691236517205)) 2) 3689348814741910323)) + (ushr6 ((and6 (x0 - (and6 (ushr6 x0 1) 6148914691236517205)) 3689348814741910323) + (and6 (ushr6 (x0 - (and6 (ushr6 x0 1) 6148914691236517205)) 2) 3689348814741910323)) 4)) 1085102592571150095) 8)) + (ushr6 ((and6 (((and6 (x0 - (and6 (ushr6 x0 1) 6148914691236517205)) 3689348814741910323) + (and6 (ushr6 (x0 - (and6 (ushr6 x0 1) 6148914691236517205)) 2) 3689348814741910323)) + (ushr6 ((and6 (x0 - (and6 (ushr6 x0 1) 6148914691236517205)) 3689348814741910323) + (and6 (ushr6 (x0 - (and6 (ushr6 x0 1) 6148914691236517205)) 2) 3689348814741910323)) 4)) 1085102592571150095) + (ushr6 (and6 (((and6 (x0 - (and6 (ushr6 x0 1) 6148914691236517205)) 3689348814741910323) + (and6 (ushr6 (x0 - (and6 (ushr6 x0 1) 6148914691236517205)) 2) 3689348814741910323)) + (ushr6 ((and6 (x0 - (and6 (ushr6 x0 1) 6148914691236517205)) 3689348814741910323) + (and6 (ushr6 (x0 - (and6 (ushr6 x0 1) 6148914691236517205)) 2) 3689348814741910323)) 4)) 1085102592571150095) 8)) 16)) + (ushr6 (((and6 (((and6 (x0 - (and6 (ushr6 x0 1) 6148914691236517205)) 3689348814741910323) + (and6 (ushr6 (x0 - (and6 (ushr6 x0 1) 6148914691236517205)) 2) 3689348814741910323)) + (ushr6 ((and6 (x0 - (and6 (ushr6 x0 1) 6148914691236517205)) 3689348814741910323) + (and6 (ushr6 (x0 - (and6 (ushr6 x0 1) 6148914691236517205)) 2) 3689348814741910323)) 4)) 1085102592571150095) + (ushr6 (and6 (((and6 (x0 - (and6 (ushr6 x0 1) 6148914691236517205)) 3689348814741910323) + (and6 (ushr6 (x0 - (and6 (ushr6 x0 1) 6148914691236517205)) 2) 3689348814741910323)) + (ushr6 ((and6 (x0 - (and6 (ushr6 x0 1) 6148914691236517205)) 3689348814741910323) + (and6 (ushr6 (x0 - (and6 (ushr6 x0 1) 6148914691236517205)) 2) 3689348814741910323)) 4)) 1085102592571150095) 8)) + (ushr6 ((and6 (((and6 (x0 - (and6 (ushr6 x0 1) 6148914691236517205)) 3689348814741910323) + (and6 (ushr6 (x0 - (and6 (ushr6 x0 1) 6148914691236517205)) 2) 3689348814741910323)) + (ushr6 ((and6 (x0 - (and6 (ushr6 x0 1) 6148914691236517205)) 3689348814741910323) + (and6 (ushr6 (x0 - (and6 (ushr6 x0 1) 6148914691236517205)) 2) 3689348814741910323)) 4)) 1085102592571150095) + (ushr6 (and6 (((and6 (x0 - (and6 (ushr6 x0 1) 6148914691236517205)) 3689348814741910323) + (and6 (ushr6 (x0 - (and6 (ushr6 x0 1) 6148914691236517205)) 2) 3689348814741910323)) + (ushr6 ((and6 (x0 - (and6 (ushr6 x0 1) 6148914691236517205)) 3689348814741910323) + (and6 (ushr6 (x0 - (and6 (ushr6 x0 1) 6148914691236517205)) 2) 3689348814741910323)) 4)) 1085102592571150095) 8)) 16)) 32)) 127) h)) : wI d m_JL_bitCount 0 [(0, vJ x0)] [] h K := by
  refine w_lload_n rfl rfl ?_
  refine w_lload_n rfl rfl ?_
  refine w_iconst rfl ?_
  refine w_lushr rfl ?_
  refine w_ldc2 (z := 6148914691236517205) kc_JL_314 (by decide) rfl ?_
  refine w_land rfl ?_
  refine w_lsub rfl ?_
  refine w_lstore_n rfl rfl rfl rfl rfl (w_ls (ls2 := [(0, vJ (x0 - (and6 (ushr6 x0 1) 6148914691236517205)))]) rfl ?_)
  refine w_lload_n rfl rfl ?_
  refine w_ldc2 (z := 3689348814741910323) kc_JL_316 (by decide) rfl ?_
  refine w_land rfl ?_
  refine w_lload_n rfl rfl ?_
  refine w_iconst rfl ?_
  refine w_lushr rfl ?_
  refine w_ldc2 (z := 3689348814741910323) kc_JL_316 (by decide) rfl ?_
  refine w_land rfl ?_
  refine w_ladd rfl ?_
  refine w_lstore_n rfl rfl rfl rfl rfl (w_ls (ls2 := [(0, vJ ((and6 (x0 - (and6 (ushr6 x0 1) 6148914691236517205)) 3689348814741910323) + (and6 (ushr6 (x0 - (and6 (ushr6 x0 1) 6148914691236517205)) 2) 3689348814741910323)))]) rfl ?_)
  refine w_lload_n rfl rfl ?_
  refine w_lload_n rfl rfl ?_
  refine w_iconst rfl ?_
  refine w_lushr rfl ?_
  refine w_ladd rfl ?_
  refine w_ldc2 (z := 1085102592571150095) kc_JL_318 (by decide) rfl ?_
  refine w_land rfl ?_
  refine w_lstore_n rfl rfl rfl rfl rfl (w_ls (ls2 := [(0, vJ (and6 (((and6 (x0 - (and6 (ushr6 x0 1) 6148914691236517205)) 3689348814741910323) + (and6 (ushr6 (x0 - (and6 (ushr6 x0 1) 6148914691236517205)) 2) 3689348814741910323)) + (ushr6 ((and6 (x0 - (and6 (ushr6 x0 1) 6148914691236517205)) 3689348814741910323) + (and6 (ushr6 (x0 - (and6 (ushr6 x0 1) 6148914691236517205)) 2) 3689348814741910323)) 4)) 1085102592571150095))]) rfl ?_)
  refine w_lload_n rfl rfl ?_
  refine w_lload_n rfl rfl ?_
  refine w_bipush (by decide) (by decide) rfl ?_
  refine w_lushr rfl ?_
  refine w_ladd rfl ?_
  refine w_lstore_n rfl rfl rfl rfl rfl (w_ls (ls2 := [(0, vJ ((and6 (((and6 (x0 - (and6 (ushr6 x0 1) 6148914691236517205)) 3689348814741910323) + (and6 (ushr6 (x0 - (and6 (ushr6 x0 1) 6148914691236517205)) 2) 3689348814741910323)) + (ushr6 ((and6 (x0 - (and6 (ushr6 x0 1) 6148914691236517205)) 3689348814741910323) + (and6 (ushr6 (x0 - (and6 (ushr6 x0 1) 6148914691236517205)) 2) 3689348814741910323)) 4)) 1085102592571150095) + (ushr6 (and6 (((and6 (x0 - (and6 (ushr6 x0 1) 6148914691236517205)) 3689348814741910323) + (and6 (ushr6 (x0 - (and6 (ushr6 x0 1) 6148914691236517205)) 2) 3689348814741910323)) + (ushr6 ((and6 (x0 - (and6 (ushr6 x0 1) 6148914691236517205)) 3689348814741910323) + (and6 (ushr6 (x0 - (and6 (ushr6 x0 1) 6148914691236517205)) 2) 3689348814741910323)) 4)) 1085102592571150095) 8)))]) rfl ?_)
  refine w_lload_n rfl rfl ?_
  refine w_lload_n rfl rfl ?_
  refine w_bipush (by decide) (by decide) rfl ?_
  refine w_lushr rfl ?_
  refine w_ladd rfl ?_
  refine w_lstore_n rfl rfl rfl rfl rfl (w_ls (ls2 := [(0, vJ (((and6 (((and6 (x0 - (and6 (ushr6 x0 1) 6148914691236517205)) 3689348814741910323) + (and6 (ushr6 (x0 - (and6 (ushr6 x0 1) 6148914691236517205)) 2) 3689348814741910323)) + (ushr6 ((and6 (x0 - (and6 (ushr6 x0 1) 6148914691236517205)) 3689348814741910323) + (and6 (ushr6 (x0 - (and6 (ushr6 x0 1) 6148914691236517205)) 2) 3689348814741910323)) 4)) 1085102592571150095) + (ushr6 (and6 (((and6 (x0 - (and6 (ushr6 x0 1) 6148914691236517205)) 3689348814741910323) + (and6 (ushr6 (x0 - (and6 (ushr6 x0 1) 6148914691236517205)) 2) 3689348814741910323)) + (ushr6 ((and6 (x0 - (and6 (ushr6 x0 1) 6148914691236517205)) 3689348814741910323) + (and6 (ushr6 (x0 - (and6 (ushr6 x0 1) 6148914691236517205)) 2) 3689348814741910323)) 4)) 1085102592571150095) 8)) + (ushr6 ((and6 (((and6 (x0 - (and6 (ushr6 x0 1) 6148914691236517205)) 3689348814741910323) + (and6 (ushr6 (x0 - (and6 (ushr6 x0 1) 6148914691236517205)) 2) 3689348814741910323)) + (ushr6 ((and6 (x0 - (and6 (ushr6 x0 1) 6148914691236517205)) 3689348814741910323) + (and6 (ushr6 (x0 - (and6 (ushr6 x0 1) 6148914691236517205)) 2) 3689348814741910323)) 4)) 1085102592571150095) + (ushr6 (and6 (((and6 (x0 - (and6 (ushr6 x0 1) 6148914691236517205)) 3689348814741910323) + (and6 (ushr6 (x0 - (and6 (ushr6 x0 1) 6148914691236517205)) 2) 3689348814741910323)) + (ushr6 ((and6 (x0 - (and6 (ushr6 x0 1) 6148914691236517205)) 3689348814741910323) + (and6 (ushr6 (x0 - (and6 (ushr6 x0 1) 6148914691236517205)) 2) 3689348814741910323)) 4)) 1085102592571150095) 8)) 16)))]) rfl ?_)
  refine w_lload_n rfl rfl ?_
  refine w_lload_n rfl rfl ?_
  refine w_bipush (by decide) (by decide) rfl ?_
  refine w_lushr rfl ?_
  refine w_ladd rfl ?_
  refine w_lstore_n rfl rfl rfl rfl rfl (w_ls (ls2 := [(0, vJ ((((and6 (((and6 (x0 - (and6 (ushr6 x0 1) 6148914691236517205)) 3689348814741910323) + (and6 (ushr6 (x0 - (and6 (ushr6 x0 1) 6148914691236517205)) 2) 3689348814741910323)) + (ushr6 ((and6 (x0 - (and6 (ushr6 x0 1) 6148914691236517205)) 3689348814741910323) + (and6 (ushr6 (x0 - (and6 (ushr6 x0 1) 6148914691236517205)) 2) 3689348814741910323)) 4)) 1085102592571150095) + (ushr6 (and6 (((and6 (x0 - (and6 (ushr6 x0 1) 6148914691236517205)) 3689348814741910323) + (and6 (ushr6 (x0 - (and6 (ushr6 x0 1) 6148914691236517205)) 2) 3689348814741910323)) + (ushr6 ((and6 (x0 - (and6 (ushr6 x0 1) 6148914691236517205)) 3689348814741910323) + (and6 (ushr6 (x0 - (and6 (ushr6 x0 1) 6148914691236517205)) 2) 3689348814741910323)) 4)) 1085102592571150095) 8)) + (ushr6 ((and6 (((and6 (x0 - (and6 (ushr6 x0 1) 6148914691236517205)) 3689348814741910323) + (and6 (ushr6 (x0 - (and6 (ushr6 x0 1) 6148914691236517205)) 2) 3689348814741910323)) + (ushr6 ((and6 (x0 - (and6 (ushr6 x0 1) 6148914691236517205)) 3689348814741910323) + (and6 (ushr6 (x0 - (and6 (ushr6 x0 1) 6148914691236517205)) 2) 3689348814741910323)) 4)) 1085102592571150095) + (ushr6 (and6 (((and6 (x0 - (and6 (ushr6 x0 1) 6148914691236517205)) 3689348814741910323) + (and6 (ushr6 (x0 - (and6 (ushr6 x0 1) 6148914691236517205)) 2) 3689348814741910323)) + (ushr6 ((and6 (x0 - (and6 (ushr6 x0 1) 6148914691236517205)) 3689348814741910323) + (and6 (ushr6 (x0 - (and6 (ushr6 x0 1) 6148914691236517205)) 2) 3689348814741910323)) 4)) 1085102592571150095) 8)) 16)) + (ushr6 (((and6 (((and6 (x0 - (and6 (ushr6 x0 1) 6148914691236517205)) 3689348814741910323) + (and6 (ushr6 (x0 - (and6 (ushr6 x0 1) 6148914691236517205)) 2) 3689348814741910323)) + (ushr6 ((and6 (x0 - (and6 (ushr6 x0 1) 6148914691236517205)) 3689348814741910323) + (and6 (ushr6 (x0 - (and6 (ushr6 x0 1) 6148914691236517205)) 2) 3689348814741910323)) 4)) 1085102592571150095) + (ushr6 (and6 (((and6 (x0 - (and6 (ushr6 x0 1) 6148914691236517205)) 3689348814741910323) + (and6 (ushr6 (x0 - (and6 (ushr6 x0 1) 6148914691236517205)) 2) 3689348814741910323)) + (ushr6 ((and6 (x0 - (and6 (ushr6 x0 1) 6148914691236517205)) 3689348814741910323) + (and6 (ushr6 (x0 - (and6 (ushr6 x0 1) 6148914691236517205)) 2) 3689348814741910323)) 4)) 1085102592571150095) 8)) + (ushr6 ((and6 (((and6 (x0 - (and6 (ushr6 x0 1) 6148914691236517205)) 3689348814741910323) + (and6 (ushr6 (x0 - (and6 (ushr6 x0 1) 6148914691236517205)) 2) 3689348814741910323)) + (ushr6 ((and6 (x0 - (and6 (ushr6 x0 1) 6148914691236517205)) 3689348814741910323) + (and6 (ushr6 (x0 - (and6 (ushr6 x0 1) 6148914691236517205)) 2) 3689348814741910323)) 4)) 1085102592571150095) + (ushr6 (and6 (((and6 (x0 - (and6 (ushr6 x0 1) 6148914691236517205)) 3689348814741910323) + (and6 (ushr6 (x0 - (and6 (ushr6 x0 1) 6148914691236517205)) 2) 3689348814741910323)) + (ushr6 ((and6 (x0 - (and6 (ushr6 x0 1) 6148914691236517205)) 3689348814741910323) + (and6 (ushr6 (x0 - (and6 (ushr6 x0 1) 6148914691236517205)) 2) 3689348814741910323)) 4)) 1085102592571150095) 8)) 16)) 32)))]) rfl ?_)
  refine w_lload_n rfl rfl ?_
  refine w_l2i rfl ?_
  refine w_bipush (by decide) (by decide) rfl ?_
  refine w_iand rfl ?_
  exact w_iret rfl rfl ⟨rfl, rfl, _, rfl, F⟩
theorem and3_wrap (B : Nat) : and3 (B : Int) 127 = and3 ((B % 65536 : Nat) : Int) 127 := by
  unfold and3
  rw [← Int32.toInt_toBitVec, ← Int32.toInt_toBitVec, Int32.toBitVec_and, Int32.toBitVec_and, Int32.toBitVec_ofInt, Int32.toBitVec_ofInt, Int32.toBitVec_ofInt, BitVec.ofInt_natCast, BitVec.ofInt_natCast, show ((127 : Int)) = ((127 : Nat) : Int) from rfl, BitVec.ofInt_natCast]
  congr 1
  apply BitVec.eq_of_toNat_eq
  rw [BitVec.toNat_and, BitVec.toNat_and, BitVec.toNat_ofNat, BitVec.toNat_ofNat, BitVec.toNat_ofNat]
  rw [show 127 % 2 ^ 32 = 2 ^ 7 - 1 by decide, Nat.and_two_pow_sub_one_eq_mod, Nat.and_two_pow_sub_one_eq_mod]
  omega
theorem c_JL_bitCount {D : Nat} {h : St} {K : Int → St → Prop} {a : Nat} (ha : a < 9223372036854775808) (k : K ((pb 64 a : Nat) : Int) h) : mwpI (D + 1) m_JL_bitCount [vJ a] h K := by
  refine mI_intro b_JL_bitCount rfl (s_JL_bitCount_0 (d := D) (a : Int) h K ?_)
  have u1 : ushr6 (a : Int) 1 = ((a / 2 : Nat) : Int) := by
    have := ushr6_nat (a := a) (k := 1) ha (by omega)
    rw [Nat.shiftRight_eq_div_pow] at this
    exact this
  have u2 : and6 ((a / 2 : Nat) : Int) 6148914691236517205 = ((h4 32 a : Nat) : Int) := by
    have := and6_nat (a := a / 2) (b := mk4 32) (by omega) (by decide)
    rw [and_h4] at this
    exact this
  have q1 := s1_eq 32 a (by omega)
  have u3 : (a : Int) - ((h4 32 a : Nat) : Int) = ((s1 32 a : Nat) : Int) := by omega
  rw [u1, u2, u3]
  have u4 : and6 ((s1 32 a : Nat) : Int) 3689348814741910323 = ((e16 16 (s1 32 a) : Nat) : Int) := by
    have := and6_nat (a := s1 32 a) (b := mk16 16) (by omega) (by decide)
    rw [and_e16] at this
    exact this
  have u5 : ushr6 ((s1 32 a : Nat) : Int) 2 = ((s1 32 a / 4 : Nat) : Int) := by
    have := ushr6_nat (a := s1 32 a) (k := 2) (by omega) (by omega)
    rw [Nat.shiftRight_eq_div_pow] at this
    exact this
  have u6 : and6 ((s1 32 a / 4 : Nat) : Int) 3689348814741910323 = ((e16 16 (s1 32 a / 4) : Nat) : Int) := by
    have := and6_nat (a := s1 32 a / 4) (b := mk16 16) (by omega) (by decide)
    rw [and_e16] at this
    exact this
  have q2 := s2_eq 16 a
  rw [show 2 * 16 = 32 from rfl] at q2
  have b1 : e16 16 (s1 32 a) ≤ 3689348814741910323 := by rw [← and_e16]; exact Nat.and_le_right
  have b2 : e16 16 (s1 32 a / 4) ≤ 3689348814741910323 := by rw [← and_e16]; exact Nat.and_le_right
  have u7 : ((e16 16 (s1 32 a) : Nat) : Int) + ((e16 16 (s1 32 a / 4) : Nat) : Int) = ((s2 16 a : Nat) : Int) := by omega
  rw [u4, u5, u6, u7]
  have u8 : ushr6 ((s2 16 a : Nat) : Int) 4 = ((s2 16 a / 16 : Nat) : Int) := by
    have := ushr6_nat (a := s2 16 a) (k := 4) (by omega) (by omega)
    rw [Nat.shiftRight_eq_div_pow] at this
    exact this
  have u9 : and6 (((s2 16 a : Nat) : Int) + ((s2 16 a / 16 : Nat) : Int)) 1085102592571150095 = ((s3 8 a : Nat) : Int) := by
    have := and6_nat (a := s2 16 a + s2 16 a / 16) (b := mk256 8) (by omega) (by decide)
    rw [s3_eq 8 a, Int.natCast_add] at this
    exact this
  rw [u8, u9]
  have b3 : s3 8 a ≤ 1085102592571150095 := by rw [← s3_eq 8 a]; exact Nat.and_le_right
  have u10 : ushr6 ((s3 8 a : Nat) : Int) 8 = ((s3 8 a / 256 : Nat) : Int) := by
    have := ushr6_nat (a := s3 8 a) (k := 8) (by omega) (by omega)
    rw [Nat.shiftRight_eq_div_pow] at this
    exact this
  have u11 : ushr6 (((s3 8 a : Nat) : Int) + ((s3 8 a / 256 : Nat) : Int)) 16 = (((s3 8 a + s3 8 a / 256) / 65536 : Nat) : Int) := by
    have := ushr6_nat (a := s3 8 a + s3 8 a / 256) (k := 16) (by omega) (by omega)
    rw [Nat.shiftRight_eq_div_pow, Int.natCast_add] at this
    exact this
  rw [u10, u11]
  have u13 : ushr6 (((s3 8 a : Nat) : Int) + ((s3 8 a / 256 : Nat) : Int) + (((s3 8 a + s3 8 a / 256) / 65536 : Nat) : Int)) 32 = (((s3 8 a + s3 8 a / 256 + (s3 8 a + s3 8 a / 256) / 65536) / 4294967296 : Nat) : Int) := by
    have := ushr6_nat (a := s3 8 a + s3 8 a / 256 + (s3 8 a + s3 8 a / 256) / 65536) (k := 32) (by omega) (by omega)
    rw [Nat.shiftRight_eq_div_pow, Int.natCast_add, Int.natCast_add] at this
    exact this
  rw [u13]
  have e3 : s3 8 a = pb 8 a + 256 * (pb 8 (a / 256) + 256 * (pb 8 (a / 256 / 256) + 256 * (pb 8 (a / 256 / 256 / 256) + 256 * (pb 8 (a / 256 / 256 / 256 / 256) + 256 * (pb 8 (a / 256 / 256 / 256 / 256 / 256) + 256 * (pb 8 (a / 256 / 256 / 256 / 256 / 256 / 256) + 256 * (pb 8 (a / 256 / 256 / 256 / 256 / 256 / 256 / 256)))))))) := rfl
  have e4 : pb 64 a = pb 8 a + (pb 8 (a / 256) + (pb 8 (a / 256 / 256) + (pb 8 (a / 256 / 256 / 256) + (pb 8 (a / 256 / 256 / 256 / 256) + (pb 8 (a / 256 / 256 / 256 / 256 / 256) + (pb 8 (a / 256 / 256 / 256 / 256 / 256 / 256) + pb 8 (a / 256 / 256 / 256 / 256 / 256 / 256 / 256))))))) := by
    rw [show 64 = 8 + 56 from rfl, pb_8 56, show 56 = 8 + 48 from rfl, pb_8 48, show 48 = 8 + 40 from rfl, pb_8 40, show 40 = 8 + 32 from rfl, pb_8 32, show 32 = 8 + 24 from rfl, pb_8 24, show 24 = 8 + 16 from rfl, pb_8 16, show 16 = 8 + 8 from rfl, pb_8 8]
  have p0 := pb_le 8 a
  have p1 := pb_le 8 (a / 256)
  have p2 := pb_le 8 (a / 256 / 256)
  have p3 := pb_le 8 (a / 256 / 256 / 256)
  have p4 := pb_le 8 (a / 256 / 256 / 256 / 256)
  have p5 := pb_le 8 (a / 256 / 256 / 256 / 256 / 256)
  have p6 := pb_le 8 (a / 256 / 256 / 256 / 256 / 256 / 256)
  have p7 := pb_le 8 (a / 256 / 256 / 256 / 256 / 256 / 256 / 256)
  have e5 : and3 (((s3 8 a : Nat) : Int) + ((s3 8 a / 256 : Nat) : Int) + (((s3 8 a + s3 8 a / 256) / 65536 : Nat) : Int) + (((s3 8 a + s3 8 a / 256 + (s3 8 a + s3 8 a / 256) / 65536) / 4294967296 : Nat) : Int)) 127 = ((pb 64 a : Nat) : Int) := by
    rw [e3, e4]
    clear u1 u2 u3 u4 u5 u6 u7 u8 u9 u10 u11 u13 q1 q2 b1 b2 b3 e3 e4 k ha
    generalize pb 8 a = w0 at *
    generalize pb 8 (a / 256) = w1 at *
    generalize pb 8 (a / 256 / 256) = w2 at *
    generalize pb 8 (a / 256 / 256 / 256) = w3 at *
    generalize pb 8 (a / 256 / 256 / 256 / 256) = w4 at *
    generalize pb 8 (a / 256 / 256 / 256 / 256 / 256) = w5 at *
    generalize pb 8 (a / 256 / 256 / 256 / 256 / 256 / 256) = w6 at *
    generalize pb 8 (a / 256 / 256 / 256 / 256 / 256 / 256 / 256) = w7 at *
    have d1 : (w0 + 256 * (w1 + 256 * (w2 + 256 * (w3 + 256 * (w4 + 256 * (w5 + 256 * (w6 + 256 * w7))))))) / 256 = w1 + 256 * (w2 + 256 * (w3 + 256 * (w4 + 256 * (w5 + 256 * (w6 + 256 * w7))))) := by omega
    rw [d1]
    generalize hA : w0 + 256 * (w1 + 256 * (w2 + 256 * (w3 + 256 * (w4 + 256 * (w5 + 256 * (w6 + 256 * w7)))))) + (w1 + 256 * (w2 + 256 * (w3 + 256 * (w4 + 256 * (w5 + 256 * (w6 + 256 * w7)))))) = A
    have d2 : A / 65536 = (w2 + w3) + 256 * ((w3 + w4) + 256 * ((w4 + w5) + 256 * ((w5 + w6) + 256 * ((w6 + w7) + 256 * w7)))) := by omega
    have d3 : (A + A / 65536) / 4294967296 = (w4 + w5 + w6 + w7) + 256 * ((w5 + w6 + w7) + 256 * ((w6 + w7) + 256 * w7)) := by rw [d2]; omega
    rw [← Int.natCast_add, hA, d3, d2, ← Int.natCast_add, ← Int.natCast_add]
    generalize hB : A + (w2 + w3 + 256 * (w3 + w4 + 256 * (w4 + w5 + 256 * (w5 + w6 + 256 * (w6 + w7 + 256 * w7))))) + (w4 + w5 + w6 + w7 + 256 * (w5 + w6 + w7 + 256 * (w6 + w7 + 256 * w7))) = B
    obtain ⟨R, hR⟩ : ∃ R, B = (w0 + w1 + w2 + w3 + w4 + w5 + w6 + w7) + 256 * R := ⟨(w1 + 256 * (w2 + 256 * (w3 + 256 * (w4 + 256 * (w5 + 256 * (w6 + 256 * w7)))))) + (w2 + 256 * (w3 + 256 * (w4 + 256 * (w5 + 256 * (w6 + 256 * w7))))) + (w3 + w4 + 256 * (w4 + w5 + 256 * (w5 + w6 + 256 * (w6 + w7 + 256 * w7)))) + (w5 + w6 + w7 + 256 * (w6 + w7 + 256 * w7)), by rw [← hB, ← hA]; omega⟩
    clear hA hB d1 d2 d3
    rw [and3_wrap B, show ((127 : Int)) = ((2 ^ 7 - 1 : Nat) : Int) from rfl, and3_nat (by omega) (by decide), Nat.and_two_pow_sub_one_eq_mod, hR]
    congr 1
    omega
  rw [e5]
  exact k
