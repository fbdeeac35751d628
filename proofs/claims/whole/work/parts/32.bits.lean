theorem and3_nat {a b : Nat} (ha : a < 2147483648) (hb : b < 2147483648) : and3 a b = ((a &&& b : Nat) : Int) := by
  have h1 : a &&& b < 2147483648 := Nat.lt_of_le_of_lt Nat.and_le_left ha
  unfold and3
  rw [← Int32.toInt_toBitVec, Int32.toBitVec_and, Int32.toBitVec_ofInt, Int32.toBitVec_ofInt, BitVec.ofInt_natCast, BitVec.ofInt_natCast, BitVec.toInt_eq_toNat_of_lt]
  · rw [BitVec.toNat_and, BitVec.toNat_ofNat, BitVec.toNat_ofNat, Nat.mod_eq_of_lt (by omega), Nat.mod_eq_of_lt (by omega)]
  · rw [BitVec.toNat_and, BitVec.toNat_ofNat, BitVec.toNat_ofNat, Nat.mod_eq_of_lt (by omega), Nat.mod_eq_of_lt (by omega)]
    omega
theorem or3_nat {a b : Nat} (ha : a < 2147483648) (hb : b < 2147483648) : or3 a b = ((a ||| b : Nat) : Int) := by
  have h1 : a ||| b < 2 ^ 31 := Nat.or_lt_two_pow (by omega) (by omega)
  unfold or3
  rw [← Int32.toInt_toBitVec, Int32.toBitVec_or, Int32.toBitVec_ofInt, Int32.toBitVec_ofInt, BitVec.ofInt_natCast, BitVec.ofInt_natCast, BitVec.toInt_eq_toNat_of_lt]
  · rw [BitVec.toNat_or, BitVec.toNat_ofNat, BitVec.toNat_ofNat, Nat.mod_eq_of_lt (by omega), Nat.mod_eq_of_lt (by omega)]
  · rw [BitVec.toNat_or, BitVec.toNat_ofNat, BitVec.toNat_ofNat, Nat.mod_eq_of_lt (by omega), Nat.mod_eq_of_lt (by omega)]
    omega
theorem ushr3_nat {a k : Nat} (ha : a < 2147483648) (hk : k < 32) : ushr3 a k = ((a >>> k : Nat) : Int) := by
  have key : ∀ k : Nat, k < 32 → (((Int32.ofInt (k : Int)).toUInt32 &&& Int32.toUInt32 31).toBitVec % 32).toNat = k := by decide +kernel
  have h1 : a >>> k ≤ a := Nat.shiftRight_le a k
  unfold ushr3
  rw [← Int32.toInt_toBitVec, UInt32.toBitVec_toInt32, UInt32.toBitVec_shiftRight, BitVec.ushiftRight_eq', key k hk, Int32.toBitVec_toUInt32, Int32.toBitVec_ofInt, BitVec.ofInt_natCast, BitVec.toInt_eq_toNat_of_lt]
  · rw [BitVec.toNat_ushiftRight, BitVec.toNat_ofNat, Nat.mod_eq_of_lt (by omega)]
  · rw [BitVec.toNat_ushiftRight, BitVec.toNat_ofNat, Nat.mod_eq_of_lt (by omega)]
    omega
theorem shl3_nat {a k : Nat} (hk : k < 32) (ha : a * 2 ^ k < 2147483648) : shl3 a k = ((a * 2 ^ k : Nat) : Int) := by
  have key : ∀ k : Nat, k < 32 → ((Int32.ofInt (k : Int) &&& 31).toBitVec.smod 32).toNat = k := by decide +kernel
  have h2 : a ≤ a * 2 ^ k := Nat.le_mul_of_pos_right a (Nat.two_pow_pos k)
  unfold shl3
  rw [← Int32.toInt_toBitVec, Int32.toBitVec_shiftLeft, BitVec.shiftLeft_eq', key k hk, Int32.toBitVec_ofInt, BitVec.ofInt_natCast, BitVec.toInt_eq_toNat_of_lt]
  · rw [BitVec.toNat_shiftLeft, BitVec.toNat_ofNat, Nat.mod_eq_of_lt (by omega : a < 2 ^ 32), Nat.shiftLeft_eq, Nat.mod_eq_of_lt (by omega)]
  · rw [BitVec.toNat_shiftLeft, BitVec.toNat_ofNat, Nat.mod_eq_of_lt (by omega : a < 2 ^ 32), Nat.shiftLeft_eq, Nat.mod_eq_of_lt (by omega)]
    omega
theorem shr3_nat {a k : Nat} (ha : a < 2147483648) (hk : k < 32) : shr3 a k = ((a >>> k : Nat) : Int) := by
  have key : ∀ k : Nat, k < 32 → ((Int32.ofInt (k : Int) &&& 31).toBitVec.smod 32).toNat = k := by decide +kernel
  have h1 : a >>> k ≤ a := Nat.shiftRight_le a k
  have hm : (BitVec.ofNat 32 a).msb = false := by
    rw [BitVec.msb_eq_false_iff_two_mul_lt, BitVec.toNat_ofNat, Nat.mod_eq_of_lt (by omega)]
    omega
  unfold shr3
  rw [← Int32.toInt_toBitVec, Int32.toBitVec_shiftRight, BitVec.sshiftRight_eq', key k hk, Int32.toBitVec_ofInt, BitVec.ofInt_natCast, BitVec.sshiftRight_eq_of_msb_false hm, BitVec.toInt_eq_toNat_of_lt]
  · rw [BitVec.toNat_ushiftRight, BitVec.toNat_ofNat, Nat.mod_eq_of_lt (by omega)]
  · rw [BitVec.toNat_ushiftRight, BitVec.toNat_ofNat, Nat.mod_eq_of_lt (by omega)]
    omega
theorem and6_nat {a b : Nat} (ha : a < 9223372036854775808) (hb : b < 9223372036854775808) : and6 a b = ((a &&& b : Nat) : Int) := by
  have h1 : a &&& b < 9223372036854775808 := Nat.lt_of_le_of_lt Nat.and_le_left ha
  unfold and6
  rw [← Int64.toInt_toBitVec, Int64.toBitVec_and, Int64.toBitVec_ofInt, Int64.toBitVec_ofInt, BitVec.ofInt_natCast, BitVec.ofInt_natCast, BitVec.toInt_eq_toNat_of_lt]
  · rw [BitVec.toNat_and, BitVec.toNat_ofNat, BitVec.toNat_ofNat, Nat.mod_eq_of_lt (by omega), Nat.mod_eq_of_lt (by omega)]
  · rw [BitVec.toNat_and, BitVec.toNat_ofNat, BitVec.toNat_ofNat, Nat.mod_eq_of_lt (by omega), Nat.mod_eq_of_lt (by omega)]
    omega
theorem or6_nat {a b : Nat} (ha : a < 9223372036854775808) (hb : b < 9223372036854775808) : or6 a b = ((a ||| b : Nat) : Int) := by
  have h1 : a ||| b < 2 ^ 63 := Nat.or_lt_two_pow (by omega) (by omega)
  unfold or6
  rw [← Int64.toInt_toBitVec, Int64.toBitVec_or, Int64.toBitVec_ofInt, Int64.toBitVec_ofInt, BitVec.ofInt_natCast, BitVec.ofInt_natCast, BitVec.toInt_eq_toNat_of_lt]
  · rw [BitVec.toNat_or, BitVec.toNat_ofNat, BitVec.toNat_ofNat, Nat.mod_eq_of_lt (by omega), Nat.mod_eq_of_lt (by omega)]
  · rw [BitVec.toNat_or, BitVec.toNat_ofNat, BitVec.toNat_ofNat, Nat.mod_eq_of_lt (by omega), Nat.mod_eq_of_lt (by omega)]
    omega
theorem ushr6_nat {a k : Nat} (ha : a < 9223372036854775808) (hk : k < 64) : ushr6 a k = ((a >>> k : Nat) : Int) := by
  have key : ∀ k : Nat, k < 64 → (((Int32.ofInt (k : Int)).toInt64.toUInt64 &&& Int64.toUInt64 63).toBitVec % 64).toNat = k := by decide +kernel
  have h1 : a >>> k ≤ a := Nat.shiftRight_le a k
  unfold ushr6
  rw [← Int64.toInt_toBitVec, UInt64.toBitVec_toInt64, UInt64.toBitVec_shiftRight, BitVec.ushiftRight_eq', key k hk, Int64.toBitVec_toUInt64, Int64.toBitVec_ofInt, BitVec.ofInt_natCast, BitVec.toInt_eq_toNat_of_lt]
  · rw [BitVec.toNat_ushiftRight, BitVec.toNat_ofNat, Nat.mod_eq_of_lt (by omega)]
  · rw [BitVec.toNat_ushiftRight, BitVec.toNat_ofNat, Nat.mod_eq_of_lt (by omega)]
    omega
theorem shl6_nat {a k : Nat} (hk : k < 64) (ha : a * 2 ^ k < 9223372036854775808) : shl6 a k = ((a * 2 ^ k : Nat) : Int) := by
  have key : ∀ k : Nat, k < 64 → (((Int32.ofInt (k : Int)).toInt64 &&& 63).toBitVec.smod 64).toNat = k := by decide +kernel
  have h2 : a ≤ a * 2 ^ k := Nat.le_mul_of_pos_right a (Nat.two_pow_pos k)
  unfold shl6
  rw [← Int64.toInt_toBitVec, Int64.toBitVec_shiftLeft, BitVec.shiftLeft_eq', key k hk, Int64.toBitVec_ofInt, BitVec.ofInt_natCast, BitVec.toInt_eq_toNat_of_lt]
  · rw [BitVec.toNat_shiftLeft, BitVec.toNat_ofNat, Nat.mod_eq_of_lt (by omega : a < 2 ^ 64), Nat.shiftLeft_eq, Nat.mod_eq_of_lt (by omega)]
  · rw [BitVec.toNat_shiftLeft, BitVec.toNat_ofNat, Nat.mod_eq_of_lt (by omega : a < 2 ^ 64), Nat.shiftLeft_eq, Nat.mod_eq_of_lt (by omega)]
    omega
theorem tB {a k : Nat} : a.testBit k = true ↔ a >>> k % 2 = 1 := by
  rw [Nat.testBit_eq_decide_div_mod_eq, Nat.shiftRight_eq_div_pow, decide_eq_true_iff]
theorem has_nat {a k : Nat} (ha : a < 2147483648) (hk : k < 32) : and3 (shr3 a k) 1 = b2i (a.testBit k = true) := by
  have h1 : a >>> k ≤ a := Nat.shiftRight_le a k
  rw [shr3_nat ha hk]
  have e := and3_nat (a := a >>> k) (b := 1) (by omega) (by omega)
  rw [show ((1 : Nat) : Int) = 1 from rfl] at e
  rw [e, Nat.and_one_is_mod]
  by_cases q : a >>> k % 2 = 1
  · rw [b2i_t (tB.mpr q), q]; rfl
  · rw [b2i_f (fun z => q (tB.mp z)), show a >>> k % 2 = 0 by omega]; rfl
theorem shl_1 {k : Nat} (hk : k < 31) : shl3 1 k = ((2 ^ k : Nat) : Int) := by
  have key : ∀ k : Nat, k < 31 → 1 * 2 ^ k < 2147483648 := by decide
  have e := shl3_nat (a := 1) (k := k) (by omega) (key k hk)
  rw [Nat.one_mul] at e
  exact e
theorem shl_1L {k : Nat} (hk : k < 63) : shl6 1 k = ((2 ^ k : Nat) : Int) := by
  have key : ∀ k : Nat, k < 63 → 1 * 2 ^ k < 9223372036854775808 := by decide
  have e := shl6_nat (a := 1) (k := k) (by omega) (key k hk)
  rw [Nat.one_mul] at e
  exact e
def pb : Nat → Nat → Nat
  | 0, _ => 0
  | n + 1, i => i % 2 + pb n (i / 2)
theorem pb_le : ∀ n i, pb n i ≤ n
  | 0, _ => Nat.le_refl _
  | n + 1, i => by
    have := pb_le n (i / 2)
    unfold pb
    omega
def mk4 : Nat → Nat
  | 0 => 0
  | n + 1 => 1 + 4 * mk4 n
def mk16 : Nat → Nat
  | 0 => 0
  | n + 1 => 3 + 16 * mk16 n
def mk256 : Nat → Nat
  | 0 => 0
  | n + 1 => 15 + 256 * mk256 n
theorem and_dig (k x y : Nat) : x &&& y = (x % 2 ^ k &&& y % 2 ^ k) + 2 ^ k * ((x / 2 ^ k) &&& (y / 2 ^ k)) := by
  have h1 := Nat.div_add_mod (x &&& y) (2 ^ k)
  rw [Nat.and_mod_two_pow, ← Nat.shiftRight_eq_div_pow, Nat.shiftRight_and_distrib, Nat.shiftRight_eq_div_pow, Nat.shiftRight_eq_div_pow] at h1
  omega
def h4 : Nat → Nat → Nat
  | 0, _ => 0
  | n + 1, i => i % 4 / 2 + 4 * h4 n (i / 4)
theorem and_h4 : ∀ n i, (i / 2) &&& mk4 n = h4 n i
  | 0, i => by simp [mk4, h4]
  | n + 1, i => by
    have ih := and_h4 n (i / 4)
    rw [and_dig 2]
    unfold mk4 h4
    rw [show (1 + 4 * mk4 n) % 2 ^ 2 = 1 by omega, show (1 + 4 * mk4 n) / 2 ^ 2 = mk4 n by omega, show i / 2 / 2 ^ 2 = i / 4 / 2 by omega, ih, Nat.and_one_is_mod]
    omega
def s1 : Nat → Nat → Nat
  | 0, _ => 0
  | n + 1, i => (i % 4 - i % 4 / 2) + 4 * s1 n (i / 4)
theorem s1_eq : ∀ n i, i < 4 ^ n → i = s1 n i + h4 n i
  | 0, i, hi => by simp [s1, h4] at *; omega
  | n + 1, i, hi => by
    have ih := s1_eq n (i / 4) (by rw [Nat.pow_succ] at hi; omega)
    unfold s1 h4
    omega
def e16 : Nat → Nat → Nat
  | 0, _ => 0
  | n + 1, x => x % 4 + 16 * e16 n (x / 16)
theorem and_e16 : ∀ n x, x &&& mk16 n = e16 n x
  | 0, i => by simp [mk16, e16]
  | n + 1, x => by
    have ih := and_e16 n (x / 16)
    rw [and_dig 4]
    unfold mk16 e16
    rw [show (3 + 16 * mk16 n) % 2 ^ 4 = 2 ^ 2 - 1 by omega, show (3 + 16 * mk16 n) / 2 ^ 4 = mk16 n by omega, show x / 2 ^ 4 = x / 16 by omega, ih, Nat.and_two_pow_sub_one_eq_mod]
    omega
def s2 : Nat → Nat → Nat
  | 0, _ => 0
  | n + 1, i => pb 4 i + 16 * s2 n (i / 16)
theorem s2_eq : ∀ n i, e16 n (s1 (2 * n) i) + e16 n (s1 (2 * n) i / 4) = s2 n i
  | 0, i => by simp [s2, e16]
  | n + 1, i => by
    have ih := s2_eq n (i / 16)
    rw [show 2 * (n + 1) = 2 * n + 1 + 1 by omega]
    unfold e16
    have e : s1 (2 * n + 1 + 1) i = (i % 4 - i % 4 / 2) + 4 * ((i / 4 % 4 - i / 4 % 4 / 2) + 4 * s1 (2 * n) (i / 16)) := by
      rw [show i / 16 = i / 4 / 4 by omega]
      rfl
    generalize s1 (2 * n) (i / 16) = y at *
    rw [e]
    rw [show ((i % 4 - i % 4 / 2) + 4 * ((i / 4 % 4 - i / 4 % 4 / 2) + 4 * y)) / 16 = y by omega, show ((i % 4 - i % 4 / 2) + 4 * ((i / 4 % 4 - i / 4 % 4 / 2) + 4 * y)) / 4 / 16 = y / 4 by omega]
    unfold s2 pb pb pb pb pb
    omega
def s3 : Nat → Nat → Nat
  | 0, _ => 0
  | n + 1, i => pb 8 i + 256 * s3 n (i / 256)
theorem s2_lo {n i : Nat} : s2 (n + 1) i % 16 ≤ 4 ∧ s2 (n + 1) i = pb 4 i + 16 * s2 n (i / 16) := by
  have := pb_le 4 i
  constructor
  · unfold s2
    omega
  · rfl
theorem s3_eq : ∀ n i, (s2 (2 * n) i + s2 (2 * n) i / 16) &&& mk256 n = s3 n i
  | 0, i => by simp [mk256, s3]
  | n + 1, i => by
    have ih := s3_eq n (i / 256)
    have p1 := pb_le 4 i
    have p2 := pb_le 4 (i / 16)
    have p8 : pb 8 i = pb 4 i + pb 4 (i / 16) := by
      unfold pb pb pb pb pb pb pb pb pb
      omega
    have e : s2 (2 * (n + 1)) i = pb 4 i + 16 * (pb 4 (i / 16) + 16 * s2 (2 * n) (i / 256)) := by
      rw [show 2 * (n + 1) = 2 * n + 1 + 1 by omega]
      rw [show i / 256 = i / 16 / 16 by omega]
      rfl
    have lo : s2 (2 * n) (i / 256) % 16 ≤ 4 := by
      cases n with
      | zero => simp [s2]
      | succ n => rw [show 2 * (n + 1) = (2 * n + 1) + 1 by omega]; exact s2_lo.1
    rw [and_dig 8, e]
    unfold mk256 s3
    generalize s2 (2 * n) (i / 256) = y at *
    rw [show (15 + 256 * mk256 n) % 2 ^ 8 = 2 ^ 4 - 1 by omega, show (15 + 256 * mk256 n) / 2 ^ 8 = mk256 n by omega, Nat.and_two_pow_sub_one_eq_mod]
    rw [show (pb 4 i + 16 * (pb 4 (i / 16) + 16 * y) + (pb 4 i + 16 * (pb 4 (i / 16) + 16 * y)) / 16) / 2 ^ 8 = y + y / 16 by omega, ih, p8]
    omega
theorem pb_sm : ∀ n a, ((pb n a : Nat) : Int) = sm (fun k => b2i (a.testBit k = true)) n := by
  have key : ∀ n a, sm (fun k => b2i (a.testBit k = true)) (n + 1) = b2i (a.testBit 0 = true) + sm (fun k => b2i ((a / 2).testBit k = true)) n := by
    intro n a
    induction n with
    | zero => simp [sm]
    | succ n ih =>
      rw [sm_succ, ih, sm_succ, show (a / 2).testBit n = a.testBit (n + 1) from (Nat.testBit_succ a n).symm]
      omega
  intro n
  induction n with
  | zero => intro a; rfl
  | succ n ih =>
    intro a
    rw [key, ← ih]
    show ((a % 2 + pb n (a / 2) : Nat) : Int) = _
    have : b2i (a.testBit 0 = true) = ((a % 2 : Nat) : Int) := by
      by_cases q : a % 2 = 1
      · rw [b2i_t (tB.mpr (by rw [Nat.shiftRight_zero]; exact q)), q]; rfl
      · rw [b2i_f (fun z => q (by have := tB.mp z; rwa [Nat.shiftRight_zero] at this)), show a % 2 = 0 by omega]; rfl
    rw [this]
    omega
theorem pb_more {m : Nat} : ∀ n a, a < 2 ^ n → pb (n + m) a = pb n a
  | 0, a, ha => by
    have e : a = 0 := by simpa using ha
    subst e
    rw [Nat.zero_add]
    have : ∀ m, pb m 0 = 0 := fun m => by
      induction m with
      | zero => rfl
      | succ m ih => unfold pb; simp [ih]
    rw [this, this]
  | n + 1, a, ha => by
    have ih := pb_more (m := m) n (a / 2) (by rw [Nat.pow_succ] at ha; omega)
    rw [show n + 1 + m = n + m + 1 by omega]
    unfold pb
    rw [ih]
theorem pb_8 (n b : Nat) : pb (8 + n) b = pb 8 b + pb n (b / 256) := by
  rw [show 8 + n = n + 1 + 1 + 1 + 1 + 1 + 1 + 1 + 1 by omega]
  show b % 2 + (b / 2 % 2 + (b / 2 / 2 % 2 + (b / 2 / 2 / 2 % 2 + (b / 2 / 2 / 2 / 2 % 2 + (b / 2 / 2 / 2 / 2 / 2 % 2 + (b / 2 / 2 / 2 / 2 / 2 / 2 % 2 + (b / 2 / 2 / 2 / 2 / 2 / 2 / 2 % 2 + pb n (b / 2 / 2 / 2 / 2 / 2 / 2 / 2 / 2)))))))) = b % 2 + (b / 2 % 2 + (b / 2 / 2 % 2 + (b / 2 / 2 / 2 % 2 + (b / 2 / 2 / 2 / 2 % 2 + (b / 2 / 2 / 2 / 2 / 2 % 2 + (b / 2 / 2 / 2 / 2 / 2 / 2 % 2 + (b / 2 / 2 / 2 / 2 / 2 / 2 / 2 % 2 + 0))))))) + pb n (b / 256)
  rw [show b / 2 / 2 / 2 / 2 / 2 / 2 / 2 / 2 = b / 256 by omega]
  omega
theorem s_JI_bitCount_0 {d : Nat}  (x0 : Int) (h : St) (K : Int → St → Prop) (F : (K (and3 (((and3 (((and3 (x0 - (and3 (ushr3 x0 1) 1431655765)) 858993459) + (and3 (ushr3 (x0 - (and3 (ushr3 x0 1) 1431655765)) 2) 858993459)) + (ushr3 ((and3 (x0 - (and3 (ushr3 x0 1) 1431655765)) 858993459) + (and3 (ushr3 (x0 - (and3 (ushr3 x0 1) 1431655765)) 2) 858993459)) 4)) 252645135) + (ushr3 (and3 (((and3 (x0 - (and3 (ushr3 x0 1) 1431655765)) 858993459) + (and3 (ushr3 (x0 - (and3 (ushr3 x0 1) 1431655765)) 2) 858993459)) + (ushr3 ((and3 (x0 - (and3 (ushr3 x0 1) 1431655765)) 858993459) + (and3 (ushr3 (x0 - (and3 (ushr3 x0 1) 1431655765)) 2) 858993459)) 4)) 252645135) 8)) + (ushr3 ((and3 (((and3 (x0 - (and3 (ushr3 x0 1) 1431655765)) 858993459) + (and3 (ushr3 (x0 - (and3 (ushr3 x0 1) 1431655765)) 2) 858993459)) + (ushr3 ((and3 (x0 - (and3 (ushr3 x0 1) 1431655765)) 858993459) + (and3 (ushr3 (x0 - (and3 (ushr3 x0 1) 1431655765)) 2) 858993459)) 4)) 252645135) + (ushr3 (and3 (((and3 (x0 - (and3 (ushr3 x0 1) 1431655765)) 858993459) + (and3 (ushr3 (x0 - (and3 (ushr3 x0 1) 1431655765)) 2) 858993459)) + (ushr3 ((and3 (x0 - (and3 (ushr3 x0 1) 1431655765)) 858993459) + (and3 (ushr3 (x0 - (and3 (ushr3 x0 1) 1431655765)) 2) 858993459)) 4)) 252645135) 8)) 16)) 63) h)) : wI d m_JI_bitCount 0 [(0, vI x0)] [] h K := by
  refine w_iload_n rfl rfl ?_
  refine w_iload_n rfl rfl ?_
  refine w_iconst rfl ?_
  refine w_iushr rfl ?_
  refine w_ldcw (z := 1431655765) kc_JI_265 (by decide) rfl ?_
  refine w_iand rfl ?_
  refine w_isub rfl ?_
  refine w_istore_n rfl rfl rfl rfl (w_ls (ls2 := [(0, vI (x0 - (and3 (ushr3 x0 1) 1431655765)))]) rfl ?_)
  refine w_iload_n rfl rfl ?_
  refine w_ldcw (z := 858993459) kc_JI_266 (by decide) rfl ?_
  refine w_iand rfl ?_
  refine w_iload_n rfl rfl ?_
  refine w_iconst rfl ?_
  refine w_iushr rfl ?_
  refine w_ldcw (z := 858993459) kc_JI_266 (by decide) rfl ?_
  refine w_iand rfl ?_
  refine w_iadd rfl ?_
  refine w_istore_n rfl rfl rfl rfl (w_ls (ls2 := [(0, vI ((and3 (x0 - (and3 (ushr3 x0 1) 1431655765)) 858993459) + (and3 (ushr3 (x0 - (and3 (ushr3 x0 1) 1431655765)) 2) 858993459)))]) rfl ?_)
  refine w_iload_n rfl rfl ?_
  refine w_iload_n rfl rfl ?_
  refine w_iconst rfl ?_
  refine w_iushr rfl ?_
  refine w_iadd rfl ?_
  refine w_ldcw (z := 252645135) kc_JI_267 (by decide) rfl ?_
  refine w_iand rfl ?_
  refine w_istore_n rfl rfl rfl rfl (w_ls (ls2 := [(0, vI (and3 (((and3 (x0 - (and3 (ushr3 x0 1) 1431655765)) 858993459) + (and3 (ushr3 (x0 - (and3 (ushr3 x0 1) 1431655765)) 2) 858993459)) + (ushr3 ((and3 (x0 - (and3 (ushr3 x0 1) 1431655765)) 858993459) + (and3 (ushr3 (x0 - (and3 (ushr3 x0 1) 1431655765)) 2) 858993459)) 4)) 252645135))]) rfl ?_)
  refine w_iload_n rfl rfl ?_
  refine w_iload_n rfl rfl ?_
  refine w_bipush (by decide) (by decide) rfl ?_
  refine w_iushr rfl ?_
  refine w_iadd rfl ?_
  refine w_istore_n rfl rfl rfl rfl (w_ls (ls2 := [(0, vI ((and3 (((and3 (x0 - (and3 (ushr3 x0 1) 1431655765)) 858993459) + (and3 (ushr3 (x0 - (and3 (ushr3 x0 1) 1431655765)) 2) 858993459)) + (ushr3 ((and3 (x0 - (and3 (ushr3 x0 1) 1431655765)) 858993459) + (and3 (ushr3 (x0 - (and3 (ushr3 x0 1) 1431655765)) 2) 858993459)) 4)) 252645135) + (ushr3 (and3 (((and3 (x0 - (and3 (ushr3 x0 1) 1431655765)) 858993459) + (and3 (ushr3 (x0 - (and3 (ushr3 x0 1) 1431655765)) 2) 858993459)) + (ushr3 ((and3 (x0 - (and3 (ushr3 x0 1) 1431655765)) 858993459) + (and3 (ushr3 (x0 - (and3 (ushr3 x0 1) 1431655765)) 2) 858993459)) 4)) 252645135) 8)))]) rfl ?_)
  refine w_iload_n rfl rfl ?_
  refine w_iload_n rfl rfl ?_
  refine w_bipush (by decide) (by decide) rfl ?_
  refine w_iushr rfl ?_
  refine w_iadd rfl ?_
  refine w_istore_n rfl rfl rfl rfl (w_ls (ls2 := [(0, vI (((and3 (((and3 (x0 - (and3 (ushr3 x0 1) 1431655765)) 858993459) + (and3 (ushr3 (x0 - (and3 (ushr3 x0 1) 1431655765)) 2) 858993459)) + (ushr3 ((and3 (x0 - (and3 (ushr3 x0 1) 1431655765)) 858993459) + (and3 (ushr3 (x0 - (and3 (ushr3 x0 1) 1431655765)) 2) 858993459)) 4)) 252645135) + (ushr3 (and3 (((and3 (x0 - (and3 (ushr3 x0 1) 1431655765)) 858993459) + (and3 (ushr3 (x0 - (and3 (ushr3 x0 1) 1431655765)) 2) 858993459)) + (ushr3 ((and3 (x0 - (and3 (ushr3 x0 1) 1431655765)) 858993459) + (and3 (ushr3 (x0 - (and3 (ushr3 x0 1) 1431655765)) 2) 858993459)) 4)) 252645135) 8)) + (ushr3 ((and3 (((and3 (x0 - (and3 (ushr3 x0 1) 1431655765)) 858993459) + (and3 (ushr3 (x0 - (and3 (ushr3 x0 1) 1431655765)) 2) 858993459)) + (ushr3 ((and3 (x0 - (and3 (ushr3 x0 1) 1431655765)) 858993459) + (and3 (ushr3 (x0 - (and3 (ushr3 x0 1) 1431655765)) 2) 858993459)) 4)) 252645135) + (ushr3 (and3 (((and3 (x0 - (and3 (ushr3 x0 1) 1431655765)) 858993459) + (and3 (ushr3 (x0 - (and3 (ushr3 x0 1) 1431655765)) 2) 858993459)) + (ushr3 ((and3 (x0 - (and3 (ushr3 x0 1) 1431655765)) 858993459) + (and3 (ushr3 (x0 - (and3 (ushr3 x0 1) 1431655765)) 2) 858993459)) 4)) 252645135) 8)) 16)))]) rfl ?_)
  refine w_iload_n rfl rfl ?_
  refine w_bipush (by decide) (by decide) rfl ?_
  refine w_iand rfl ?_
  exact w_iret rfl rfl ⟨rfl, rfl, _, rfl, F⟩
theorem c_JI_bitCount {D : Nat} {h : St} {K : Int → St → Prop} {a : Nat} (ha : a < 2147483648) (k : K ((pb 32 a : Nat) : Int) h) : mwpI (D + 1) m_JI_bitCount [vI a] h K := by
  refine mI_intro b_JI_bitCount rfl (s_JI_bitCount_0 (d := D) (a : Int) h K ?_)
  have u1 : ushr3 (a : Int) 1 = ((a / 2 : Nat) : Int) := by
    have := ushr3_nat (a := a) (k := 1) ha (by omega)
    rw [Nat.shiftRight_eq_div_pow] at this
    exact this
  have u2 : and3 ((a / 2 : Nat) : Int) 1431655765 = ((h4 16 a : Nat) : Int) := by
    have := and3_nat (a := a / 2) (b := mk4 16) (by omega) (by decide)
    rw [and_h4] at this
    exact this
  have q1 := s1_eq 16 a (by omega)
  have u3 : (a : Int) - ((h4 16 a : Nat) : Int) = ((s1 16 a : Nat) : Int) := by omega
  rw [u1, u2, u3]
  have u4 : and3 ((s1 16 a : Nat) : Int) 858993459 = ((e16 8 (s1 16 a) : Nat) : Int) := by
    have := and3_nat (a := s1 16 a) (b := mk16 8) (by omega) (by decide)
    rw [and_e16] at this
    exact this
  have u5 : ushr3 ((s1 16 a : Nat) : Int) 2 = ((s1 16 a / 4 : Nat) : Int) := by
    have := ushr3_nat (a := s1 16 a) (k := 2) (by omega) (by omega)
    rw [Nat.shiftRight_eq_div_pow] at this
    exact this
  have u6 : and3 ((s1 16 a / 4 : Nat) : Int) 858993459 = ((e16 8 (s1 16 a / 4) : Nat) : Int) := by
    have := and3_nat (a := s1 16 a / 4) (b := mk16 8) (by omega) (by decide)
    rw [and_e16] at this
    exact this
  have q2 := s2_eq 8 a
  rw [show 2 * 8 = 16 from rfl] at q2
  have b1 : e16 8 (s1 16 a) ≤ 858993459 := by rw [← and_e16]; exact Nat.and_le_right
  have b2 : e16 8 (s1 16 a / 4) ≤ 858993459 := by rw [← and_e16]; exact Nat.and_le_right
  have u7 : ((e16 8 (s1 16 a) : Nat) : Int) + ((e16 8 (s1 16 a / 4) : Nat) : Int) = ((s2 8 a : Nat) : Int) := by omega
  rw [u4, u5, u6, u7]
  have u8 : ushr3 ((s2 8 a : Nat) : Int) 4 = ((s2 8 a / 16 : Nat) : Int) := by
    have := ushr3_nat (a := s2 8 a) (k := 4) (by omega) (by omega)
    rw [Nat.shiftRight_eq_div_pow] at this
    exact this
  have u9 : and3 (((s2 8 a : Nat) : Int) + ((s2 8 a / 16 : Nat) : Int)) 252645135 = ((s3 4 a : Nat) : Int) := by
    have := and3_nat (a := s2 8 a + s2 8 a / 16) (b := mk256 4) (by omega) (by decide)
    rw [s3_eq 4 a, Int.natCast_add] at this
    exact this
  rw [u8, u9]
  have b3 : s3 4 a ≤ 252645135 := by rw [← s3_eq 4 a]; exact Nat.and_le_right
  have u10 : ushr3 ((s3 4 a : Nat) : Int) 8 = ((s3 4 a / 256 : Nat) : Int) := by
    have := ushr3_nat (a := s3 4 a) (k := 8) (by omega) (by omega)
    rw [Nat.shiftRight_eq_div_pow] at this
    exact this
  have u11 : ushr3 (((s3 4 a : Nat) : Int) + ((s3 4 a / 256 : Nat) : Int)) 16 = (((s3 4 a + s3 4 a / 256) / 65536 : Nat) : Int) := by
    have := ushr3_nat (a := s3 4 a + s3 4 a / 256) (k := 16) (by omega) (by omega)
    rw [Nat.shiftRight_eq_div_pow, Int.natCast_add] at this
    exact this
  rw [u10, u11]
  have u12 : and3 (((s3 4 a : Nat) : Int) + ((s3 4 a / 256 : Nat) : Int) + (((s3 4 a + s3 4 a / 256) / 65536 : Nat) : Int)) 63 = (((s3 4 a + s3 4 a / 256 + (s3 4 a + s3 4 a / 256) / 65536) % 64 : Nat) : Int) := by
    have := and3_nat (a := s3 4 a + s3 4 a / 256 + (s3 4 a + s3 4 a / 256) / 65536) (b := 2 ^ 6 - 1) (by omega) (by decide)
    rw [Nat.and_two_pow_sub_one_eq_mod, Int.natCast_add, Int.natCast_add] at this
    exact this
  rw [u12]
  have e3 : s3 4 a = pb 8 a + 256 * (pb 8 (a / 256) + 256 * (pb 8 (a / 256 / 256) + 256 * (pb 8 (a / 256 / 256 / 256)))) := rfl
  have e4 : pb 32 a = pb 8 a + (pb 8 (a / 256) + (pb 8 (a / 256 / 256) + pb 8 (a / 256 / 256 / 256))) := by
    rw [show 32 = 8 + 24 from rfl, pb_8 24, show 24 = 8 + 16 from rfl, pb_8 16, show 16 = 8 + 8 from rfl, pb_8 8]
  have p0 := pb_le 8 a
  have p1 := pb_le 8 (a / 256)
  have p2 := pb_le 8 (a / 256 / 256)
  have p3 := pb_le 8 (a / 256 / 256 / 256)
  have e5 : (s3 4 a + s3 4 a / 256 + (s3 4 a + s3 4 a / 256) / 65536) % 64 = pb 32 a := by
    rw [e3, e4]
    clear u1 u2 u3 u4 u5 u6 u7 u8 u9 u10 u11 u12 q1 q2 b1 b2 b3 e3 e4 k ha
    generalize pb 8 a = w0 at *
    generalize pb 8 (a / 256) = w1 at *
    generalize pb 8 (a / 256 / 256) = w2 at *
    generalize pb 8 (a / 256 / 256 / 256) = w3 at *
    have d1 : (w0 + 256 * (w1 + 256 * (w2 + 256 * w3))) / 256 = w1 + 256 * (w2 + 256 * w3) := by omega
    rw [d1]
    have d2 : (w0 + 256 * (w1 + 256 * (w2 + 256 * w3)) + (w1 + 256 * (w2 + 256 * w3))) / 65536 = w2 + w3 + 256 * w3 := by omega
    rw [d2]
    omega
  rw [e5]
  exact k
