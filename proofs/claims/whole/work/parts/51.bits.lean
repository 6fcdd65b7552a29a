/-! ===== bits: sets of things as numbers, and their count ===== -/
def qb (x : Int32) (i : Nat) : Bool := x.toBitVec.getLsbD i
theorem qb_or (x y : Int32) (i : Nat) : qb (x ||| y) i = (qb x i || qb y i) := by unfold qb; rw [Int32.toBitVec_or, BitVec.getLsbD_or]
theorem qb_and (x y : Int32) (i : Nat) : qb (x &&& y) i = (qb x i && qb y i) := by unfold qb; rw [Int32.toBitVec_and, BitVec.getLsbD_and]
theorem qb_xor (x y : Int32) (i : Nat) : qb (x ^^^ y) i = (qb x i ^^ qb y i) := by unfold qb; rw [Int32.toBitVec_xor, BitVec.getLsbD_xor]
theorem qb_big {x : Int32} {i : Nat} (h : 32 ≤ i) : qb x i = false := BitVec.getLsbD_of_ge _ _ h
theorem qb_0 (i : Nat) : qb 0 i = false := BitVec.getLsbD_zero
theorem qb_m1 : ∀ i, i < 32 → qb (-1) i = true := by decide +kernel
theorem qb_one : ∀ t, t < 20 → ∀ i, i < 32 → qb ((1 : Int32) <<< (nI t &&& 31)) i = decide (i = t) := by decide +kernel
theorem qb_zero {x : Int32} : x = 0 ↔ ∀ i, i < 32 → qb x i = false := by
  constructor
  · intro h i _; rw [h]; exact qb_0 i
  · intro h
    refine Int32.toBitVec_inj.mp (BitVec.eq_of_getLsbD_eq (fun i hi => ?_))
    exact (h i hi).trans (qb_0 i).symm
theorem cnt_sum {p : Nat → Bool} {a : Nat} : ∀ d, cnt p (a + d) = cnt p a + cnt (fun i => p (a + i)) d
  | 0 => rfl
  | d + 1 => by rw [← Nat.add_assoc, cnt_s, cnt_sum d, cnt_s, Nat.add_assoc]
theorem nI_andE (a b : Nat) : nI a &&& nI b = nI (a &&& b) := by
  refine Int32.toBitVec_inj.mp ?_
  rw [Int32.toBitVec_and]
  show BitVec.ofNat 32 a &&& BitVec.ofNat 32 b = BitVec.ofNat 32 (a &&& b)
  refine BitVec.eq_of_getLsbD_eq (fun i hi => ?_)
  rw [BitVec.getLsbD_and, BitVec.getLsbD_ofNat, BitVec.getLsbD_ofNat, BitVec.getLsbD_ofNat, Nat.testBit_and]
  simp [hi]
theorem nI_ush {a k : Nat} {c : UInt32} (ha : a < 4294967296) (hc : (c.toBitVec % 32).toNat = k) : ((nI a).toUInt32 >>> c).toInt32 = nI (a / 2 ^ k) := by
  refine Int32.toBitVec_inj.mp ?_
  show ((nI a).toUInt32 >>> c).toBitVec = BitVec.ofNat 32 (a / 2 ^ k)
  rw [UInt32.toBitVec_shiftRight]
  refine BitVec.eq_of_toNat_eq ?_
  have h1 : a / 2 ^ k ≤ a := Nat.div_le_self _ _
  rw [BitVec.ushiftRight_eq', BitVec.toNat_ushiftRight, hc, Nat.shiftRight_eq_div_pow, BitVec.toNat_ofNat, Nat.mod_eq_of_lt (show a / 2 ^ k < 2 ^ 32 by omega)]
  show (BitVec.ofNat 32 a).toNat / 2 ^ k = _
  rw [BitVec.toNat_ofNat, Nat.mod_eq_of_lt (show a < 2 ^ 32 by omega)]
theorem nI_subE {a b : Nat} (h : b ≤ a) : nI a - nI b = nI (a - b) := by
  have : nI (a - b) + nI b = nI a := by rw [nI_addE]; congr 1; omega
  rw [← this, Int32.add_sub_cancel]
theorem and_sp (a b c d : Nat) (hb : b < 256) (hd : d < 256) : (a * 256 + b) &&& (c * 256 + d) = (a &&& c) * 256 + (b &&& d) := by
  have hbd : b &&& d < 2 ^ 8 := Nat.lt_of_le_of_lt Nat.and_le_left hb
  refine Nat.eq_of_testBit_eq (fun i => ?_)
  rw [Nat.testBit_and, show a * 256 + b = 2 ^ 8 * a + b by omega, show c * 256 + d = 2 ^ 8 * c + d by omega, show (a &&& c) * 256 + (b &&& d) = 2 ^ 8 * (a &&& c) + (b &&& d) by omega]
  rw [Nat.testBit_two_pow_mul_add a (i := 8) hb, Nat.testBit_two_pow_mul_add c (i := 8) hd, Nat.testBit_two_pow_mul_add (a &&& c) (i := 8) hbd]
  split
  · rw [Nat.testBit_and]
  · rw [Nat.testBit_and]
def w3 (a b c : Nat) : Nat := ((0 * 256 + a) * 256 + b) * 256 + c
theorem w3_and {a b c m : Nat} (ha : a < 256) (hb : b < 256) (hc : c < 256) (hm : m < 256) : w3 a b c &&& (((m * 256 + m) * 256 + m) * 256 + m) = w3 (a &&& m) (b &&& m) (c &&& m) := by
  unfold w3
  rw [and_sp _ _ _ _ hc hm, and_sp _ _ _ _ hb hm, and_sp _ _ _ _ ha hm, Nat.zero_and]
def s1 (y : Nat) : Nat := y - (y / 2 &&& 85)
def s2 (y : Nat) : Nat := (y &&& 51) + (y / 4 &&& 51)
def s3 (y : Nat) : Nat := (y + y / 16) &&& 15
theorem k1 : ∀ y, y < 256 → ∀ z, z < 2 → (y / 2 + 128 * z) &&& 85 = y / 2 &&& 85 := by decide +kernel
theorem k1b : ∀ y, y < 256 → y / 2 &&& 85 ≤ y ∧ s1 y < 256 := by decide +kernel
theorem k2 : ∀ y, y < 256 → ∀ z, z < 4 → (y / 4 + 64 * z) &&& 51 = y / 4 &&& 51 := by decide +kernel
theorem k2b : ∀ y, y < 256 → s2 y < 256 ∧ (y &&& 51) < 256 ∧ (y / 4 &&& 51) < 256 ∧ s2 (s1 y) ≤ 68 ∧ s2 (s1 y) % 16 ≤ 4 := by decide +kernel
theorem k3 : ∀ y, y < 256 → s3 (s2 (s1 y)) = cnt (fun i => y.testBit i) 8 := by decide +kernel
theorem and15 (x : Nat) : x &&& 15 = x % 16 := Nat.and_two_pow_sub_one_eq_mod x 4
theorem and63 (x : Nat) : x &&& 63 = x % 64 := Nat.and_two_pow_sub_one_eq_mod x 6
theorem j_bitCount {a b c : Nat} (ha : a < 256) (hb : b < 256) (hc : c < 256) : xJ6_bitCount_0f7a4 (nI (w3 a b c)) = some (nI (cnt (fun i => a.testBit i) 8 + cnt (fun i => b.testBit i) 8 + cnt (fun i => c.testBit i) 8)) := by
  have e1 : nI (w3 a b c) - (((Int32.toUInt32 (nI (w3 a b c)) >>> (Int32.toUInt32 1 &&& Int32.toUInt32 31)).toInt32) &&& 1431655765) = nI (w3 (s1 a) (s1 b) (s1 c)) := by
    rw [nI_ush (k := 1) (by unfold w3; omega) (by decide), show (1431655765 : Int32) = nI (((85 * 256 + 85) * 256 + 85) * 256 + 85) from rfl, nI_andE]
    rw [show w3 a b c / 2 ^ 1 = w3 (a / 2) (b / 2 + 128 * (a % 2)) (c / 2 + 128 * (b % 2)) by unfold w3; omega]
    rw [w3_and (by omega) (by omega) (by omega) (by omega), k1 b hb _ (by omega), k1 c hc _ (by omega)]
    have qa := k1b a ha
    have qbb := k1b b hb
    have qc := k1b c hc
    unfold s1
    rw [nI_subE (by unfold w3; omega)]
    refine congrArg nI ?_
    unfold w3
    omega
  have ra := (k1b a ha).2
  have rb := (k1b b hb).2
  have rc := (k1b c hc).2
  have e2 : (nI (w3 (s1 a) (s1 b) (s1 c)) &&& 858993459) + (((Int32.toUInt32 (nI (w3 (s1 a) (s1 b) (s1 c))) >>> (Int32.toUInt32 2 &&& Int32.toUInt32 31)).toInt32) &&& 858993459) = nI (w3 (s2 (s1 a)) (s2 (s1 b)) (s2 (s1 c))) := by
    generalize s1 a = a at *
    generalize s1 b = b at *
    generalize s1 c = c at *
    rw [nI_ush (k := 2) (by unfold w3; omega) (by decide), show (858993459 : Int32) = nI (((51 * 256 + 51) * 256 + 51) * 256 + 51) from rfl, nI_andE, nI_andE]
    rw [show w3 a b c / 2 ^ 2 = w3 (a / 4) (b / 4 + 64 * (a % 4)) (c / 4 + 64 * (b % 4)) by unfold w3; omega]
    rw [w3_and (by omega) (by omega) (by omega) (by omega), w3_and (by omega) (by omega) (by omega) (by omega), k2 b rb _ (by omega), k2 c rc _ (by omega), nI_addE]
    refine congrArg nI ?_
    unfold s2 w3
    omega
  have ta := (k2b a ha).2.2.2
  have tb := (k2b b hb).2.2.2
  have tc := (k2b c hc).2.2.2
  have e3 : (nI (w3 (s2 (s1 a)) (s2 (s1 b)) (s2 (s1 c))) + ((Int32.toUInt32 (nI (w3 (s2 (s1 a)) (s2 (s1 b)) (s2 (s1 c)))) >>> (Int32.toUInt32 4 &&& Int32.toUInt32 31)).toInt32)) &&& 252645135 = nI (w3 (s3 (s2 (s1 a))) (s3 (s2 (s1 b))) (s3 (s2 (s1 c)))) := by
    generalize s2 (s1 a) = a at *
    generalize s2 (s1 b) = b at *
    generalize s2 (s1 c) = c at *
    rw [nI_ush (k := 4) (by unfold w3; omega) (by decide), show (252645135 : Int32) = nI (((15 * 256 + 15) * 256 + 15) * 256 + 15) from rfl, nI_addE, nI_andE]
    rw [show w3 a b c + w3 a b c / 2 ^ 4 = w3 (a + a / 16) (b + b / 16 + 16 * (a % 16)) (c + c / 16 + 16 * (b % 16)) by unfold w3; omega]
    rw [w3_and (by omega) (by omega) (by omega) (by omega)]
    unfold s3
    simp only [and15]
    refine congrArg nI ?_
    unfold w3
    omega
  have u1 := k3 a ha
  have u2 := k3 b hb
  have u3 := k3 c hc
  have v1 := cnt_le (fun i => a.testBit i) 8
  have v2 := cnt_le (fun i => b.testBit i) 8
  have v3 := cnt_le (fun i => c.testBit i) 8
  unfold xJ6_bitCount_0f7a4
  rw [e1, e2, e3, u1, u2, u3]
  generalize cnt (fun i => a.testBit i) 8 = a at *
  generalize cnt (fun i => b.testBit i) 8 = b at *
  generalize cnt (fun i => c.testBit i) 8 = c at *
  have e4 : nI (w3 a b c) + ((Int32.toUInt32 (nI (w3 a b c)) >>> (Int32.toUInt32 8 &&& Int32.toUInt32 31)).toInt32) = nI (w3 a (a + b) (b + c)) := by
    rw [nI_ush (k := 8) (by unfold w3; omega) (by decide), nI_addE]
    refine congrArg nI ?_
    unfold w3
    omega
  have e5 : w3 a (a + b) (b + c) / 2 ^ 16 = a := by
    unfold w3
    omega
  have e6 : (w3 a (a + b) (b + c) + a) % 64 = a + b + c := by
    rw [show w3 a (a + b) (b + c) + a = 64 * (1024 * a + 4 * (a + b)) + (a + b + c) by unfold w3; omega, Nat.mul_add_mod, Nat.mod_eq_of_lt (by omega)]
  rw [e4, nI_ush (k := 16) (by unfold w3; omega) (by decide), nI_addE, show (63 : Int32) = nI 63 from rfl, nI_andE, and63, e5, e6]
theorem bits_spec (x : Int32) (h : ∀ i, 20 ≤ i → qb x i = false) : xJ6_bitCount_0f7a4 x = some (nI (cnt (qb x) 20)) := by
  have hx : x = nI x.toBitVec.toNat := Int32.toBitVec_inj.mp (by
    show x.toBitVec = BitVec.ofNat 32 x.toBitVec.toNat
    rw [BitVec.ofNat_toNat, BitVec.setWidth_eq])
  have hq : ∀ i, qb x i = x.toBitVec.toNat.testBit i := fun i => rfl
  have hlt : x.toBitVec.toNat < 2 ^ 20 := Nat.lt_pow_two_of_testBit _ (fun i hi => (hq i).symm.trans (h i hi))
  generalize x.toBitVec.toNat = v at *
  have hw : v = w3 (v / 65536) (v / 256 % 256) (v % 256) := by unfold w3; omega
  have hc : cnt (qb x) 20 = cnt (fun i => (v / 65536).testBit i) 8 + cnt (fun i => (v / 256 % 256).testBit i) 8 + cnt (fun i => (v % 256).testBit i) 8 := by
    have z : cnt (qb x) 24 = cnt (qb x) 20 := by
      show cnt (qb x) (20 + 4) = _
      exact cnt_blank (fun i _ => h (20 + i) (by omega))
    rw [← z, show 24 = 8 + 16 from rfl, cnt_sum, show 16 = 8 + 8 from rfl, cnt_sum]
    have t1 : ∀ i, i < 8 → qb x i = (v % 256).testBit i := by
      intro i hi
      rw [hq, show (256 : Nat) = 2 ^ 8 from rfl, Nat.testBit_mod_two_pow]
      simp [hi]
    have t2 : ∀ i, i < 8 → qb x (8 + i) = (v / 256 % 256).testBit i := by
      intro i hi
      rw [hq, show v / 256 % 256 = v / 2 ^ 8 % 2 ^ 8 from rfl, Nat.testBit_mod_two_pow, Nat.testBit_div_two_pow]
      simp [hi, Nat.add_comm]
    have t3 : ∀ i, i < 8 → qb x (8 + (8 + i)) = (v / 65536).testBit i := by
      intro i hi
      rw [hq, show v / 65536 = v / 2 ^ 16 from rfl, Nat.testBit_div_two_pow]
      congr 1
      omega
    rw [cnt_cong (p := qb x) (q := fun i => (v % 256).testBit i) t1, cnt_cong (p := fun i => qb x (8 + i)) (q := fun i => (v / 256 % 256).testBit i) t2, cnt_cong (p := fun i => qb x (8 + (8 + i))) (q := fun i => (v / 65536).testBit i) t3]
    omega
  have e : x = nI (w3 (v / 65536) (v / 256 % 256) (v % 256)) := hx.trans (congrArg nI hw)
  rw [hc]
  exact (congrArg xJ6_bitCount_0f7a4 e).trans (j_bitCount (by omega) (by omega) (by omega))
