/-! numbers: naturals as ints, bits of ints -/
theorem n32_add (a b : Nat) : n32 a + n32 b = n32 (a + b) := by unfold n32; exact (Int32.ofNat_add a b).symm
theorem n32_mul (a b : Nat) : n32 a * n32 b = n32 (a * b) := by unfold n32; exact (Int32.ofNat_mul a b).symm
theorem n32_lt {a b : Nat} (ha : a < 2147483648) (hb : b < 2147483648) : n32 a < n32 b ↔ a < b := by
  rw [Int32.lt_iff_toInt_lt, n32_toInt ha, n32_toInt hb]; omega
theorem n32_le {a b : Nat} (ha : a < 2147483648) (hb : b < 2147483648) : n32 a ≤ n32 b ↔ a ≤ b := by
  rw [Int32.le_iff_toInt_le, n32_toInt ha, n32_toInt hb]; omega
theorem n32_inj {a b : Nat} (ha : a < 2147483648) (hb : b < 2147483648) : n32 a = n32 b ↔ a = b := by
  rw [← Int32.toInt_inj, n32_toInt ha, n32_toInt hb]; omega
theorem n32_sub {a b : Nat} (h : b ≤ a) : n32 a - n32 b = n32 (a - b) := by
  have := n32_add (a - b) b
  rw [Nat.sub_add_cancel h] at this
  rw [← this, Int32.add_sub_cancel]
theorem n32_of {x : Int32} (h : ¬ x < 0) : ∃ n, n < 2147483648 ∧ x = n32 n := by
  refine ⟨x.toNatClampNeg, ?_, ?_⟩
  · have := x.toNatClampNeg_lt; omega
  · have h0 : 0 ≤ x.toInt := by
      rw [Int32.lt_iff_toInt_lt] at h; simp at h; exact h
    rw [← Int32.toInt_inj, n32_toInt (by have := x.toNatClampNeg_lt; omega)]
    unfold Int32.toNatClampNeg; omega
def bt (x : Int32) (k : Nat) : Bool := x.toBitVec.getLsbD k
theorem bt_ext {x y : Int32} (h : ∀ k, k < 32 → bt x k = bt y k) : x = y := by
  apply Int32.toBitVec_inj.mp
  apply BitVec.eq_of_getLsbD_eq
  intro i hi; exact h i hi
theorem bt_or (x y : Int32) (k : Nat) : bt (x ||| y) k = (bt x k || bt y k) := by simp [bt]
theorem bt_and (x y : Int32) (k : Nat) : bt (x &&& y) k = (bt x k && bt y k) := by simp [bt]
theorem bt_xor (x y : Int32) (k : Nat) : bt (x ^^^ y) k = (bt x k ^^ bt y k) := by simp [bt]
theorem bt_0 (k : Nat) : bt 0 k = false := by simp [bt]
theorem bt_n (n k : Nat) : bt (n32 n) k = (decide (k < 32) && n.testBit k) := by
  simp [bt, n32, BitVec.getLsbD_ofNat]
theorem bt_m1 (k : Nat) (h : k < 32) : bt (-1) k = true := by
  have : (-1 : Int32).toBitVec = BitVec.allOnes 32 := by decide
  unfold bt; rw [this, BitVec.getLsbD_allOnes]; simpa using h
theorem n32_31 {k : Nat} (h : k < 32) : n32 k &&& 31 = n32 k := by
  apply bt_ext; intro j hj
  rw [bt_and, show (31 : Int32) = n32 31 from rfl, bt_n, bt_n]
  by_cases hk : j < 5
  · rw [show Nat.testBit 31 j = true from by rw [show 31 = 2 ^ 5 - 1 from rfl, Nat.testBit_two_pow_sub_one]; simpa using hk]; simp; intro h1 _; exact h1
  · rw [show Nat.testBit k j = false from Nat.testBit_lt_two_pow (Nat.lt_of_lt_of_le (show k < 2 ^ 5 from h) (Nat.pow_le_pow_right (by omega) (by omega)))]; simp
theorem n32_smod : ∀ k, k < 32 → (n32 k).toBitVec.smod 32 = BitVec.ofNat 32 k := by decide
theorem bt_sar {x : Int32} {k j : Nat} (h : k < 32) (hj : k + j < 32) : bt (x >>> (n32 k &&& 31)) j = bt x (k + j) := by
  rw [n32_31 h]; unfold bt
  rw [Int32.toBitVec_shiftRight, n32_smod k h]
  have hk : (BitVec.ofNat 32 k).toNat = k := by simp; omega
  unfold BitVec.sshiftRight'
  rw [hk, BitVec.getLsbD_sshiftRight]
  simp [hj]; omega
theorem bt_shl {k j : Nat} (h : k < 32) (hj : j < 32) : bt ((1 : Int32) <<< (n32 k &&& 31)) j = decide (j = k) := by
  rw [n32_31 h]; unfold bt
  rw [Int32.toBitVec_shiftLeft, n32_smod k h]
  have hk : (BitVec.ofNat 32 k).toNat = k := by simp; omega
  rw [BitVec.shiftLeft_eq', hk]
  rw [BitVec.getLsbD_shiftLeft, show (1 : Int32).toBitVec = 1#32 from rfl, BitVec.getLsbD_one]
  by_cases hjk : j = k
  · subst hjk; simp [hj]
  · simp [hjk]; omega
theorem ts_0 {x : Int32} {k : Nat} (h : k < 32) : ((x >>> (n32 k &&& 31)) &&& (1 : Int32)) = 0 ↔ bt x k = false := by
  constructor
  · intro h1
    have := congrArg (fun y => bt y 0) h1
    simp only [bt_and, bt_0, bt_sar h (j := 0) (by omega)] at this
    simpa [show bt 1 0 = true from by decide] using this
  · intro h1
    apply bt_ext; intro j hj
    rw [bt_and, bt_0, show (1 : Int32) = n32 1 from rfl, bt_n]
    by_cases h0 : j = 0
    · subst h0; rw [bt_sar h (by omega)]; simp [h1]
    · rw [show Nat.testBit 1 j = false from by rw [show 1 = 2 ^ 0 from rfl, Nat.testBit_two_pow]; simp; omega]; simp
theorem n32_shl {k : Nat} (h : k < 31) : (1 : Int32) <<< (n32 k &&& 31) = n32 (2 ^ k) := by
  apply bt_ext; intro j hj
  rw [bt_shl (by omega) hj, bt_n, Nat.testBit_two_pow]
  simp [hj]; omega
theorem n32_sar {a k : Nat} (ha : a < 2147483648) (h : k < 32) : n32 a >>> (n32 k &&& 31) = n32 (a >>> k) := by
  apply bt_ext; intro j hj
  by_cases hkj : k + j < 32
  · rw [bt_sar h hkj, bt_n, bt_n, Nat.testBit_shiftRight]; simp [hj, hkj]
  · rw [bt_n, Nat.testBit_shiftRight, Nat.testBit_lt_two_pow (Nat.lt_of_lt_of_le (show a < 2 ^ 31 from ha) (Nat.pow_le_pow_right (by omega) (by omega)))]
    rw [n32_31 h]; unfold bt
    rw [Int32.toBitVec_shiftRight, n32_smod k h]
    have hk : (BitVec.ofNat 32 k).toNat = k := by simp; omega
    unfold BitVec.sshiftRight'
    rw [hk, BitVec.getLsbD_sshiftRight]
    have h31 : (n32 a).toBitVec.msb = false := by
      rw [BitVec.msb_eq_getLsbD_last]
      have := bt_n a 31
      rw [Nat.testBit_lt_two_pow (show a < 2 ^ 31 from ha)] at this
      simpa [bt] using this
    simp [h31]; omega
theorem n32_div {a b : Nat} (ha : a < 2147483648) (hb : b < 2147483648) (h0 : b ≠ 0) : n32 a / n32 b = n32 (a / b) := by
  have h1 : a / b ≤ a := Nat.div_le_self a b
  rw [← Int32.toInt_inj, Int32.toInt_div, n32_toInt ha, n32_toInt hb, n32_toInt (by omega), ← Int.ofNat_tdiv]
  generalize a / b = c at *
  exact Int.bmod_eq_of_le (by omega) (by omega)
theorem n32_and {a b : Nat} (ha : a < 4294967296) : n32 a &&& n32 b = n32 (a &&& b) := by
  apply bt_ext; intro j hj
  rw [bt_and, bt_n, bt_n, bt_n, Nat.testBit_and]; simp [hj]
theorem n32_or (a b : Nat) : n32 a ||| n32 b = n32 (a ||| b) := by
  apply bt_ext; intro j hj
  rw [bt_or, bt_n, bt_n, bt_n, Nat.testBit_or]; simp [hj]
