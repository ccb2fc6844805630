/-! Integer.bitCount counts the bits -/
def nd : List Nat → Nat
  | [] => 0
  | d :: l => 2 ^ 8 * nd l + d
theorem nd_and {m : Nat} (hm : m < 2 ^ 8) : ∀ (ds : List Nat), (∀ d, d ∈ ds → d < 2 ^ 8) → nd ds &&& nd (ds.map (fun _ => m)) = nd (ds.map (fun d => d &&& m))
  | [], _ => by simp [nd]
  | d :: l, h => by
    have hd := h d (by simp)
    have ih := nd_and hm l (fun d hd => h d (by simp [hd]))
    show (2 ^ 8 * nd l + d) &&& (2 ^ 8 * nd (l.map (fun _ => m)) + m) = 2 ^ 8 * nd (l.map (fun d => d &&& m)) + (d &&& m)
    rw [← ih]
    apply Nat.eq_of_testBit_eq; intro i
    rw [Nat.testBit_and, Nat.testBit_two_pow_mul_add _ hd, Nat.testBit_two_pow_mul_add _ hm, Nat.testBit_two_pow_mul_add _ (Nat.lt_of_le_of_lt Nat.and_le_left hd)]
    by_cases hi : i < 8
    · simp only [if_pos hi, Nat.testBit_and]
    · simp only [if_neg hi, Nat.testBit_and]
theorem nd_shr {m s : Nat} (hs : s < 8) (hm : m < 2 ^ (8 - s)) : ∀ (ds : List Nat), (∀ d, d ∈ ds → d < 2 ^ 8) → (nd ds >>> s) &&& nd (ds.map (fun _ => m)) = nd (ds.map (fun d => (d >>> s) &&& m))
  | [], _ => by simp [nd]
  | d :: l, h => by
    have hd := h d (by simp)
    have ih := nd_shr hs hm l (fun d hd => h d (by simp [hd]))
    have hm8 : m < 2 ^ 8 := Nat.lt_of_lt_of_le hm (Nat.pow_le_pow_right (by omega) (by omega))
    show ((2 ^ 8 * nd l + d) >>> s) &&& (2 ^ 8 * nd (l.map (fun _ => m)) + m) = 2 ^ 8 * nd (l.map (fun d => (d >>> s) &&& m)) + ((d >>> s) &&& m)
    rw [← ih]
    apply Nat.eq_of_testBit_eq; intro i
    rw [Nat.testBit_and, Nat.testBit_shiftRight, Nat.testBit_two_pow_mul_add _ hd, Nat.testBit_two_pow_mul_add _ hm8, Nat.testBit_two_pow_mul_add _ (Nat.lt_of_le_of_lt Nat.and_le_right hm8)]
    by_cases hi : i < 8
    · simp only [if_pos hi, Nat.testBit_and, Nat.testBit_shiftRight]
      by_cases h2 : s + i < 8
      · simp only [if_pos h2]
      · rw [Nat.testBit_lt_two_pow (Nat.lt_of_lt_of_le hm (Nat.pow_le_pow_right (by omega) (show 8 - s ≤ i by omega)))]; simp
    · simp only [if_neg hi, if_neg (show ¬ s + i < 8 by omega), Nat.testBit_and, Nat.testBit_shiftRight, show s + i - 8 = s + (i - 8) from by omega]
theorem nd_sub {f : Nat → Nat} (hf : ∀ d, f d ≤ d) : ∀ (ds : List Nat), nd (ds.map f) ≤ nd ds ∧ nd ds - nd (ds.map f) = nd (ds.map (fun d => d - f d))
  | [] => ⟨Nat.le_refl _, rfl⟩
  | d :: l => by
    obtain ⟨i1, i2⟩ := nd_sub hf l
    have := hf d
    show 2 ^ 8 * nd (l.map f) + f d ≤ 2 ^ 8 * nd l + d ∧ 2 ^ 8 * nd l + d - (2 ^ 8 * nd (l.map f) + f d) = 2 ^ 8 * nd (l.map (fun d => d - f d)) + (d - f d)
    omega
theorem nd_add {f g : Nat → Nat} : ∀ (ds : List Nat), nd (ds.map f) + nd (ds.map g) = nd (ds.map (fun d => f d + g d))
  | [] => rfl
  | d :: l => by
    have := nd_add (f := f) (g := g) l
    show 2 ^ 8 * nd (l.map f) + f d + (2 ^ 8 * nd (l.map g) + g d) = 2 ^ 8 * nd (l.map (fun d => f d + g d)) + (f d + g d)
    omega
def p1 (d : Nat) : Nat := d - ((d >>> 1) &&& 85)
def p2 (d : Nat) : Nat := (d &&& 51) + ((d >>> 2) &&& 51)
def pc8 (d : Nat) : Nat := (List.range 8).countP (fun e => d.testBit e)
theorem p12 : ∀ d, d < 256 → p1 d < 256 ∧ p2 (p1 d) < 256 ∧ p2 (p1 d) % 16 ≤ 4 ∧ p2 (p1 d) / 16 ≤ 4 ∧ p2 (p1 d) % 16 + p2 (p1 d) / 16 = pc8 d := by decide +kernel
theorem sh_k : ∀ k, k < 32 → (UInt32.mod ((n32 k).toUInt32 &&& Int32.toUInt32 31) 32).toBitVec.toNat = k := by decide
theorem n32_shru {a k : Nat} (ha : a < 4294967296) (hk : k < 32) : ((n32 a).toUInt32 >>> ((n32 k).toUInt32 &&& Int32.toUInt32 31)).toInt32 = n32 (a >>> k) := by
  apply bt_ext; intro j hj
  rw [bt_n, Nat.testBit_shiftRight]
  show ((n32 a).toBitVec >>> (UInt32.mod ((n32 k).toUInt32 &&& Int32.toUInt32 31) 32).toBitVec).getLsbD j = _
  rw [BitVec.ushiftRight_eq', sh_k k hk, BitVec.getLsbD_ushiftRight]
  have := bt_n a (k + j)
  unfold bt at this
  rw [this]
  by_cases h : k + j < 32
  · simp [h, hj]
  · rw [Nat.testBit_lt_two_pow (Nat.lt_of_lt_of_le (show a < 2 ^ 32 from ha) (Nat.pow_le_pow_right (by omega) (by omega)))]; simp
theorem bc_n {b0 b1 b2 b3 : Nat} (h0 : b0 < 256) (h1 : b1 < 256) (h2 : b2 < 256) (h3 : b3 < 256) {fu : Nat} {w : List va_E} : f_JI_bitCount fu (n32 (nd [b0, b1, b2, b3])) w = some (n32 (pc8 b0 + pc8 b1 + pc8 b2 + pc8 b3), w) := by
  have hall : ∀ d, d ∈ [b0, b1, b2, b3] → d < 2 ^ 8 := by intro d hd; simp at hd; omega
  have e55 : (1431655765 : Int32) = n32 (nd ([b0, b1, b2, b3].map (fun _ => 85))) := congrArg n32 (show 1431655765 = nd [85, 85, 85, 85] from by decide)
  have lt4 : ∀ {f : Nat → Nat}, f b0 < 256 → f b1 < 256 → f b2 < 256 → f b3 < 256 → nd ([b0, b1, b2, b3].map f) < 4294967296 := by
    intro f g0 g1 g2 g3
    show 2 ^ 8 * (2 ^ 8 * (2 ^ 8 * (2 ^ 8 * 0 + f b3) + f b2) + f b1) + f b0 < _
    omega
  have lt0 : nd [b0, b1, b2, b3] < 4294967296 := lt4 (f := id) h0 h1 h2 h3
  have s1 : n32 (nd [b0, b1, b2, b3]) - (((n32 (nd [b0, b1, b2, b3])).toUInt32 >>> (((1 : Int32)).toUInt32 &&& Int32.toUInt32 31)).toInt32 &&& (1431655765 : Int32)) = n32 (nd ([b0, b1, b2, b3].map p1)) := by
    rw [show (1 : Int32) = n32 1 from rfl, n32_shru lt0 (by omega), e55, n32_and (Nat.lt_of_le_of_lt (Nat.shiftRight_le _ _) lt0), nd_shr (by omega) (by decide) _ hall]
    have hf : ∀ d, (d >>> 1) &&& 85 ≤ d := fun d => Nat.le_trans Nat.and_le_left (Nat.shiftRight_le _ _)
    rw [n32_sub (nd_sub hf _).1, (nd_sub hf _).2]; rfl
  have q0 := p12 b0 h0
  have q1 := p12 b1 h1
  have q2 := p12 b2 h2
  have q3 := p12 b3 h3
  have hall1 : ∀ d, d ∈ [b0, b1, b2, b3].map p1 → d < 2 ^ 8 := by intro d hd; simp at hd; omega
  have s2 : (n32 (nd ([b0, b1, b2, b3].map p1)) &&& (858993459 : Int32)) + (((n32 (nd ([b0, b1, b2, b3].map p1))).toUInt32 >>> (((2 : Int32)).toUInt32 &&& Int32.toUInt32 31)).toInt32 &&& (858993459 : Int32)) = n32 (nd ([b0, b1, b2, b3].map (fun d => p2 (p1 d)))) := by
    have e33' : (858993459 : Int32) = n32 (nd (([b0, b1, b2, b3].map p1).map (fun _ => 51))) := congrArg n32 (show 858993459 = nd [51, 51, 51, 51] from by decide)
    rw [show (2 : Int32) = n32 2 from rfl, n32_shru (lt4 q0.1 q1.1 q2.1 q3.1) (by omega), e33', n32_and (lt4 q0.1 q1.1 q2.1 q3.1), n32_and (Nat.lt_of_le_of_lt (Nat.shiftRight_le _ _) (lt4 q0.1 q1.1 q2.1 q3.1)), nd_and (by decide) _ hall1, nd_shr (by omega) (by decide) _ hall1, n32_add, nd_add]; rfl
  have hz : nd ([b0, b1, b2, b3].map (fun d => p2 (p1 d))) = 2 ^ 8 * (2 ^ 8 * (2 ^ 8 * (2 ^ 8 * 0 + p2 (p1 b3)) + p2 (p1 b2)) + p2 (p1 b1)) + p2 (p1 b0) := rfl
  simp only [f_JI_bitCount, s1, s2, hz]
  obtain ⟨-, g0, g1, g2, g3⟩ := q0
  obtain ⟨-, i0, i1, i2, i3⟩ := q1
  obtain ⟨-, j0, j1, j2, j3⟩ := q2
  obtain ⟨-, k0, k1, k2, k3⟩ := q3
  clear s1 s2 hz hall hall1 lt4 lt0 e55
  generalize p2 (p1 b0) = z0 at *
  generalize p2 (p1 b1) = z1 at *
  generalize p2 (p1 b2) = z2 at *
  generalize p2 (p1 b3) = z3 at *
  generalize pc8 b0 = c0 at *
  generalize pc8 b1 = c1 at *
  generalize pc8 b2 = c2 at *
  generalize pc8 b3 = c3 at *
  have sh : ∀ {a : Nat} (k : Nat), a < 4294967296 → k < 32 → ((n32 a).toUInt32 >>> ((n32 k).toUInt32 &&& Int32.toUInt32 31)).toInt32 = n32 (a / 2 ^ k) := fun k ha hk => by rw [n32_shru ha hk, Nat.shiftRight_eq_div_pow]
  have t3 : (n32 (2 ^ 8 * (2 ^ 8 * (2 ^ 8 * (2 ^ 8 * 0 + z3) + z2) + z1) + z0) + ((n32 (2 ^ 8 * (2 ^ 8 * (2 ^ 8 * (2 ^ 8 * 0 + z3) + z2) + z1) + z0)).toUInt32 >>> (((4 : Int32)).toUInt32 &&& Int32.toUInt32 31)).toInt32) &&& (252645135 : Int32) = n32 (nd [c0, c1, c2, c3]) := by
    rw [show (4 : Int32) = n32 4 from rfl, sh 4 (by omega) (by omega), n32_add, show (252645135 : Int32) = n32 (nd ([z0 + z0 / 16 + 16 * (z1 % 16), z1 + z1 / 16 + 16 * (z2 % 16), z2 + z2 / 16 + 16 * (z3 % 16), z3 + z3 / 16].map (fun _ => 15))) from congrArg n32 (show 252645135 = nd [15, 15, 15, 15] from by decide), show 2 ^ 8 * (2 ^ 8 * (2 ^ 8 * (2 ^ 8 * 0 + z3) + z2) + z1) + z0 + (2 ^ 8 * (2 ^ 8 * (2 ^ 8 * (2 ^ 8 * 0 + z3) + z2) + z1) + z0) / 2 ^ 4 = nd [z0 + z0 / 16 + 16 * (z1 % 16), z1 + z1 / 16 + 16 * (z2 % 16), z2 + z2 / 16 + 16 * (z3 % 16), z3 + z3 / 16] from by simp only [nd]; omega, n32_and (by simp only [nd]; omega), nd_and (by decide) _ (by intro d hd; simp at hd; omega)]
    have e15 : ∀ u : Nat, u &&& 15 = u % 16 := fun u => Nat.and_two_pow_sub_one_eq_mod u 4
    simp only [List.map_cons, List.map_nil, e15]
    rw [show (z0 + z0 / 16 + 16 * (z1 % 16)) % 16 = c0 from by omega, show (z1 + z1 / 16 + 16 * (z2 % 16)) % 16 = c1 from by omega, show (z2 + z2 / 16 + 16 * (z3 % 16)) % 16 = c2 from by omega, show (z3 + z3 / 16) % 16 = c3 from by omega]
  simp only [t3]
  have hU : nd [c0, c1, c2, c3] = c0 + 256 * c1 + 65536 * c2 + 16777216 * c3 := by simp only [nd]; omega
  rw [hU, show (8 : Int32) = n32 8 from rfl, sh 8 (by omega) (by omega), n32_add, show (16 : Int32) = n32 16 from rfl, sh 16 (by omega) (by omega), n32_add, show (63 : Int32) = n32 63 from rfl, n32_and (by omega), show (63 : Nat) = 2 ^ 6 - 1 from rfl, Nat.and_two_pow_sub_one_eq_mod]
  have l0 : c0 ≤ 8 := by omega
  have l1 : c1 ≤ 8 := by omega
  have l2 : c2 ≤ 8 := by omega
  have l3 : c3 ≤ 8 := by omega
  have a1 : (c0 + 256 * c1 + 65536 * c2 + 16777216 * c3) / 2 ^ 8 = c1 + 256 * c2 + 65536 * c3 := by clear g0 g1 g2 g3 i0 i1 i2 i3 j0 j1 j2 j3 k0 k1 k2 k3; omega
  have a2 : (c0 + 256 * c1 + 65536 * c2 + 16777216 * c3 + (c1 + 256 * c2 + 65536 * c3)) / 2 ^ 16 = c2 + c3 + 256 * c3 := by clear g0 g1 g2 g3 i0 i1 i2 i3 j0 j1 j2 j3 k0 k1 k2 k3; omega
  rw [a1, a2, show (c0 + 256 * c1 + 65536 * c2 + 16777216 * c3 + (c1 + 256 * c2 + 65536 * c3) + (c2 + c3 + 256 * c3)) % 2 ^ 6 = c0 + c1 + c2 + c3 from by clear g0 g1 g2 g3 i0 i1 i2 i3 j0 j1 j2 j3 k0 k1 k2 k3; omega]
theorem pc32 {b0 b1 b2 b3 : Nat} (h0 : b0 < 256) (h1 : b1 < 256) (h2 : b2 < 256) (h3 : b3 < 256) : (List.range 32).countP (bt (n32 (nd [b0, b1, b2, b3]))) = pc8 b0 + pc8 b1 + pc8 b2 + pc8 b3 := by
  rw [show List.range 32 = List.range 8 ++ ((List.range 8).map (8 + ·) ++ ((List.range 8).map (16 + ·) ++ (List.range 8).map (24 + ·))) from by decide]
  simp only [List.countP_append, List.countP_map, Nat.add_assoc]
  have at0 : ∀ j, j < 8 → (nd [b0, b1, b2, b3]).testBit j = b0.testBit j := fun j hj => by
    show (2 ^ 8 * nd [b1, b2, b3] + b0).testBit j = _
    rw [Nat.testBit_two_pow_mul_add _ (show b0 < 2 ^ 8 from h0), if_pos hj]
  have at1 : ∀ j, j < 8 → (nd [b0, b1, b2, b3]).testBit (8 + j) = b1.testBit j := fun j hj => by
    show (2 ^ 8 * (2 ^ 8 * nd [b2, b3] + b1) + b0).testBit (8 + j) = _
    rw [Nat.testBit_two_pow_mul_add _ (show b0 < 2 ^ 8 from h0), if_neg (by omega), show 8 + j - 8 = j from by omega, Nat.testBit_two_pow_mul_add _ (show b1 < 2 ^ 8 from h1), if_pos hj]
  have at2 : ∀ j, j < 8 → (nd [b0, b1, b2, b3]).testBit (16 + j) = b2.testBit j := fun j hj => by
    show (2 ^ 8 * (2 ^ 8 * (2 ^ 8 * nd [b3] + b2) + b1) + b0).testBit (16 + j) = _
    rw [Nat.testBit_two_pow_mul_add _ (show b0 < 2 ^ 8 from h0), if_neg (by omega), Nat.testBit_two_pow_mul_add _ (show b1 < 2 ^ 8 from h1), if_neg (by omega), show 16 + j - 8 - 8 = j from by omega, Nat.testBit_two_pow_mul_add _ (show b2 < 2 ^ 8 from h2), if_pos hj]
  have at3 : ∀ j, j < 8 → (nd [b0, b1, b2, b3]).testBit (24 + j) = b3.testBit j := fun j hj => by
    show (2 ^ 8 * (2 ^ 8 * (2 ^ 8 * (2 ^ 8 * 0 + b3) + b2) + b1) + b0).testBit (24 + j) = _
    rw [Nat.testBit_two_pow_mul_add _ (show b0 < 2 ^ 8 from h0), if_neg (by omega), Nat.testBit_two_pow_mul_add _ (show b1 < 2 ^ 8 from h1), if_neg (by omega), Nat.testBit_two_pow_mul_add _ (show b2 < 2 ^ 8 from h2), if_neg (by omega), show 24 + j - 8 - 8 - 8 = j from by omega, Nat.testBit_two_pow_mul_add _ (show b3 < 2 ^ 8 from h3), if_pos hj]
  unfold pc8
  congr 1
  · exact List.countP_congr (fun j hj => by have := List.mem_range.mp hj; rw [bt_n, at0 j this]; simp; omega)
  · congr 1
    · exact List.countP_congr (fun j hj => by have := List.mem_range.mp hj; simp only [Function.comp_def]; rw [bt_n, at1 j this]; simp; omega)
    · congr 1
      · exact List.countP_congr (fun j hj => by have := List.mem_range.mp hj; simp only [Function.comp_def]; rw [bt_n, at2 j this]; simp; omega)
      · exact List.countP_congr (fun j hj => by have := List.mem_range.mp hj; simp only [Function.comp_def]; rw [bt_n, at3 j this]; simp; omega)
theorem JI_bc {fu : Nat} {x : Int32} {w : List va_E} : f_JI_bitCount fu x w = some (n32 ((List.range 32).countP (bt x)), w) := by
  obtain ⟨X, hX, rfl⟩ : ∃ X, X < 4294967296 ∧ x = n32 X := ⟨x.toBitVec.toNat, x.toBitVec.isLt, by apply bt_ext; intro j hj; rw [bt_n]; simp [bt, hj, BitVec.getLsbD]⟩
  have e : X = nd [X % 256, X / 256 % 256, X / 65536 % 256, X / 16777216] := by simp only [nd]; omega
  rw [e, bc_n (by omega) (by omega) (by omega) (by omega), pc32 (by omega) (by omega) (by omega) (by omega)]
