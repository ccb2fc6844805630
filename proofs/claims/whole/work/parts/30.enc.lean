/-! the world of the law as three functions of places (fields, int arrays, long arrays); readers and writers of the heap as rewriting rules -/
abbrev Ws : Type := (Nat → Nat → Int32) × (Nat → Nat → Int32) × (Nat → Nat → Int64)
def upI (f : Nat → Nat → Int32) (q i : Nat) (x : Int32) : Nat → Nat → Int32 := fun a => if a = q then upd (f q) i x else f a
def upL (f : Nat → Nat → Int64) (q i : Nat) (x : Int64) : Nat → Nat → Int64 := fun a => if a = q then vp_updL (f q) i x else f a
def upR (f : Nat → Nat → Int64) (q : Nat) (r : Nat → Int64) : Nat → Nat → Int64 := fun a => if a = q then r else f a
def sS (S : Ws) (q k : Nat) (x : Int32) : Ws := (upI S.1 q k x, S.2.1, S.2.2)
def sI (S : Ws) (q i : Nat) (x : Int32) : Ws := (S.1, upI S.2.1 q i x, S.2.2)
def sL (S : Ws) (q i : Nat) (x : Int64) : Ws := (S.1, S.2.1, upL S.2.2 q i x)
def sR (S : Ws) (q : Nat) (r : Nat → Int64) : Ws := (S.1, S.2.1, upR S.2.2 q r)
def enc (S : Ws) : List va_E := [.inr (6, [.ref 1, .ref 4, .ref 9, .ref 40, .ref 42, .ref 45, .int (S.1 0 6), .int (S.1 0 7), .int (S.1 0 8)]),
  .inr (1, [.ref 2, .ref 3, .int (S.1 1 2)]),
  .inl (0, 10, .inl (S.2.1 2)),
  .inl (0, 10, .inl (S.2.1 3)),
  .inr (2, [.ref 5, .ref 6, .ref 7, .ref 8, .int (S.1 4 4)]),
  .inl (0, 12, .inl (S.2.1 5)),
  .inl (0, 12, .inl (S.2.1 6)),
  .inl (0, 12, .inl (S.2.1 7)),
  .inl (0, 12, .inl (S.2.1 8)),
  .inr (5, [.ref 10, .ref 39, .int (S.1 9 2), .int (S.1 9 3), .int (S.1 9 4)]),
  .inl (3, 28, .inr (.inr (.inr (.inr (fun i => if i < 28 then some (11 + i) else none))))),
  .inl (1, 16, .inr (.inl (S.2.2 11))),
  .inl (1, 16, .inr (.inl (S.2.2 12))),
  .inl (1, 16, .inr (.inl (S.2.2 13))),
  .inl (1, 16, .inr (.inl (S.2.2 14))),
  .inl (1, 16, .inr (.inl (S.2.2 15))),
  .inl (1, 16, .inr (.inl (S.2.2 16))),
  .inl (1, 16, .inr (.inl (S.2.2 17))),
  .inl (1, 16, .inr (.inl (S.2.2 18))),
  .inl (1, 16, .inr (.inl (S.2.2 19))),
  .inl (1, 16, .inr (.inl (S.2.2 20))),
  .inl (1, 16, .inr (.inl (S.2.2 21))),
  .inl (1, 16, .inr (.inl (S.2.2 22))),
  .inl (1, 16, .inr (.inl (S.2.2 23))),
  .inl (1, 16, .inr (.inl (S.2.2 24))),
  .inl (1, 16, .inr (.inl (S.2.2 25))),
  .inl (1, 16, .inr (.inl (S.2.2 26))),
  .inl (1, 16, .inr (.inl (S.2.2 27))),
  .inl (1, 16, .inr (.inl (S.2.2 28))),
  .inl (1, 16, .inr (.inl (S.2.2 29))),
  .inl (1, 16, .inr (.inl (S.2.2 30))),
  .inl (1, 16, .inr (.inl (S.2.2 31))),
  .inl (1, 16, .inr (.inl (S.2.2 32))),
  .inl (1, 16, .inr (.inl (S.2.2 33))),
  .inl (1, 16, .inr (.inl (S.2.2 34))),
  .inl (1, 16, .inr (.inl (S.2.2 35))),
  .inl (1, 16, .inr (.inl (S.2.2 36))),
  .inl (1, 16, .inr (.inl (S.2.2 37))),
  .inl (1, 16, .inr (.inl (S.2.2 38))),
  .inl (0, 4, .inl (S.2.1 39)),
  .inr (3, [.ref 41]),
  .inl (1, 1024, .inr (.inl (S.2.2 41))),
  .inr (0, [.ref 43, .ref 44, .int (S.1 42 2)]),
  .inl (0, 1024, .inl (S.2.1 43)),
  .inl (0, 1024, .inl (S.2.1 44)),
  .inr (4, [.ref 46, .ref 47, .int (S.1 45 2), .int (S.1 45 3), .int (S.1 45 4)]),
  .inl (0, 300, .inl (S.2.1 46)),
  .inl (3, 11, .inr (.inr (.inr (.inr (fun i => if i < 11 then some (48 + i) else none))))),
  .inl (1, 16, .inr (.inl (S.2.2 48))),
  .inl (1, 16, .inr (.inl (S.2.2 49))),
  .inl (1, 16, .inr (.inl (S.2.2 50))),
  .inl (1, 16, .inr (.inl (S.2.2 51))),
  .inl (1, 16, .inr (.inl (S.2.2 52))),
  .inl (1, 16, .inr (.inl (S.2.2 53))),
  .inl (1, 16, .inr (.inl (S.2.2 54))),
  .inl (1, 16, .inr (.inl (S.2.2 55))),
  .inl (1, 16, .inr (.inl (S.2.2 56))),
  .inl (1, 16, .inr (.inl (S.2.2 57))),
  .inl (1, 16, .inr (.inl (S.2.2 58))),
  .inr (7, [.int (S.1 59 0), .int (S.1 59 1), .ref 60, .ref 61, .int (S.1 59 4), .ref 62, .ref 63, .ref 64, .ref 65, .int (S.1 59 9), .ref 66, .ref 67, .ref 68, .ref 69, .ref 70, .ref 71, .int (S.1 59 16), .ref 72, .ref 73]),
  .inl (0, 10, .inl (S.2.1 60)),
  .inl (0, 10, .inl (S.2.1 61)),
  .inl (0, 12, .inl (S.2.1 62)),
  .inl (0, 12, .inl (S.2.1 63)),
  .inl (0, 12, .inl (S.2.1 64)),
  .inl (0, 48, .inl (S.2.1 65)),
  .inl (2, 144, .inl (S.2.1 66)),
  .inl (2, 12, .inl (S.2.1 67)),
  .inl (0, 12, .inl (S.2.1 68)),
  .inl (2, 12, .inl (S.2.1 69)),
  .inl (2, 1024, .inl (S.2.1 70)),
  .inl (1, 923, .inr (.inl (S.2.2 71))),
  .inl (0, 301, .inl (S.2.1 72)),
  .inl (0, 301, .inl (S.2.1 73)),
  .inl (1, 1, .inr (.inl (S.2.2 74)))]
def n32 (n : Nat) : Int32 := Int32.ofNat n
theorem n32_c {n : Nat} (h : n < 2147483648) : (n32 n).toNatClampNeg = n := by
  unfold n32; rw [Int32.toNatClampNeg_ofNat_of_lt (by omega)]
theorem n32_toInt {n : Nat} (h : n < 2147483648) : (n32 n).toInt = n := by
  unfold n32; exact Int32.toInt_ofNat_of_lt (by omega)
theorem n32_nn {n : Nat} (h : n < 2147483648) : ¬ n32 n < 0 := by
  rw [Int32.lt_iff_toInt_lt, n32_toInt h]; simp
theorem n32_ok {n m : Nat} (h : n < m) (hm : m < 2147483648) : ¬ (n32 n < 0 ∨ m ≤ (n32 n).toNatClampNeg) := by
  rw [n32_c (by omega)]; rintro (h1 | h1)
  · exact n32_nn (by omega) h1
  · omega
section
variable {S : Ws} {i j : Nat}
theorem is_0 : hp_is (enc S) 0 6 = some () := rfl
theorem gr_0_0 : hp_gr (enc S) 0 6 0 = some 1 := rfl
theorem gr_0_1 : hp_gr (enc S) 0 6 1 = some 4 := rfl
theorem gr_0_2 : hp_gr (enc S) 0 6 2 = some 9 := rfl
theorem gr_0_3 : hp_gr (enc S) 0 6 3 = some 40 := rfl
theorem gr_0_4 : hp_gr (enc S) 0 6 4 = some 42 := rfl
theorem gr_0_5 : hp_gr (enc S) 0 6 5 = some 45 := rfl
theorem gi_tp : hp_gi (enc S) 0 6 6 = some (S.1 0 6) := rfl
theorem pi_tp {x : Int32} : hp_pi (enc S) 0 6 6 x = some (enc (sS S 0 6 x)) := rfl
theorem gi_tf : hp_gi (enc S) 0 6 7 = some (S.1 0 7) := rfl
theorem pi_tf {x : Int32} : hp_pi (enc S) 0 6 7 x = some (enc (sS S 0 7 x)) := rfl
theorem pz_tf {x : Int32} (h : x = 0 ∨ x = 1) : hp_pz (enc S) 0 6 7 x = some (enc (sS S 0 7 x)) := by unfold hp_pz; rw [if_pos h]; rfl
theorem gi_xf : hp_gi (enc S) 0 6 8 = some (S.1 0 8) := rfl
theorem pi_xf {x : Int32} : hp_pi (enc S) 0 6 8 x = some (enc (sS S 0 8 x)) := rfl
theorem pz_xf {x : Int32} (h : x = 0 ∨ x = 1) : hp_pz (enc S) 0 6 8 x = some (enc (sS S 0 8 x)) := by unfold hp_pz; rw [if_pos h]; rfl
theorem is_1 : hp_is (enc S) 1 1 = some () := rfl
theorem gr_1_0 : hp_gr (enc S) 1 1 0 = some 2 := rfl
theorem gr_1_1 : hp_gr (enc S) 1 1 1 = some 3 := rfl
theorem gi_en : hp_gi (enc S) 1 1 2 = some (S.1 1 2) := rfl
theorem pi_en {x : Int32} : hp_pi (enc S) 1 1 2 x = some (enc (sS S 1 2 x)) := rfl
theorem is_4 : hp_is (enc S) 4 2 = some () := rfl
theorem gr_4_0 : hp_gr (enc S) 4 2 0 = some 5 := rfl
theorem gr_4_1 : hp_gr (enc S) 4 2 1 = some 6 := rfl
theorem gr_4_2 : hp_gr (enc S) 4 2 2 = some 7 := rfl
theorem gr_4_3 : hp_gr (enc S) 4 2 3 = some 8 := rfl
theorem gi_gn : hp_gi (enc S) 4 2 4 = some (S.1 4 4) := rfl
theorem pi_gn {x : Int32} : hp_pi (enc S) 4 2 4 x = some (enc (sS S 4 4 x)) := rfl
theorem is_9 : hp_is (enc S) 9 5 = some () := rfl
theorem gr_9_0 : hp_gr (enc S) 9 5 0 = some 10 := rfl
theorem gr_9_1 : hp_gr (enc S) 9 5 1 = some 39 := rfl
theorem gi_ts : hp_gi (enc S) 9 5 2 = some (S.1 9 2) := rfl
theorem pi_ts {x : Int32} : hp_pi (enc S) 9 5 2 x = some (enc (sS S 9 2 x)) := rfl
theorem gi_tw : hp_gi (enc S) 9 5 3 = some (S.1 9 3) := rfl
theorem pi_tw {x : Int32} : hp_pi (enc S) 9 5 3 x = some (enc (sS S 9 3 x)) := rfl
theorem gi_tc : hp_gi (enc S) 9 5 4 = some (S.1 9 4) := rfl
theorem pi_tc {x : Int32} : hp_pi (enc S) 9 5 4 x = some (enc (sS S 9 4 x)) := rfl
theorem is_40 : hp_is (enc S) 40 3 = some () := rfl
theorem gr_40_0 : hp_gr (enc S) 40 3 0 = some 41 := rfl
theorem is_42 : hp_is (enc S) 42 0 = some () := rfl
theorem gr_42_0 : hp_gr (enc S) 42 0 0 = some 43 := rfl
theorem gr_42_1 : hp_gr (enc S) 42 0 1 = some 44 := rfl
theorem gi_dn : hp_gi (enc S) 42 0 2 = some (S.1 42 2) := rfl
theorem pi_dn {x : Int32} : hp_pi (enc S) 42 0 2 x = some (enc (sS S 42 2 x)) := rfl
theorem is_45 : hp_is (enc S) 45 4 = some () := rfl
theorem gr_45_0 : hp_gr (enc S) 45 4 0 = some 46 := rfl
theorem gr_45_1 : hp_gr (enc S) 45 4 1 = some 47 := rfl
theorem gi_xw : hp_gi (enc S) 45 4 2 = some (S.1 45 2) := rfl
theorem pi_xw {x : Int32} : hp_pi (enc S) 45 4 2 x = some (enc (sS S 45 2 x)) := rfl
theorem gi_xn : hp_gi (enc S) 45 4 3 = some (S.1 45 3) := rfl
theorem pi_xn {x : Int32} : hp_pi (enc S) 45 4 3 x = some (enc (sS S 45 3 x)) := rfl
theorem gi_xt : hp_gi (enc S) 45 4 4 = some (S.1 45 4) := rfl
theorem pi_xt {x : Int32} : hp_pi (enc S) 45 4 4 x = some (enc (sS S 45 4 x)) := rfl
theorem pz_xt {x : Int32} (h : x = 0 ∨ x = 1) : hp_pz (enc S) 45 4 4 x = some (enc (sS S 45 4 x)) := by unfold hp_pz; rw [if_pos h]; rfl
theorem is_59 : hp_is (enc S) 59 7 = some () := rfl
theorem gi_mco : hp_gi (enc S) 59 7 0 = some (S.1 59 0) := rfl
theorem pi_mco {x : Int32} : hp_pi (enc S) 59 7 0 x = some (enc (sS S 59 0 x)) := rfl
theorem gi_mev : hp_gi (enc S) 59 7 1 = some (S.1 59 1) := rfl
theorem pi_mev {x : Int32} : hp_pi (enc S) 59 7 1 x = some (enc (sS S 59 1 x)) := rfl
theorem gr_59_2 : hp_gr (enc S) 59 7 2 = some 60 := rfl
theorem gr_59_3 : hp_gr (enc S) 59 7 3 = some 61 := rfl
theorem gi_mgt : hp_gi (enc S) 59 7 4 = some (S.1 59 4) := rfl
theorem pi_mgt {x : Int32} : hp_pi (enc S) 59 7 4 x = some (enc (sS S 59 4 x)) := rfl
theorem gr_59_5 : hp_gr (enc S) 59 7 5 = some 62 := rfl
theorem gr_59_6 : hp_gr (enc S) 59 7 6 = some 63 := rfl
theorem gr_59_7 : hp_gr (enc S) 59 7 7 = some 64 := rfl
theorem gr_59_8 : hp_gr (enc S) 59 7 8 = some 65 := rfl
theorem gi_mtp : hp_gi (enc S) 59 7 9 = some (S.1 59 9) := rfl
theorem pi_mtp {x : Int32} : hp_pi (enc S) 59 7 9 x = some (enc (sS S 59 9 x)) := rfl
theorem gr_59_10 : hp_gr (enc S) 59 7 10 = some 66 := rfl
theorem gr_59_11 : hp_gr (enc S) 59 7 11 = some 67 := rfl
theorem gr_59_12 : hp_gr (enc S) 59 7 12 = some 68 := rfl
theorem gr_59_13 : hp_gr (enc S) 59 7 13 = some 69 := rfl
theorem gr_59_14 : hp_gr (enc S) 59 7 14 = some 70 := rfl
theorem gr_59_15 : hp_gr (enc S) 59 7 15 = some 71 := rfl
theorem gi_mmy : hp_gi (enc S) 59 7 16 = some (S.1 59 16) := rfl
theorem pi_mmy {x : Int32} : hp_pi (enc S) 59 7 16 x = some (enc (sS S 59 16 x)) := rfl
theorem gr_59_17 : hp_gr (enc S) 59 7 17 = some 72 := rfl
theorem gr_59_18 : hp_gr (enc S) 59 7 18 = some 73 := rfl
theorem rd_ech (h : i < 10) : hp_ri (enc S) 2 (n32 i) = some (S.2.1 2 i) := by
  rw [show hp_ri (enc S) 2 (n32 i) = (if 0 = 0 ∧ ¬ (n32 i < 0 ∨ 10 ≤ (n32 i).toNatClampNeg) then some (S.2.1 2 (n32 i).toNatClampNeg) else none) from rfl, if_pos ⟨rfl, n32_ok h (by omega)⟩, n32_c (by omega)]
theorem wr_ech {x : Int32} (h : i < 10) : hp_wi (enc S) 2 (n32 i) x = some (enc (sI S 2 i x)) := by
  rw [show hp_wi (enc S) 2 (n32 i) x = (if 0 = 0 ∧ ¬ (n32 i < 0 ∨ 10 ≤ (n32 i).toNatClampNeg) then some (enc (sI S 2 (n32 i).toNatClampNeg x)) else none) from rfl, if_pos ⟨rfl, n32_ok h (by omega)⟩, n32_c (by omega)]
theorem rd_ehd (h : i < 10) : hp_ri (enc S) 3 (n32 i) = some (S.2.1 3 i) := by
  rw [show hp_ri (enc S) 3 (n32 i) = (if 0 = 0 ∧ ¬ (n32 i < 0 ∨ 10 ≤ (n32 i).toNatClampNeg) then some (S.2.1 3 (n32 i).toNatClampNeg) else none) from rfl, if_pos ⟨rfl, n32_ok h (by omega)⟩, n32_c (by omega)]
theorem wr_ehd {x : Int32} (h : i < 10) : hp_wi (enc S) 3 (n32 i) x = some (enc (sI S 3 i x)) := by
  rw [show hp_wi (enc S) 3 (n32 i) x = (if 0 = 0 ∧ ¬ (n32 i < 0 ∨ 10 ≤ (n32 i).toNatClampNeg) then some (enc (sI S 3 (n32 i).toNatClampNeg x)) else none) from rfl, if_pos ⟨rfl, n32_ok h (by omega)⟩, n32_c (by omega)]
theorem rd_gk (h : i < 12) : hp_ri (enc S) 5 (n32 i) = some (S.2.1 5 i) := by
  rw [show hp_ri (enc S) 5 (n32 i) = (if 0 = 0 ∧ ¬ (n32 i < 0 ∨ 12 ≤ (n32 i).toNatClampNeg) then some (S.2.1 5 (n32 i).toNatClampNeg) else none) from rfl, if_pos ⟨rfl, n32_ok h (by omega)⟩, n32_c (by omega)]
theorem wr_gk {x : Int32} (h : i < 12) : hp_wi (enc S) 5 (n32 i) x = some (enc (sI S 5 i x)) := by
  rw [show hp_wi (enc S) 5 (n32 i) x = (if 0 = 0 ∧ ¬ (n32 i < 0 ∨ 12 ≤ (n32 i).toNatClampNeg) then some (enc (sI S 5 (n32 i).toNatClampNeg x)) else none) from rfl, if_pos ⟨rfl, n32_ok h (by omega)⟩, n32_c (by omega)]
theorem rd_gv (h : i < 12) : hp_ri (enc S) 6 (n32 i) = some (S.2.1 6 i) := by
  rw [show hp_ri (enc S) 6 (n32 i) = (if 0 = 0 ∧ ¬ (n32 i < 0 ∨ 12 ≤ (n32 i).toNatClampNeg) then some (S.2.1 6 (n32 i).toNatClampNeg) else none) from rfl, if_pos ⟨rfl, n32_ok h (by omega)⟩, n32_c (by omega)]
theorem wr_gv {x : Int32} (h : i < 12) : hp_wi (enc S) 6 (n32 i) x = some (enc (sI S 6 i x)) := by
  rw [show hp_wi (enc S) 6 (n32 i) x = (if 0 = 0 ∧ ¬ (n32 i < 0 ∨ 12 ≤ (n32 i).toNatClampNeg) then some (enc (sI S 6 (n32 i).toNatClampNeg x)) else none) from rfl, if_pos ⟨rfl, n32_ok h (by omega)⟩, n32_c (by omega)]
theorem rd_gc (h : i < 12) : hp_ri (enc S) 7 (n32 i) = some (S.2.1 7 i) := by
  rw [show hp_ri (enc S) 7 (n32 i) = (if 0 = 0 ∧ ¬ (n32 i < 0 ∨ 12 ≤ (n32 i).toNatClampNeg) then some (S.2.1 7 (n32 i).toNatClampNeg) else none) from rfl, if_pos ⟨rfl, n32_ok h (by omega)⟩, n32_c (by omega)]
theorem wr_gc {x : Int32} (h : i < 12) : hp_wi (enc S) 7 (n32 i) x = some (enc (sI S 7 i x)) := by
  rw [show hp_wi (enc S) 7 (n32 i) x = (if 0 = 0 ∧ ¬ (n32 i < 0 ∨ 12 ≤ (n32 i).toNatClampNeg) then some (enc (sI S 7 (n32 i).toNatClampNeg x)) else none) from rfl, if_pos ⟨rfl, n32_ok h (by omega)⟩, n32_c (by omega)]
theorem rd_gb (h : i < 12) : hp_ri (enc S) 8 (n32 i) = some (S.2.1 8 i) := by
  rw [show hp_ri (enc S) 8 (n32 i) = (if 0 = 0 ∧ ¬ (n32 i < 0 ∨ 12 ≤ (n32 i).toNatClampNeg) then some (S.2.1 8 (n32 i).toNatClampNeg) else none) from rfl, if_pos ⟨rfl, n32_ok h (by omega)⟩, n32_c (by omega)]
theorem wr_gb {x : Int32} (h : i < 12) : hp_wi (enc S) 8 (n32 i) x = some (enc (sI S 8 i x)) := by
  rw [show hp_wi (enc S) 8 (n32 i) x = (if 0 = 0 ∧ ¬ (n32 i < 0 ∨ 12 ≤ (n32 i).toNatClampNeg) then some (enc (sI S 8 (n32 i).toNatClampNeg x)) else none) from rfl, if_pos ⟨rfl, n32_ok h (by omega)⟩, n32_c (by omega)]
theorem rd_inp (h : i < 4) : hp_ri (enc S) 39 (n32 i) = some (S.2.1 39 i) := by
  rw [show hp_ri (enc S) 39 (n32 i) = (if 0 = 0 ∧ ¬ (n32 i < 0 ∨ 4 ≤ (n32 i).toNatClampNeg) then some (S.2.1 39 (n32 i).toNatClampNeg) else none) from rfl, if_pos ⟨rfl, n32_ok h (by omega)⟩, n32_c (by omega)]
theorem wr_inp {x : Int32} (h : i < 4) : hp_wi (enc S) 39 (n32 i) x = some (enc (sI S 39 i x)) := by
  rw [show hp_wi (enc S) 39 (n32 i) x = (if 0 = 0 ∧ ¬ (n32 i < 0 ∨ 4 ≤ (n32 i).toNatClampNeg) then some (enc (sI S 39 (n32 i).toNatClampNeg x)) else none) from rfl, if_pos ⟨rfl, n32_ok h (by omega)⟩, n32_c (by omega)]
theorem rd_oc (h : i < 1024) : hp_rl (enc S) 41 (n32 i) = some (S.2.2 41 i) := by
  rw [show hp_rl (enc S) 41 (n32 i) = (if 1 = 1 ∧ ¬ (n32 i < 0 ∨ 1024 ≤ (n32 i).toNatClampNeg) then some (S.2.2 41 (n32 i).toNatClampNeg) else none) from rfl, if_pos ⟨rfl, n32_ok h (by omega)⟩, n32_c (by omega)]
theorem wr_oc {x : Int64} (h : i < 1024) : hp_wl (enc S) 41 (n32 i) x = some (enc (sL S 41 i x)) := by
  rw [show hp_wl (enc S) 41 (n32 i) x = (if 1 = 1 ∧ ¬ (n32 i < 0 ∨ 1024 ≤ (n32 i).toNatClampNeg) then some (enc (sL S 41 (n32 i).toNatClampNeg x)) else none) from rfl, if_pos ⟨rfl, n32_ok h (by omega)⟩, n32_c (by omega)]
theorem rd_dc (h : i < 1024) : hp_ri (enc S) 43 (n32 i) = some (S.2.1 43 i) := by
  rw [show hp_ri (enc S) 43 (n32 i) = (if 0 = 0 ∧ ¬ (n32 i < 0 ∨ 1024 ≤ (n32 i).toNatClampNeg) then some (S.2.1 43 (n32 i).toNatClampNeg) else none) from rfl, if_pos ⟨rfl, n32_ok h (by omega)⟩, n32_c (by omega)]
theorem wr_dc {x : Int32} (h : i < 1024) : hp_wi (enc S) 43 (n32 i) x = some (enc (sI S 43 i x)) := by
  rw [show hp_wi (enc S) 43 (n32 i) x = (if 0 = 0 ∧ ¬ (n32 i < 0 ∨ 1024 ≤ (n32 i).toNatClampNeg) then some (enc (sI S 43 (n32 i).toNatClampNeg x)) else none) from rfl, if_pos ⟨rfl, n32_ok h (by omega)⟩, n32_c (by omega)]
theorem rd_dp (h : i < 1024) : hp_ri (enc S) 44 (n32 i) = some (S.2.1 44 i) := by
  rw [show hp_ri (enc S) 44 (n32 i) = (if 0 = 0 ∧ ¬ (n32 i < 0 ∨ 1024 ≤ (n32 i).toNatClampNeg) then some (S.2.1 44 (n32 i).toNatClampNeg) else none) from rfl, if_pos ⟨rfl, n32_ok h (by omega)⟩, n32_c (by omega)]
theorem wr_dp {x : Int32} (h : i < 1024) : hp_wi (enc S) 44 (n32 i) x = some (enc (sI S 44 i x)) := by
  rw [show hp_wi (enc S) 44 (n32 i) x = (if 0 = 0 ∧ ¬ (n32 i < 0 ∨ 1024 ≤ (n32 i).toNatClampNeg) then some (enc (sI S 44 (n32 i).toNatClampNeg x)) else none) from rfl, if_pos ⟨rfl, n32_ok h (by omega)⟩, n32_c (by omega)]
theorem rd_ky (h : i < 300) : hp_ri (enc S) 46 (n32 i) = some (S.2.1 46 i) := by
  rw [show hp_ri (enc S) 46 (n32 i) = (if 0 = 0 ∧ ¬ (n32 i < 0 ∨ 300 ≤ (n32 i).toNatClampNeg) then some (S.2.1 46 (n32 i).toNatClampNeg) else none) from rfl, if_pos ⟨rfl, n32_ok h (by omega)⟩, n32_c (by omega)]
theorem wr_ky {x : Int32} (h : i < 300) : hp_wi (enc S) 46 (n32 i) x = some (enc (sI S 46 i x)) := by
  rw [show hp_wi (enc S) 46 (n32 i) x = (if 0 = 0 ∧ ¬ (n32 i < 0 ∨ 300 ≤ (n32 i).toNatClampNeg) then some (enc (sI S 46 (n32 i).toNatClampNeg x)) else none) from rfl, if_pos ⟨rfl, n32_ok h (by omega)⟩, n32_c (by omega)]
theorem rd_mch (h : i < 10) : hp_ri (enc S) 60 (n32 i) = some (S.2.1 60 i) := by
  rw [show hp_ri (enc S) 60 (n32 i) = (if 0 = 0 ∧ ¬ (n32 i < 0 ∨ 10 ≤ (n32 i).toNatClampNeg) then some (S.2.1 60 (n32 i).toNatClampNeg) else none) from rfl, if_pos ⟨rfl, n32_ok h (by omega)⟩, n32_c (by omega)]
theorem wr_mch {x : Int32} (h : i < 10) : hp_wi (enc S) 60 (n32 i) x = some (enc (sI S 60 i x)) := by
  rw [show hp_wi (enc S) 60 (n32 i) x = (if 0 = 0 ∧ ¬ (n32 i < 0 ∨ 10 ≤ (n32 i).toNatClampNeg) then some (enc (sI S 60 (n32 i).toNatClampNeg x)) else none) from rfl, if_pos ⟨rfl, n32_ok h (by omega)⟩, n32_c (by omega)]
theorem rd_mhd (h : i < 10) : hp_ri (enc S) 61 (n32 i) = some (S.2.1 61 i) := by
  rw [show hp_ri (enc S) 61 (n32 i) = (if 0 = 0 ∧ ¬ (n32 i < 0 ∨ 10 ≤ (n32 i).toNatClampNeg) then some (S.2.1 61 (n32 i).toNatClampNeg) else none) from rfl, if_pos ⟨rfl, n32_ok h (by omega)⟩, n32_c (by omega)]
theorem wr_mhd {x : Int32} (h : i < 10) : hp_wi (enc S) 61 (n32 i) x = some (enc (sI S 61 i x)) := by
  rw [show hp_wi (enc S) 61 (n32 i) x = (if 0 = 0 ∧ ¬ (n32 i < 0 ∨ 10 ≤ (n32 i).toNatClampNeg) then some (enc (sI S 61 (n32 i).toNatClampNeg x)) else none) from rfl, if_pos ⟨rfl, n32_ok h (by omega)⟩, n32_c (by omega)]
theorem rd_mkd (h : i < 12) : hp_ri (enc S) 62 (n32 i) = some (S.2.1 62 i) := by
  rw [show hp_ri (enc S) 62 (n32 i) = (if 0 = 0 ∧ ¬ (n32 i < 0 ∨ 12 ≤ (n32 i).toNatClampNeg) then some (S.2.1 62 (n32 i).toNatClampNeg) else none) from rfl, if_pos ⟨rfl, n32_ok h (by omega)⟩, n32_c (by omega)]
theorem wr_mkd {x : Int32} (h : i < 12) : hp_wi (enc S) 62 (n32 i) x = some (enc (sI S 62 i x)) := by
  rw [show hp_wi (enc S) 62 (n32 i) x = (if 0 = 0 ∧ ¬ (n32 i < 0 ∨ 12 ≤ (n32 i).toNatClampNeg) then some (enc (sI S 62 (n32 i).toNatClampNeg x)) else none) from rfl, if_pos ⟨rfl, n32_ok h (by omega)⟩, n32_c (by omega)]
theorem rd_mls (h : i < 12) : hp_ri (enc S) 63 (n32 i) = some (S.2.1 63 i) := by
  rw [show hp_ri (enc S) 63 (n32 i) = (if 0 = 0 ∧ ¬ (n32 i < 0 ∨ 12 ≤ (n32 i).toNatClampNeg) then some (S.2.1 63 (n32 i).toNatClampNeg) else none) from rfl, if_pos ⟨rfl, n32_ok h (by omega)⟩, n32_c (by omega)]
theorem wr_mls {x : Int32} (h : i < 12) : hp_wi (enc S) 63 (n32 i) x = some (enc (sI S 63 i x)) := by
  rw [show hp_wi (enc S) 63 (n32 i) x = (if 0 = 0 ∧ ¬ (n32 i < 0 ∨ 12 ≤ (n32 i).toNatClampNeg) then some (enc (sI S 63 (n32 i).toNatClampNeg x)) else none) from rfl, if_pos ⟨rfl, n32_ok h (by omega)⟩, n32_c (by omega)]
theorem rd_mct (h : i < 12) : hp_ri (enc S) 64 (n32 i) = some (S.2.1 64 i) := by
  rw [show hp_ri (enc S) 64 (n32 i) = (if 0 = 0 ∧ ¬ (n32 i < 0 ∨ 12 ≤ (n32 i).toNatClampNeg) then some (S.2.1 64 (n32 i).toNatClampNeg) else none) from rfl, if_pos ⟨rfl, n32_ok h (by omega)⟩, n32_c (by omega)]
theorem wr_mct {x : Int32} (h : i < 12) : hp_wi (enc S) 64 (n32 i) x = some (enc (sI S 64 i x)) := by
  rw [show hp_wi (enc S) 64 (n32 i) x = (if 0 = 0 ∧ ¬ (n32 i < 0 ∨ 12 ≤ (n32 i).toNatClampNeg) then some (enc (sI S 64 (n32 i).toNatClampNeg x)) else none) from rfl, if_pos ⟨rfl, n32_ok h (by omega)⟩, n32_c (by omega)]
theorem rd_mki (h : i < 48) : hp_ri (enc S) 65 (n32 i) = some (S.2.1 65 i) := by
  rw [show hp_ri (enc S) 65 (n32 i) = (if 0 = 0 ∧ ¬ (n32 i < 0 ∨ 48 ≤ (n32 i).toNatClampNeg) then some (S.2.1 65 (n32 i).toNatClampNeg) else none) from rfl, if_pos ⟨rfl, n32_ok h (by omega)⟩, n32_c (by omega)]
theorem wr_mki {x : Int32} (h : i < 48) : hp_wi (enc S) 65 (n32 i) x = some (enc (sI S 65 i x)) := by
  rw [show hp_wi (enc S) 65 (n32 i) x = (if 0 = 0 ∧ ¬ (n32 i < 0 ∨ 48 ≤ (n32 i).toNatClampNeg) then some (enc (sI S 65 (n32 i).toNatClampNeg x)) else none) from rfl, if_pos ⟨rfl, n32_ok h (by omega)⟩, n32_c (by omega)]
theorem rd_mbl (h : i < 144) : hp_rz (enc S) 66 (n32 i) = some (S.2.1 66 i) := by
  rw [show hp_rz (enc S) 66 (n32 i) = (if 2 = 2 ∧ ¬ (n32 i < 0 ∨ 144 ≤ (n32 i).toNatClampNeg) then some (S.2.1 66 (n32 i).toNatClampNeg) else none) from rfl, if_pos ⟨rfl, n32_ok h (by omega)⟩, n32_c (by omega)]
theorem wr_mbl {x : Int32} (h : i < 144) : hp_wz (enc S) 66 (n32 i) x = some (enc (sI S 66 i (vp_nar .boolean x))) := by
  rw [show hp_wz (enc S) 66 (n32 i) x = (if 2 = 2 ∧ ¬ (n32 i < 0 ∨ 144 ≤ (n32 i).toNatClampNeg) then some (enc (sI S 66 (n32 i).toNatClampNeg (vp_nar .boolean x))) else none) from rfl, if_pos ⟨rfl, n32_ok h (by omega)⟩, n32_c (by omega)]
theorem rd_mrd (h : i < 12) : hp_rz (enc S) 67 (n32 i) = some (S.2.1 67 i) := by
  rw [show hp_rz (enc S) 67 (n32 i) = (if 2 = 2 ∧ ¬ (n32 i < 0 ∨ 12 ≤ (n32 i).toNatClampNeg) then some (S.2.1 67 (n32 i).toNatClampNeg) else none) from rfl, if_pos ⟨rfl, n32_ok h (by omega)⟩, n32_c (by omega)]
theorem wr_mrd {x : Int32} (h : i < 12) : hp_wz (enc S) 67 (n32 i) x = some (enc (sI S 67 i (vp_nar .boolean x))) := by
  rw [show hp_wz (enc S) 67 (n32 i) x = (if 2 = 2 ∧ ¬ (n32 i < 0 ∨ 12 ≤ (n32 i).toNatClampNeg) then some (enc (sI S 67 (n32 i).toNatClampNeg (vp_nar .boolean x))) else none) from rfl, if_pos ⟨rfl, n32_ok h (by omega)⟩, n32_c (by omega)]
theorem rd_mor (h : i < 12) : hp_ri (enc S) 68 (n32 i) = some (S.2.1 68 i) := by
  rw [show hp_ri (enc S) 68 (n32 i) = (if 0 = 0 ∧ ¬ (n32 i < 0 ∨ 12 ≤ (n32 i).toNatClampNeg) then some (S.2.1 68 (n32 i).toNatClampNeg) else none) from rfl, if_pos ⟨rfl, n32_ok h (by omega)⟩, n32_c (by omega)]
theorem wr_mor {x : Int32} (h : i < 12) : hp_wi (enc S) 68 (n32 i) x = some (enc (sI S 68 i x)) := by
  rw [show hp_wi (enc S) 68 (n32 i) x = (if 0 = 0 ∧ ¬ (n32 i < 0 ∨ 12 ≤ (n32 i).toNatClampNeg) then some (enc (sI S 68 (n32 i).toNatClampNeg x)) else none) from rfl, if_pos ⟨rfl, n32_ok h (by omega)⟩, n32_c (by omega)]
theorem rd_mon (h : i < 12) : hp_rz (enc S) 69 (n32 i) = some (S.2.1 69 i) := by
  rw [show hp_rz (enc S) 69 (n32 i) = (if 2 = 2 ∧ ¬ (n32 i < 0 ∨ 12 ≤ (n32 i).toNatClampNeg) then some (S.2.1 69 (n32 i).toNatClampNeg) else none) from rfl, if_pos ⟨rfl, n32_ok h (by omega)⟩, n32_c (by omega)]
theorem wr_mon {x : Int32} (h : i < 12) : hp_wz (enc S) 69 (n32 i) x = some (enc (sI S 69 i (vp_nar .boolean x))) := by
  rw [show hp_wz (enc S) 69 (n32 i) x = (if 2 = 2 ∧ ¬ (n32 i < 0 ∨ 12 ≤ (n32 i).toNatClampNeg) then some (enc (sI S 69 (n32 i).toNatClampNeg (vp_nar .boolean x))) else none) from rfl, if_pos ⟨rfl, n32_ok h (by omega)⟩, n32_c (by omega)]
theorem rd_mtr (h : i < 1024) : hp_rz (enc S) 70 (n32 i) = some (S.2.1 70 i) := by
  rw [show hp_rz (enc S) 70 (n32 i) = (if 2 = 2 ∧ ¬ (n32 i < 0 ∨ 1024 ≤ (n32 i).toNatClampNeg) then some (S.2.1 70 (n32 i).toNatClampNeg) else none) from rfl, if_pos ⟨rfl, n32_ok h (by omega)⟩, n32_c (by omega)]
theorem wr_mtr {x : Int32} (h : i < 1024) : hp_wz (enc S) 70 (n32 i) x = some (enc (sI S 70 i (vp_nar .boolean x))) := by
  rw [show hp_wz (enc S) 70 (n32 i) x = (if 2 = 2 ∧ ¬ (n32 i < 0 ∨ 1024 ≤ (n32 i).toNatClampNeg) then some (enc (sI S 70 (n32 i).toNatClampNeg (vp_nar .boolean x))) else none) from rfl, if_pos ⟨rfl, n32_ok h (by omega)⟩, n32_c (by omega)]
theorem rd_mca (h : i < 923) : hp_rl (enc S) 71 (n32 i) = some (S.2.2 71 i) := by
  rw [show hp_rl (enc S) 71 (n32 i) = (if 1 = 1 ∧ ¬ (n32 i < 0 ∨ 923 ≤ (n32 i).toNatClampNeg) then some (S.2.2 71 (n32 i).toNatClampNeg) else none) from rfl, if_pos ⟨rfl, n32_ok h (by omega)⟩, n32_c (by omega)]
theorem wr_mca {x : Int64} (h : i < 923) : hp_wl (enc S) 71 (n32 i) x = some (enc (sL S 71 i x)) := by
  rw [show hp_wl (enc S) 71 (n32 i) x = (if 1 = 1 ∧ ¬ (n32 i < 0 ∨ 923 ≤ (n32 i).toNatClampNeg) then some (enc (sL S 71 (n32 i).toNatClampNeg x)) else none) from rfl, if_pos ⟨rfl, n32_ok h (by omega)⟩, n32_c (by omega)]
theorem rd_mos (h : i < 301) : hp_ri (enc S) 72 (n32 i) = some (S.2.1 72 i) := by
  rw [show hp_ri (enc S) 72 (n32 i) = (if 0 = 0 ∧ ¬ (n32 i < 0 ∨ 301 ≤ (n32 i).toNatClampNeg) then some (S.2.1 72 (n32 i).toNatClampNeg) else none) from rfl, if_pos ⟨rfl, n32_ok h (by omega)⟩, n32_c (by omega)]
theorem wr_mos {x : Int32} (h : i < 301) : hp_wi (enc S) 72 (n32 i) x = some (enc (sI S 72 i x)) := by
  rw [show hp_wi (enc S) 72 (n32 i) x = (if 0 = 0 ∧ ¬ (n32 i < 0 ∨ 301 ≤ (n32 i).toNatClampNeg) then some (enc (sI S 72 (n32 i).toNatClampNeg x)) else none) from rfl, if_pos ⟨rfl, n32_ok h (by omega)⟩, n32_c (by omega)]
theorem rd_mof (h : i < 301) : hp_ri (enc S) 73 (n32 i) = some (S.2.1 73 i) := by
  rw [show hp_ri (enc S) 73 (n32 i) = (if 0 = 0 ∧ ¬ (n32 i < 0 ∨ 301 ≤ (n32 i).toNatClampNeg) then some (S.2.1 73 (n32 i).toNatClampNeg) else none) from rfl, if_pos ⟨rfl, n32_ok h (by omega)⟩, n32_c (by omega)]
theorem wr_mof {x : Int32} (h : i < 301) : hp_wi (enc S) 73 (n32 i) x = some (enc (sI S 73 i x)) := by
  rw [show hp_wi (enc S) 73 (n32 i) x = (if 0 = 0 ∧ ¬ (n32 i < 0 ∨ 301 ≤ (n32 i).toNatClampNeg) then some (enc (sI S 73 (n32 i).toNatClampNeg x)) else none) from rfl, if_pos ⟨rfl, n32_ok h (by omega)⟩, n32_c (by omega)]
theorem rd_out (h : i < 1) : hp_rl (enc S) 74 (n32 i) = some (S.2.2 74 i) := by
  rw [show hp_rl (enc S) 74 (n32 i) = (if 1 = 1 ∧ ¬ (n32 i < 0 ∨ 1 ≤ (n32 i).toNatClampNeg) then some (S.2.2 74 (n32 i).toNatClampNeg) else none) from rfl, if_pos ⟨rfl, n32_ok h (by omega)⟩, n32_c (by omega)]
theorem wr_out {x : Int64} (h : i < 1) : hp_wl (enc S) 74 (n32 i) x = some (enc (sL S 74 i x)) := by
  rw [show hp_wl (enc S) 74 (n32 i) x = (if 1 = 1 ∧ ¬ (n32 i < 0 ∨ 1 ≤ (n32 i).toNatClampNeg) then some (enc (sL S 74 (n32 i).toNatClampNeg x)) else none) from rfl, if_pos ⟨rfl, n32_ok h (by omega)⟩, n32_c (by omega)]
theorem ra_rw (h : i < 28) : hp_ra (enc S) 10 (n32 i) = some (11 + i) := by
  rw [show hp_ra (enc S) 10 (n32 i) = (if 3 = 3 ∧ ¬ (n32 i < 0 ∨ 28 ≤ (n32 i).toNatClampNeg) then (if (n32 i).toNatClampNeg < 28 then some (11 + (n32 i).toNatClampNeg) else none) else none) from rfl, if_pos ⟨rfl, n32_ok h (by omega)⟩, n32_c (by omega), if_pos h]
theorem at_rw : ∀ (S : Ws) (i : Nat), i < 28 → (enc S)[11 + i]? = some (.inl (1, 16, .inr (.inl (S.2.2 (11 + i)))))
  | _, 0, _ => rfl
  | _, 1, _ => rfl
  | _, 2, _ => rfl
  | _, 3, _ => rfl
  | _, 4, _ => rfl
  | _, 5, _ => rfl
  | _, 6, _ => rfl
  | _, 7, _ => rfl
  | _, 8, _ => rfl
  | _, 9, _ => rfl
  | _, 10, _ => rfl
  | _, 11, _ => rfl
  | _, 12, _ => rfl
  | _, 13, _ => rfl
  | _, 14, _ => rfl
  | _, 15, _ => rfl
  | _, 16, _ => rfl
  | _, 17, _ => rfl
  | _, 18, _ => rfl
  | _, 19, _ => rfl
  | _, 20, _ => rfl
  | _, 21, _ => rfl
  | _, 22, _ => rfl
  | _, 23, _ => rfl
  | _, 24, _ => rfl
  | _, 25, _ => rfl
  | _, 26, _ => rfl
  | _, 27, _ => rfl
  | _, i + 28, h => absurd h (by omega)
theorem st_rw (r : Nat → Int64) : ∀ (S : Ws) (i : Nat), i < 28 → (enc S).set (11 + i) (.inl (1, 16, .inr (.inl r))) = enc (sR S (11 + i) r)
  | _, 0, _ => rfl
  | _, 1, _ => rfl
  | _, 2, _ => rfl
  | _, 3, _ => rfl
  | _, 4, _ => rfl
  | _, 5, _ => rfl
  | _, 6, _ => rfl
  | _, 7, _ => rfl
  | _, 8, _ => rfl
  | _, 9, _ => rfl
  | _, 10, _ => rfl
  | _, 11, _ => rfl
  | _, 12, _ => rfl
  | _, 13, _ => rfl
  | _, 14, _ => rfl
  | _, 15, _ => rfl
  | _, 16, _ => rfl
  | _, 17, _ => rfl
  | _, 18, _ => rfl
  | _, 19, _ => rfl
  | _, 20, _ => rfl
  | _, 21, _ => rfl
  | _, 22, _ => rfl
  | _, 23, _ => rfl
  | _, 24, _ => rfl
  | _, 25, _ => rfl
  | _, 26, _ => rfl
  | _, 27, _ => rfl
  | _, i + 28, h => absurd h (by omega)
theorem rd_rw (h : i < 28) (hj : j < 16) : hp_rl (enc S) (11 + i) (n32 j) = some (S.2.2 (11 + i) j) := by
  unfold hp_rl; rw [at_rw S i h]; show (if 1 = 1 ∧ ¬ (n32 j < 0 ∨ 16 ≤ (n32 j).toNatClampNeg) then some (S.2.2 (11 + i) (n32 j).toNatClampNeg) else none) = _; rw [if_pos ⟨rfl, n32_ok hj (by omega)⟩, n32_c (by omega)]
theorem wr_rw {x : Int64} (h : i < 28) (hj : j < 16) : hp_wl (enc S) (11 + i) (n32 j) x = some (enc (sL S (11 + i) j x)) := by
  unfold hp_wl; rw [at_rw S i h]; show (if 1 = 1 ∧ ¬ (n32 j < 0 ∨ 16 ≤ (n32 j).toNatClampNeg) then some ((enc S).set (11 + i) (.inl (1, 16, .inr (.inl (vp_updL (S.2.2 (11 + i)) (n32 j).toNatClampNeg x))))) else none) = _; rw [if_pos ⟨rfl, n32_ok hj (by omega)⟩, n32_c (by omega), st_rw _ S i h]; rfl
theorem ra_lv (h : i < 11) : hp_ra (enc S) 47 (n32 i) = some (48 + i) := by
  rw [show hp_ra (enc S) 47 (n32 i) = (if 3 = 3 ∧ ¬ (n32 i < 0 ∨ 11 ≤ (n32 i).toNatClampNeg) then (if (n32 i).toNatClampNeg < 11 then some (48 + (n32 i).toNatClampNeg) else none) else none) from rfl, if_pos ⟨rfl, n32_ok h (by omega)⟩, n32_c (by omega), if_pos h]
theorem at_lv : ∀ (S : Ws) (i : Nat), i < 11 → (enc S)[48 + i]? = some (.inl (1, 16, .inr (.inl (S.2.2 (48 + i)))))
  | _, 0, _ => rfl
  | _, 1, _ => rfl
  | _, 2, _ => rfl
  | _, 3, _ => rfl
  | _, 4, _ => rfl
  | _, 5, _ => rfl
  | _, 6, _ => rfl
  | _, 7, _ => rfl
  | _, 8, _ => rfl
  | _, 9, _ => rfl
  | _, 10, _ => rfl
  | _, i + 11, h => absurd h (by omega)
theorem st_lv (r : Nat → Int64) : ∀ (S : Ws) (i : Nat), i < 11 → (enc S).set (48 + i) (.inl (1, 16, .inr (.inl r))) = enc (sR S (48 + i) r)
  | _, 0, _ => rfl
  | _, 1, _ => rfl
  | _, 2, _ => rfl
  | _, 3, _ => rfl
  | _, 4, _ => rfl
  | _, 5, _ => rfl
  | _, 6, _ => rfl
  | _, 7, _ => rfl
  | _, 8, _ => rfl
  | _, 9, _ => rfl
  | _, 10, _ => rfl
  | _, i + 11, h => absurd h (by omega)
theorem rd_lv (h : i < 11) (hj : j < 16) : hp_rl (enc S) (48 + i) (n32 j) = some (S.2.2 (48 + i) j) := by
  unfold hp_rl; rw [at_lv S i h]; show (if 1 = 1 ∧ ¬ (n32 j < 0 ∨ 16 ≤ (n32 j).toNatClampNeg) then some (S.2.2 (48 + i) (n32 j).toNatClampNeg) else none) = _; rw [if_pos ⟨rfl, n32_ok hj (by omega)⟩, n32_c (by omega)]
theorem wr_lv {x : Int64} (h : i < 11) (hj : j < 16) : hp_wl (enc S) (48 + i) (n32 j) x = some (enc (sL S (48 + i) j x)) := by
  unfold hp_wl; rw [at_lv S i h]; show (if 1 = 1 ∧ ¬ (n32 j < 0 ∨ 16 ≤ (n32 j).toNatClampNeg) then some ((enc S).set (48 + i) (.inl (1, 16, .inr (.inl (vp_updL (S.2.2 (48 + i)) (n32 j).toNatClampNeg x))))) else none) = _; rw [if_pos ⟨rfl, n32_ok hj (by omega)⟩, n32_c (by omega), st_lv _ S i h]; rfl
end
def S0 : Ws := (fun q k => if q = 0 ∧ k = 6 ∨ q = 59 ∧ k = 9 then -1 else if q = 9 ∧ (k = 2 ∨ k = 3) ∨ q = 45 ∧ k = 2 then 1 else if q = 9 ∧ k = 4 then 16 else 0, fun _ _ => 0, fun _ _ => 0)
set_option maxRecDepth 100000 in
theorem full0 {fu : Nat} {xs : Nat → Int32} {Ln : Nat} : fullRun fu xs Ln = f_L_law_23 fu xs Ln fu 0 59 74 0 (enc S0) := rfl
