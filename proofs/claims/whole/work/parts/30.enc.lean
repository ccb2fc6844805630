/-! the world of the law as a record; readers and writers of the heap as rewriting rules -/
structure Ws where
  tp : Int32
  tf : Int32
  xf : Int32
  en : Int32
  ech : Nat → Int32
  ehd : Nat → Int32
  gn : Int32
  gk : Nat → Int32
  gv : Nat → Int32
  gc : Nat → Int32
  gb : Nat → Int32
  ts : Int32
  tw : Int32
  tc : Int32
  rw : Nat → Nat → Int64
  inp : Nat → Int32
  oc : Nat → Int64
  dn : Int32
  dc : Nat → Int32
  dp : Nat → Int32
  xw : Int32
  xn : Int32
  xt : Int32
  ky : Nat → Int32
  lv : Nat → Nat → Int64
  mco : Int32
  mev : Int32
  mgt : Int32
  mtp : Int32
  mmy : Int32
  mch : Nat → Int32
  mhd : Nat → Int32
  mkd : Nat → Int32
  mls : Nat → Int32
  mct : Nat → Int32
  mki : Nat → Int32
  mbl : Nat → Int32
  mrd : Nat → Int32
  mor : Nat → Int32
  mon : Nat → Int32
  mtr : Nat → Int32
  mca : Nat → Int64
  mos : Nat → Int32
  mof : Nat → Int32
  out : Nat → Int64
def enc (S : Ws) : List va_E := [.inr (6, [.ref 1, .ref 4, .ref 9, .ref 40, .ref 42, .ref 45, .int S.tp, .int S.tf, .int S.xf]),
  .inr (1, [.ref 2, .ref 3, .int S.en]),
  .inl (0, 10, .inl S.ech),
  .inl (0, 10, .inl S.ehd),
  .inr (2, [.ref 5, .ref 6, .ref 7, .ref 8, .int S.gn]),
  .inl (0, 12, .inl S.gk),
  .inl (0, 12, .inl S.gv),
  .inl (0, 12, .inl S.gc),
  .inl (0, 12, .inl S.gb),
  .inr (5, [.ref 10, .ref 39, .int S.ts, .int S.tw, .int S.tc]),
  .inl (3, 28, .inr (.inr (.inr (.inr (fun i => if i < 28 then some (11 + i) else none))))),
  .inl (1, 16, .inr (.inl (S.rw 0))),
  .inl (1, 16, .inr (.inl (S.rw 1))),
  .inl (1, 16, .inr (.inl (S.rw 2))),
  .inl (1, 16, .inr (.inl (S.rw 3))),
  .inl (1, 16, .inr (.inl (S.rw 4))),
  .inl (1, 16, .inr (.inl (S.rw 5))),
  .inl (1, 16, .inr (.inl (S.rw 6))),
  .inl (1, 16, .inr (.inl (S.rw 7))),
  .inl (1, 16, .inr (.inl (S.rw 8))),
  .inl (1, 16, .inr (.inl (S.rw 9))),
  .inl (1, 16, .inr (.inl (S.rw 10))),
  .inl (1, 16, .inr (.inl (S.rw 11))),
  .inl (1, 16, .inr (.inl (S.rw 12))),
  .inl (1, 16, .inr (.inl (S.rw 13))),
  .inl (1, 16, .inr (.inl (S.rw 14))),
  .inl (1, 16, .inr (.inl (S.rw 15))),
  .inl (1, 16, .inr (.inl (S.rw 16))),
  .inl (1, 16, .inr (.inl (S.rw 17))),
  .inl (1, 16, .inr (.inl (S.rw 18))),
  .inl (1, 16, .inr (.inl (S.rw 19))),
  .inl (1, 16, .inr (.inl (S.rw 20))),
  .inl (1, 16, .inr (.inl (S.rw 21))),
  .inl (1, 16, .inr (.inl (S.rw 22))),
  .inl (1, 16, .inr (.inl (S.rw 23))),
  .inl (1, 16, .inr (.inl (S.rw 24))),
  .inl (1, 16, .inr (.inl (S.rw 25))),
  .inl (1, 16, .inr (.inl (S.rw 26))),
  .inl (1, 16, .inr (.inl (S.rw 27))),
  .inl (0, 4, .inl S.inp),
  .inr (3, [.ref 41]),
  .inl (1, 1024, .inr (.inl S.oc)),
  .inr (0, [.ref 43, .ref 44, .int S.dn]),
  .inl (0, 1024, .inl S.dc),
  .inl (0, 1024, .inl S.dp),
  .inr (4, [.ref 46, .ref 47, .int S.xw, .int S.xn, .int S.xt]),
  .inl (0, 300, .inl S.ky),
  .inl (3, 11, .inr (.inr (.inr (.inr (fun i => if i < 11 then some (48 + i) else none))))),
  .inl (1, 16, .inr (.inl (S.lv 0))),
  .inl (1, 16, .inr (.inl (S.lv 1))),
  .inl (1, 16, .inr (.inl (S.lv 2))),
  .inl (1, 16, .inr (.inl (S.lv 3))),
  .inl (1, 16, .inr (.inl (S.lv 4))),
  .inl (1, 16, .inr (.inl (S.lv 5))),
  .inl (1, 16, .inr (.inl (S.lv 6))),
  .inl (1, 16, .inr (.inl (S.lv 7))),
  .inl (1, 16, .inr (.inl (S.lv 8))),
  .inl (1, 16, .inr (.inl (S.lv 9))),
  .inl (1, 16, .inr (.inl (S.lv 10))),
  .inr (7, [.int S.mco, .int S.mev, .ref 60, .ref 61, .int S.mgt, .ref 62, .ref 63, .ref 64, .ref 65, .int S.mtp, .ref 66, .ref 67, .ref 68, .ref 69, .ref 70, .ref 71, .int S.mmy, .ref 72, .ref 73]),
  .inl (0, 10, .inl S.mch),
  .inl (0, 10, .inl S.mhd),
  .inl (0, 12, .inl S.mkd),
  .inl (0, 12, .inl S.mls),
  .inl (0, 12, .inl S.mct),
  .inl (0, 48, .inl S.mki),
  .inl (2, 144, .inl S.mbl),
  .inl (2, 12, .inl S.mrd),
  .inl (0, 12, .inl S.mor),
  .inl (2, 12, .inl S.mon),
  .inl (2, 1024, .inl S.mtr),
  .inl (1, 923, .inr (.inl S.mca)),
  .inl (0, 301, .inl S.mos),
  .inl (0, 301, .inl S.mof),
  .inl (1, 1, .inr (.inl S.out))]
def n32 (n : Nat) : Int32 := Int32.ofNat n
def up2 (f : Nat → Nat → Int64) (i j : Nat) (x : Int64) : Nat → Nat → Int64 := fun k => if k = i then vp_updL (f i) j x else f k
def upr (f : Nat → Nat → Int64) (i : Nat) (r : Nat → Int64) : Nat → Nat → Int64 := fun k => if k = i then r else f k
theorem n32_c {n : Nat} (h : n < 2147483648) : (n32 n).toNatClampNeg = n := by
  unfold n32; rw [Int32.toNatClampNeg_ofNat_of_lt (by omega)]
theorem n32_toInt {n : Nat} (h : n < 2147483648) : (n32 n).toInt = n := by
  unfold n32; exact Int32.toInt_ofNat_of_lt (by omega)
theorem n32_nn {n : Nat} (h : n < 2147483648) : ¬ n32 n < 0 := by
  rw [Int32.lt_iff_toInt_lt, n32_toInt h]; simp
theorem n32_ok {n m : Nat} (h : n < m) (hm : m < 2147483648) : ¬ (n32 n < 0 ∨ m ≤ (n32 n).toNatClampNeg) := by
  rw [n32_c (by omega)]; rintro (h1 | h1)
  · exact n32_nn (by omega) h1
  · omega
section
variable {S : Ws} {i j : Nat}
theorem is_0 : hp_is (enc S) 0 6 = some () := rfl
theorem gr_0_0 : hp_gr (enc S) 0 6 0 = some 1 := rfl
theorem gr_0_1 : hp_gr (enc S) 0 6 1 = some 4 := rfl
theorem gr_0_2 : hp_gr (enc S) 0 6 2 = some 9 := rfl
theorem gr_0_3 : hp_gr (enc S) 0 6 3 = some 40 := rfl
theorem gr_0_4 : hp_gr (enc S) 0 6 4 = some 42 := rfl
theorem gr_0_5 : hp_gr (enc S) 0 6 5 = some 45 := rfl
theorem gi_tp : hp_gi (enc S) 0 6 6 = some S.tp := rfl
theorem pi_tp {x : Int32} : hp_pi (enc S) 0 6 6 x = some (enc { S with tp := x }) := rfl
theorem gi_tf : hp_gi (enc S) 0 6 7 = some S.tf := rfl
theorem pi_tf {x : Int32} : hp_pi (enc S) 0 6 7 x = some (enc { S with tf := x }) := rfl
theorem pz_tf {x : Int32} (h : x = 0 ∨ x = 1) : hp_pz (enc S) 0 6 7 x = some (enc { S with tf := x }) := by unfold hp_pz; rw [if_pos h]; rfl
theorem gi_xf : hp_gi (enc S) 0 6 8 = some S.xf := rfl
theorem pi_xf {x : Int32} : hp_pi (enc S) 0 6 8 x = some (enc { S with xf := x }) := rfl
theorem pz_xf {x : Int32} (h : x = 0 ∨ x = 1) : hp_pz (enc S) 0 6 8 x = some (enc { S with xf := x }) := by unfold hp_pz; rw [if_pos h]; rfl
theorem is_1 : hp_is (enc S) 1 1 = some () := rfl
theorem gr_1_0 : hp_gr (enc S) 1 1 0 = some 2 := rfl
theorem gr_1_1 : hp_gr (enc S) 1 1 1 = some 3 := rfl
theorem gi_en : hp_gi (enc S) 1 1 2 = some S.en := rfl
theorem pi_en {x : Int32} : hp_pi (enc S) 1 1 2 x = some (enc { S with en := x }) := rfl
theorem is_4 : hp_is (enc S) 4 2 = some () := rfl
theorem gr_4_0 : hp_gr (enc S) 4 2 0 = some 5 := rfl
theorem gr_4_1 : hp_gr (enc S) 4 2 1 = some 6 := rfl
theorem gr_4_2 : hp_gr (enc S) 4 2 2 = some 7 := rfl
theorem gr_4_3 : hp_gr (enc S) 4 2 3 = some 8 := rfl
theorem gi_gn : hp_gi (enc S) 4 2 4 = some S.gn := rfl
theorem pi_gn {x : Int32} : hp_pi (enc S) 4 2 4 x = some (enc { S with gn := x }) := rfl
theorem is_9 : hp_is (enc S) 9 5 = some () := rfl
theorem gr_9_0 : hp_gr (enc S) 9 5 0 = some 10 := rfl
theorem gr_9_1 : hp_gr (enc S) 9 5 1 = some 39 := rfl
theorem gi_ts : hp_gi (enc S) 9 5 2 = some S.ts := rfl
theorem pi_ts {x : Int32} : hp_pi (enc S) 9 5 2 x = some (enc { S with ts := x }) := rfl
theorem gi_tw : hp_gi (enc S) 9 5 3 = some S.tw := rfl
theorem pi_tw {x : Int32} : hp_pi (enc S) 9 5 3 x = some (enc { S with tw := x }) := rfl
theorem gi_tc : hp_gi (enc S) 9 5 4 = some S.tc := rfl
theorem pi_tc {x : Int32} : hp_pi (enc S) 9 5 4 x = some (enc { S with tc := x }) := rfl
theorem is_40 : hp_is (enc S) 40 3 = some () := rfl
theorem gr_40_0 : hp_gr (enc S) 40 3 0 = some 41 := rfl
theorem is_42 : hp_is (enc S) 42 0 = some () := rfl
theorem gr_42_0 : hp_gr (enc S) 42 0 0 = some 43 := rfl
theorem gr_42_1 : hp_gr (enc S) 42 0 1 = some 44 := rfl
theorem gi_dn : hp_gi (enc S) 42 0 2 = some S.dn := rfl
theorem pi_dn {x : Int32} : hp_pi (enc S) 42 0 2 x = some (enc { S with dn := x }) := rfl
theorem is_45 : hp_is (enc S) 45 4 = some () := rfl
theorem gr_45_0 : hp_gr (enc S) 45 4 0 = some 46 := rfl
theorem gr_45_1 : hp_gr (enc S) 45 4 1 = some 47 := rfl
theorem gi_xw : hp_gi (enc S) 45 4 2 = some S.xw := rfl
theorem pi_xw {x : Int32} : hp_pi (enc S) 45 4 2 x = some (enc { S with xw := x }) := rfl
theorem gi_xn : hp_gi (enc S) 45 4 3 = some S.xn := rfl
theorem pi_xn {x : Int32} : hp_pi (enc S) 45 4 3 x = some (enc { S with xn := x }) := rfl
theorem gi_xt : hp_gi (enc S) 45 4 4 = some S.xt := rfl
theorem pi_xt {x : Int32} : hp_pi (enc S) 45 4 4 x = some (enc { S with xt := x }) := rfl
theorem pz_xt {x : Int32} (h : x = 0 ∨ x = 1) : hp_pz (enc S) 45 4 4 x = some (enc { S with xt := x }) := by unfold hp_pz; rw [if_pos h]; rfl
theorem is_59 : hp_is (enc S) 59 7 = some () := rfl
theorem gi_mco : hp_gi (enc S) 59 7 0 = some S.mco := rfl
theorem pi_mco {x : Int32} : hp_pi (enc S) 59 7 0 x = some (enc { S with mco := x }) := rfl
theorem gi_mev : hp_gi (enc S) 59 7 1 = some S.mev := rfl
theorem pi_mev {x : Int32} : hp_pi (enc S) 59 7 1 x = some (enc { S with mev := x }) := rfl
theorem gr_59_2 : hp_gr (enc S) 59 7 2 = some 60 := rfl
theorem gr_59_3 : hp_gr (enc S) 59 7 3 = some 61 := rfl
theorem gi_mgt : hp_gi (enc S) 59 7 4 = some S.mgt := rfl
theorem pi_mgt {x : Int32} : hp_pi (enc S) 59 7 4 x = some (enc { S with mgt := x }) := rfl
theorem gr_59_5 : hp_gr (enc S) 59 7 5 = some 62 := rfl
theorem gr_59_6 : hp_gr (enc S) 59 7 6 = some 63 := rfl
theorem gr_59_7 : hp_gr (enc S) 59 7 7 = some 64 := rfl
theorem gr_59_8 : hp_gr (enc S) 59 7 8 = some 65 := rfl
theorem gi_mtp : hp_gi (enc S) 59 7 9 = some S.mtp := rfl
theorem pi_mtp {x : Int32} : hp_pi (enc S) 59 7 9 x = some (enc { S with mtp := x }) := rfl
theorem gr_59_10 : hp_gr (enc S) 59 7 10 = some 66 := rfl
theorem gr_59_11 : hp_gr (enc S) 59 7 11 = some 67 := rfl
theorem gr_59_12 : hp_gr (enc S) 59 7 12 = some 68 := rfl
theorem gr_59_13 : hp_gr (enc S) 59 7 13 = some 69 := rfl
theorem gr_59_14 : hp_gr (enc S) 59 7 14 = some 70 := rfl
theorem gr_59_15 : hp_gr (enc S) 59 7 15 = some 71 := rfl
theorem gi_mmy : hp_gi (enc S) 59 7 16 = some S.mmy := rfl
theorem pi_mmy {x : Int32} : hp_pi (enc S) 59 7 16 x = some (enc { S with mmy := x }) := rfl
theorem gr_59_17 : hp_gr (enc S) 59 7 17 = some 72 := rfl
theorem gr_59_18 : hp_gr (enc S) 59 7 18 = some 73 := rfl
theorem rd_ech (h : i < 10) : hp_ri (enc S) 2 (n32 i) = some (S.ech i) := by
  rw [show hp_ri (enc S) 2 (n32 i) = (if 0 = 0 ∧ ¬ (n32 i < 0 ∨ 10 ≤ (n32 i).toNatClampNeg) then some (S.ech (n32 i).toNatClampNeg) else none) from rfl, if_pos ⟨rfl, n32_ok h (by omega)⟩, n32_c (by omega)]
theorem wr_ech {x : Int32} (h : i < 10) : hp_wi (enc S) 2 (n32 i) x = some (enc { S with ech := upd S.ech i x }) := by
  rw [show hp_wi (enc S) 2 (n32 i) x = (if 0 = 0 ∧ ¬ (n32 i < 0 ∨ 10 ≤ (n32 i).toNatClampNeg) then some (enc { S with ech := upd S.ech (n32 i).toNatClampNeg x }) else none) from rfl, if_pos ⟨rfl, n32_ok h (by omega)⟩, n32_c (by omega)]
theorem rd_ehd (h : i < 10) : hp_ri (enc S) 3 (n32 i) = some (S.ehd i) := by
  rw [show hp_ri (enc S) 3 (n32 i) = (if 0 = 0 ∧ ¬ (n32 i < 0 ∨ 10 ≤ (n32 i).toNatClampNeg) then some (S.ehd (n32 i).toNatClampNeg) else none) from rfl, if_pos ⟨rfl, n32_ok h (by omega)⟩, n32_c (by omega)]
theorem wr_ehd {x : Int32} (h : i < 10) : hp_wi (enc S) 3 (n32 i) x = some (enc { S with ehd := upd S.ehd i x }) := by
  rw [show hp_wi (enc S) 3 (n32 i) x = (if 0 = 0 ∧ ¬ (n32 i < 0 ∨ 10 ≤ (n32 i).toNatClampNeg) then some (enc { S with ehd := upd S.ehd (n32 i).toNatClampNeg x }) else none) from rfl, if_pos ⟨rfl, n32_ok h (by omega)⟩, n32_c (by omega)]
theorem rd_gk (h : i < 12) : hp_ri (enc S) 5 (n32 i) = some (S.gk i) := by
  rw [show hp_ri (enc S) 5 (n32 i) = (if 0 = 0 ∧ ¬ (n32 i < 0 ∨ 12 ≤ (n32 i).toNatClampNeg) then some (S.gk (n32 i).toNatClampNeg) else none) from rfl, if_pos ⟨rfl, n32_ok h (by omega)⟩, n32_c (by omega)]
theorem wr_gk {x : Int32} (h : i < 12) : hp_wi (enc S) 5 (n32 i) x = some (enc { S with gk := upd S.gk i x }) := by
  rw [show hp_wi (enc S) 5 (n32 i) x = (if 0 = 0 ∧ ¬ (n32 i < 0 ∨ 12 ≤ (n32 i).toNatClampNeg) then some (enc { S with gk := upd S.gk (n32 i).toNatClampNeg x }) else none) from rfl, if_pos ⟨rfl, n32_ok h (by omega)⟩, n32_c (by omega)]
theorem rd_gv (h : i < 12) : hp_ri (enc S) 6 (n32 i) = some (S.gv i) := by
  rw [show hp_ri (enc S) 6 (n32 i) = (if 0 = 0 ∧ ¬ (n32 i < 0 ∨ 12 ≤ (n32 i).toNatClampNeg) then some (S.gv (n32 i).toNatClampNeg) else none) from rfl, if_pos ⟨rfl, n32_ok h (by omega)⟩, n32_c (by omega)]
theorem wr_gv {x : Int32} (h : i < 12) : hp_wi (enc S) 6 (n32 i) x = some (enc { S with gv := upd S.gv i x }) := by
  rw [show hp_wi (enc S) 6 (n32 i) x = (if 0 = 0 ∧ ¬ (n32 i < 0 ∨ 12 ≤ (n32 i).toNatClampNeg) then some (enc { S with gv := upd S.gv (n32 i).toNatClampNeg x }) else none) from rfl, if_pos ⟨rfl, n32_ok h (by omega)⟩, n32_c (by omega)]
theorem rd_gc (h : i < 12) : hp_ri (enc S) 7 (n32 i) = some (S.gc i) := by
  rw [show hp_ri (enc S) 7 (n32 i) = (if 0 = 0 ∧ ¬ (n32 i < 0 ∨ 12 ≤ (n32 i).toNatClampNeg) then some (S.gc (n32 i).toNatClampNeg) else none) from rfl, if_pos ⟨rfl, n32_ok h (by omega)⟩, n32_c (by omega)]
theorem wr_gc {x : Int32} (h : i < 12) : hp_wi (enc S) 7 (n32 i) x = some (enc { S with gc := upd S.gc i x }) := by
  rw [show hp_wi (enc S) 7 (n32 i) x = (if 0 = 0 ∧ ¬ (n32 i < 0 ∨ 12 ≤ (n32 i).toNatClampNeg) then some (enc { S with gc := upd S.gc (n32 i).toNatClampNeg x }) else none) from rfl, if_pos ⟨rfl, n32_ok h (by omega)⟩, n32_c (by omega)]
theorem rd_gb (h : i < 12) : hp_ri (enc S) 8 (n32 i) = some (S.gb i) := by
  rw [show hp_ri (enc S) 8 (n32 i) = (if 0 = 0 ∧ ¬ (n32 i < 0 ∨ 12 ≤ (n32 i).toNatClampNeg) then some (S.gb (n32 i).toNatClampNeg) else none) from rfl, if_pos ⟨rfl, n32_ok h (by omega)⟩, n32_c (by omega)]
theorem wr_gb {x : Int32} (h : i < 12) : hp_wi (enc S) 8 (n32 i) x = some (enc { S with gb := upd S.gb i x }) := by
  rw [show hp_wi (enc S) 8 (n32 i) x = (if 0 = 0 ∧ ¬ (n32 i < 0 ∨ 12 ≤ (n32 i).toNatClampNeg) then some (enc { S with gb := upd S.gb (n32 i).toNatClampNeg x }) else none) from rfl, if_pos ⟨rfl, n32_ok h (by omega)⟩, n32_c (by omega)]
theorem rd_inp (h : i < 4) : hp_ri (enc S) 39 (n32 i) = some (S.inp i) := by
  rw [show hp_ri (enc S) 39 (n32 i) = (if 0 = 0 ∧ ¬ (n32 i < 0 ∨ 4 ≤ (n32 i).toNatClampNeg) then some (S.inp (n32 i).toNatClampNeg) else none) from rfl, if_pos ⟨rfl, n32_ok h (by omega)⟩, n32_c (by omega)]
theorem wr_inp {x : Int32} (h : i < 4) : hp_wi (enc S) 39 (n32 i) x = some (enc { S with inp := upd S.inp i x }) := by
  rw [show hp_wi (enc S) 39 (n32 i) x = (if 0 = 0 ∧ ¬ (n32 i < 0 ∨ 4 ≤ (n32 i).toNatClampNeg) then some (enc { S with inp := upd S.inp (n32 i).toNatClampNeg x }) else none) from rfl, if_pos ⟨rfl, n32_ok h (by omega)⟩, n32_c (by omega)]
theorem rd_oc (h : i < 1024) : hp_rl (enc S) 41 (n32 i) = some (S.oc i) := by
  rw [show hp_rl (enc S) 41 (n32 i) = (if 1 = 1 ∧ ¬ (n32 i < 0 ∨ 1024 ≤ (n32 i).toNatClampNeg) then some (S.oc (n32 i).toNatClampNeg) else none) from rfl, if_pos ⟨rfl, n32_ok h (by omega)⟩, n32_c (by omega)]
theorem wr_oc {x : Int64} (h : i < 1024) : hp_wl (enc S) 41 (n32 i) x = some (enc { S with oc := vp_updL S.oc i x }) := by
  rw [show hp_wl (enc S) 41 (n32 i) x = (if 1 = 1 ∧ ¬ (n32 i < 0 ∨ 1024 ≤ (n32 i).toNatClampNeg) then some (enc { S with oc := vp_updL S.oc (n32 i).toNatClampNeg x }) else none) from rfl, if_pos ⟨rfl, n32_ok h (by omega)⟩, n32_c (by omega)]
theorem rd_dc (h : i < 1024) : hp_ri (enc S) 43 (n32 i) = some (S.dc i) := by
  rw [show hp_ri (enc S) 43 (n32 i) = (if 0 = 0 ∧ ¬ (n32 i < 0 ∨ 1024 ≤ (n32 i).toNatClampNeg) then some (S.dc (n32 i).toNatClampNeg) else none) from rfl, if_pos ⟨rfl, n32_ok h (by omega)⟩, n32_c (by omega)]
theorem wr_dc {x : Int32} (h : i < 1024) : hp_wi (enc S) 43 (n32 i) x = some (enc { S with dc := upd S.dc i x }) := by
  rw [show hp_wi (enc S) 43 (n32 i) x = (if 0 = 0 ∧ ¬ (n32 i < 0 ∨ 1024 ≤ (n32 i).toNatClampNeg) then some (enc { S with dc := upd S.dc (n32 i).toNatClampNeg x }) else none) from rfl, if_pos ⟨rfl, n32_ok h (by omega)⟩, n32_c (by omega)]
theorem rd_dp (h : i < 1024) : hp_ri (enc S) 44 (n32 i) = some (S.dp i) := by
  rw [show hp_ri (enc S) 44 (n32 i) = (if 0 = 0 ∧ ¬ (n32 i < 0 ∨ 1024 ≤ (n32 i).toNatClampNeg) then some (S.dp (n32 i).toNatClampNeg) else none) from rfl, if_pos ⟨rfl, n32_ok h (by omega)⟩, n32_c (by omega)]
theorem wr_dp {x : Int32} (h : i < 1024) : hp_wi (enc S) 44 (n32 i) x = some (enc { S with dp := upd S.dp i x }) := by
  rw [show hp_wi (enc S) 44 (n32 i) x = (if 0 = 0 ∧ ¬ (n32 i < 0 ∨ 1024 ≤ (n32 i).toNatClampNeg) then some (enc { S with dp := upd S.dp (n32 i).toNatClampNeg x }) else none) from rfl, if_pos ⟨rfl, n32_ok h (by omega)⟩, n32_c (by omega)]
theorem rd_ky (h : i < 300) : hp_ri (enc S) 46 (n32 i) = some (S.ky i) := by
  rw [show hp_ri (enc S) 46 (n32 i) = (if 0 = 0 ∧ ¬ (n32 i < 0 ∨ 300 ≤ (n32 i).toNatClampNeg) then some (S.ky (n32 i).toNatClampNeg) else none) from rfl, if_pos ⟨rfl, n32_ok h (by omega)⟩, n32_c (by omega)]
theorem wr_ky {x : Int32} (h : i < 300) : hp_wi (enc S) 46 (n32 i) x = some (enc { S with ky := upd S.ky i x }) := by
  rw [show hp_wi (enc S) 46 (n32 i) x = (if 0 = 0 ∧ ¬ (n32 i < 0 ∨ 300 ≤ (n32 i).toNatClampNeg) then some (enc { S with ky := upd S.ky (n32 i).toNatClampNeg x }) else none) from rfl, if_pos ⟨rfl, n32_ok h (by omega)⟩, n32_c (by omega)]
theorem rd_mch (h : i < 10) : hp_ri (enc S) 60 (n32 i) = some (S.mch i) := by
  rw [show hp_ri (enc S) 60 (n32 i) = (if 0 = 0 ∧ ¬ (n32 i < 0 ∨ 10 ≤ (n32 i).toNatClampNeg) then some (S.mch (n32 i).toNatClampNeg) else none) from rfl, if_pos ⟨rfl, n32_ok h (by omega)⟩, n32_c (by omega)]
theorem wr_mch {x : Int32} (h : i < 10) : hp_wi (enc S) 60 (n32 i) x = some (enc { S with mch := upd S.mch i x }) := by
  rw [show hp_wi (enc S) 60 (n32 i) x = (if 0 = 0 ∧ ¬ (n32 i < 0 ∨ 10 ≤ (n32 i).toNatClampNeg) then some (enc { S with mch := upd S.mch (n32 i).toNatClampNeg x }) else none) from rfl, if_pos ⟨rfl, n32_ok h (by omega)⟩, n32_c (by omega)]
theorem rd_mhd (h : i < 10) : hp_ri (enc S) 61 (n32 i) = some (S.mhd i) := by
  rw [show hp_ri (enc S) 61 (n32 i) = (if 0 = 0 ∧ ¬ (n32 i < 0 ∨ 10 ≤ (n32 i).toNatClampNeg) then some (S.mhd (n32 i).toNatClampNeg) else none) from rfl, if_pos ⟨rfl, n32_ok h (by omega)⟩, n32_c (by omega)]
theorem wr_mhd {x : Int32} (h : i < 10) : hp_wi (enc S) 61 (n32 i) x = some (enc { S with mhd := upd S.mhd i x }) := by
  rw [show hp_wi (enc S) 61 (n32 i) x = (if 0 = 0 ∧ ¬ (n32 i < 0 ∨ 10 ≤ (n32 i).toNatClampNeg) then some (enc { S with mhd := upd S.mhd (n32 i).toNatClampNeg x }) else none) from rfl, if_pos ⟨rfl, n32_ok h (by omega)⟩, n32_c (by omega)]
theorem rd_mkd (h : i < 12) : hp_ri (enc S) 62 (n32 i) = some (S.mkd i) := by
  rw [show hp_ri (enc S) 62 (n32 i) = (if 0 = 0 ∧ ¬ (n32 i < 0 ∨ 12 ≤ (n32 i).toNatClampNeg) then some (S.mkd (n32 i).toNatClampNeg) else none) from rfl, if_pos ⟨rfl, n32_ok h (by omega)⟩, n32_c (by omega)]
theorem wr_mkd {x : Int32} (h : i < 12) : hp_wi (enc S) 62 (n32 i) x = some (enc { S with mkd := upd S.mkd i x }) := by
  rw [show hp_wi (enc S) 62 (n32 i) x = (if 0 = 0 ∧ ¬ (n32 i < 0 ∨ 12 ≤ (n32 i).toNatClampNeg) then some (enc { S with mkd := upd S.mkd (n32 i).toNatClampNeg x }) else none) from rfl, if_pos ⟨rfl, n32_ok h (by omega)⟩, n32_c (by omega)]
theorem rd_mls (h : i < 12) : hp_ri (enc S) 63 (n32 i) = some (S.mls i) := by
  rw [show hp_ri (enc S) 63 (n32 i) = (if 0 = 0 ∧ ¬ (n32 i < 0 ∨ 12 ≤ (n32 i).toNatClampNeg) then some (S.mls (n32 i).toNatClampNeg) else none) from rfl, if_pos ⟨rfl, n32_ok h (by omega)⟩, n32_c (by omega)]
theorem wr_mls {x : Int32} (h : i < 12) : hp_wi (enc S) 63 (n32 i) x = some (enc { S with mls := upd S.mls i x }) := by
  rw [show hp_wi (enc S) 63 (n32 i) x = (if 0 = 0 ∧ ¬ (n32 i < 0 ∨ 12 ≤ (n32 i).toNatClampNeg) then some (enc { S with mls := upd S.mls (n32 i).toNatClampNeg x }) else none) from rfl, if_pos ⟨rfl, n32_ok h (by omega)⟩, n32_c (by omega)]
theorem rd_mct (h : i < 12) : hp_ri (enc S) 64 (n32 i) = some (S.mct i) := by
  rw [show hp_ri (enc S) 64 (n32 i) = (if 0 = 0 ∧ ¬ (n32 i < 0 ∨ 12 ≤ (n32 i).toNatClampNeg) then some (S.mct (n32 i).toNatClampNeg) else none) from rfl, if_pos ⟨rfl, n32_ok h (by omega)⟩, n32_c (by omega)]
theorem wr_mct {x : Int32} (h : i < 12) : hp_wi (enc S) 64 (n32 i) x = some (enc { S with mct := upd S.mct i x }) := by
  rw [show hp_wi (enc S) 64 (n32 i) x = (if 0 = 0 ∧ ¬ (n32 i < 0 ∨ 12 ≤ (n32 i).toNatClampNeg) then some (enc { S with mct := upd S.mct (n32 i).toNatClampNeg x }) else none) from rfl, if_pos ⟨rfl, n32_ok h (by omega)⟩, n32_c (by omega)]
theorem rd_mki (h : i < 48) : hp_ri (enc S) 65 (n32 i) = some (S.mki i) := by
  rw [show hp_ri (enc S) 65 (n32 i) = (if 0 = 0 ∧ ¬ (n32 i < 0 ∨ 48 ≤ (n32 i).toNatClampNeg) then some (S.mki (n32 i).toNatClampNeg) else none) from rfl, if_pos ⟨rfl, n32_ok h (by omega)⟩, n32_c (by omega)]
theorem wr_mki {x : Int32} (h : i < 48) : hp_wi (enc S) 65 (n32 i) x = some (enc { S with mki := upd S.mki i x }) := by
  rw [show hp_wi (enc S) 65 (n32 i) x = (if 0 = 0 ∧ ¬ (n32 i < 0 ∨ 48 ≤ (n32 i).toNatClampNeg) then some (enc { S with mki := upd S.mki (n32 i).toNatClampNeg x }) else none) from rfl, if_pos ⟨rfl, n32_ok h (by omega)⟩, n32_c (by omega)]
theorem rd_mbl (h : i < 144) : hp_rz (enc S) 66 (n32 i) = some (S.mbl i) := by
  rw [show hp_rz (enc S) 66 (n32 i) = (if 2 = 2 ∧ ¬ (n32 i < 0 ∨ 144 ≤ (n32 i).toNatClampNeg) then some (S.mbl (n32 i).toNatClampNeg) else none) from rfl, if_pos ⟨rfl, n32_ok h (by omega)⟩, n32_c (by omega)]
theorem wr_mbl {x : Int32} (h : i < 144) : hp_wz (enc S) 66 (n32 i) x = some (enc { S with mbl := upd S.mbl i (vp_nar .boolean x) }) := by
  rw [show hp_wz (enc S) 66 (n32 i) x = (if 2 = 2 ∧ ¬ (n32 i < 0 ∨ 144 ≤ (n32 i).toNatClampNeg) then some (enc { S with mbl := upd S.mbl (n32 i).toNatClampNeg (vp_nar .boolean x) }) else none) from rfl, if_pos ⟨rfl, n32_ok h (by omega)⟩, n32_c (by omega)]
theorem rd_mrd (h : i < 12) : hp_rz (enc S) 67 (n32 i) = some (S.mrd i) := by
  rw [show hp_rz (enc S) 67 (n32 i) = (if 2 = 2 ∧ ¬ (n32 i < 0 ∨ 12 ≤ (n32 i).toNatClampNeg) then some (S.mrd (n32 i).toNatClampNeg) else none) from rfl, if_pos ⟨rfl, n32_ok h (by omega)⟩, n32_c (by omega)]
theorem wr_mrd {x : Int32} (h : i < 12) : hp_wz (enc S) 67 (n32 i) x = some (enc { S with mrd := upd S.mrd i (vp_nar .boolean x) }) := by
  rw [show hp_wz (enc S) 67 (n32 i) x = (if 2 = 2 ∧ ¬ (n32 i < 0 ∨ 12 ≤ (n32 i).toNatClampNeg) then some (enc { S with mrd := upd S.mrd (n32 i).toNatClampNeg (vp_nar .boolean x) }) else none) from rfl, if_pos ⟨rfl, n32_ok h (by omega)⟩, n32_c (by omega)]
theorem rd_mor (h : i < 12) : hp_ri (enc S) 68 (n32 i) = some (S.mor i) := by
  rw [show hp_ri (enc S) 68 (n32 i) = (if 0 = 0 ∧ ¬ (n32 i < 0 ∨ 12 ≤ (n32 i).toNatClampNeg) then some (S.mor (n32 i).toNatClampNeg) else none) from rfl, if_pos ⟨rfl, n32_ok h (by omega)⟩, n32_c (by omega)]
theorem wr_mor {x : Int32} (h : i < 12) : hp_wi (enc S) 68 (n32 i) x = some (enc { S with mor := upd S.mor i x }) := by
  rw [show hp_wi (enc S) 68 (n32 i) x = (if 0 = 0 ∧ ¬ (n32 i < 0 ∨ 12 ≤ (n32 i).toNatClampNeg) then some (enc { S with mor := upd S.mor (n32 i).toNatClampNeg x }) else none) from rfl, if_pos ⟨rfl, n32_ok h (by omega)⟩, n32_c (by omega)]
theorem rd_mon (h : i < 12) : hp_rz (enc S) 69 (n32 i) = some (S.mon i) := by
  rw [show hp_rz (enc S) 69 (n32 i) = (if 2 = 2 ∧ ¬ (n32 i < 0 ∨ 12 ≤ (n32 i).toNatClampNeg) then some (S.mon (n32 i).toNatClampNeg) else none) from rfl, if_pos ⟨rfl, n32_ok h (by omega)⟩, n32_c (by omega)]
theorem wr_mon {x : Int32} (h : i < 12) : hp_wz (enc S) 69 (n32 i) x = some (enc { S with mon := upd S.mon i (vp_nar .boolean x) }) := by
  rw [show hp_wz (enc S) 69 (n32 i) x = (if 2 = 2 ∧ ¬ (n32 i < 0 ∨ 12 ≤ (n32 i).toNatClampNeg) then some (enc { S with mon := upd S.mon (n32 i).toNatClampNeg (vp_nar .boolean x) }) else none) from rfl, if_pos ⟨rfl, n32_ok h (by omega)⟩, n32_c (by omega)]
theorem rd_mtr (h : i < 1024) : hp_rz (enc S) 70 (n32 i) = some (S.mtr i) := by
  rw [show hp_rz (enc S) 70 (n32 i) = (if 2 = 2 ∧ ¬ (n32 i < 0 ∨ 1024 ≤ (n32 i).toNatClampNeg) then some (S.mtr (n32 i).toNatClampNeg) else none) from rfl, if_pos ⟨rfl, n32_ok h (by omega)⟩, n32_c (by omega)]
theorem wr_mtr {x : Int32} (h : i < 1024) : hp_wz (enc S) 70 (n32 i) x = some (enc { S with mtr := upd S.mtr i (vp_nar .boolean x) }) := by
  rw [show hp_wz (enc S) 70 (n32 i) x = (if 2 = 2 ∧ ¬ (n32 i < 0 ∨ 1024 ≤ (n32 i).toNatClampNeg) then some (enc { S with mtr := upd S.mtr (n32 i).toNatClampNeg (vp_nar .boolean x) }) else none) from rfl, if_pos ⟨rfl, n32_ok h (by omega)⟩, n32_c (by omega)]
theorem rd_mca (h : i < 923) : hp_rl (enc S) 71 (n32 i) = some (S.mca i) := by
  rw [show hp_rl (enc S) 71 (n32 i) = (if 1 = 1 ∧ ¬ (n32 i < 0 ∨ 923 ≤ (n32 i).toNatClampNeg) then some (S.mca (n32 i).toNatClampNeg) else none) from rfl, if_pos ⟨rfl, n32_ok h (by omega)⟩, n32_c (by omega)]
theorem wr_mca {x : Int64} (h : i < 923) : hp_wl (enc S) 71 (n32 i) x = some (enc { S with mca := vp_updL S.mca i x }) := by
  rw [show hp_wl (enc S) 71 (n32 i) x = (if 1 = 1 ∧ ¬ (n32 i < 0 ∨ 923 ≤ (n32 i).toNatClampNeg) then some (enc { S with mca := vp_updL S.mca (n32 i).toNatClampNeg x }) else none) from rfl, if_pos ⟨rfl, n32_ok h (by omega)⟩, n32_c (by omega)]
theorem rd_mos (h : i < 301) : hp_ri (enc S) 72 (n32 i) = some (S.mos i) := by
  rw [show hp_ri (enc S) 72 (n32 i) = (if 0 = 0 ∧ ¬ (n32 i < 0 ∨ 301 ≤ (n32 i).toNatClampNeg) then some (S.mos (n32 i).toNatClampNeg) else none) from rfl, if_pos ⟨rfl, n32_ok h (by omega)⟩, n32_c (by omega)]
theorem wr_mos {x : Int32} (h : i < 301) : hp_wi (enc S) 72 (n32 i) x = some (enc { S with mos := upd S.mos i x }) := by
  rw [show hp_wi (enc S) 72 (n32 i) x = (if 0 = 0 ∧ ¬ (n32 i < 0 ∨ 301 ≤ (n32 i).toNatClampNeg) then some (enc { S with mos := upd S.mos (n32 i).toNatClampNeg x }) else none) from rfl, if_pos ⟨rfl, n32_ok h (by omega)⟩, n32_c (by omega)]
theorem rd_mof (h : i < 301) : hp_ri (enc S) 73 (n32 i) = some (S.mof i) := by
  rw [show hp_ri (enc S) 73 (n32 i) = (if 0 = 0 ∧ ¬ (n32 i < 0 ∨ 301 ≤ (n32 i).toNatClampNeg) then some (S.mof (n32 i).toNatClampNeg) else none) from rfl, if_pos ⟨rfl, n32_ok h (by omega)⟩, n32_c (by omega)]
theorem wr_mof {x : Int32} (h : i < 301) : hp_wi (enc S) 73 (n32 i) x = some (enc { S with mof := upd S.mof i x }) := by
  rw [show hp_wi (enc S) 73 (n32 i) x = (if 0 = 0 ∧ ¬ (n32 i < 0 ∨ 301 ≤ (n32 i).toNatClampNeg) then some (enc { S with mof := upd S.mof (n32 i).toNatClampNeg x }) else none) from rfl, if_pos ⟨rfl, n32_ok h (by omega)⟩, n32_c (by omega)]
theorem rd_out (h : i < 1) : hp_rl (enc S) 74 (n32 i) = some (S.out i) := by
  rw [show hp_rl (enc S) 74 (n32 i) = (if 1 = 1 ∧ ¬ (n32 i < 0 ∨ 1 ≤ (n32 i).toNatClampNeg) then some (S.out (n32 i).toNatClampNeg) else none) from rfl, if_pos ⟨rfl, n32_ok h (by omega)⟩, n32_c (by omega)]
theorem wr_out {x : Int64} (h : i < 1) : hp_wl (enc S) 74 (n32 i) x = some (enc { S with out := vp_updL S.out i x }) := by
  rw [show hp_wl (enc S) 74 (n32 i) x = (if 1 = 1 ∧ ¬ (n32 i < 0 ∨ 1 ≤ (n32 i).toNatClampNeg) then some (enc { S with out := vp_updL S.out (n32 i).toNatClampNeg x }) else none) from rfl, if_pos ⟨rfl, n32_ok h (by omega)⟩, n32_c (by omega)]
theorem ra_rw (h : i < 28) : hp_ra (enc S) 10 (n32 i) = some (11 + i) := by
  rw [show hp_ra (enc S) 10 (n32 i) = (if 3 = 3 ∧ ¬ (n32 i < 0 ∨ 28 ≤ (n32 i).toNatClampNeg) then (if (n32 i).toNatClampNeg < 28 then some (11 + (n32 i).toNatClampNeg) else none) else none) from rfl, if_pos ⟨rfl, n32_ok h (by omega)⟩, n32_c (by omega), if_pos h]
theorem at_rw : ∀ (S : Ws) (i : Nat), i < 28 → (enc S)[11 + i]? = some (.inl (1, 16, .inr (.inl (S.rw i))))
  | _, 0, _ => rfl
  | _, 1, _ => rfl
  | _, 2, _ => rfl
  | _, 3, _ => rfl
  | _, 4, _ => rfl
  | _, 5, _ => rfl
  | _, 6, _ => rfl
  | _, 7, _ => rfl
  | _, 8, _ => rfl
  | _, 9, _ => rfl
  | _, 10, _ => rfl
  | _, 11, _ => rfl
  | _, 12, _ => rfl
  | _, 13, _ => rfl
  | _, 14, _ => rfl
  | _, 15, _ => rfl
  | _, 16, _ => rfl
  | _, 17, _ => rfl
  | _, 18, _ => rfl
  | _, 19, _ => rfl
  | _, 20, _ => rfl
  | _, 21, _ => rfl
  | _, 22, _ => rfl
  | _, 23, _ => rfl
  | _, 24, _ => rfl
  | _, 25, _ => rfl
  | _, 26, _ => rfl
  | _, 27, _ => rfl
  | _, i + 28, h => absurd h (by omega)
theorem st_rw (r : Nat → Int64) : ∀ (S : Ws) (i : Nat), i < 28 → (enc S).set (11 + i) (.inl (1, 16, .inr (.inl r))) = enc { S with rw := upr S.rw i r }
  | _, 0, _ => rfl
  | _, 1, _ => rfl
  | _, 2, _ => rfl
  | _, 3, _ => rfl
  | _, 4, _ => rfl
  | _, 5, _ => rfl
  | _, 6, _ => rfl
  | _, 7, _ => rfl
  | _, 8, _ => rfl
  | _, 9, _ => rfl
  | _, 10, _ => rfl
  | _, 11, _ => rfl
  | _, 12, _ => rfl
  | _, 13, _ => rfl
  | _, 14, _ => rfl
  | _, 15, _ => rfl
  | _, 16, _ => rfl
  | _, 17, _ => rfl
  | _, 18, _ => rfl
  | _, 19, _ => rfl
  | _, 20, _ => rfl
  | _, 21, _ => rfl
  | _, 22, _ => rfl
  | _, 23, _ => rfl
  | _, 24, _ => rfl
  | _, 25, _ => rfl
  | _, 26, _ => rfl
  | _, 27, _ => rfl
  | _, i + 28, h => absurd h (by omega)
theorem rd_rw (h : i < 28) (hj : j < 16) : hp_rl (enc S) (11 + i) (n32 j) = some (S.rw i j) := by
  unfold hp_rl; rw [at_rw S i h]; show (if 1 = 1 ∧ ¬ (n32 j < 0 ∨ 16 ≤ (n32 j).toNatClampNeg) then some (S.rw i (n32 j).toNatClampNeg) else none) = _; rw [if_pos ⟨rfl, n32_ok hj (by omega)⟩, n32_c (by omega)]
theorem wr_rw {x : Int64} (h : i < 28) (hj : j < 16) : hp_wl (enc S) (11 + i) (n32 j) x = some (enc { S with rw := up2 S.rw i j x }) := by
  unfold hp_wl; rw [at_rw S i h]; show (if 1 = 1 ∧ ¬ (n32 j < 0 ∨ 16 ≤ (n32 j).toNatClampNeg) then some ((enc S).set (11 + i) (.inl (1, 16, .inr (.inl (vp_updL (S.rw i) (n32 j).toNatClampNeg x))))) else none) = _; rw [if_pos ⟨rfl, n32_ok hj (by omega)⟩, n32_c (by omega), st_rw _ S i h]; rfl
theorem ra_lv (h : i < 11) : hp_ra (enc S) 47 (n32 i) = some (48 + i) := by
  rw [show hp_ra (enc S) 47 (n32 i) = (if 3 = 3 ∧ ¬ (n32 i < 0 ∨ 11 ≤ (n32 i).toNatClampNeg) then (if (n32 i).toNatClampNeg < 11 then some (48 + (n32 i).toNatClampNeg) else none) else none) from rfl, if_pos ⟨rfl, n32_ok h (by omega)⟩, n32_c (by omega), if_pos h]
theorem at_lv : ∀ (S : Ws) (i : Nat), i < 11 → (enc S)[48 + i]? = some (.inl (1, 16, .inr (.inl (S.lv i))))
  | _, 0, _ => rfl
  | _, 1, _ => rfl
  | _, 2, _ => rfl
  | _, 3, _ => rfl
  | _, 4, _ => rfl
  | _, 5, _ => rfl
  | _, 6, _ => rfl
  | _, 7, _ => rfl
  | _, 8, _ => rfl
  | _, 9, _ => rfl
  | _, 10, _ => rfl
  | _, i + 11, h => absurd h (by omega)
theorem st_lv (r : Nat → Int64) : ∀ (S : Ws) (i : Nat), i < 11 → (enc S).set (48 + i) (.inl (1, 16, .inr (.inl r))) = enc { S with lv := upr S.lv i r }
  | _, 0, _ => rfl
  | _, 1, _ => rfl
  | _, 2, _ => rfl
  | _, 3, _ => rfl
  | _, 4, _ => rfl
  | _, 5, _ => rfl
  | _, 6, _ => rfl
  | _, 7, _ => rfl
  | _, 8, _ => rfl
  | _, 9, _ => rfl
  | _, 10, _ => rfl
  | _, i + 11, h => absurd h (by omega)
theorem rd_lv (h : i < 11) (hj : j < 16) : hp_rl (enc S) (48 + i) (n32 j) = some (S.lv i j) := by
  unfold hp_rl; rw [at_lv S i h]; show (if 1 = 1 ∧ ¬ (n32 j < 0 ∨ 16 ≤ (n32 j).toNatClampNeg) then some (S.lv i (n32 j).toNatClampNeg) else none) = _; rw [if_pos ⟨rfl, n32_ok hj (by omega)⟩, n32_c (by omega)]
theorem wr_lv {x : Int64} (h : i < 11) (hj : j < 16) : hp_wl (enc S) (48 + i) (n32 j) x = some (enc { S with lv := up2 S.lv i j x }) := by
  unfold hp_wl; rw [at_lv S i h]; show (if 1 = 1 ∧ ¬ (n32 j < 0 ∨ 16 ≤ (n32 j).toNatClampNeg) then some ((enc S).set (48 + i) (.inl (1, 16, .inr (.inl (vp_updL (S.lv i) (n32 j).toNatClampNeg x))))) else none) = _; rw [if_pos ⟨rfl, n32_ok hj (by omega)⟩, n32_c (by omega), st_lv _ S i h]; rfl
end
def S0 : Ws := { tp := -1, tf := 0, xf := 0, en := 0, ech := fun _ => 0, ehd := fun _ => 0, gn := 0, gk := fun _ => 0, gv := fun _ => 0, gc := fun _ => 0, gb := fun _ => 0, ts := 1, tw := 1, tc := 16, rw := fun _ _ => 0, inp := fun _ => 0, oc := fun _ => 0, dn := 0, dc := fun _ => 0, dp := fun _ => 0, xw := 1, xn := 0, xt := 0, ky := fun _ => 0, lv := fun _ _ => 0, mco := 0, mev := 0, mgt := 0, mtp := -1, mmy := 0, mch := fun _ => 0, mhd := fun _ => 0, mkd := fun _ => 0, mls := fun _ => 0, mct := fun _ => 0, mki := fun _ => 0, mbl := fun _ => 0, mrd := fun _ => 0, mor := fun _ => 0, mon := fun _ => 0, mtr := fun _ => 0, mca := fun _ => 0, mos := fun _ => 0, mof := fun _ => 0, out := fun _ => 0 }
set_option maxRecDepth 100000 in
theorem full0 {fu : Nat} {xs : Nat → Int32} {Ln : Nat} : fullRun fu xs Ln = f_L_law_23 fu xs Ln fu 0 59 74 0 (enc S0) := rfl
