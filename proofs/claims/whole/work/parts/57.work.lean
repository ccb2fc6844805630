/-! the model's work: one gate at one setting -/
section
variable {fu : Nat} {S : Ws}
theorem ts_1 {x : Int32} {k : Nat} (h : k < 32) : ((x >>> (n32 k &&& 31)) &&& (1 : Int32)) = 1 ↔ bt x k = true := by
  constructor
  · intro h1
    have := congrArg (fun y => bt y 0) h1
    simp only [bt_and, bt_sar h (j := 0) (by omega)] at this
    simpa [show bt 1 0 = true from by decide] using this
  · intro h1
    apply bt_ext; intro j hj
    rw [bt_and]
    by_cases h0 : j = 0
    · subst h0; rw [bt_sar h (by omega)]; simp [h1]
    · rw [show bt 1 j = false from by rw [show (1 : Int32) = n32 1 from rfl, bt_n, show Nat.testBit 1 j = false from by rw [show 1 = 2 ^ 0 from rfl, Nat.testBit_two_pow]; simp; omega]; simp]; simp
theorem M_isOn {H : Nat → Nat} {f : Nat → Bool} {s c : Nat} (hs : s < 2147483648) (hc : c < 10 ∨ 16 ≤ c ∧ c < 28) (hH : c < 10 → H c ≤ 2 ∧ S.2.1 61 c = n32 (H c)) (hf : 16 ≤ c → S.2.1 69 (c - 16) = b32 (f (c - 16))) : f_M_isOn fu 59 (n32 c) (n32 s) (enc S) = some (b32 (cv H s f c), enc S) := by
  by_cases h16 : c < 16
  · have hc10 : c < 10 := by omega
    obtain ⟨h1, h2⟩ := hH hc10
    have e2 : bt (n32 s) c = s.testBit c := by rw [bt_n]; simp; omega
    simp only [f_M_isOn, f_M_isOn_57, Option.bind_some, is_0, gr_0_0, gr_0_1, gr_0_2, gr_0_3, gr_0_4, gr_0_5, gi_tp, pi_tp, gi_tf, pi_tf, gi_xf, pi_xf, is_1, gr_1_0, gr_1_1, gi_en, pi_en, is_4, gr_4_0, gr_4_1, gr_4_2, gr_4_3, gi_gn, pi_gn, is_9, gr_9_0, gr_9_1, gi_ts, pi_ts, gi_tw, pi_tw, gi_tc, pi_tc, is_40, gr_40_0, is_42, gr_42_0, gr_42_1, gi_dn, pi_dn, is_45, gr_45_0, gr_45_1, gi_xw, pi_xw, gi_xn, pi_xn, gi_xt, pi_xt, is_59, gi_mco, pi_mco, gi_mev, pi_mev, gr_59_2, gr_59_3, gi_mgt, pi_mgt, gr_59_5, gr_59_6, gr_59_7, gr_59_8, gi_mtp, pi_mtp, gr_59_10, gr_59_11, gr_59_12, gr_59_13, gr_59_14, gr_59_15, gi_mmy, pi_mmy, gr_59_17, gr_59_18, nl_lt (show c < 2147483648 by omega) (show 16 < 2147483648 by omega), if_pos h16, rd_mhd hc10, h2, n32_z (show H c < 2147483648 by omega), nl_eq (show H c < 2147483648 by omega) (show 2 < 2147483648 by omega), ts_1 (show c < 32 by omega), e2]
    unfold cv
    rw [if_neg (show ¬ 16 ≤ c by omega)]
    by_cases h0 : H c = 0
    · rw [if_pos h0, if_pos h0]
      cases s.testBit c <;> rfl
    · rw [if_neg h0, if_neg h0]
      by_cases h22 : H c = 2
      · rw [if_pos h22, decide_eq_true h22]; rfl
      · rw [if_neg h22, decide_eq_false h22]; rfl
  · simp only [f_M_isOn, Option.bind_some, is_0, gr_0_0, gr_0_1, gr_0_2, gr_0_3, gr_0_4, gr_0_5, gi_tp, pi_tp, gi_tf, pi_tf, gi_xf, pi_xf, is_1, gr_1_0, gr_1_1, gi_en, pi_en, is_4, gr_4_0, gr_4_1, gr_4_2, gr_4_3, gi_gn, pi_gn, is_9, gr_9_0, gr_9_1, gi_ts, pi_ts, gi_tw, pi_tw, gi_tc, pi_tc, is_40, gr_40_0, is_42, gr_42_0, gr_42_1, gi_dn, pi_dn, is_45, gr_45_0, gr_45_1, gi_xw, pi_xw, gi_xn, pi_xn, gi_xt, pi_xt, is_59, gi_mco, pi_mco, gi_mev, pi_mev, gr_59_2, gr_59_3, gi_mgt, pi_mgt, gr_59_5, gr_59_6, gr_59_7, gr_59_8, gi_mtp, pi_mtp, gr_59_10, gr_59_11, gr_59_12, gr_59_13, gr_59_14, gr_59_15, gi_mmy, pi_mmy, gr_59_17, gr_59_18, nl_lt (show c < 2147483648 by omega) (show 16 < 2147483648 by omega), if_neg h16, nl_sub (show 16 ≤ c by omega), rd_mon (show c - 16 < 12 by omega), hf (by omega), if_pos (b32_ok _)]
    unfold cv
    rw [if_pos (show 16 ≤ c by omega)]
theorem take_cnt {l : List Nat} {p : Nat → Bool} {j : Nat} (hj : j < l.length) : (l.take (j + 1)).countP p = (l.take j).countP p + (if p (l[j]) = true then 1 else 0) := by
  rw [List.take_succ_eq_append_getElem hj, List.countP_append, List.countP_singleton]
/-- one gate -/
theorem M_work41 {X : Nat → List Nat} {H : Nat → Nat} {f : Nat → Bool} {ng g s kd vt : Nat} (hng : ng ≤ 12) (hg : g < ng) (hs : s < 2147483648) (hl : (X g).length ≤ 4) (hX : ∀ c, c ∈ X g → c < 10 ∨ 16 ≤ c ∧ c < 28) (K : KM S X) (hkd : kd ≤ 4) (hvt : vt ≤ 4) (hK : S.2.1 62 g = n32 kd) (hV : S.2.1 63 g = n32 vt) (hH : ∀ c, c ∈ X g → c < 10 → H c ≤ 2 ∧ S.2.1 61 c = n32 (H c)) (hf : ∀ k, 16 + k ∈ X g → S.2.1 69 k = b32 (f k)) (hfu : 200 ≤ fu) (k6 : Nat → Int32 → List va_E → Option (List va_E)) (k18 : Nat → Int32 → Int32 → List va_E → Option (List va_E)) (i : Nat) : f_M_work_41 fu k6 k18 fu 59 (n32 s) (n32 i) (n32 g) 0 (n32 (4 * g)) (enc S) = k18 59 (n32 s) (n32 (i + 1)) (enc (sI S 69 g (b32 (gf kd vt ((X g).countP (cv H s f)) (X g).length)))) := by
  have hg12 : g < 12 := by omega
  have Kg := K g hg12
  obtain ⟨u, hu, m, e⟩ := lp0 (σ := Unit) (F := fun n j _ => f_M_work_41 fu k6 k18 n 59 (n32 s) (n32 i) (n32 g) (n32 (((X g).take j).countP (cv H s f))) (n32 (4 * g + j)) (enc S)) (I := fun _ _ => True) (N := (X g).length) (n := fu) (s := ()) (by omega) trivial (fun n j _ hj _ => by
    refine ⟨(), trivial, ?_⟩
    have hle : ¬ n32 (4 * g + (X g).length) ≤ n32 (4 * g + j) := by rw [n32_le (by omega) (by omega)]; omega
    have hm := List.getElem_mem hj
    have hon := M_isOn (fu := fu) (S := S) (H := H) (f := f) (s := s) (c := (X g)[j]) hs (hX _ hm) (hH _ hm) (fun h16 => hf _ (by rw [show 16 + ((X g)[j] - 16) = (X g)[j] from by omega]; exact hm))
    simp only [f_M_work_41, f_M_work_78, Option.bind_some, is_0, gr_0_0, gr_0_1, gr_0_2, gr_0_3, gr_0_4, gr_0_5, gi_tp, pi_tp, gi_tf, pi_tf, gi_xf, pi_xf, is_1, gr_1_0, gr_1_1, gi_en, pi_en, is_4, gr_4_0, gr_4_1, gr_4_2, gr_4_3, gi_gn, pi_gn, is_9, gr_9_0, gr_9_1, gi_ts, pi_ts, gi_tw, pi_tw, gi_tc, pi_tc, is_40, gr_40_0, is_42, gr_42_0, gr_42_1, gi_dn, pi_dn, is_45, gr_45_0, gr_45_1, gi_xw, pi_xw, gi_xn, pi_xn, gi_xt, pi_xt, is_59, gi_mco, pi_mco, gi_mev, pi_mev, gr_59_2, gr_59_3, gi_mgt, pi_mgt, gr_59_5, gr_59_6, gr_59_7, gr_59_8, gi_mtp, pi_mtp, gr_59_10, gr_59_11, gr_59_12, gr_59_13, gr_59_14, gr_59_15, gi_mmy, pi_mmy, gr_59_17, gr_59_18, rd_mct hg12, Kg.1, ln_mul, n32_add, if_neg hle, rd_mki (show 4 * g + j < 48 by omega), Kg.2 j hj, hon, b32_0, nl_add, Nat.add_assoc]
    rw [take_cnt hj]
    cases hcv : cv H s f (X g)[j] with
    | false => rw [if_pos rfl, if_neg (by decide)]
    | true => rw [if_neg (by decide), if_pos rfl])
  have e0 : f_M_work_41 fu k6 k18 fu 59 (n32 s) (n32 i) (n32 g) 0 (n32 (4 * g)) (enc S) = f_M_work_41 fu k6 k18 fu 59 (n32 s) (n32 i) (n32 g) (n32 (((X g).take 0).countP (cv H s f))) (n32 (4 * g + 0)) (enc S) := by
    simp; rfl
  rw [e0]
  refine Eq.trans e ?_
  rw [List.take_length]
  have hcl : (X g).countP (cv H s f) ≤ (X g).length := List.countP_le_length
  generalize (X g).countP (cv H s f) = c at *
  have hw : ∀ (b : Bool) (x : Int32), x = b32 b → f_M_work_200 fu k6 k18 59 (n32 s) (n32 i) 69 (n32 g) x (enc S) = k18 59 (n32 s) (n32 (i + 1)) (enc (sI S 69 g (b32 b))) := fun b x hx => by
    subst hx
    simp only [f_M_work_200, wr_mon hg12, Option.bind_some, nar_b, nl_add]
  simp only [f_M_work_41, Option.bind_some, is_0, gr_0_0, gr_0_1, gr_0_2, gr_0_3, gr_0_4, gr_0_5, gi_tp, pi_tp, gi_tf, pi_tf, gi_xf, pi_xf, is_1, gr_1_0, gr_1_1, gi_en, pi_en, is_4, gr_4_0, gr_4_1, gr_4_2, gr_4_3, gi_gn, pi_gn, is_9, gr_9_0, gr_9_1, gi_ts, pi_ts, gi_tw, pi_tw, gi_tc, pi_tc, is_40, gr_40_0, is_42, gr_42_0, gr_42_1, gi_dn, pi_dn, is_45, gr_45_0, gr_45_1, gi_xw, pi_xw, gi_xn, pi_xn, gi_xt, pi_xt, is_59, gi_mco, pi_mco, gi_mev, pi_mev, gr_59_2, gr_59_3, gi_mgt, pi_mgt, gr_59_5, gr_59_6, gr_59_7, gr_59_8, gi_mtp, pi_mtp, gr_59_10, gr_59_11, gr_59_12, gr_59_13, gr_59_14, gr_59_15, gi_mmy, pi_mmy, gr_59_17, gr_59_18, rd_mct hg12, Kg.1, ln_mul, n32_add, if_pos (show n32 (4 * g + (X g).length) ≤ n32 (4 * g + (X g).length) from (n32_le (by omega) (by omega)).mpr (Nat.le_refl _)), rd_mkd hg12, hK, rd_mls hg12, hV, n32_z (show kd < 2147483648 by omega), nl_eq (show kd < 2147483648 by omega) (show 1 < 2147483648 by omega), nl_eq (show kd < 2147483648 by omega) (show 2 < 2147483648 by omega), nl_eq (show kd < 2147483648 by omega) (show 3 < 2147483648 by omega), n32_inj (show c < 2147483648 by omega) (show (X g).length < 2147483648 by omega), n32_lez (show c < 2147483648 by omega), n32_lt (show c < 2147483648 by omega) (show vt < 2147483648 by omega), n32_z (show c < 2147483648 by omega)]
  have e2 : (n32 c - n32 c / (2 : Int32) * (2 : Int32) = 1) ↔ c % 2 = 1 := by
    rw [nl_div (by omega) (by omega) (by omega), nl_mul, n32_sub (by omega), nl_eq (by omega) (by omega)]
    omega
  simp only [e2]
  unfold gf
  by_cases k0 : kd = 0
  · rw [if_pos k0, if_pos k0]
    by_cases h : c = (X g).length
    · rw [if_pos h]; exact hw _ _ (by rw [decide_eq_true h]; rfl)
    · rw [if_neg h]; exact hw _ _ (by rw [decide_eq_false h]; rfl)
  · rw [if_neg k0, if_neg k0]
    by_cases k1 : kd = 1
    · rw [if_pos k1, if_pos k1]
      by_cases h : c = 0
      · rw [if_pos h]; exact hw _ _ (by rw [decide_eq_false (by omega)]; rfl)
      · rw [if_neg h]; exact hw _ _ (by rw [decide_eq_true (by omega)]; rfl)
    · rw [if_neg k1, if_neg k1]
      by_cases k2 : kd = 2
      · rw [if_pos k2, if_pos k2]
        by_cases h : c < vt
        · rw [if_pos h]; exact hw _ _ (by rw [decide_eq_false (by omega)]; rfl)
        · rw [if_neg h]; exact hw _ _ (by rw [decide_eq_true (by omega)]; rfl)
      · rw [if_neg k2, if_neg k2]
        by_cases k3 : kd = 3
        · rw [if_pos k3, if_pos k3]
          by_cases h : c % 2 = 1
          · rw [if_pos h]; exact hw _ _ (by rw [decide_eq_true h]; rfl)
          · rw [if_neg h]; exact hw _ _ (by rw [decide_eq_false h]; rfl)
        · rw [if_neg k3, if_neg k3]
          by_cases h : c = 0
          · rw [if_pos h]; exact hw _ _ (by rw [decide_eq_true h]; rfl)
          · rw [if_neg h]; exact hw _ _ (by rw [decide_eq_false h]; rfl)
end
