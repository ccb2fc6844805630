/-! sums of weights: folded, and one setting after the other -/
section
def Vf (p : Nat → Bool → Int64) (f : Nat → Bool) : Nat → Nat → Int64
  | 0, j => if f j = true then 1 else 0
  | e + 1, j => p e false * Vf p f e (2 * j) + p e true * Vf p f e (2 * j + 1)
theorem pw2 (a e i : Nat) : 2 * a * 2 ^ e + i = a * 2 ^ (e + 1) + i := by
  rw [Nat.pow_succ, Nat.mul_comm (2 ^ e) 2, ← Nat.mul_assoc, Nat.mul_comm a 2]
theorem pw3 (a e i : Nat) : (2 * a + 1) * 2 ^ e + i = a * 2 ^ (e + 1) + (2 ^ e + i) := by
  rw [Nat.add_mul, Nat.one_mul, Nat.add_assoc, pw2]
theorem Vf_cong {p p' : Nat → Bool → Int64} {f f' : Nat → Bool} : ∀ (e a b : Nat), (∀ k, k < e → p k = p' k) → (∀ i, i < 2 ^ e → f (a * 2 ^ e + i) = f' (b * 2 ^ e + i)) → Vf p f e a = Vf p' f' e b
  | 0, a, b, _, h => by
    have := h 0 (by simp)
    rw [Nat.pow_zero, Nat.mul_one, Nat.mul_one, Nat.add_zero, Nat.add_zero] at this
    show (if f a = true then (1 : Int64) else 0) = if f' b = true then 1 else 0
    rw [this]
  | e + 1, a, b, hp, h => by
    have h1 : Vf p f e (2 * a) = Vf p' f' e (2 * b) := Vf_cong e _ _ (fun k hk => hp k (by omega)) (fun i hi => by
      rw [pw2, pw2]; exact h i (by rw [Nat.pow_succ]; omega))
    have h2 : Vf p f e (2 * a + 1) = Vf p' f' e (2 * b + 1) := Vf_cong e _ _ (fun k hk => hp k (by omega)) (fun i hi => by
      rw [pw3, pw3]; exact h (2 ^ e + i) (by rw [Nat.pow_succ]; omega))
    show p e false * Vf p f e (2 * a) + p e true * Vf p f e (2 * a + 1) = p' e false * Vf p' f' e (2 * b) + p' e true * Vf p' f' e (2 * b + 1)
    rw [hp e (by omega), h1, h2]
/-- f does not look at bit k -/
def Ind (f : Nat → Bool) (k : Nat) : Prop := ∀ a i, i < 2 ^ k → f (2 * a * 2 ^ k + i) = f ((2 * a + 1) * 2 ^ k + i)
theorem Vf_eq {p m : Nat → Bool → Int64} {f : Nat → Bool} : ∀ (e : Nat), (∀ k, k < e → p k = m k ∨ (p k false + p k true = m k false + m k true ∧ Ind f k)) → ∀ j, Vf p f e j = Vf m f e j
  | 0, _, _ => rfl
  | e + 1, h, j => by
    show p e false * Vf p f e (2 * j) + p e true * Vf p f e (2 * j + 1) = m e false * Vf m f e (2 * j) + m e true * Vf m f e (2 * j + 1)
    rw [Vf_eq e (fun k hk => h k (by omega)) (2 * j), Vf_eq e (fun k hk => h k (by omega)) (2 * j + 1)]
    rcases h e (by omega) with h1 | ⟨h1, h2⟩
    · rw [h1]
    · have : Vf m f e (2 * j + 1) = Vf m f e (2 * j) := Vf_cong e _ _ (fun _ _ => rfl) (fun i hi => (h2 j i hi).symm)
      rw [this, ← Int64.add_mul, ← Int64.add_mul, h1]
def sm (g : Nat → Int64) : Nat → Int64
  | 0 => 0
  | n + 1 => sm g n + g n
def Pw (m : Nat → Bool → Int64) (f : Nat → Bool) : Nat → Nat → Int64
  | 0, s => if f s = true then 1 else 0
  | e + 1, s => Pw m f e s * m e (s.testBit e)
theorem sm_cong {g h : Nat → Int64} : ∀ n, (∀ i, i < n → g i = h i) → sm g n = sm h n
  | 0, _ => rfl
  | n + 1, H => by
    show sm g n + g n = sm h n + h n
    rw [sm_cong n (fun i hi => H i (by omega)), H n (by omega)]
theorem sm_mul {g : Nat → Int64} {c : Int64} : ∀ n, sm (fun i => g i * c) n = sm g n * c
  | 0 => Int64.zero_mul.symm
  | n + 1 => by
    show sm (fun i => g i * c) n + g n * c = (sm g n + g n) * c
    rw [sm_mul n, Int64.add_mul]
theorem sm_add {g : Nat → Int64} {a : Nat} : ∀ b, sm g (a + b) = sm g a + sm (fun i => g (a + i)) b
  | 0 => (Int64.add_zero _).symm
  | b + 1 => by
    show sm g (a + b) + g (a + b) = sm g a + (sm (fun i => g (a + i)) b + g (a + b))
    rw [sm_add b, Int64.add_assoc]
theorem tb_m {a e i k : Nat} (hi : i < 2 ^ e) : (a * 2 ^ e + i).testBit k = if k < e then i.testBit k else a.testBit (k - e) := by
  rw [Nat.mul_comm]; exact Nat.testBit_two_pow_mul_add (i := e) a hi k
theorem Vf_sm {m : Nat → Bool → Int64} {f : Nat → Bool} : ∀ (e j : Nat), Vf m f e j = sm (fun i => Pw m f e (j * 2 ^ e + i)) (2 ^ e)
  | 0, j => by
    show (if f j = true then (1 : Int64) else 0) = 0 + (if f (j * 2 ^ 0 + 0) = true then (1 : Int64) else 0)
    rw [Int64.zero_add, Nat.pow_zero, Nat.mul_one, Nat.add_zero]
  | e + 1, j => by
    show m e false * Vf m f e (2 * j) + m e true * Vf m f e (2 * j + 1) = _
    rw [Vf_sm e (2 * j), Vf_sm e (2 * j + 1), show (2 : Nat) ^ (e + 1) = 2 ^ e + 2 ^ e from by rw [Nat.pow_succ]; omega, sm_add]
    have h1 : sm (fun i => Pw m f (e + 1) (j * (2 ^ e + 2 ^ e) + i)) (2 ^ e) = sm (fun i => Pw m f e (2 * j * 2 ^ e + i) * m e false) (2 ^ e) := sm_cong _ (fun i hi => by
      show Pw m f e (j * (2 ^ e + 2 ^ e) + i) * m e ((j * (2 ^ e + 2 ^ e) + i).testBit e) = Pw m f e (2 * j * 2 ^ e + i) * m e false
      rw [show j * (2 ^ e + 2 ^ e) + i = 2 * j * 2 ^ e + i from by rw [pw2, Nat.pow_succ]; congr 2; omega, tb_m hi, if_neg (by omega), Nat.sub_self]
      congr 2
      simp)
    have h2 : sm (fun i => Pw m f (e + 1) (j * (2 ^ e + 2 ^ e) + (2 ^ e + i))) (2 ^ e) = sm (fun i => Pw m f e ((2 * j + 1) * 2 ^ e + i) * m e true) (2 ^ e) := sm_cong _ (fun i hi => by
      show Pw m f e (j * (2 ^ e + 2 ^ e) + (2 ^ e + i)) * m e ((j * (2 ^ e + 2 ^ e) + (2 ^ e + i)).testBit e) = Pw m f e ((2 * j + 1) * 2 ^ e + i) * m e true
      rw [show j * (2 ^ e + 2 ^ e) + (2 ^ e + i) = (2 * j + 1) * 2 ^ e + i from by rw [pw3, Nat.pow_succ]; congr 2; omega, tb_m hi, if_neg (by omega), Nat.sub_self]
      congr 2
      simp)
    rw [h1, h2, sm_mul, sm_mul, Int64.mul_comm (m e false), Int64.mul_comm (m e true)]
end
section
variable {fu : Nat} {S : Ws}
theorem O_104 {T0 : Ws} {N : Nat} {v3 v5 v6 v7 : Int32} (hN : N ≤ 512) (hfu : 2000 ≤ fu) (k48 : Nat → Nat → Int32 → Int32 → Int32 → List va_E → Option (Int64 × List va_E)) : ∃ T, FrL 41 T0 T ∧ (∀ j, j < N → T.2.2 41 j = v7.toInt64 * T0.2.2 41 (2 * j) + v6.toInt64 * T0.2.2 41 (2 * j + 1)) ∧ f_O_total_104 fu k48 fu 40 1 v3 (n32 N) v5 v6 v7 0 (enc T0) = k48 40 1 v3 (n32 N) (v5 + 1) (enc T) := by
  obtain ⟨T, ⟨t1, t2, t3⟩, m, e⟩ := lp0 (F := fun n j T => f_O_total_104 fu k48 n 40 1 v3 (n32 N) v5 v6 v7 (n32 j) (enc T)) (I := fun j T => FrL 41 T0 T ∧ (∀ a, a < j → T.2.2 41 a = v7.toInt64 * T0.2.2 41 (2 * a) + v6.toInt64 * T0.2.2 41 (2 * a + 1)) ∧ ∀ a, j ≤ a → T.2.2 41 a = T0.2.2 41 a) (N := N) (n := fu) (s := T0) (by omega) ⟨⟨rfl, rfl, fun _ _ => rfl⟩, fun a h => absurd h (by omega), fun _ _ => rfl⟩ (fun n j T hj hI => by
    obtain ⟨⟨f1, f2, f3⟩, h2, h3⟩ := hI
    have hle : ¬ n32 N ≤ n32 j := by rw [n32_le (by omega) (by omega)]; omega
    refine ⟨sL T 41 j (v7.toInt64 * T0.2.2 41 (2 * j) + v6.toInt64 * T0.2.2 41 (2 * j + 1)), ⟨⟨f1, f2, fun q hq => by rw [sL3, if_neg hq]; exact f3 q hq⟩, fun a ha => ?_, fun a ha => ?_⟩, ?_⟩
    · rw [sL3, if_pos rfl, updL_at]
      by_cases haj : a = j
      · subst haj; rw [if_pos rfl]
      · rw [if_neg haj]; exact h2 a (by omega)
    · rw [sL3, if_pos rfl, updL_at, if_neg (show ¬ a = j by omega)]; exact h3 a (by omega)
    · simp only [f_O_total_104, Option.bind_some, is_0, gr_0_0, gr_0_1, gr_0_2, gr_0_3, gr_0_4, gr_0_5, gi_tp, pi_tp, gi_tf, pi_tf, gi_xf, pi_xf, is_1, gr_1_0, gr_1_1, gi_en, pi_en, is_4, gr_4_0, gr_4_1, gr_4_2, gr_4_3, gi_gn, pi_gn, is_9, gr_9_0, gr_9_1, gi_ts, pi_ts, gi_tw, pi_tw, gi_tc, pi_tc, is_40, gr_40_0, is_42, gr_42_0, gr_42_1, gi_dn, pi_dn, is_45, gr_45_0, gr_45_1, gi_xw, pi_xw, gi_xn, pi_xn, gi_xt, pi_xt, is_59, gi_mco, pi_mco, gi_mev, pi_mev, gr_59_2, gr_59_3, gi_mgt, pi_mgt, gr_59_5, gr_59_6, gr_59_7, gr_59_8, gi_mtp, pi_mtp, gr_59_10, gr_59_11, gr_59_12, gr_59_13, gr_59_14, gr_59_15, gi_mmy, pi_mmy, gr_59_17, gr_59_18, if_neg hle, ln_mul, nl_add, rd_oc (show 2 * j < 1024 by omega), rd_oc (show 2 * j + 1 < 1024 by omega), h3 (2 * j) (by omega), h3 (2 * j + 1) (by omega), wr_oc (show j < 1024 by omega)])
  refine ⟨T, t1, t2, Eq.trans e ?_⟩
  simp only [f_O_total_104, if_pos (show n32 N ≤ n32 N from (n32_le (by omega) (by omega)).mpr (Nat.le_refl _))]
/-- the desk's weights -/
def pO (C : Nat → Nat) (v3 : Int32) (e : Nat) (b : Bool) : Int64 := if n32 e = v3 then (if b = true then (16 : Int32).toInt64 else (-16 : Int32).toInt64) else (if b = true then (n32 (C e)).toInt64 else ((16 : Int32) - n32 (C e)).toInt64)
theorem O_48 {n : Nat} {f : Nat → Bool} {C : Nat → Nat} {v3 : Int32} (hn : n ≤ 10) (hE : S.1 1 2 = n32 n) (hC : ∀ e, e < n → S.2.1 2 e = n32 (C e)) (h0 : ∀ s, s < 2 ^ n → S.2.2 41 s = if f s = true then 1 else 0) (hfu : 2000 ≤ fu) : ∃ T, FrL 41 S T ∧ f_O_total_48 fu fu 40 1 v3 (n32 (2 ^ n)) 0 (enc S) = some (Vf (pO C v3) f n 0, enc T) := by
  have hp := p10 hn
  obtain ⟨T, ⟨t1, t2⟩, m, e⟩ := lp0 (F := fun m e T => f_O_total_48 fu m 40 1 v3 (n32 (2 ^ (n - e))) (n32 e) (enc T)) (I := fun e T => FrL 41 S T ∧ ∀ j, j < 2 ^ (n - e) → T.2.2 41 j = Vf (pO C v3) f e j) (N := n) (n := fu) (s := S) (by omega) ⟨⟨rfl, rfl, fun _ _ => rfl⟩, fun j hj => h0 j hj⟩ (fun m e T he hI => by
    obtain ⟨⟨f1, f2, f3⟩, h2⟩ := hI
    have hle : ¬ n32 n ≤ n32 e := by rw [n32_le (by omega) (by omega)]; omega
    have hE' : T.1 1 2 = n32 n := by rw [f1]; exact hE
    have hC' : T.2.1 2 e = n32 (C e) := by rw [f2]; exact hC e he
    have hpe : 2 ^ (n - e) = 2 * 2 ^ (n - (e + 1)) := by
      rw [show n - e = n - (e + 1) + 1 from by omega, Nat.pow_succ]; omega
    have hpl := p10 (show n - e ≤ 10 by omega)
    have hd : n32 (2 ^ (n - e)) / (2 : Int32) = n32 (2 ^ (n - (e + 1))) := by
      rw [nl_div (by omega) (by omega) (by omega)]; congr 1; omega
    obtain ⟨T', ⟨a1, a2, a3⟩, a4, a5⟩ := O_104 (fu := fu) (T0 := T) (N := 2 ^ (n - (e + 1))) (v3 := v3) (v5 := n32 e) (v6 := if n32 e = v3 then 16 else n32 (C e)) (v7 := if n32 e = v3 then -16 else (16 : Int32) - n32 (C e)) (by omega) hfu (f_O_total_48 fu m)
    refine ⟨T', ⟨⟨a1.trans f1, a2.trans f2, fun q hq => (a3 q hq).trans (f3 q hq)⟩, fun j hj => ?_⟩, ?_⟩
    · rw [a4 j hj, h2 (2 * j) (by omega), h2 (2 * j + 1) (by omega)]
      show _ = pO C v3 e false * _ + pO C v3 e true * _
      unfold pO
      by_cases hv : n32 e = v3
      · rw [if_pos hv, if_pos hv, if_pos hv, if_pos hv]; rfl
      · rw [if_neg hv, if_neg hv, if_neg hv, if_neg hv]; rfl
    · by_cases hv : n32 e = v3
      · rw [if_pos hv, if_pos hv] at a5
        simp only [f_O_total_48, f_O_total_75, f_O_total_93, Option.bind_some, is_0, gr_0_0, gr_0_1, gr_0_2, gr_0_3, gr_0_4, gr_0_5, gi_tp, pi_tp, gi_tf, pi_tf, gi_xf, pi_xf, is_1, gr_1_0, gr_1_1, gi_en, pi_en, is_4, gr_4_0, gr_4_1, gr_4_2, gr_4_3, gi_gn, pi_gn, is_9, gr_9_0, gr_9_1, gi_ts, pi_ts, gi_tw, pi_tw, gi_tc, pi_tc, is_40, gr_40_0, is_42, gr_42_0, gr_42_1, gi_dn, pi_dn, is_45, gr_45_0, gr_45_1, gi_xw, pi_xw, gi_xn, pi_xn, gi_xt, pi_xt, is_59, gi_mco, pi_mco, gi_mev, pi_mev, gr_59_2, gr_59_3, gi_mgt, pi_mgt, gr_59_5, gr_59_6, gr_59_7, gr_59_8, gi_mtp, pi_mtp, gr_59_10, gr_59_11, gr_59_12, gr_59_13, gr_59_14, gr_59_15, gi_mmy, pi_mmy, gr_59_17, gr_59_18, hE', if_neg hle, if_pos hv, hd, a5, nl_add]
      · rw [if_neg hv, if_neg hv] at a5
        simp only [f_O_total_48, f_O_total_75, f_O_total_93, Option.bind_some, is_0, gr_0_0, gr_0_1, gr_0_2, gr_0_3, gr_0_4, gr_0_5, gi_tp, pi_tp, gi_tf, pi_tf, gi_xf, pi_xf, is_1, gr_1_0, gr_1_1, gi_en, pi_en, is_4, gr_4_0, gr_4_1, gr_4_2, gr_4_3, gi_gn, pi_gn, is_9, gr_9_0, gr_9_1, gi_ts, pi_ts, gi_tw, pi_tw, gi_tc, pi_tc, is_40, gr_40_0, is_42, gr_42_0, gr_42_1, gi_dn, pi_dn, is_45, gr_45_0, gr_45_1, gi_xw, pi_xw, gi_xn, pi_xn, gi_xt, pi_xt, is_59, gi_mco, pi_mco, gi_mev, pi_mev, gr_59_2, gr_59_3, gi_mgt, pi_mgt, gr_59_5, gr_59_6, gr_59_7, gr_59_8, gi_mtp, pi_mtp, gr_59_10, gr_59_11, gr_59_12, gr_59_13, gr_59_14, gr_59_15, gi_mmy, pi_mmy, gr_59_17, gr_59_18, hE', if_neg hle, if_neg hv, rd_ech (show e < 10 by omega), hC', hd, a5, nl_add])
  refine ⟨T, t1, Eq.trans e ?_⟩
  have hE' : T.1 1 2 = n32 n := by rw [t1.1]; exact hE
  have h00 : T.2.2 41 0 = Vf (pO C v3) f n 0 := t2 0 (Nat.two_pow_pos _)
  have hr : hp_rl (enc T) 41 (0 : Int32) = some (T.2.2 41 0) := rd_oc (i := 0) (by omega)
  simp only [f_O_total_48, Option.bind_some, is_0, gr_0_0, gr_0_1, gr_0_2, gr_0_3, gr_0_4, gr_0_5, gi_tp, pi_tp, gi_tf, pi_tf, gi_xf, pi_xf, is_1, gr_1_0, gr_1_1, gi_en, pi_en, is_4, gr_4_0, gr_4_1, gr_4_2, gr_4_3, gi_gn, pi_gn, is_9, gr_9_0, gr_9_1, gi_ts, pi_ts, gi_tw, pi_tw, gi_tc, pi_tc, is_40, gr_40_0, is_42, gr_42_0, gr_42_1, gi_dn, pi_dn, is_45, gr_45_0, gr_45_1, gi_xw, pi_xw, gi_xn, pi_xn, gi_xt, pi_xt, is_59, gi_mco, pi_mco, gi_mev, pi_mev, gr_59_2, gr_59_3, gi_mgt, pi_mgt, gr_59_5, gr_59_6, gr_59_7, gr_59_8, gi_mtp, pi_mtp, gr_59_10, gr_59_11, gr_59_12, gr_59_13, gr_59_14, gr_59_15, gi_mmy, pi_mmy, gr_59_17, gr_59_18, hE', if_pos (show n32 n ≤ n32 n from (n32_le (by omega) (by omega)).mpr (Nat.le_refl _)), hr, h00]
theorem O_total {n t : Nat} {f : Nat → Bool} {C : Nat → Nat} {v3 : Int32} (hn : n ≤ 10) (ht : t < 12) (B : Tb S n t f) (hE : S.1 1 2 = n32 n) (hC : ∀ e, e < n → S.2.1 2 e = n32 (C e)) (hfu : 2000 ≤ fu) : ∃ T, FrL 41 S T ∧ f_O_total fu 40 9 1 v3 (enc S) = some (Vf (pO C v3) f n 0, enc T) := by
  have hp := p10 hn
  obtain ⟨T, ⟨⟨f1, f2, f3⟩, t2⟩, m, e⟩ := lp0 (F := fun m s T => f_O_total_11 fu m 40 9 1 v3 (n32 (2 ^ n)) (n32 s) (enc T)) (I := fun s T => FrL 41 S T ∧ ∀ j, j < s → T.2.2 41 j = if f j = true then 1 else 0) (N := 2 ^ n) (n := fu) (s := S) (by omega) ⟨⟨rfl, rfl, fun _ _ => rfl⟩, fun j hj => absurd hj (by omega)⟩ (fun m s T hs hI => by
    obtain ⟨⟨f1, f2, f3⟩, h2⟩ := hI
    have hle : ¬ n32 (2 ^ n) ≤ n32 s := by rw [n32_le (by omega) (by omega)]; omega
    have BT : Tb T n t f := ⟨by rw [f1]; exact B.1, by rw [f1]; exact B.2.1, by rw [f1]; exact B.2.2.1, fun s hs => by rw [f3 _ (by omega)]; exact B.2.2.2 s hs⟩
    have e1 := T_isTrue (fu := fu) hn ht hs BT (and_mks hs)
    refine ⟨sL T 41 s (if f s = true then 1 else 0), ⟨⟨f1, f2, fun q hq => by rw [sL3, if_neg hq]; exact f3 q hq⟩, fun j hj => ?_⟩, ?_⟩
    · rw [sL3, if_pos rfl, updL_at]
      by_cases hjs : j = s
      · subst hjs; rw [if_pos rfl]
      · rw [if_neg hjs]; exact h2 j (by omega)
    · simp only [f_O_total_11, f_O_total_38, Option.bind_some, is_0, gr_0_0, gr_0_1, gr_0_2, gr_0_3, gr_0_4, gr_0_5, gi_tp, pi_tp, gi_tf, pi_tf, gi_xf, pi_xf, is_1, gr_1_0, gr_1_1, gi_en, pi_en, is_4, gr_4_0, gr_4_1, gr_4_2, gr_4_3, gi_gn, pi_gn, is_9, gr_9_0, gr_9_1, gi_ts, pi_ts, gi_tw, pi_tw, gi_tc, pi_tc, is_40, gr_40_0, is_42, gr_42_0, gr_42_1, gi_dn, pi_dn, is_45, gr_45_0, gr_45_1, gi_xw, pi_xw, gi_xn, pi_xn, gi_xt, pi_xt, is_59, gi_mco, pi_mco, gi_mev, pi_mev, gr_59_2, gr_59_3, gi_mgt, pi_mgt, gr_59_5, gr_59_6, gr_59_7, gr_59_8, gi_mtp, pi_mtp, gr_59_10, gr_59_11, gr_59_12, gr_59_13, gr_59_14, gr_59_15, gi_mmy, pi_mmy, gr_59_17, gr_59_18, if_neg hle, e1, b32_0, wr_oc (show s < 1024 by omega), nl_add]
      cases f s <;> rfl)
  obtain ⟨U, ⟨u1, u2, u3⟩, u4⟩ := O_48 (fu := fu) (S := T) (f := f) (C := C) (v3 := v3) hn (by rw [f1]; exact hE) (fun e he => by rw [f2]; exact hC e he) t2 hfu
  refine ⟨U, ⟨u1.trans f1, u2.trans f2, fun q hq => (u3 q hq).trans (f3 q hq)⟩, ?_⟩
  simp only [f_O_total, Option.bind_some, is_0, gr_0_0, gr_0_1, gr_0_2, gr_0_3, gr_0_4, gr_0_5, gi_tp, pi_tp, gi_tf, pi_tf, gi_xf, pi_xf, is_1, gr_1_0, gr_1_1, gi_en, pi_en, is_4, gr_4_0, gr_4_1, gr_4_2, gr_4_3, gi_gn, pi_gn, is_9, gr_9_0, gr_9_1, gi_ts, pi_ts, gi_tw, pi_tw, gi_tc, pi_tc, is_40, gr_40_0, is_42, gr_42_0, gr_42_1, gi_dn, pi_dn, is_45, gr_45_0, gr_45_1, gi_xw, pi_xw, gi_xn, pi_xn, gi_xt, pi_xt, is_59, gi_mco, pi_mco, gi_mev, pi_mev, gr_59_2, gr_59_3, gi_mgt, pi_mgt, gr_59_5, gr_59_6, gr_59_7, gr_59_8, gi_mtp, pi_mtp, gr_59_10, gr_59_11, gr_59_12, gr_59_13, gr_59_14, gr_59_15, gi_mmy, pi_mmy, gr_59_17, gr_59_18, hE, n32_shl (show n < 31 by omega)]
  refine Eq.trans e ?_
  simp only [f_O_total_11, if_pos (show n32 (2 ^ n) ≤ n32 (2 ^ n) from (n32_le (by omega) (by omega)).mpr (Nat.le_refl _))]
  exact u4
/-- the model's weights -/
def mO (C H : Nat → Nat) (e : Nat) (b : Bool) : Int64 := if H e = 0 then (if b = true then (n32 (C e)).toInt64 else ((16 : Int32) - n32 (C e)).toInt64) else if decide (H e = 2) = b then (16 : Int32).toInt64 else (0 : Int32).toInt64
theorem M_sum33 {n s : Nat} {f : Nat → Bool} {C H : Nat → Nat} (hn : n ≤ 10) (hs : s < 1024) (hE : S.1 59 1 = n32 n) (hC : ∀ e, e < n → S.2.1 60 e = n32 (C e)) (hH : ∀ e, e < n → H e ≤ 2 ∧ S.2.1 61 e = n32 (H e)) (v1 : Int64) (hfu : 2000 ≤ fu) (k4 : Nat → Int64 → Int32 → List va_E → Option (Int64 × List va_E)) : f_M_sum_33 fu k4 fu 59 v1 (n32 s) (if f s = true then 1 else 0) 0 (enc S) = k4 59 (v1 + Pw (mO C H) f n s) (n32 (s + 1)) (enc S) := by
  obtain ⟨y, hy, m, e⟩ := lp0 (F := fun m e y => f_M_sum_33 fu k4 m 59 v1 (n32 s) y (n32 e) (enc S)) (I := fun e y => y = Pw (mO C H) f e s) (N := n) (n := fu) (s := (if f s = true then (1 : Int64) else 0)) (by omega) rfl (fun m e y he hI => by
    obtain rfl := hI
    have hle : ¬ n32 n ≤ n32 e := by rw [n32_le (by omega) (by omega)]; omega
    have hb : bt (n32 s) e = s.testBit e := by rw [bt_n]; simp; omega
    obtain ⟨hh, hH'⟩ := hH e he
    refine ⟨_, rfl, ?_⟩
    show _ = f_M_sum_33 fu k4 m 59 v1 (n32 s) (Pw (mO C H) f e s * mO C H e (s.testBit e)) (n32 (e + 1)) (enc S)
    unfold mO
    cases hsb : s.testBit e with
    | true =>
      have h1 : ((n32 s >>> (n32 e &&& 31)) &&& (1 : Int32)) = 1 := (ts_1 (by omega)).mpr (hb.trans hsb)
      simp only [f_M_sum_33, f_M_sum_57, f_M_sum_84, f_M_sum_119, f_M_sum_130, Option.bind_some, is_0, gr_0_0, gr_0_1, gr_0_2, gr_0_3, gr_0_4, gr_0_5, gi_tp, pi_tp, gi_tf, pi_tf, gi_xf, pi_xf, is_1, gr_1_0, gr_1_1, gi_en, pi_en, is_4, gr_4_0, gr_4_1, gr_4_2, gr_4_3, gi_gn, pi_gn, is_9, gr_9_0, gr_9_1, gi_ts, pi_ts, gi_tw, pi_tw, gi_tc, pi_tc, is_40, gr_40_0, is_42, gr_42_0, gr_42_1, gi_dn, pi_dn, is_45, gr_45_0, gr_45_1, gi_xw, pi_xw, gi_xn, pi_xn, gi_xt, pi_xt, is_59, gi_mco, pi_mco, gi_mev, pi_mev, gr_59_2, gr_59_3, gi_mgt, pi_mgt, gr_59_5, gr_59_6, gr_59_7, gr_59_8, gi_mtp, pi_mtp, gr_59_10, gr_59_11, gr_59_12, gr_59_13, gr_59_14, gr_59_15, gi_mmy, pi_mmy, gr_59_17, gr_59_18, hE, if_neg hle, if_pos h1, if_neg (show ¬ (1 : Int32) = 0 by decide), rd_mch (show e < 10 by omega), hC e he, rd_mhd (show e < 10 by omega), hH', nl_add]
      rcases (show H e = 0 ∨ H e = 1 ∨ H e = 2 by omega) with h | h | h
      · rw [h]; rfl
      · rw [h]; rfl
      · rw [h]; rfl
    | false =>
      have h1 : ¬ ((n32 s >>> (n32 e &&& 31)) &&& (1 : Int32)) = 1 := fun q => by
        rw [ts_1 (by omega), hb, hsb] at q; cases q
      simp only [f_M_sum_33, f_M_sum_57, f_M_sum_84, f_M_sum_119, f_M_sum_130, Option.bind_some, is_0, gr_0_0, gr_0_1, gr_0_2, gr_0_3, gr_0_4, gr_0_5, gi_tp, pi_tp, gi_tf, pi_tf, gi_xf, pi_xf, is_1, gr_1_0, gr_1_1, gi_en, pi_en, is_4, gr_4_0, gr_4_1, gr_4_2, gr_4_3, gi_gn, pi_gn, is_9, gr_9_0, gr_9_1, gi_ts, pi_ts, gi_tw, pi_tw, gi_tc, pi_tc, is_40, gr_40_0, is_42, gr_42_0, gr_42_1, gi_dn, pi_dn, is_45, gr_45_0, gr_45_1, gi_xw, pi_xw, gi_xn, pi_xn, gi_xt, pi_xt, is_59, gi_mco, pi_mco, gi_mev, pi_mev, gr_59_2, gr_59_3, gi_mgt, pi_mgt, gr_59_5, gr_59_6, gr_59_7, gr_59_8, gi_mtp, pi_mtp, gr_59_10, gr_59_11, gr_59_12, gr_59_13, gr_59_14, gr_59_15, gi_mmy, pi_mmy, gr_59_17, gr_59_18, hE, if_neg hle, if_neg h1, if_true, rd_mch (show e < 10 by omega), hC e he, rd_mhd (show e < 10 by omega), hH', nl_add]
      rcases (show H e = 0 ∨ H e = 1 ∨ H e = 2 by omega) with h | h | h
      · rw [h]; rfl
      · rw [h]; rfl
      · rw [h]; rfl)
  obtain rfl := hy
  refine Eq.trans e ?_
  simp only [f_M_sum_33, Option.bind_some, is_0, gr_0_0, gr_0_1, gr_0_2, gr_0_3, gr_0_4, gr_0_5, gi_tp, pi_tp, gi_tf, pi_tf, gi_xf, pi_xf, is_1, gr_1_0, gr_1_1, gi_en, pi_en, is_4, gr_4_0, gr_4_1, gr_4_2, gr_4_3, gi_gn, pi_gn, is_9, gr_9_0, gr_9_1, gi_ts, pi_ts, gi_tw, pi_tw, gi_tc, pi_tc, is_40, gr_40_0, is_42, gr_42_0, gr_42_1, gi_dn, pi_dn, is_45, gr_45_0, gr_45_1, gi_xw, pi_xw, gi_xn, pi_xn, gi_xt, pi_xt, is_59, gi_mco, pi_mco, gi_mev, pi_mev, gr_59_2, gr_59_3, gi_mgt, pi_mgt, gr_59_5, gr_59_6, gr_59_7, gr_59_8, gi_mtp, pi_mtp, gr_59_10, gr_59_11, gr_59_12, gr_59_13, gr_59_14, gr_59_15, gi_mmy, pi_mmy, gr_59_17, gr_59_18, hE, if_pos (show n32 n ≤ n32 n from (n32_le (by omega) (by omega)).mpr (Nat.le_refl _)), nl_add]
theorem M_sum {n : Nat} {f : Nat → Bool} {C H : Nat → Nat} (hn : n ≤ 10) (hE : S.1 59 1 = n32 n) (hC : ∀ e, e < n → S.2.1 60 e = n32 (C e)) (hH : ∀ e, e < n → H e ≤ 2 ∧ S.2.1 61 e = n32 (H e)) (hf : ∀ s, s < 2 ^ n → S.2.1 70 s = b32 (f s)) (hfu : 2000 ≤ fu) : f_M_sum fu 59 (enc S) = some (Vf (mO C H) f n 0, enc S) := by
  have hp := p10 hn
  obtain ⟨y, hy, m, e⟩ := lp0 (F := fun m s y => f_M_sum_4 fu m 59 y (n32 s) (enc S)) (I := fun s y => y = sm (Pw (mO C H) f n) s) (N := 2 ^ n) (n := fu) (s := (0 : Int64)) (by omega) rfl (fun m s y hs hI => by
    obtain rfl := hI
    have hle : ¬ n32 (2 ^ n) ≤ n32 s := by rw [n32_le (by omega) (by omega)]; omega
    refine ⟨_, rfl, ?_⟩
    have e1 := M_sum33 (fu := fu) (S := S) (f := f) hn (show s < 1024 by omega) hE hC hH (sm (Pw (mO C H) f n) s) hfu (f_M_sum_4 fu m)
    simp only [f_M_sum_4, f_M_sum_28, Option.bind_some, is_0, gr_0_0, gr_0_1, gr_0_2, gr_0_3, gr_0_4, gr_0_5, gi_tp, pi_tp, gi_tf, pi_tf, gi_xf, pi_xf, is_1, gr_1_0, gr_1_1, gi_en, pi_en, is_4, gr_4_0, gr_4_1, gr_4_2, gr_4_3, gi_gn, pi_gn, is_9, gr_9_0, gr_9_1, gi_ts, pi_ts, gi_tw, pi_tw, gi_tc, pi_tc, is_40, gr_40_0, is_42, gr_42_0, gr_42_1, gi_dn, pi_dn, is_45, gr_45_0, gr_45_1, gi_xw, pi_xw, gi_xn, pi_xn, gi_xt, pi_xt, is_59, gi_mco, pi_mco, gi_mev, pi_mev, gr_59_2, gr_59_3, gi_mgt, pi_mgt, gr_59_5, gr_59_6, gr_59_7, gr_59_8, gi_mtp, pi_mtp, gr_59_10, gr_59_11, gr_59_12, gr_59_13, gr_59_14, gr_59_15, gi_mmy, pi_mmy, gr_59_17, gr_59_18, hE, n32_shl (show n < 31 by omega), if_neg hle, rd_mtr (show s < 1024 by omega), hf s hs, b32_0]
    refine Eq.trans ?_ e1
    cases f s <;> rfl)
  obtain rfl := hy
  rw [Vf_sm n 0]
  simp only [Nat.zero_mul, Nat.zero_add]
  refine Eq.trans e ?_
  simp only [f_M_sum_4, Option.bind_some, is_0, gr_0_0, gr_0_1, gr_0_2, gr_0_3, gr_0_4, gr_0_5, gi_tp, pi_tp, gi_tf, pi_tf, gi_xf, pi_xf, is_1, gr_1_0, gr_1_1, gi_en, pi_en, is_4, gr_4_0, gr_4_1, gr_4_2, gr_4_3, gi_gn, pi_gn, is_9, gr_9_0, gr_9_1, gi_ts, pi_ts, gi_tw, pi_tw, gi_tc, pi_tc, is_40, gr_40_0, is_42, gr_42_0, gr_42_1, gi_dn, pi_dn, is_45, gr_45_0, gr_45_1, gi_xw, pi_xw, gi_xn, pi_xn, gi_xt, pi_xt, is_59, gi_mco, pi_mco, gi_mev, pi_mev, gr_59_2, gr_59_3, gi_mgt, pi_mgt, gr_59_5, gr_59_6, gr_59_7, gr_59_8, gi_mtp, pi_mtp, gr_59_10, gr_59_11, gr_59_12, gr_59_13, gr_59_14, gr_59_15, gi_mmy, pi_mmy, gr_59_17, gr_59_18, hE, n32_shl (show n < 31 by omega), if_pos (show n32 (2 ^ n) ≤ n32 (2 ^ n) from (n32_le (by omega) (by omega)).mpr (Nat.le_refl _))]
end
