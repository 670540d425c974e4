/-! THE MODEL'S CALLS: meter, line, inLine, layings, laid, fill -/
theorem lB_toInt {n : Nat} (h : n < 9223372036854775808) : (lN n).toInt = (n : Int) := lg_ofNat_toInt h
theorem lB_div {a : Nat} (h : a < 9223372036854775808) : lN a / lN 24 = lN (a / 24) := by
  apply Int64.toInt_inj.mp
  rw [lg_ldiv_nonneg (by rw [lB_toInt h]; omega) (by rw [lB_toInt (by omega)]; omega), lB_toInt h, lB_toInt (by omega), lB_toInt (by omega)]
  omega
theorem lB_rem {a : Nat} (h : a < 9223372036854775808) : lN a - lN (a / 24) * lN 24 = lN (a % 24) := by
  rw [lN_mul, lN_sub (by omega)]
  congr 1
  omega
theorem lB_lt {a b : Nat} (ha : a < 9223372036854775808) (hb : b < 9223372036854775808) : (lN a < lN b) = (a < b) := by
  rw [Int64.lt_iff_toInt_lt, lB_toInt ha, lB_toInt hb]; simp only [eq_iff_iff]; omega
theorem lB_le {a b : Nat} (ha : a < 9223372036854775808) (hb : b < 9223372036854775808) : (lN a ≤ lN b) = (a ≤ b) := by
  rw [Int64.le_iff_toInt_le, lB_toInt ha, lB_toInt hb]; simp only [eq_iff_iff]; omega
theorem lB_24 : (lN 24 = 0) = False := by simp only [eq_iff_iff, iff_false]; decide
theorem lB_l {a : Nat} (h : a < 2147483648) : (nI a).toInt64 = lN a := nI_l h
theorem lc_le {x y : Int64} : lg_cmp x y ≤ 0 ↔ x ≤ y := by
  rw [← Int32.not_lt, lc_gt, Int64.not_lt]
theorem lc_ge {x y : Int64} : 0 ≤ lg_cmp x y ↔ y ≤ x := by
  rw [← Int32.not_lt, lc_lt, Int64.not_lt]
theorem lB_ex {t : Int64} (h : 0 ≤ t.toInt) : ∃ T, T < 9223372036854775808 ∧ t = lN T := by
  have b := Int64.toInt_lt t
  refine ⟨t.toInt.toNat, by omega, ?_⟩
  apply Int64.toInt_inj.mp
  rw [lB_toInt (by omega)]
  omega
theorem lB_nat {T : Nat} (h : T < 9223372036854775808) : (lN T).toInt.toNat = T := by rw [lB_toInt h]; omega
/-- from lo to hi -/
def ir (x : Int32) (lo hi : Nat) : Bool := decide ((lo : Int) ≤ x.toInt ∧ x.toInt ≤ (hi : Int))
theorem ir_ex {x : Int32} {lo hi : Nat} (h : ir x lo hi = true) : ∃ m, lo ≤ m ∧ m ≤ hi ∧ x = nI m := by
  simp only [ir, decide_eq_true_eq] at h
  refine ⟨x.toInt.toNat, by omega, by omega, ?_⟩
  have b := Int32.toInt_lt x
  apply Int32.toInt_inj.mp
  rw [nI_toInt (by omega)]
  omega
theorem ir_nI {m lo hi : Nat} (h : m < 2147483648) : ir (nI m) lo hi = decide (lo ≤ m ∧ m ≤ hi) := by
  unfold ir
  rw [nI_toInt h]
  congr 1
  simp only [eq_iff_iff]
  omega
theorem c_inL {d : Nat} {h : z_H} {nx : Nat} {Q : z_Q} {x : Int32} {lo hi : Nat} (h1 : lo < 2147483647) (hn : hi < 2147483647) : XC d m_X8_in [.long x.toInt64, .long (lN lo), .long (lN hi)] h nx Q = Q (some (.int (bI (ir x lo hi = true)))) h nx := by
  rw [c_in]
  have e : (¬ x.toInt64 < lN lo ∧ ¬ lN hi < x.toInt64) = (ir x lo hi = true) := by
    simp only [ir, decide_eq_true_eq, Int64.lt_iff_toInt_lt, Int32.toInt_toInt64]
    rw [lN_toInt (by omega), lN_toInt (by omega)]
    simp only [eq_iff_iff]
    omega
  by_cases q : ir x lo hi = true
  · rw [bI_t q, bI_t (e ▸ q)]
  · rw [bI_f q, bI_f (e ▸ q)]
/-- the model's state is as it was -/
def Fy (A B : Nat → Nat → Int32) : Prop := (∀ k, k < 47 → k ≠ 32 → B k = A k) ∧ ∀ j, j ≠ 0 → j < 36 → B 32 j = A 32 j
theorem Fy.refl {A : Nat → Nat → Int32} : Fy A A := ⟨fun _ _ _ => rfl, fun _ _ _ => rfl⟩
theorem Fy.trans {A B C : Nat → Nat → Int32} (h : Fy A B) (g : Fy B C) : Fy A C := ⟨fun k h1 h2 => (g.1 k h1 h2).trans (h.1 k h1 h2), fun j h1 h2 => (g.2 j h1 h2).trans (h.2 j h1 h2)⟩
theorem Fr.fy {A B : Nat → Nat → Int32} (h : Fr A B) : Fy A B := ⟨fun k h1 _ => h k (by omega), fun j _ _ => by rw [h 32 (by omega)]⟩
theorem Fl.fy {A B : Nat → Nat → Int32} (h : Fl A B) : Fy A B := ⟨fun k h1 h2 => h.1 k (by omega) h2, fun j _ h2 => h.2 j (by omega) (by omega)⟩
theorem Ff.fy {A B : Nat → Nat → Int32} (h : Ff A B) : Fy A B := ⟨fun k h1 h2 => h.1 k (by omega) h2, fun j _ h2 => h.2 j (by omega) (by omega)⟩
theorem Fy.rp {a : Nat → Nat → Nat} {A B : Nat → Nat → Int32} (h : Fy A B) (hR : Rp a A) : Rp a B := hR.of (fun k hk => ⟨fun e j h0 hj => by subst e; exact h.2 j h0 hj, fun e => h.1 k hk e⟩)
theorem Fy.mo {s : z_S} {A B : Nat → Nat → Int32} (h : Fy A B) (hM : Mo s A) : Mo s B := ⟨h.rp hM.1, by rw [h.1 39 (by omega) (by omega)]; exact hM.2.1, hM.2.2⟩
theorem Fy.fk {A B : Nat → Nat → Int32} (h : Fy A B) : Fk A B := fun k hk => h.1 k (by omega) (by omega)
section MPub5
variable {s : z_S} {A : Nat → Nat → Int32} {P : Nat → Nat → Nat} {dy : z_H} {d nx bc bs : Nat} {Q : z_Q}
theorem c_isLine {x : Int32} (hM : Mo s A) : XC (d + 1) m_X8_isLine [.ref 32, .int x] (GH A P dy) nx Q = Q (some (.int (bI (iw x (s.1 32 13) = true)))) (GH A P dy) nx := by
  show X (d + 1) m_X8_isLine 0 [some (.ref 32), some (.int x)] [] (GH A P dy) nx 0 0 Q = _
  have sc := hM.1.sc
  have r1 := hM.1.q13
  simp (disch := omega) only [i_X8_isLine_0, i_X8_isLine_1, i_X8_isLine_2, i_X8_isLine_3, i_X8_isLine_4, i_X8_isLine_7, i_X8_isLine_8, i_X8_isLine_9, i_X8_isLine_10, i_X8_isLine_13, gh_o32, gf_32_13, z_o_i, z_ai_i, z_si_i, z_ab_b, z_ab_z, z_sb_b, z_sb_z, z_al_i, z_al_b, z_pu_s, z_pu_n, nI_toN, z_inN, true_and, and_true, nI_add, pk_mul, vu_eq, vu_ne, r1, c_inN, ↓bI_ok]
theorem p3_le {n : Nat} (h : n ≤ 12) : 3 ^ n ≤ 531441 := Nat.le_trans (Nat.pow_le_pow_right (by omega) h) (by decide)
def s_meter (s : z_S) (n x : Int32) : Int32 × z_S := if ir n 1 12 = true ∧ iw x (3 ^ n.toNatClampNeg) = true then
  (n, (va_up (va_up s.1 41 (pt (s.1 41) (fun i => x.toNatClampNeg / 3 ^ i % 3) 0 n.toNatClampNeg)) 32 (va_up (s.1 32) 11 n.toNatClampNeg), s.2)) else (-3, s)
theorem l_meter1 {n : Nat} {x2 : Option Value} {x5 : Option Value} {h : z_H} (hn : n ≤ 12) (hQ : X (d + 1) m_X8_meter 33 [some (.ref 32), some (.int (nI n)), x2, some (.int (nI (3 ^ n))), some (.int (nI n)), x5] [] h nx bc bs Q) : ∀ (m k : Nat), k + m = n → X (d + 1) m_X8_meter 10 [some (.ref 32), some (.int (nI n)), x2, some (.int (nI (3 ^ k))), some (.int (nI k)), x5] [] h nx bc bs Q := by
  intro m
  induction m with
  | zero =>
    intro k hk
    have e : k = n := by omega
    subst e
    simp (disch := omega) only [i_X8_meter_10, i_X8_meter_12, i_X8_meter_13, gh_o32, gh_r33, gh_r41, gh_r42, gh_r43, gh_w41, gh_w42, gh_w43, gh_u32, gp_32_0, gp_32_11, gp_32_13, gf_32_1, gf_32_2, gf_32_11, gf_32_12, gf_32_13, gf_32_14, gf_32_15, gf_32_36, gf_32_37, z_o_i, z_ai_i, z_si_i, z_ab_b, z_ab_z, z_sb_b, z_sb_z, z_al_i, z_al_b, z_pu_s, z_pu_n, nI_toN, z_inN, true_and, and_true, nI_add, pk_mul, vu_eq, vu_ne, nI_leI, nI_ltI, nI_eqI, nI_eq0, nI_le0, ↓ok_0, ↓ok_1, ↓bI_ok, if_true, if_false, ne_eq, not_true_eq_false, not_false_eq_true, nI_m1, nI_1ne, nI_0eq, bI_eq0, bI_ne0, Bool.false_eq_true, iw_nI, decide_true, decide_false, Nat.add_sub_cancel, nI_ge0, nI_lt0, nm_lt, nm_ge, bI_T, bI_F, Nat.one_ne_zero, Nat.zero_ne_one, pk_div, pk_rem, Nat.le_refl]
    exact hQ
  | succ m ih =>
    intro k hk
    have l1 : ¬ n ≤ k := by omega
    have l2 : ¬ 12 ≤ k := by omega
    have e : 3 ^ k * 3 = 3 ^ (k + 1) := (Nat.pow_succ 3 k).symm
    rw [i_X8_meter_10]
    simp (disch := omega) only [i_X8_meter_12, i_X8_meter_13, i_X8_meter_16, i_X8_meter_18, i_X8_meter_20, i_X8_meter_23, i_X8_meter_24, i_X8_meter_25, i_X8_meter_26, i_X8_meter_27, i_X8_meter_30, gh_o32, gh_r33, gh_r41, gh_r42, gh_r43, gh_w41, gh_w42, gh_w43, gh_u32, gp_32_0, gp_32_11, gp_32_13, gf_32_1, gf_32_2, gf_32_11, gf_32_12, gf_32_13, gf_32_14, gf_32_15, gf_32_36, gf_32_37, z_o_i, z_ai_i, z_si_i, z_ab_b, z_ab_z, z_sb_b, z_sb_z, z_al_i, z_al_b, z_pu_s, z_pu_n, nI_toN, z_inN, true_and, and_true, nI_add, pk_mul, vu_eq, vu_ne, nI_leI, nI_ltI, nI_eqI, nI_eq0, nI_le0, ↓ok_0, ↓ok_1, ↓bI_ok, if_true, if_false, ne_eq, not_true_eq_false, not_false_eq_true, nI_m1, nI_1ne, nI_0eq, bI_eq0, bI_ne0, Bool.false_eq_true, iw_nI, decide_true, decide_false, Nat.add_sub_cancel, nI_ge0, nI_lt0, nm_lt, nm_ge, bI_T, bI_F, Nat.one_ne_zero, Nat.zero_ne_one, pk_div, pk_rem, l1, l2, e]
    exact ih (k + 1) (by omega)
theorem l_meter2 {n : Int32} {x2 : Option Value} {x5 : Option Value} {h : z_H} (hn : ¬ ir n 1 12 = true) (hQ : Q (some (.int (-3))) h nx) : ∀ (m k : Nat) (v : Int32), k + m = 12 → X (d + 1) m_X8_meter 10 [some (.ref 32), some (.int n), x2, some (.int v), some (.int (nI k)), x5] [] h nx bc bs Q := by
  have fin : ∀ (k : Nat) (v : Int32), X (d + 1) m_X8_meter 33 [some (.ref 32), some (.int n), x2, some (.int v), some (.int (nI k)), x5] [] h nx bc bs Q := by
    intro k v
    simp (disch := omega) only [i_X8_meter_33, i_X8_meter_34, i_X8_meter_35, i_X8_meter_36, i_X8_meter_39, i_X8_meter_42, i_X8_meter_58, i_X8_meter_60, gh_o32, gh_r33, gh_r41, gh_r42, gh_r43, gh_w41, gh_w42, gh_w43, gh_u32, gp_32_0, gp_32_11, gp_32_13, gf_32_1, gf_32_2, gf_32_11, gf_32_12, gf_32_13, gf_32_14, gf_32_15, gf_32_36, gf_32_37, z_o_i, z_ai_i, z_si_i, z_ab_b, z_ab_z, z_sb_b, z_sb_z, z_al_i, z_al_b, z_pu_s, z_pu_n, nI_toN, z_inN, true_and, and_true, nI_add, pk_mul, vu_eq, vu_ne, nI_leI, nI_ltI, nI_eqI, nI_eq0, nI_le0, ↓ok_0, ↓ok_1, ↓bI_ok, if_true, if_false, ne_eq, not_true_eq_false, not_false_eq_true, nI_m1, nI_1ne, nI_0eq, bI_eq0, bI_ne0, Bool.false_eq_true, iw_nI, decide_true, decide_false, Nat.add_sub_cancel, nI_ge0, nI_lt0, nm_lt, nm_ge, bI_T, bI_F, Nat.one_ne_zero, Nat.zero_ne_one, pk_div, pk_rem, c_inL, hn]
    exact hQ
  intro m
  induction m with
  | zero =>
    intro k v hk
    have e : k = 12 := by omega
    subst e
    by_cases q : n ≤ nI 12
    · simp (disch := omega) only [i_X8_meter_10, i_X8_meter_12, i_X8_meter_13, gh_o32, gh_r33, gh_r41, gh_r42, gh_r43, gh_w41, gh_w42, gh_w43, gh_u32, gp_32_0, gp_32_11, gp_32_13, gf_32_1, gf_32_2, gf_32_11, gf_32_12, gf_32_13, gf_32_14, gf_32_15, gf_32_36, gf_32_37, z_o_i, z_ai_i, z_si_i, z_ab_b, z_ab_z, z_sb_b, z_sb_z, z_al_i, z_al_b, z_pu_s, z_pu_n, nI_toN, z_inN, true_and, and_true, nI_add, pk_mul, vu_eq, vu_ne, nI_leI, nI_ltI, nI_eqI, nI_eq0, nI_le0, ↓ok_0, ↓ok_1, ↓bI_ok, if_true, if_false, ne_eq, not_true_eq_false, not_false_eq_true, nI_m1, nI_1ne, nI_0eq, bI_eq0, bI_ne0, Bool.false_eq_true, iw_nI, decide_true, decide_false, Nat.add_sub_cancel, nI_ge0, nI_lt0, nm_lt, nm_ge, bI_T, bI_F, Nat.one_ne_zero, Nat.zero_ne_one, pk_div, pk_rem, q]
      exact fin _ _
    · simp (disch := omega) only [i_X8_meter_10, i_X8_meter_12, i_X8_meter_13, i_X8_meter_16, i_X8_meter_18, i_X8_meter_20, gh_o32, gh_r33, gh_r41, gh_r42, gh_r43, gh_w41, gh_w42, gh_w43, gh_u32, gp_32_0, gp_32_11, gp_32_13, gf_32_1, gf_32_2, gf_32_11, gf_32_12, gf_32_13, gf_32_14, gf_32_15, gf_32_36, gf_32_37, z_o_i, z_ai_i, z_si_i, z_ab_b, z_ab_z, z_sb_b, z_sb_z, z_al_i, z_al_b, z_pu_s, z_pu_n, nI_toN, z_inN, true_and, and_true, nI_add, pk_mul, vu_eq, vu_ne, nI_leI, nI_ltI, nI_eqI, nI_eq0, nI_le0, ↓ok_0, ↓ok_1, ↓bI_ok, if_true, if_false, ne_eq, not_true_eq_false, not_false_eq_true, nI_m1, nI_1ne, nI_0eq, bI_eq0, bI_ne0, Bool.false_eq_true, iw_nI, decide_true, decide_false, Nat.add_sub_cancel, nI_ge0, nI_lt0, nm_lt, nm_ge, bI_T, bI_F, Nat.one_ne_zero, Nat.zero_ne_one, pk_div, pk_rem, q, Nat.le_refl]
      exact fin _ _
  | succ m ih =>
    intro k v hk
    have l2 : ¬ 12 ≤ k := by omega
    rw [i_X8_meter_10]
    by_cases q : n ≤ nI k
    · simp (disch := omega) only [i_X8_meter_12, i_X8_meter_13, gh_o32, gh_r33, gh_r41, gh_r42, gh_r43, gh_w41, gh_w42, gh_w43, gh_u32, gp_32_0, gp_32_11, gp_32_13, gf_32_1, gf_32_2, gf_32_11, gf_32_12, gf_32_13, gf_32_14, gf_32_15, gf_32_36, gf_32_37, z_o_i, z_ai_i, z_si_i, z_ab_b, z_ab_z, z_sb_b, z_sb_z, z_al_i, z_al_b, z_pu_s, z_pu_n, nI_toN, z_inN, true_and, and_true, nI_add, pk_mul, vu_eq, vu_ne, nI_leI, nI_ltI, nI_eqI, nI_eq0, nI_le0, ↓ok_0, ↓ok_1, ↓bI_ok, if_true, if_false, ne_eq, not_true_eq_false, not_false_eq_true, nI_m1, nI_1ne, nI_0eq, bI_eq0, bI_ne0, Bool.false_eq_true, iw_nI, decide_true, decide_false, Nat.add_sub_cancel, nI_ge0, nI_lt0, nm_lt, nm_ge, bI_T, bI_F, Nat.one_ne_zero, Nat.zero_ne_one, pk_div, pk_rem, q]
      exact fin _ _
    · simp (disch := omega) only [i_X8_meter_12, i_X8_meter_13, i_X8_meter_16, i_X8_meter_18, i_X8_meter_20, i_X8_meter_23, i_X8_meter_24, i_X8_meter_25, i_X8_meter_26, i_X8_meter_27, i_X8_meter_30, gh_o32, gh_r33, gh_r41, gh_r42, gh_r43, gh_w41, gh_w42, gh_w43, gh_u32, gp_32_0, gp_32_11, gp_32_13, gf_32_1, gf_32_2, gf_32_11, gf_32_12, gf_32_13, gf_32_14, gf_32_15, gf_32_36, gf_32_37, z_o_i, z_ai_i, z_si_i, z_ab_b, z_ab_z, z_sb_b, z_sb_z, z_al_i, z_al_b, z_pu_s, z_pu_n, nI_toN, z_inN, true_and, and_true, nI_add, pk_mul, vu_eq, vu_ne, nI_leI, nI_ltI, nI_eqI, nI_eq0, nI_le0, ↓ok_0, ↓ok_1, ↓bI_ok, if_true, if_false, ne_eq, not_true_eq_false, not_false_eq_true, nI_m1, nI_1ne, nI_0eq, bI_eq0, bI_ne0, Bool.false_eq_true, iw_nI, decide_true, decide_false, Nat.add_sub_cancel, nI_ge0, nI_lt0, nm_lt, nm_ge, bI_T, bI_F, Nat.one_ne_zero, Nat.zero_ne_one, pk_div, pk_rem, q, l2]
      exact ih (k + 1) _ (by omega)
theorem l_meter3 {n T : Nat} {x2 x3 : Option Value} {f : Nat → Int32} {A : Nat → Nat → Int32} (hn : n ≤ 12) (hT : T < 531441) (hQ : Q (some (.int (nI n))) (GH (va_up (va_up A 41 (pt f (fun i => nI (T / 3 ^ i % 3)) 0 n)) 32 (va_up (A 32) 11 (nI n))) P dy) nx) : ∀ (m k : Nat), k + m = n → X (d + 1) m_X8_meter 67 [some (.ref 32), some (.int (nI n)), x2, x3, some (.int (nI (T / 3 ^ k))), some (.int (nI k))] [] (GH (va_up A 41 (pt f (fun i => nI (T / 3 ^ i % 3)) 0 k)) P dy) nx bc bs Q := by
  intro m
  induction m with
  | zero =>
    intro k hk
    have e : k = n := by omega
    subst e
    simp (disch := omega) only [i_X8_meter_67, i_X8_meter_69, i_X8_meter_70, i_X8_meter_96, i_X8_meter_97, i_X8_meter_98, i_X8_meter_101, i_X8_meter_102, gh_o32, gh_r33, gh_r41, gh_r42, gh_r43, gh_w41, gh_w42, gh_w43, gh_u32, gp_32_0, gp_32_11, gp_32_13, gf_32_1, gf_32_2, gf_32_11, gf_32_12, gf_32_13, gf_32_14, gf_32_15, gf_32_36, gf_32_37, z_o_i, z_ai_i, z_si_i, z_ab_b, z_ab_z, z_sb_b, z_sb_z, z_al_i, z_al_b, z_pu_s, z_pu_n, nI_toN, z_inN, true_and, and_true, nI_add, pk_mul, vu_eq, vu_ne, nI_leI, nI_ltI, nI_eqI, nI_eq0, nI_le0, ↓ok_0, ↓ok_1, ↓bI_ok, if_true, if_false, ne_eq, not_true_eq_false, not_false_eq_true, nI_m1, nI_1ne, nI_0eq, bI_eq0, bI_ne0, Bool.false_eq_true, iw_nI, decide_true, decide_false, Nat.add_sub_cancel, nI_ge0, nI_lt0, nm_lt, nm_ge, bI_T, bI_F, Nat.one_ne_zero, Nat.zero_ne_one, pk_div, pk_rem, Nat.le_refl]
    exact hQ
  | succ m ih =>
    intro k hk
    have l1 : ¬ n ≤ k := by omega
    have lt : T / 3 ^ k < 531441 := Nat.lt_of_le_of_lt (Nat.div_le_self _ _) hT
    have e : T / 3 ^ k / 3 = T / 3 ^ (k + 1) := by rw [Nat.div_div_eq_div_mul, Nat.pow_succ]
    have z3 : ¬ (3 : Nat) = 0 := by omega
    have p1 := pt_succ f (fun i => nI (T / 3 ^ i % 3)) 0 k (v := nI (T / 3 ^ k % 3)) rfl
    rw [Nat.zero_add] at p1
    have md : T / 3 ^ k - T / 3 ^ (k + 1) * 3 = T / 3 ^ k % 3 := by rw [← e]; omega
    rw [i_X8_meter_67]
    simp (disch := omega) only [i_X8_meter_69, i_X8_meter_70, i_X8_meter_73, i_X8_meter_74, i_X8_meter_77, i_X8_meter_79, i_X8_meter_81, i_X8_meter_82, i_X8_meter_83, i_X8_meter_84, i_X8_meter_86, i_X8_meter_87, i_X8_meter_88, i_X8_meter_90, i_X8_meter_93, gh_o32, gh_r33, gh_r41, gh_r42, gh_r43, gh_w41, gh_w42, gh_w43, gh_u32, gp_32_0, gp_32_11, gp_32_13, gf_32_1, gf_32_2, gf_32_11, gf_32_12, gf_32_13, gf_32_14, gf_32_15, gf_32_36, gf_32_37, z_o_i, z_ai_i, z_si_i, z_ab_b, z_ab_z, z_sb_b, z_sb_z, z_al_i, z_al_b, z_pu_s, z_pu_n, nI_toN, z_inN, true_and, and_true, nI_add, pk_mul, vu_eq, vu_ne, nI_leI, nI_ltI, nI_eqI, nI_eq0, nI_le0, ↓ok_0, ↓ok_1, ↓bI_ok, if_true, if_false, ne_eq, not_true_eq_false, not_false_eq_true, nI_m1, nI_1ne, nI_0eq, bI_eq0, bI_ne0, Bool.false_eq_true, iw_nI, decide_true, decide_false, Nat.add_sub_cancel, nI_ge0, nI_lt0, nm_lt, nm_ge, bI_T, bI_F, Nat.one_ne_zero, Nat.zero_ne_one, pk_div, pk_rem, l1, e, z3, pk_sub, md, p1]
    rw [vu_vu]
    exact ih (k + 1) (by omega)
theorem m_meter {n x : Int32} (hM : Mo s A) (hQ : ∀ B, Mo (s_meter s n x).2 B → Fk A B → Q (some (.int (s_meter s n x).1)) (GH B P dy) nx) : XC (d + 1) m_X8_meter [.ref 32, .int n, .int x] (GH A P dy) nx Q := by
  show X (d + 1) m_X8_meter 0 [some (.ref 32), some (.int n), some (.int x), none, none, none] [] (GH A P dy) nx 0 0 Q
  obtain ⟨B, eB, hB, fB⟩ := t0_ex hM
  simp (disch := omega) only [i_X8_meter_0, i_X8_meter_1, i_X8_meter_2, i_X8_meter_5, i_X8_meter_6, i_X8_meter_7, i_X8_meter_8, gh_o32, gh_r33, gh_r41, gh_r42, gh_r43, gh_w41, gh_w42, gh_w43, gh_u32, gp_32_0, gp_32_11, gp_32_13, gf_32_1, gf_32_2, gf_32_11, gf_32_12, gf_32_13, gf_32_14, gf_32_15, gf_32_36, gf_32_37, z_o_i, z_ai_i, z_si_i, z_ab_b, z_ab_z, z_sb_b, z_sb_z, z_al_i, z_al_b, z_pu_s, z_pu_n, nI_toN, z_inN, true_and, and_true, nI_add, pk_mul, vu_eq, vu_ne, nI_leI, nI_ltI, nI_eqI, nI_eq0, nI_le0, ↓ok_0, ↓ok_1, ↓bI_ok, if_true, if_false, ne_eq, not_true_eq_false, not_false_eq_true, nI_m1, nI_1ne, nI_0eq, bI_eq0, bI_ne0, Bool.false_eq_true, iw_nI, decide_true, decide_false, Nat.add_sub_cancel, nI_ge0, nI_lt0, nm_lt, nm_ge, bI_T, bI_F, Nat.one_ne_zero, Nat.zero_ne_one, pk_div, pk_rem, eB]
  unfold s_meter at hQ
  by_cases hn : ir n 1 12 = true
  · obtain ⟨k, k1, k2, rfl⟩ := ir_ex hn
    rw [nI_toN (by omega)] at hQ
    have p3 := p3_le k2
    refine l_meter1 (n := k) k2 ?_ k 0 (by omega)
    have tr : (1 ≤ k ∧ k ≤ 12) = True := by simp only [eq_iff_iff, iff_true]; omega
    by_cases hx : iw x (3 ^ k) = true
    · rw [if_pos ⟨hn, hx⟩] at hQ
      obtain ⟨T, hT, rfl⟩ := iw_ex hx
      rw [nI_toN (by omega)] at hQ
      simp (disch := omega) only [i_X8_meter_33, i_X8_meter_34, i_X8_meter_35, i_X8_meter_36, i_X8_meter_39, i_X8_meter_42, i_X8_meter_45, i_X8_meter_46, i_X8_meter_47, i_X8_meter_48, i_X8_meter_49, i_X8_meter_50, i_X8_meter_51, i_X8_meter_52, i_X8_meter_55, i_X8_meter_61, i_X8_meter_62, i_X8_meter_64, i_X8_meter_65, gh_o32, gh_r33, gh_r41, gh_r42, gh_r43, gh_w41, gh_w42, gh_w43, gh_u32, gp_32_0, gp_32_11, gp_32_13, gf_32_1, gf_32_2, gf_32_11, gf_32_12, gf_32_13, gf_32_14, gf_32_15, gf_32_36, gf_32_37, z_o_i, z_ai_i, z_si_i, z_ab_b, z_ab_z, z_sb_b, z_sb_z, z_al_i, z_al_b, z_pu_s, z_pu_n, nI_toN, z_inN, true_and, and_true, nI_add, pk_mul, vu_eq, vu_ne, nI_leI, nI_ltI, nI_eqI, nI_eq0, nI_le0, ↓ok_0, ↓ok_1, ↓bI_ok, if_true, if_false, ne_eq, not_true_eq_false, not_false_eq_true, nI_m1, nI_1ne, nI_0eq, bI_eq0, bI_ne0, Bool.false_eq_true, iw_nI, decide_true, decide_false, Nat.add_sub_cancel, nI_ge0, nI_lt0, nm_lt, nm_ge, bI_T, bI_F, Nat.one_ne_zero, Nat.zero_ne_one, pk_div, pk_rem, c_inL, c_inN, hn, hT]
      have e1 : va_up B 41 (pt (B 41) (fun i => nI (T / 3 ^ i % 3)) 0 0) = B := by rw [pt_0, vu_self rfl]
      have fin : Q (some (.int (nI k))) (GH (va_up (va_up B 41 (pt (B 41) (fun i => nI (T / 3 ^ i % 3)) 0 k)) 32 (va_up (B 32) 11 (nI k))) P dy) nx := by
        refine hQ _ ⟨?_, hB.2.1, hB.2.2⟩ ((fB.up (by omega)).up (by omega))
        refine (hB.1.u41 (g := pt (s.1 41) (fun i => T / 3 ^ i % 3) 0 k) (fun i => ?_) (fun i => ?_)).f11 ⟨k1, k2⟩
        · unfold pt
          by_cases e : 0 ≤ i ∧ i < 0 + k
          · rw [if_pos e, if_pos e]
          · rw [if_neg e, if_neg e]; exact hB.1.r41 i
        · unfold pt
          by_cases e : 0 ≤ i ∧ i < 0 + k
          · rw [if_pos e]; exact Nat.le_of_lt_succ (Nat.mod_lt _ (by omega))
          · rw [if_neg e]; exact hB.1.b41 i
      have lp := l_meter3 (d := d) (x2 := some (.int (nI T))) (x3 := some (.int (nI (3 ^ k)))) (bc := 0) (bs := 0) k2 (by omega) fin k 0 (by omega)
      rw [e1, Nat.pow_zero, Nat.div_one] at lp
      exact lp
    · rw [if_neg (fun q => hx q.2)] at hQ
      simp (disch := omega) only [i_X8_meter_33, i_X8_meter_34, i_X8_meter_35, i_X8_meter_36, i_X8_meter_39, i_X8_meter_42, i_X8_meter_45, i_X8_meter_46, i_X8_meter_47, i_X8_meter_48, i_X8_meter_49, i_X8_meter_50, i_X8_meter_51, i_X8_meter_52, i_X8_meter_55, i_X8_meter_58, i_X8_meter_60, gh_o32, gh_r33, gh_r41, gh_r42, gh_r43, gh_w41, gh_w42, gh_w43, gh_u32, gp_32_0, gp_32_11, gp_32_13, gf_32_1, gf_32_2, gf_32_11, gf_32_12, gf_32_13, gf_32_14, gf_32_15, gf_32_36, gf_32_37, z_o_i, z_ai_i, z_si_i, z_ab_b, z_ab_z, z_sb_b, z_sb_z, z_al_i, z_al_b, z_pu_s, z_pu_n, nI_toN, z_inN, true_and, and_true, nI_add, pk_mul, vu_eq, vu_ne, nI_leI, nI_ltI, nI_eqI, nI_eq0, nI_le0, ↓ok_0, ↓ok_1, ↓bI_ok, if_true, if_false, ne_eq, not_true_eq_false, not_false_eq_true, nI_m1, nI_1ne, nI_0eq, bI_eq0, bI_ne0, Bool.false_eq_true, iw_nI, decide_true, decide_false, Nat.add_sub_cancel, nI_ge0, nI_lt0, nm_lt, nm_ge, bI_T, bI_F, Nat.one_ne_zero, Nat.zero_ne_one, pk_div, pk_rem, c_inL, c_inN, hn, hx]
      exact hQ B hB fB
  · rw [if_neg (fun q => hn q.1)] at hQ
    exact l_meter2 hn (hQ B hB fB) 12 0 _ (by omega)
/-- digits to the base 24 -/
def okL (W : Nat) : Nat → Nat → Bool
  | 0, T => decide (T = 0)
  | n + 1, T => decide (T % 24 < W) && okL W n (T / 24)
theorem okL_dg {W : Nat} : ∀ (n T : Nat), okL W n T = true → ∀ k, k < n → T / 24 ^ k % 24 < W := by
  intro n
  induction n with
  | zero => intro T _ k hk; omega
  | succ n ih =>
    intro T h k hk
    simp only [okL, Bool.and_eq_true, decide_eq_true_eq] at h
    cases k with
    | zero => rw [Nat.pow_zero, Nat.div_one]; exact h.1
    | succ k =>
      have := ih (T / 24) h.2 k (by omega)
      rw [Nat.div_div_eq_div_mul] at this
      rw [Nat.pow_succ, Nat.mul_comm]
      exact this
def nL (a : Nat → Nat → Nat) (n T : Nat) : Nat → Nat → Nat := va_up (va_up (va_up a 43 (pt (a 43) (fun i => T / 24 ^ i % 24) (8 * a 32 13) n)) 42 (va_up (a 42) (a 32 13) n)) 32 (va_up (a 32) 13 (a 32 13 + 1))
def s_line (s : z_S) (n : Int32) (t : Int64) : Int32 × z_S :=
  if ir n 1 8 = true ∧ 0 ≤ t.toInt ∧ okL (s.1 32 1) n.toNatClampNeg t.toInt.toNat = true then
    (if s.1 32 13 = 16 then (-5, s) else (nI (s.1 32 13), (nL s.1 n.toNatClampNeg t.toInt.toNat, s.2))) else (-3, s)
theorem l_line1 {n W : Nat} {A : Nat → Nat → Int32} {x2 x3 : Option Value} (hn : n ≤ 8) (r1 : A 32 1 = nI W) (hW : W ≤ 24) : ∀ (m k T : Nat), k + m = n → T < 9223372036854775808 → (¬ okL W m T = true → Q (some (.int (-3))) (GH A P dy) nx) → (okL W m T = true → X (d + 1) m_X8_line 80 [some (.ref 32), some (.int (nI n)), x2, x3, some (.long (lN 0)), none, some (.int (nI n))] [] (GH A P dy) nx bc bs Q) → X (d + 1) m_X8_line 32 [some (.ref 32), some (.int (nI n)), x2, x3, some (.long (lN T)), none, some (.int (nI k))] [] (GH A P dy) nx bc bs Q := by
  intro m
  induction m with
  | zero =>
    intro k T hk hT hB hQ
    have e : k = n := by omega
    subst e
    by_cases z : T ≤ 0
    · have z' : T = 0 := by omega
      subst z'
      simp (disch := omega) only [i_X8_line_32, i_X8_line_34, i_X8_line_35, i_X8_line_70, i_X8_line_72, i_X8_line_73, i_X8_line_74, gh_o32, gh_r33, gh_r41, gh_r42, gh_r43, gh_w41, gh_w42, gh_w43, gh_u32, gp_32_0, gp_32_11, gp_32_13, gf_32_1, gf_32_2, gf_32_11, gf_32_12, gf_32_13, gf_32_14, gf_32_15, gf_32_36, gf_32_37, z_o_i, z_ai_i, z_si_i, z_ab_b, z_ab_z, z_sb_b, z_sb_z, z_al_i, z_al_b, z_pu_s, z_pu_n, nI_toN, z_inN, true_and, and_true, nI_add, pk_mul, vu_eq, vu_ne, nI_leI, nI_ltI, nI_eqI, nI_eq0, nI_le0, ↓ok_0, ↓ok_1, ↓bI_ok, if_true, if_false, ne_eq, not_true_eq_false, not_false_eq_true, nI_m1, nI_1ne, nI_0eq, bI_eq0, bI_ne0, Bool.false_eq_true, iw_nI, decide_true, decide_false, Nat.add_sub_cancel, nI_ge0, nI_lt0, nm_lt, nm_ge, bI_T, bI_F, Nat.one_ne_zero, Nat.zero_ne_one, pk_div, pk_rem, lc_le, lB_le, Nat.le_refl]
      exact hQ rfl
    · simp (disch := omega) only [i_X8_line_32, i_X8_line_34, i_X8_line_35, i_X8_line_70, i_X8_line_72, i_X8_line_73, i_X8_line_74, i_X8_line_77, i_X8_line_79, gh_o32, gh_r33, gh_r41, gh_r42, gh_r43, gh_w41, gh_w42, gh_w43, gh_u32, gp_32_0, gp_32_11, gp_32_13, gf_32_1, gf_32_2, gf_32_11, gf_32_12, gf_32_13, gf_32_14, gf_32_15, gf_32_36, gf_32_37, z_o_i, z_ai_i, z_si_i, z_ab_b, z_ab_z, z_sb_b, z_sb_z, z_al_i, z_al_b, z_pu_s, z_pu_n, nI_toN, z_inN, true_and, and_true, nI_add, pk_mul, vu_eq, vu_ne, nI_leI, nI_ltI, nI_eqI, nI_eq0, nI_le0, ↓ok_0, ↓ok_1, ↓bI_ok, if_true, if_false, ne_eq, not_true_eq_false, not_false_eq_true, nI_m1, nI_1ne, nI_0eq, bI_eq0, bI_ne0, Bool.false_eq_true, iw_nI, decide_true, decide_false, Nat.add_sub_cancel, nI_ge0, nI_lt0, nm_lt, nm_ge, bI_T, bI_F, Nat.one_ne_zero, Nat.zero_ne_one, pk_div, pk_rem, lc_le, lB_le, Nat.le_refl, z]
      exact hB (by simp [okL]; omega)
  | succ m ih =>
    intro k T hk hT hB hQ
    have l1 : ¬ n ≤ k := by omega
    rw [i_X8_line_32]
    by_cases c : T % 24 < W
    · simp (disch := omega) only [i_X8_line_34, i_X8_line_35, i_X8_line_38, i_X8_line_40, i_X8_line_43, i_X8_line_44, i_X8_line_45, i_X8_line_48, i_X8_line_49, i_X8_line_50, i_X8_line_56, i_X8_line_58, i_X8_line_61, i_X8_line_62, i_X8_line_64, i_X8_line_67, gh_o32, gh_r33, gh_r41, gh_r42, gh_r43, gh_w41, gh_w42, gh_w43, gh_u32, gp_32_0, gp_32_11, gp_32_13, gf_32_1, gf_32_2, gf_32_11, gf_32_12, gf_32_13, gf_32_14, gf_32_15, gf_32_36, gf_32_37, z_o_i, z_ai_i, z_si_i, z_ab_b, z_ab_z, z_sb_b, z_sb_z, z_al_i, z_al_b, z_pu_s, z_pu_n, nI_toN, z_inN, true_and, and_true, nI_add, pk_mul, vu_eq, vu_ne, nI_leI, nI_ltI, nI_eqI, nI_eq0, nI_le0, ↓ok_0, ↓ok_1, ↓bI_ok, if_true, if_false, ne_eq, not_true_eq_false, not_false_eq_true, nI_m1, nI_1ne, nI_0eq, bI_eq0, bI_ne0, Bool.false_eq_true, iw_nI, decide_true, decide_false, Nat.add_sub_cancel, nI_ge0, nI_lt0, nm_lt, nm_ge, bI_T, bI_F, Nat.one_ne_zero, Nat.zero_ne_one, pk_div, pk_rem, lc_lt, lB_lt, lB_div, lB_rem, lB_24, lB_l, r1, l1, c]
      exact ih (k + 1) (T / 24) (by omega) (by omega) (fun q => hB (by simp [okL, c, q])) (fun q => hQ (by simp [okL, c, q]))
    · simp (disch := omega) only [i_X8_line_34, i_X8_line_35, i_X8_line_38, i_X8_line_40, i_X8_line_43, i_X8_line_44, i_X8_line_45, i_X8_line_48, i_X8_line_49, i_X8_line_50, i_X8_line_53, i_X8_line_55, gh_o32, gh_r33, gh_r41, gh_r42, gh_r43, gh_w41, gh_w42, gh_w43, gh_u32, gp_32_0, gp_32_11, gp_32_13, gf_32_1, gf_32_2, gf_32_11, gf_32_12, gf_32_13, gf_32_14, gf_32_15, gf_32_36, gf_32_37, z_o_i, z_ai_i, z_si_i, z_ab_b, z_ab_z, z_sb_b, z_sb_z, z_al_i, z_al_b, z_pu_s, z_pu_n, nI_toN, z_inN, true_and, and_true, nI_add, pk_mul, vu_eq, vu_ne, nI_leI, nI_ltI, nI_eqI, nI_eq0, nI_le0, ↓ok_0, ↓ok_1, ↓bI_ok, if_true, if_false, ne_eq, not_true_eq_false, not_false_eq_true, nI_m1, nI_1ne, nI_0eq, bI_eq0, bI_ne0, Bool.false_eq_true, iw_nI, decide_true, decide_false, Nat.add_sub_cancel, nI_ge0, nI_lt0, nm_lt, nm_ge, bI_T, bI_F, Nat.one_ne_zero, Nat.zero_ne_one, pk_div, pk_rem, lc_lt, lB_lt, lB_div, lB_rem, lB_24, lB_l, r1, l1, c]
      exact hB (by simp [okL, c])
theorem l_line2 {n T l : Nat} {A : Nat → Nat → Int32} {x2 x3 : Option Value} {f : Nat → Int32} (hn : 1 ≤ n ∧ n ≤ 8) (hT : T < 9223372036854775808) (hl : l < 16) (r13 : A 32 13 = nI l) (hQ : Q (some (.int (nI l))) (GH (va_up (va_up (va_up A 43 (pt f (fun i => nI (T / 24 ^ i % 24)) (8 * l) n)) 42 (va_up (A 42) l (nI n))) 32 (va_up (A 32) 13 (nI (l + 1)))) P dy) nx) : ∀ (m k : Nat), k + m = n → X (d + 1) m_X8_line 98 [some (.ref 32), some (.int (nI n)), x2, x3, some (.long (lN (T / 24 ^ k))), none, some (.int (nI k))] [] (GH (va_up A 43 (pt f (fun i => nI (T / 24 ^ i % 24)) (8 * l) k)) P dy) nx bc bs Q := by
  intro m
  induction m with
  | zero =>
    intro k hk
    have e : k = n := by omega
    subst e
    simp (disch := omega) only [i_X8_line_98, i_X8_line_100, i_X8_line_101, i_X8_line_140, i_X8_line_141, i_X8_line_144, i_X8_line_145, i_X8_line_148, i_X8_line_149, i_X8_line_150, i_X8_line_151, i_X8_line_152, i_X8_line_155, i_X8_line_156, i_X8_line_157, i_X8_line_160, i_X8_line_161, i_X8_line_164, i_X8_line_165, i_X8_line_166, gh_o32, gh_r33, gh_r41, gh_r42, gh_r43, gh_w41, gh_w42, gh_w43, gh_u32, gp_32_0, gp_32_11, gp_32_13, gf_32_1, gf_32_2, gf_32_11, gf_32_12, gf_32_13, gf_32_14, gf_32_15, gf_32_36, gf_32_37, z_o_i, z_ai_i, z_si_i, z_ab_b, z_ab_z, z_sb_b, z_sb_z, z_al_i, z_al_b, z_pu_s, z_pu_n, nI_toN, z_inN, true_and, and_true, nI_add, pk_mul, vu_eq, vu_ne, nI_leI, nI_ltI, nI_eqI, nI_eq0, nI_le0, ↓ok_0, ↓ok_1, ↓bI_ok, if_true, if_false, ne_eq, not_true_eq_false, not_false_eq_true, nI_m1, nI_1ne, nI_0eq, bI_eq0, bI_ne0, Bool.false_eq_true, iw_nI, decide_true, decide_false, Nat.add_sub_cancel, nI_ge0, nI_lt0, nm_lt, nm_ge, bI_T, bI_F, Nat.one_ne_zero, Nat.zero_ne_one, pk_div, pk_rem, Nat.le_refl, r13, pk_sub]
    exact hQ
  | succ m ih =>
    intro k hk
    have l1 : ¬ n ≤ k := by omega
    have lt : T / 24 ^ k < 9223372036854775808 := Nat.lt_of_le_of_lt (Nat.div_le_self _ _) hT
    have e : T / 24 ^ k / 24 = T / 24 ^ (k + 1) := by rw [Nat.div_div_eq_div_mul, Nat.pow_succ]
    have p1 := pt_succ f (fun i => nI (T / 24 ^ i % 24)) (8 * l) k (v := nI (T / 24 ^ k % 24)) rfl
    rw [i_X8_line_98]
    simp (disch := omega) only [i_X8_line_100, i_X8_line_101, i_X8_line_104, i_X8_line_105, i_X8_line_108, i_X8_line_110, i_X8_line_111, i_X8_line_114, i_X8_line_115, i_X8_line_117, i_X8_line_118, i_X8_line_120, i_X8_line_123, i_X8_line_124, i_X8_line_125, i_X8_line_126, i_X8_line_128, i_X8_line_131, i_X8_line_132, i_X8_line_134, i_X8_line_137, gh_o32, gh_r33, gh_r41, gh_r42, gh_r43, gh_w41, gh_w42, gh_w43, gh_u32, gp_32_0, gp_32_11, gp_32_13, gf_32_1, gf_32_2, gf_32_11, gf_32_12, gf_32_13, gf_32_14, gf_32_15, gf_32_36, gf_32_37, z_o_i, z_ai_i, z_si_i, z_ab_b, z_ab_z, z_sb_b, z_sb_z, z_al_i, z_al_b, z_pu_s, z_pu_n, nI_toN, z_inN, true_and, and_true, nI_add, pk_mul, vu_eq, vu_ne, nI_leI, nI_ltI, nI_eqI, nI_eq0, nI_le0, ↓ok_0, ↓ok_1, ↓bI_ok, if_true, if_false, ne_eq, not_true_eq_false, not_false_eq_true, nI_m1, nI_1ne, nI_0eq, bI_eq0, bI_ne0, Bool.false_eq_true, iw_nI, decide_true, decide_false, Nat.add_sub_cancel, nI_ge0, nI_lt0, nm_lt, nm_ge, bI_T, bI_F, Nat.one_ne_zero, Nat.zero_ne_one, pk_div, pk_rem, lB_div, lB_rem, lB_24, lN_i, r13, l1, p1]
    rw [vu_vu, e]
    exact ih (k + 1) (by omega)
theorem iw_line {s : z_S} {n T : Nat} (hb : ∀ l, s.1 42 l ≤ 8) (hI : Iw s) (hn : 1 ≤ n) (ok : okL (s.1 32 1) n T = true) : Iw (nL s.1 n T, s.2) := by
  obtain ⟨h1, h2, h3, h4, h5⟩ := hI
  refine ⟨h1, fun l hl => ?_, h3, fun k hk => Nat.le_trans (h4 k hk) (Nat.le_succ _), h5⟩
  have hl' : l < s.1 32 13 + 1 := hl
  show 1 ≤ va_up (s.1 42) (s.1 32 13) n l ∧ ∀ i, i < va_up (s.1 42) (s.1 32 13) n l → pt (s.1 43) (fun i => T / 24 ^ i % 24) (8 * s.1 32 13) n (8 * l + i) < s.1 32 1
  by_cases e : l = s.1 32 13
  · subst e
    rw [vu_eq]
    refine ⟨hn, fun i hi => ?_⟩
    rw [pt_in (by omega) (by omega), Nat.add_sub_cancel_left]
    exact okL_dg n T ok i hi
  · rw [vu_ne e]
    have b := h2 l (by omega)
    refine ⟨b.1, fun i hi => ?_⟩
    have b42 := hb l
    rw [pt_out (by omega)]
    exact b.2 i hi
theorem m_line {n : Int32} {t : Int64} (hM : Mo s A) (hQ : ∀ B, Mo (s_line s n t).2 B → Fk A B → Q (some (.int (s_line s n t).1)) (GH B P dy) nx) : XC (d + 1) m_X8_line [.ref 32, .int n, .long t] (GH A P dy) nx Q := by
  show X (d + 1) m_X8_line 0 [some (.ref 32), some (.int n), some (.long t), none, none, none, none] [] (GH A P dy) nx 0 0 Q
  obtain ⟨B, eB, hB, fB⟩ := t0_ex hM
  simp (disch := omega) only [i_X8_line_0, i_X8_line_1, i_X8_line_2, gh_o32, gh_r33, gh_r41, gh_r42, gh_r43, gh_w41, gh_w42, gh_w43, gh_u32, gp_32_0, gp_32_11, gp_32_13, gf_32_1, gf_32_2, gf_32_11, gf_32_12, gf_32_13, gf_32_14, gf_32_15, gf_32_36, gf_32_37, z_o_i, z_ai_i, z_si_i, z_ab_b, z_ab_z, z_sb_b, z_sb_z, z_al_i, z_al_b, z_pu_s, z_pu_n, nI_toN, z_inN, true_and, and_true, nI_add, pk_mul, vu_eq, vu_ne, nI_leI, nI_ltI, nI_eqI, nI_eq0, nI_le0, ↓ok_0, ↓ok_1, ↓bI_ok, if_true, if_false, ne_eq, not_true_eq_false, not_false_eq_true, nI_m1, nI_1ne, nI_0eq, bI_eq0, bI_ne0, Bool.false_eq_true, iw_nI, decide_true, decide_false, Nat.add_sub_cancel, nI_ge0, nI_lt0, nm_lt, nm_ge, bI_T, bI_F, Nat.one_ne_zero, Nat.zero_ne_one, pk_div, pk_rem, eB]
  have sc := hB.1.sc
  have r1 := hB.1.q1
  have r13 := hB.1.q13
  unfold s_line at hQ
  by_cases hn : ir n 1 8 = true
  · obtain ⟨k, k1, k2, rfl⟩ := ir_ex hn
    rw [nI_toN (by omega)] at hQ
    by_cases ht : 0 ≤ t.toInt
    · obtain ⟨T, hT, rfl⟩ := lB_ex ht
      rw [lB_nat hT] at hQ
      simp (disch := omega) only [i_X8_line_5, i_X8_line_6, i_X8_line_7, i_X8_line_8, i_X8_line_11, i_X8_line_14, i_X8_line_17, i_X8_line_18, i_X8_line_19, i_X8_line_20, i_X8_line_26, i_X8_line_27, i_X8_line_29, i_X8_line_30, gh_o32, gh_r33, gh_r41, gh_r42, gh_r43, gh_w41, gh_w42, gh_w43, gh_u32, gp_32_0, gp_32_11, gp_32_13, gf_32_1, gf_32_2, gf_32_11, gf_32_12, gf_32_13, gf_32_14, gf_32_15, gf_32_36, gf_32_37, z_o_i, z_ai_i, z_si_i, z_ab_b, z_ab_z, z_sb_b, z_sb_z, z_al_i, z_al_b, z_pu_s, z_pu_n, nI_toN, z_inN, true_and, and_true, nI_add, pk_mul, vu_eq, vu_ne, nI_leI, nI_ltI, nI_eqI, nI_eq0, nI_le0, ↓ok_0, ↓ok_1, ↓bI_ok, if_true, if_false, ne_eq, not_true_eq_false, not_false_eq_true, nI_m1, nI_1ne, nI_0eq, bI_eq0, bI_ne0, Bool.false_eq_true, iw_nI, decide_true, decide_false, Nat.add_sub_cancel, nI_ge0, nI_lt0, nm_lt, nm_ge, bI_T, bI_F, Nat.one_ne_zero, Nat.zero_ne_one, pk_div, pk_rem, c_inL, hn, lc_ge, lB_le, Nat.zero_le]
      by_cases ok : okL (s.1 32 1) k T = true
      · rw [if_pos ⟨hn, ht, ok⟩] at hQ
        refine l_line1 k2 r1 sc.1 k 0 T (by omega) hT (fun z => absurd ok z) (fun _ => ?_)
        · by_cases l16 : s.1 32 13 = 16
          · rw [if_pos l16] at hQ
            simp (disch := omega) only [i_X8_line_80, i_X8_line_81, i_X8_line_84, i_X8_line_86, i_X8_line_89, i_X8_line_91, gh_o32, gh_r33, gh_r41, gh_r42, gh_r43, gh_w41, gh_w42, gh_w43, gh_u32, gp_32_0, gp_32_11, gp_32_13, gf_32_1, gf_32_2, gf_32_11, gf_32_12, gf_32_13, gf_32_14, gf_32_15, gf_32_36, gf_32_37, z_o_i, z_ai_i, z_si_i, z_ab_b, z_ab_z, z_sb_b, z_sb_z, z_al_i, z_al_b, z_pu_s, z_pu_n, nI_toN, z_inN, true_and, and_true, nI_add, pk_mul, vu_eq, vu_ne, nI_leI, nI_ltI, nI_eqI, nI_eq0, nI_le0, ↓ok_0, ↓ok_1, ↓bI_ok, if_true, if_false, ne_eq, not_true_eq_false, not_false_eq_true, nI_m1, nI_1ne, nI_0eq, bI_eq0, bI_ne0, Bool.false_eq_true, iw_nI, decide_true, decide_false, Nat.add_sub_cancel, nI_ge0, nI_lt0, nm_lt, nm_ge, bI_T, bI_F, Nat.one_ne_zero, Nat.zero_ne_one, pk_div, pk_rem, r13, l16]
            exact hQ B hB fB
          · rw [if_neg l16] at hQ
            simp (disch := omega) only [i_X8_line_80, i_X8_line_81, i_X8_line_84, i_X8_line_86, i_X8_line_92, i_X8_line_93, i_X8_line_95, i_X8_line_96, gh_o32, gh_r33, gh_r41, gh_r42, gh_r43, gh_w41, gh_w42, gh_w43, gh_u32, gp_32_0, gp_32_11, gp_32_13, gf_32_1, gf_32_2, gf_32_11, gf_32_12, gf_32_13, gf_32_14, gf_32_15, gf_32_36, gf_32_37, z_o_i, z_ai_i, z_si_i, z_ab_b, z_ab_z, z_sb_b, z_sb_z, z_al_i, z_al_b, z_pu_s, z_pu_n, nI_toN, z_inN, true_and, and_true, nI_add, pk_mul, vu_eq, vu_ne, nI_leI, nI_ltI, nI_eqI, nI_eq0, nI_le0, ↓ok_0, ↓ok_1, ↓bI_ok, if_true, if_false, ne_eq, not_true_eq_false, not_false_eq_true, nI_m1, nI_1ne, nI_0eq, bI_eq0, bI_ne0, Bool.false_eq_true, iw_nI, decide_true, decide_false, Nat.add_sub_cancel, nI_ge0, nI_lt0, nm_lt, nm_ge, bI_T, bI_F, Nat.one_ne_zero, Nat.zero_ne_one, pk_div, pk_rem, r13, l16]
            have e1 : va_up B 43 (pt (B 43) (fun i => nI (T / 24 ^ i % 24)) (8 * s.1 32 13) 0) = B := by rw [pt_0, vu_self rfl]
            have fin : Q (some (.int (nI (s.1 32 13)))) (GH (va_up (va_up (va_up B 43 (pt (B 43) (fun i => nI (T / 24 ^ i % 24)) (8 * s.1 32 13) k)) 42 (va_up (B 42) (s.1 32 13) (nI k))) 32 (va_up (B 32) 13 (nI (s.1 32 13 + 1)))) P dy) nx := by
              refine hQ _ ⟨?_, hB.2.1, iw_line hB.1.b42 hB.2.2 k1 ok⟩ (((fB.up (by omega)).up (by omega)).up (by omega))
              refine ((hB.1.u43 (g := pt (s.1 43) (fun i => T / 24 ^ i % 24) (8 * s.1 32 13) k) (fun i => ?_) (fun i => ?_)).u42 (vs_rn hB.1.r42 rfl) (vs_le hB.1.b42 (by omega))).f13 (v := s.1 32 13 + 1) (by omega)
              · unfold pt
                by_cases e : 8 * s.1 32 13 ≤ i ∧ i < 8 * s.1 32 13 + k
                · rw [if_pos e, if_pos e]
                · rw [if_neg e, if_neg e]; exact hB.1.r43 i
              · unfold pt
                by_cases e : 8 * s.1 32 13 ≤ i ∧ i < 8 * s.1 32 13 + k
                · rw [if_pos e]; exact Nat.mod_lt _ (by omega)
                · rw [if_neg e]; exact hB.1.b43 i
            have lp := l_line2 (d := d) (x2 := some (.long (lN T))) (x3 := none) (bc := 0) (bs := 0) ⟨k1, k2⟩ hT (by omega) r13 fin k 0 (by omega)
            rw [e1, Nat.pow_zero, Nat.div_one] at lp
            exact lp
      · rw [if_neg (fun q => ok q.2.2)] at hQ
        exact l_line1 k2 r1 sc.1 k 0 T (by omega) hT (fun _ => hQ B hB fB) (fun q => absurd q ok)
    · rw [if_neg (fun q => ht q.2.1)] at hQ
      have t0 : ¬ lN 0 ≤ t := by
        rw [Int64.le_iff_toInt_le, lB_toInt (by omega)]
        exact ht
      simp (disch := omega) only [i_X8_line_5, i_X8_line_6, i_X8_line_7, i_X8_line_8, i_X8_line_11, i_X8_line_14, i_X8_line_17, i_X8_line_18, i_X8_line_19, i_X8_line_20, i_X8_line_23, i_X8_line_25, gh_o32, gh_r33, gh_r41, gh_r42, gh_r43, gh_w41, gh_w42, gh_w43, gh_u32, gp_32_0, gp_32_11, gp_32_13, gf_32_1, gf_32_2, gf_32_11, gf_32_12, gf_32_13, gf_32_14, gf_32_15, gf_32_36, gf_32_37, z_o_i, z_ai_i, z_si_i, z_ab_b, z_ab_z, z_sb_b, z_sb_z, z_al_i, z_al_b, z_pu_s, z_pu_n, nI_toN, z_inN, true_and, and_true, nI_add, pk_mul, vu_eq, vu_ne, nI_leI, nI_ltI, nI_eqI, nI_eq0, nI_le0, ↓ok_0, ↓ok_1, ↓bI_ok, if_true, if_false, ne_eq, not_true_eq_false, not_false_eq_true, nI_m1, nI_1ne, nI_0eq, bI_eq0, bI_ne0, Bool.false_eq_true, iw_nI, decide_true, decide_false, Nat.add_sub_cancel, nI_ge0, nI_lt0, nm_lt, nm_ge, bI_T, bI_F, Nat.one_ne_zero, Nat.zero_ne_one, pk_div, pk_rem, c_inL, hn, lc_ge, t0]
      exact hQ B hB fB
  · rw [if_neg (fun q => hn q.1)] at hQ
    simp (disch := omega) only [i_X8_line_5, i_X8_line_6, i_X8_line_7, i_X8_line_8, i_X8_line_11, i_X8_line_14, i_X8_line_23, i_X8_line_25, gh_o32, gh_r33, gh_r41, gh_r42, gh_r43, gh_w41, gh_w42, gh_w43, gh_u32, gp_32_0, gp_32_11, gp_32_13, gf_32_1, gf_32_2, gf_32_11, gf_32_12, gf_32_13, gf_32_14, gf_32_15, gf_32_36, gf_32_37, z_o_i, z_ai_i, z_si_i, z_ab_b, z_ab_z, z_sb_b, z_sb_z, z_al_i, z_al_b, z_pu_s, z_pu_n, nI_toN, z_inN, true_and, and_true, nI_add, pk_mul, vu_eq, vu_ne, nI_leI, nI_ltI, nI_eqI, nI_eq0, nI_le0, ↓ok_0, ↓ok_1, ↓bI_ok, if_true, if_false, ne_eq, not_true_eq_false, not_false_eq_true, nI_m1, nI_1ne, nI_0eq, bI_eq0, bI_ne0, Bool.false_eq_true, iw_nI, decide_true, decide_false, Nat.add_sub_cancel, nI_ge0, nI_lt0, nm_lt, nm_ge, bI_T, bI_F, Nat.one_ne_zero, Nat.zero_ne_one, pk_div, pk_rem, c_inL, hn]
    exact hQ B hB fB
def s_inLine (s : z_S) (l i : Int32) : Int32 := if iw l (s.1 32 13) = true ∧ iw i 2147483648 = true then (if i.toNatClampNeg < s.1 42 l.toNatClampNeg then nI (s.1 43 (8 * l.toNatClampNeg + i.toNatClampNeg)) else -1) else -3
theorem m_inLine {l i : Int32} (hM : Mo s A) (hQ : ∀ B, Mo s B → Fk A B → Q (some (.int (s_inLine s l i))) (GH B P dy) nx) : XC (d + 2) m_X8_inLine [.ref 32, .int l, .int i] (GH A P dy) nx Q := by
  show X (d + 2) m_X8_inLine 0 [some (.ref 32), some (.int l), some (.int i)] [] (GH A P dy) nx 0 0 Q
  obtain ⟨B, eB, hB, fB⟩ := t0_ex hM
  simp (disch := omega) only [i_X8_inLine_0, i_X8_inLine_1, i_X8_inLine_2, gh_o32, gh_r33, gh_r41, gh_r42, gh_r43, gh_w41, gh_w42, gh_w43, gh_u32, gp_32_0, gp_32_11, gp_32_13, gf_32_1, gf_32_2, gf_32_11, gf_32_12, gf_32_13, gf_32_14, gf_32_15, gf_32_36, gf_32_37, z_o_i, z_ai_i, z_si_i, z_ab_b, z_ab_z, z_sb_b, z_sb_z, z_al_i, z_al_b, z_pu_s, z_pu_n, nI_toN, z_inN, true_and, and_true, nI_add, pk_mul, vu_eq, vu_ne, nI_leI, nI_ltI, nI_eqI, nI_eq0, nI_le0, ↓ok_0, ↓ok_1, ↓bI_ok, if_true, if_false, ne_eq, not_true_eq_false, not_false_eq_true, nI_m1, nI_1ne, nI_0eq, bI_eq0, bI_ne0, Bool.false_eq_true, iw_nI, decide_true, decide_false, Nat.add_sub_cancel, nI_ge0, nI_lt0, nm_lt, nm_ge, bI_T, bI_F, Nat.one_ne_zero, Nat.zero_ne_one, pk_div, pk_rem, eB]
  have iL : ∀ {d nx : Nat} {Q : z_Q} {x : Int32}, XC (d + 1) m_X8_isLine [.ref 32, .int x] (GH B P dy) nx Q = Q (some (.int (bI (iw x (s.1 32 13) = true)))) (GH B P dy) nx := c_isLine hB
  have sc := hB.1.sc
  unfold s_inLine at hQ
  by_cases hl : iw l (s.1 32 13) = true
  · by_cases hi : iw i 2147483648 = true
    · rw [if_pos ⟨hl, hi⟩] at hQ
      obtain ⟨a, h1, rfl⟩ := iw_ex hl
      obtain ⟨b, h2, rfl⟩ := iw_ex hi
      rw [nI_toN (by omega), nI_toN (by omega)] at hQ
      have r42 := hB.1.r42 a
      have b42 := hB.1.b42 a
      have r43 := hB.1.r43 (8 * a + b)
      by_cases c : b < s.1 42 a
      · rw [if_pos c] at hQ
        have c' : ¬ s.1 42 a ≤ b := by omega
        simp (disch := omega) only [i_X8_inLine_5, i_X8_inLine_6, i_X8_inLine_7, i_X8_inLine_10, i_X8_inLine_13, i_X8_inLine_14, i_X8_inLine_20, i_X8_inLine_21, i_X8_inLine_22, i_X8_inLine_25, i_X8_inLine_26, i_X8_inLine_27, i_X8_inLine_30, i_X8_inLine_31, i_X8_inLine_34, i_X8_inLine_36, i_X8_inLine_37, i_X8_inLine_38, i_X8_inLine_39, i_X8_inLine_40, i_X8_inLine_41, i_X8_inLine_44, i_X8_inLine_45, gh_o32, gh_r33, gh_r41, gh_r42, gh_r43, gh_w41, gh_w42, gh_w43, gh_u32, gp_32_0, gp_32_11, gp_32_13, gf_32_1, gf_32_2, gf_32_11, gf_32_12, gf_32_13, gf_32_14, gf_32_15, gf_32_36, gf_32_37, z_o_i, z_ai_i, z_si_i, z_ab_b, z_ab_z, z_sb_b, z_sb_z, z_al_i, z_al_b, z_pu_s, z_pu_n, nI_toN, z_inN, true_and, and_true, nI_add, pk_mul, vu_eq, vu_ne, nI_leI, nI_ltI, nI_eqI, nI_eq0, nI_le0, ↓ok_0, ↓ok_1, ↓bI_ok, if_true, if_false, ne_eq, not_true_eq_false, not_false_eq_true, nI_m1, nI_1ne, nI_0eq, bI_eq0, bI_ne0, Bool.false_eq_true, iw_nI, decide_true, decide_false, Nat.add_sub_cancel, nI_ge0, nI_lt0, nm_lt, nm_ge, bI_T, bI_F, Nat.one_ne_zero, Nat.zero_ne_one, pk_div, pk_rem, iL, h1, r42, r43, c']
        exact hQ B hB fB
      · rw [if_neg c] at hQ
        have c' : s.1 42 a ≤ b := by omega
        simp (disch := omega) only [i_X8_inLine_5, i_X8_inLine_6, i_X8_inLine_7, i_X8_inLine_10, i_X8_inLine_13, i_X8_inLine_14, i_X8_inLine_20, i_X8_inLine_21, i_X8_inLine_22, i_X8_inLine_25, i_X8_inLine_26, i_X8_inLine_27, i_X8_inLine_44, i_X8_inLine_45, gh_o32, gh_r33, gh_r41, gh_r42, gh_r43, gh_w41, gh_w42, gh_w43, gh_u32, gp_32_0, gp_32_11, gp_32_13, gf_32_1, gf_32_2, gf_32_11, gf_32_12, gf_32_13, gf_32_14, gf_32_15, gf_32_36, gf_32_37, z_o_i, z_ai_i, z_si_i, z_ab_b, z_ab_z, z_sb_b, z_sb_z, z_al_i, z_al_b, z_pu_s, z_pu_n, nI_toN, z_inN, true_and, and_true, nI_add, pk_mul, vu_eq, vu_ne, nI_leI, nI_ltI, nI_eqI, nI_eq0, nI_le0, ↓ok_0, ↓ok_1, ↓bI_ok, if_true, if_false, ne_eq, not_true_eq_false, not_false_eq_true, nI_m1, nI_1ne, nI_0eq, bI_eq0, bI_ne0, Bool.false_eq_true, iw_nI, decide_true, decide_false, Nat.add_sub_cancel, nI_ge0, nI_lt0, nm_lt, nm_ge, bI_T, bI_F, Nat.one_ne_zero, Nat.zero_ne_one, pk_div, pk_rem, iL, h1, r42, c']
        exact hQ B hB fB
    · rw [if_neg (fun q => hi q.2)] at hQ
      rw [iw_0] at hi
      simp (disch := omega) only [i_X8_inLine_5, i_X8_inLine_6, i_X8_inLine_7, i_X8_inLine_10, i_X8_inLine_13, i_X8_inLine_14, i_X8_inLine_17, i_X8_inLine_19, gh_o32, gh_r33, gh_r41, gh_r42, gh_r43, gh_w41, gh_w42, gh_w43, gh_u32, gp_32_0, gp_32_11, gp_32_13, gf_32_1, gf_32_2, gf_32_11, gf_32_12, gf_32_13, gf_32_14, gf_32_15, gf_32_36, gf_32_37, z_o_i, z_ai_i, z_si_i, z_ab_b, z_ab_z, z_sb_b, z_sb_z, z_al_i, z_al_b, z_pu_s, z_pu_n, nI_toN, z_inN, true_and, and_true, nI_add, pk_mul, vu_eq, vu_ne, nI_leI, nI_ltI, nI_eqI, nI_eq0, nI_le0, ↓ok_0, ↓ok_1, ↓bI_ok, if_true, if_false, ne_eq, not_true_eq_false, not_false_eq_true, nI_m1, nI_1ne, nI_0eq, bI_eq0, bI_ne0, Bool.false_eq_true, iw_nI, decide_true, decide_false, Nat.add_sub_cancel, nI_ge0, nI_lt0, nm_lt, nm_ge, bI_T, bI_F, Nat.one_ne_zero, Nat.zero_ne_one, pk_div, pk_rem, iL, hl, hi]
      exact hQ B hB fB
  · rw [if_neg (fun q => hl q.1)] at hQ
    simp (disch := omega) only [i_X8_inLine_5, i_X8_inLine_6, i_X8_inLine_7, i_X8_inLine_10, i_X8_inLine_17, i_X8_inLine_19, gh_o32, gh_r33, gh_r41, gh_r42, gh_r43, gh_w41, gh_w42, gh_w43, gh_u32, gp_32_0, gp_32_11, gp_32_13, gf_32_1, gf_32_2, gf_32_11, gf_32_12, gf_32_13, gf_32_14, gf_32_15, gf_32_36, gf_32_37, z_o_i, z_ai_i, z_si_i, z_ab_b, z_ab_z, z_sb_b, z_sb_z, z_al_i, z_al_b, z_pu_s, z_pu_n, nI_toN, z_inN, true_and, and_true, nI_add, pk_mul, vu_eq, vu_ne, nI_leI, nI_ltI, nI_eqI, nI_eq0, nI_le0, ↓ok_0, ↓ok_1, ↓bI_ok, if_true, if_false, ne_eq, not_true_eq_false, not_false_eq_true, nI_m1, nI_1ne, nI_0eq, bI_eq0, bI_ne0, Bool.false_eq_true, iw_nI, decide_true, decide_false, Nat.add_sub_cancel, nI_ge0, nI_lt0, nm_lt, nm_ge, bI_T, bI_F, Nat.one_ne_zero, Nat.zero_ne_one, pk_div, pk_rem, iL, hl]
    exact hQ B hB fB
def s_layings (s : z_S) (l : Int32) : Int32 := if iw l (s.1 32 13) = true then nI (lyq s.1 l.toNatClampNeg none 0).1 else -3
def s_laid (s : z_S) (l : Int32) : Int32 := if iw l (s.1 32 13) = true then (if (lyq s.1 l.toNatClampNeg none 0).1 = 0 then -1 else nI (lyq s.1 l.toNatClampNeg none 0).2) else -3
theorem m_layings {l : Int32} (hM : Mo s A) (hQ : ∀ B, Mo s B → Fk A B → Q (some (.int (s_layings s l))) (GH B P dy) nx) : XC (d + 5) m_X8_layings [.ref 32, .int l] (GH A P dy) nx Q := by
  show X (d + 5) m_X8_layings 0 [some (.ref 32), some (.int l)] [] (GH A P dy) nx 0 0 Q
  obtain ⟨B, eB, hB, fB⟩ := t0_ex hM
  simp (disch := omega) only [i_X8_layings_0, i_X8_layings_1, i_X8_layings_2, gh_o32, gh_r33, gh_r41, gh_r42, gh_r43, gh_w41, gh_w42, gh_w43, gh_u32, gp_32_0, gp_32_11, gp_32_13, gf_32_1, gf_32_2, gf_32_11, gf_32_12, gf_32_13, gf_32_14, gf_32_15, gf_32_36, gf_32_37, z_o_i, z_ai_i, z_si_i, z_ab_b, z_ab_z, z_sb_b, z_sb_z, z_al_i, z_al_b, z_pu_s, z_pu_n, nI_toN, z_inN, true_and, and_true, nI_add, pk_mul, vu_eq, vu_ne, nI_leI, nI_ltI, nI_eqI, nI_eq0, nI_le0, ↓ok_0, ↓ok_1, ↓bI_ok, if_true, if_false, ne_eq, not_true_eq_false, not_false_eq_true, nI_m1, nI_1ne, nI_0eq, bI_eq0, bI_ne0, Bool.false_eq_true, iw_nI, decide_true, decide_false, Nat.add_sub_cancel, nI_ge0, nI_lt0, nm_lt, nm_ge, bI_T, bI_F, Nat.one_ne_zero, Nat.zero_ne_one, pk_div, pk_rem, eB]
  have iL : ∀ {d nx : Nat} {Q : z_Q} {x : Int32}, XC (d + 1) m_X8_isLine [.ref 32, .int x] (GH B P dy) nx Q = Q (some (.int (bI (iw x (s.1 32 13) = true)))) (GH B P dy) nx := c_isLine hB
  have sc := hB.1.sc
  unfold s_layings at hQ
  by_cases hl : iw l (s.1 32 13) = true
  · rw [if_pos hl] at hQ
    obtain ⟨a, h1, rfl⟩ := iw_ex hl
    rw [nI_toN (by omega)] at hQ
    simp (disch := omega) only [i_X8_layings_5, i_X8_layings_6, i_X8_layings_7, i_X8_layings_10, i_X8_layings_16, i_X8_layings_17, i_X8_layings_18, i_X8_layings_19, i_X8_layings_20, gh_o32, gh_r33, gh_r41, gh_r42, gh_r43, gh_w41, gh_w42, gh_w43, gh_u32, gp_32_0, gp_32_11, gp_32_13, gf_32_1, gf_32_2, gf_32_11, gf_32_12, gf_32_13, gf_32_14, gf_32_15, gf_32_36, gf_32_37, z_o_i, z_ai_i, z_si_i, z_ab_b, z_ab_z, z_sb_b, z_sb_z, z_al_i, z_al_b, z_pu_s, z_pu_n, nI_toN, z_inN, true_and, and_true, nI_add, pk_mul, vu_eq, vu_ne, nI_leI, nI_ltI, nI_eqI, nI_eq0, nI_le0, ↓ok_0, ↓ok_1, ↓bI_ok, if_true, if_false, ne_eq, not_true_eq_false, not_false_eq_true, nI_m1, nI_1ne, nI_0eq, bI_eq0, bI_ne0, Bool.false_eq_true, iw_nI, decide_true, decide_false, Nat.add_sub_cancel, nI_ge0, nI_lt0, nm_lt, nm_ge, bI_T, bI_F, Nat.one_ne_zero, Nat.zero_ne_one, pk_div, pk_rem, iL, h1]
    refine c_layLine (p := none) (o := 0) hB.1 (by omega) (by omega) (fun y hy => by cases hy) (fun D hD d6 d7 => ?_)
    simp (disch := omega) only [i_X8_layings_23, i_X8_layings_24, i_X8_layings_27, gh_o32, gh_r33, gh_r41, gh_r42, gh_r43, gh_w41, gh_w42, gh_w43, gh_u32, gp_32_0, gp_32_11, gp_32_13, gf_32_1, gf_32_2, gf_32_11, gf_32_12, gf_32_13, gf_32_14, gf_32_15, gf_32_36, gf_32_37, z_o_i, z_ai_i, z_si_i, z_ab_b, z_ab_z, z_sb_b, z_sb_z, z_al_i, z_al_b, z_pu_s, z_pu_n, nI_toN, z_inN, true_and, and_true, nI_add, pk_mul, vu_eq, vu_ne, nI_leI, nI_ltI, nI_eqI, nI_eq0, nI_le0, ↓ok_0, ↓ok_1, ↓bI_ok, if_true, if_false, ne_eq, not_true_eq_false, not_false_eq_true, nI_m1, nI_1ne, nI_0eq, bI_eq0, bI_ne0, Bool.false_eq_true, iw_nI, decide_true, decide_false, Nat.add_sub_cancel, nI_ge0, nI_lt0, nm_lt, nm_ge, bI_T, bI_F, Nat.one_ne_zero, Nat.zero_ne_one, pk_div, pk_rem, d6]
    exact hQ D (hD.fy.mo hB) (fB.trans hD.fy.fk)
  · rw [if_neg hl] at hQ
    simp (disch := omega) only [i_X8_layings_5, i_X8_layings_6, i_X8_layings_7, i_X8_layings_10, i_X8_layings_13, i_X8_layings_15, gh_o32, gh_r33, gh_r41, gh_r42, gh_r43, gh_w41, gh_w42, gh_w43, gh_u32, gp_32_0, gp_32_11, gp_32_13, gf_32_1, gf_32_2, gf_32_11, gf_32_12, gf_32_13, gf_32_14, gf_32_15, gf_32_36, gf_32_37, z_o_i, z_ai_i, z_si_i, z_ab_b, z_ab_z, z_sb_b, z_sb_z, z_al_i, z_al_b, z_pu_s, z_pu_n, nI_toN, z_inN, true_and, and_true, nI_add, pk_mul, vu_eq, vu_ne, nI_leI, nI_ltI, nI_eqI, nI_eq0, nI_le0, ↓ok_0, ↓ok_1, ↓bI_ok, if_true, if_false, ne_eq, not_true_eq_false, not_false_eq_true, nI_m1, nI_1ne, nI_0eq, bI_eq0, bI_ne0, Bool.false_eq_true, iw_nI, decide_true, decide_false, Nat.add_sub_cancel, nI_ge0, nI_lt0, nm_lt, nm_ge, bI_T, bI_F, Nat.one_ne_zero, Nat.zero_ne_one, pk_div, pk_rem, iL, hl]
    exact hQ B hB fB
theorem m_laid {l : Int32} (hM : Mo s A) (hQ : ∀ B, Mo s B → Fk A B → Q (some (.int (s_laid s l))) (GH B P dy) nx) : XC (d + 5) m_X8_laid [.ref 32, .int l] (GH A P dy) nx Q := by
  show X (d + 5) m_X8_laid 0 [some (.ref 32), some (.int l)] [] (GH A P dy) nx 0 0 Q
  obtain ⟨B, eB, hB, fB⟩ := t0_ex hM
  simp (disch := omega) only [i_X8_laid_0, i_X8_laid_1, i_X8_laid_2, gh_o32, gh_r33, gh_r41, gh_r42, gh_r43, gh_w41, gh_w42, gh_w43, gh_u32, gp_32_0, gp_32_11, gp_32_13, gf_32_1, gf_32_2, gf_32_11, gf_32_12, gf_32_13, gf_32_14, gf_32_15, gf_32_36, gf_32_37, z_o_i, z_ai_i, z_si_i, z_ab_b, z_ab_z, z_sb_b, z_sb_z, z_al_i, z_al_b, z_pu_s, z_pu_n, nI_toN, z_inN, true_and, and_true, nI_add, pk_mul, vu_eq, vu_ne, nI_leI, nI_ltI, nI_eqI, nI_eq0, nI_le0, ↓ok_0, ↓ok_1, ↓bI_ok, if_true, if_false, ne_eq, not_true_eq_false, not_false_eq_true, nI_m1, nI_1ne, nI_0eq, bI_eq0, bI_ne0, Bool.false_eq_true, iw_nI, decide_true, decide_false, Nat.add_sub_cancel, nI_ge0, nI_lt0, nm_lt, nm_ge, bI_T, bI_F, Nat.one_ne_zero, Nat.zero_ne_one, pk_div, pk_rem, eB]
  have iL : ∀ {d nx : Nat} {Q : z_Q} {x : Int32}, XC (d + 1) m_X8_isLine [.ref 32, .int x] (GH B P dy) nx Q = Q (some (.int (bI (iw x (s.1 32 13) = true)))) (GH B P dy) nx := c_isLine hB
  have sc := hB.1.sc
  unfold s_laid at hQ
  by_cases hl : iw l (s.1 32 13) = true
  · rw [if_pos hl] at hQ
    obtain ⟨a, h1, rfl⟩ := iw_ex hl
    rw [nI_toN (by omega)] at hQ
    simp (disch := omega) only [i_X8_laid_5, i_X8_laid_6, i_X8_laid_7, i_X8_laid_10, i_X8_laid_16, i_X8_laid_17, i_X8_laid_18, i_X8_laid_19, i_X8_laid_20, gh_o32, gh_r33, gh_r41, gh_r42, gh_r43, gh_w41, gh_w42, gh_w43, gh_u32, gp_32_0, gp_32_11, gp_32_13, gf_32_1, gf_32_2, gf_32_11, gf_32_12, gf_32_13, gf_32_14, gf_32_15, gf_32_36, gf_32_37, z_o_i, z_ai_i, z_si_i, z_ab_b, z_ab_z, z_sb_b, z_sb_z, z_al_i, z_al_b, z_pu_s, z_pu_n, nI_toN, z_inN, true_and, and_true, nI_add, pk_mul, vu_eq, vu_ne, nI_leI, nI_ltI, nI_eqI, nI_eq0, nI_le0, ↓ok_0, ↓ok_1, ↓bI_ok, if_true, if_false, ne_eq, not_true_eq_false, not_false_eq_true, nI_m1, nI_1ne, nI_0eq, bI_eq0, bI_ne0, Bool.false_eq_true, iw_nI, decide_true, decide_false, Nat.add_sub_cancel, nI_ge0, nI_lt0, nm_lt, nm_ge, bI_T, bI_F, Nat.one_ne_zero, Nat.zero_ne_one, pk_div, pk_rem, iL, h1]
    refine c_layLine (p := none) (o := 0) hB.1 (by omega) (by omega) (fun y hy => by cases hy) (fun D hD d6 d7 => ?_)
    have bl := lyq_b (a := s.1) (l := a) (p := none) (o := 0)
    have q := hQ D (hD.fy.mo hB) (fB.trans hD.fy.fk)
    by_cases z : (lyq s.1 a none 0).1 = 0
    · rw [if_pos z] at q
      simp (disch := omega) only [i_X8_laid_23, i_X8_laid_24, i_X8_laid_27, i_X8_laid_30, i_X8_laid_31, i_X8_laid_38, gh_o32, gh_r33, gh_r41, gh_r42, gh_r43, gh_w41, gh_w42, gh_w43, gh_u32, gp_32_0, gp_32_11, gp_32_13, gf_32_1, gf_32_2, gf_32_11, gf_32_12, gf_32_13, gf_32_14, gf_32_15, gf_32_36, gf_32_37, z_o_i, z_ai_i, z_si_i, z_ab_b, z_ab_z, z_sb_b, z_sb_z, z_al_i, z_al_b, z_pu_s, z_pu_n, nI_toN, z_inN, true_and, and_true, nI_add, pk_mul, vu_eq, vu_ne, nI_leI, nI_ltI, nI_eqI, nI_eq0, nI_le0, ↓ok_0, ↓ok_1, ↓bI_ok, if_true, if_false, ne_eq, not_true_eq_false, not_false_eq_true, nI_m1, nI_1ne, nI_0eq, bI_eq0, bI_ne0, Bool.false_eq_true, iw_nI, decide_true, decide_false, Nat.add_sub_cancel, nI_ge0, nI_lt0, nm_lt, nm_ge, bI_T, bI_F, Nat.one_ne_zero, Nat.zero_ne_one, pk_div, pk_rem, d6, z]
      exact q
    · rw [if_neg z] at q
      rw [lo, if_neg z] at d7
      simp (disch := omega) only [i_X8_laid_23, i_X8_laid_24, i_X8_laid_27, i_X8_laid_34, i_X8_laid_35, i_X8_laid_38, gh_o32, gh_r33, gh_r41, gh_r42, gh_r43, gh_w41, gh_w42, gh_w43, gh_u32, gp_32_0, gp_32_11, gp_32_13, gf_32_1, gf_32_2, gf_32_11, gf_32_12, gf_32_13, gf_32_14, gf_32_15, gf_32_36, gf_32_37, z_o_i, z_ai_i, z_si_i, z_ab_b, z_ab_z, z_sb_b, z_sb_z, z_al_i, z_al_b, z_pu_s, z_pu_n, nI_toN, z_inN, true_and, and_true, nI_add, pk_mul, vu_eq, vu_ne, nI_leI, nI_ltI, nI_eqI, nI_eq0, nI_le0, ↓ok_0, ↓ok_1, ↓bI_ok, if_true, if_false, ne_eq, not_true_eq_false, not_false_eq_true, nI_m1, nI_1ne, nI_0eq, bI_eq0, bI_ne0, Bool.false_eq_true, iw_nI, decide_true, decide_false, Nat.add_sub_cancel, nI_ge0, nI_lt0, nm_lt, nm_ge, bI_T, bI_F, Nat.one_ne_zero, Nat.zero_ne_one, pk_div, pk_rem, d6, d7, z]
      exact q
  · rw [if_neg hl] at hQ
    simp (disch := omega) only [i_X8_laid_5, i_X8_laid_6, i_X8_laid_7, i_X8_laid_10, i_X8_laid_13, i_X8_laid_15, gh_o32, gh_r33, gh_r41, gh_r42, gh_r43, gh_w41, gh_w42, gh_w43, gh_u32, gp_32_0, gp_32_11, gp_32_13, gf_32_1, gf_32_2, gf_32_11, gf_32_12, gf_32_13, gf_32_14, gf_32_15, gf_32_36, gf_32_37, z_o_i, z_ai_i, z_si_i, z_ab_b, z_ab_z, z_sb_b, z_sb_z, z_al_i, z_al_b, z_pu_s, z_pu_n, nI_toN, z_inN, true_and, and_true, nI_add, pk_mul, vu_eq, vu_ne, nI_leI, nI_ltI, nI_eqI, nI_eq0, nI_le0, ↓ok_0, ↓ok_1, ↓bI_ok, if_true, if_false, ne_eq, not_true_eq_false, not_false_eq_true, nI_m1, nI_1ne, nI_0eq, bI_eq0, bI_ne0, Bool.false_eq_true, iw_nI, decide_true, decide_false, Nat.add_sub_cancel, nI_ge0, nI_lt0, nm_lt, nm_ge, bI_T, bI_F, Nat.one_ne_zero, Nat.zero_ne_one, pk_div, pk_rem, iL, hl]
    exact hQ B hB fB
/-- no rhyme is asked for, or it is there -/
def rhR (s : z_S) (w : Nat) (r : Option Nat) : Bool := match r with
  | none => true
  | some u => decide (hwq s.1 s.2 w u 6 ≠ none)
/-- a word that fills a gap -/
def flP (s : z_S) (l p h : Nat) (r : Option Nat) (w : Nat) : Bool := decide (s.1 33 w = h) && (rhR s w r && decide (0 < (lyq s.1 l (some p) w).1))
theorem l_fill {l p i0 : Nat} {r : Option Nat} {R : Option Nat} (hM : Mo s A) (hl : l < s.1 32 13) (hp : p < 100) (hr : ∀ u, r = some u → u < s.1 32 1) (hQ : ∀ B, Fy A B → Q (some (.int (oI R))) (GH B P dy) nx) : ∀ (m w i : Nat) (B : Nat → Nat → Int32), w + m = s.1 32 1 → i < 2147483648 → Fy A B → nt (flP s l (p / 6) (p % 6) r) m w i = R → X (d + 5) m_X8_fill 58 [some (.ref 32), some (.int (nI l)), some (.int (nI p)), some (.int (oI r)), some (.int (nI i0)), some (.int (nI i)), some (.int (nI w))] [] (GH B P dy) nx bc bs Q := by
  have sc := hM.1.sc
  intro m
  induction m with
  | zero =>
    intro w i B hw hi hF hR
    have r1 := (hF.rp hM.1).q1
    have e : s.1 32 1 ≤ w := by omega
    have q := hQ B hF
    rw [← hR] at q
    simp (disch := omega) only [i_X8_fill_58, i_X8_fill_60, i_X8_fill_61, i_X8_fill_64, i_X8_fill_134, i_X8_fill_135, gh_o32, gh_r33, gh_r41, gh_r42, gh_r43, gh_w41, gh_w42, gh_w43, gh_u32, gp_32_0, gp_32_11, gp_32_13, gf_32_1, gf_32_2, gf_32_11, gf_32_12, gf_32_13, gf_32_14, gf_32_15, gf_32_36, gf_32_37, z_o_i, z_ai_i, z_si_i, z_ab_b, z_ab_z, z_sb_b, z_sb_z, z_al_i, z_al_b, z_pu_s, z_pu_n, nI_toN, z_inN, true_and, and_true, nI_add, pk_mul, vu_eq, vu_ne, nI_leI, nI_ltI, nI_eqI, nI_eq0, nI_le0, ↓ok_0, ↓ok_1, ↓bI_ok, if_true, if_false, ne_eq, not_true_eq_false, not_false_eq_true, nI_m1, nI_1ne, nI_0eq, bI_eq0, bI_ne0, Bool.false_eq_true, iw_nI, decide_true, decide_false, Nat.add_sub_cancel, nI_ge0, nI_lt0, nm_lt, nm_ge, bI_T, bI_F, Nat.one_ne_zero, Nat.zero_ne_one, pk_div, pk_rem, pk_sub, r1, e]
    exact q
  | succ m ih =>
    intro w i B hw hi hF hR
    have hB := hF.mo hM
    have r1 := hB.1.q1
    have le : ¬ s.1 32 1 ≤ w := by omega
    have r33 := hB.1.r33 w
    have b33 := hB.1.b33 w
    have z6 : ¬ (6 : Nat) = 0 := by omega
    have md : p - p / 6 * 6 = p % 6 := by omega
    rw [nt] at hR
    rw [i_X8_fill_58]
    have no : ∀ (C : Nat → Nat → Int32), Fy A C → ¬ flP s l (p / 6) (p % 6) r w = true → X (d + 5) m_X8_fill 128 [some (.ref 32), some (.int (nI l)), some (.int (nI p)), some (.int (oI r)), some (.int (nI i0)), some (.int (nI i)), some (.int (nI w))] [] (GH C P dy) nx bc bs Q := by
      intro C hC hn
      rw [if_neg hn] at hR
      simp (disch := omega) only [i_X8_fill_128, i_X8_fill_131, gh_o32, gh_r33, gh_r41, gh_r42, gh_r43, gh_w41, gh_w42, gh_w43, gh_u32, gp_32_0, gp_32_11, gp_32_13, gf_32_1, gf_32_2, gf_32_11, gf_32_12, gf_32_13, gf_32_14, gf_32_15, gf_32_36, gf_32_37, z_o_i, z_ai_i, z_si_i, z_ab_b, z_ab_z, z_sb_b, z_sb_z, z_al_i, z_al_b, z_pu_s, z_pu_n, nI_toN, z_inN, true_and, and_true, nI_add, pk_mul, vu_eq, vu_ne, nI_leI, nI_ltI, nI_eqI, nI_eq0, nI_le0, ↓ok_0, ↓ok_1, ↓bI_ok, if_true, if_false, ne_eq, not_true_eq_false, not_false_eq_true, nI_m1, nI_1ne, nI_0eq, bI_eq0, bI_ne0, Bool.false_eq_true, iw_nI, decide_true, decide_false, Nat.add_sub_cancel, nI_ge0, nI_lt0, nm_lt, nm_ge, bI_T, bI_F, Nat.one_ne_zero, Nat.zero_ne_one, pk_div, pk_rem, pk_sub]
      exact ih (w + 1) i C (by omega) hi hC hR
    by_cases h33 : s.1 33 w = p % 6
    · have lay : ∀ (C : Nat → Nat → Int32), Fy A C → rhR s w r = true → X (d + 5) m_X8_fill 99 [some (.ref 32), some (.int (nI l)), some (.int (nI p)), some (.int (oI r)), some (.int (nI i0)), some (.int (nI i)), some (.int (nI w))] [] (GH C P dy) nx bc bs Q := by
        intro C hC hm
        have hCM := hC.mo hM
        have op : nI (p / 6) = oI (some (p / 6)) := rfl
        simp (disch := omega) only [i_X8_fill_99, i_X8_fill_100, i_X8_fill_101, i_X8_fill_102, i_X8_fill_104, i_X8_fill_105, i_X8_fill_107, gh_o32, gh_r33, gh_r41, gh_r42, gh_r43, gh_w41, gh_w42, gh_w43, gh_u32, gp_32_0, gp_32_11, gp_32_13, gf_32_1, gf_32_2, gf_32_11, gf_32_12, gf_32_13, gf_32_14, gf_32_15, gf_32_36, gf_32_37, z_o_i, z_ai_i, z_si_i, z_ab_b, z_ab_z, z_sb_b, z_sb_z, z_al_i, z_al_b, z_pu_s, z_pu_n, nI_toN, z_inN, true_and, and_true, nI_add, pk_mul, vu_eq, vu_ne, nI_leI, nI_ltI, nI_eqI, nI_eq0, nI_le0, ↓ok_0, ↓ok_1, ↓bI_ok, if_true, if_false, ne_eq, not_true_eq_false, not_false_eq_true, nI_m1, nI_1ne, nI_0eq, bI_eq0, bI_ne0, Bool.false_eq_true, iw_nI, decide_true, decide_false, Nat.add_sub_cancel, nI_ge0, nI_lt0, nm_lt, nm_ge, bI_T, bI_F, Nat.one_ne_zero, Nat.zero_ne_one, pk_div, pk_rem, pk_sub, z6]
        rw [op]
        refine c_layLine hCM.1 (by omega) (by omega) (fun y hy => by cases hy; omega) (fun D hD d6 d7 => ?_)
        have bl := lyq_b (a := s.1) (l := l) (p := some (p / 6)) (o := w)
        have hFD := hC.trans hD.fy
        by_cases z : (lyq s.1 l (some (p / 6)) w).1 ≤ 0
        · simp (disch := omega) only [i_X8_fill_110, i_X8_fill_111, i_X8_fill_114, gh_o32, gh_r33, gh_r41, gh_r42, gh_r43, gh_w41, gh_w42, gh_w43, gh_u32, gp_32_0, gp_32_11, gp_32_13, gf_32_1, gf_32_2, gf_32_11, gf_32_12, gf_32_13, gf_32_14, gf_32_15, gf_32_36, gf_32_37, z_o_i, z_ai_i, z_si_i, z_ab_b, z_ab_z, z_sb_b, z_sb_z, z_al_i, z_al_b, z_pu_s, z_pu_n, nI_toN, z_inN, true_and, and_true, nI_add, pk_mul, vu_eq, vu_ne, nI_leI, nI_ltI, nI_eqI, nI_eq0, nI_le0, ↓ok_0, ↓ok_1, ↓bI_ok, if_true, if_false, ne_eq, not_true_eq_false, not_false_eq_true, nI_m1, nI_1ne, nI_0eq, bI_eq0, bI_ne0, Bool.false_eq_true, iw_nI, decide_true, decide_false, Nat.add_sub_cancel, nI_ge0, nI_lt0, nm_lt, nm_ge, bI_T, bI_F, Nat.one_ne_zero, Nat.zero_ne_one, pk_div, pk_rem, pk_sub, d6, z]
          refine no D hFD ?_
          simp only [flP, Bool.and_eq_true, decide_eq_true_eq]
          omega
        · have yes : flP s l (p / 6) (p % 6) r w = true := by
            simp only [flP, Bool.and_eq_true, decide_eq_true_eq]
            exact ⟨h33, hm, by omega⟩
          rw [if_pos yes] at hR
          by_cases i1 : i = 0
          · rw [if_pos i1] at hR
            subst i1
            have q := hQ D hFD
            rw [← hR] at q
            simp (disch := omega) only [i_X8_fill_110, i_X8_fill_111, i_X8_fill_114, i_X8_fill_117, i_X8_fill_119, i_X8_fill_122, i_X8_fill_124, gh_o32, gh_r33, gh_r41, gh_r42, gh_r43, gh_w41, gh_w42, gh_w43, gh_u32, gp_32_0, gp_32_11, gp_32_13, gf_32_1, gf_32_2, gf_32_11, gf_32_12, gf_32_13, gf_32_14, gf_32_15, gf_32_36, gf_32_37, z_o_i, z_ai_i, z_si_i, z_ab_b, z_ab_z, z_sb_b, z_sb_z, z_al_i, z_al_b, z_pu_s, z_pu_n, nI_toN, z_inN, true_and, and_true, nI_add, pk_mul, vu_eq, vu_ne, nI_leI, nI_ltI, nI_eqI, nI_eq0, nI_le0, ↓ok_0, ↓ok_1, ↓bI_ok, if_true, if_false, ne_eq, not_true_eq_false, not_false_eq_true, nI_m1, nI_1ne, nI_0eq, bI_eq0, bI_ne0, Bool.false_eq_true, iw_nI, decide_true, decide_false, Nat.add_sub_cancel, nI_ge0, nI_lt0, nm_lt, nm_ge, bI_T, bI_F, Nat.one_ne_zero, Nat.zero_ne_one, pk_div, pk_rem, pk_sub, d6, z]
            exact q
          · rw [if_neg i1] at hR
            have m2 : (nI i + (-1) : Int32) = nI (i - 1) := nI_dec (by omega)
            simp (disch := omega) only [i_X8_fill_110, i_X8_fill_111, i_X8_fill_114, i_X8_fill_117, i_X8_fill_119, i_X8_fill_125, i_X8_fill_128, i_X8_fill_131, gh_o32, gh_r33, gh_r41, gh_r42, gh_r43, gh_w41, gh_w42, gh_w43, gh_u32, gp_32_0, gp_32_11, gp_32_13, gf_32_1, gf_32_2, gf_32_11, gf_32_12, gf_32_13, gf_32_14, gf_32_15, gf_32_36, gf_32_37, z_o_i, z_ai_i, z_si_i, z_ab_b, z_ab_z, z_sb_b, z_sb_z, z_al_i, z_al_b, z_pu_s, z_pu_n, nI_toN, z_inN, true_and, and_true, nI_add, pk_mul, vu_eq, vu_ne, nI_leI, nI_ltI, nI_eqI, nI_eq0, nI_le0, ↓ok_0, ↓ok_1, ↓bI_ok, if_true, if_false, ne_eq, not_true_eq_false, not_false_eq_true, nI_m1, nI_1ne, nI_0eq, bI_eq0, bI_ne0, Bool.false_eq_true, iw_nI, decide_true, decide_false, Nat.add_sub_cancel, nI_ge0, nI_lt0, nm_lt, nm_ge, bI_T, bI_F, Nat.one_ne_zero, Nat.zero_ne_one, pk_div, pk_rem, pk_sub, d6, z, i1, m2]
            exact ih (w + 1) (i - 1) D (by omega) (by omega) hFD hR
      cases r with
      | none =>
        have on : oI none = -1 := rfl
        have q := lay B hF rfl
        rw [on] at q ⊢
        simp (disch := omega) only [i_X8_fill_60, i_X8_fill_61, i_X8_fill_64, i_X8_fill_67, i_X8_fill_68, i_X8_fill_71, i_X8_fill_73, i_X8_fill_74, i_X8_fill_75, i_X8_fill_77, i_X8_fill_78, i_X8_fill_81, i_X8_fill_82, i_X8_fill_83, gh_o32, gh_r33, gh_r41, gh_r42, gh_r43, gh_w41, gh_w42, gh_w43, gh_u32, gp_32_0, gp_32_11, gp_32_13, gf_32_1, gf_32_2, gf_32_11, gf_32_12, gf_32_13, gf_32_14, gf_32_15, gf_32_36, gf_32_37, z_o_i, z_ai_i, z_si_i, z_ab_b, z_ab_z, z_sb_b, z_sb_z, z_al_i, z_al_b, z_pu_s, z_pu_n, nI_toN, z_inN, true_and, and_true, nI_add, pk_mul, vu_eq, vu_ne, nI_leI, nI_ltI, nI_eqI, nI_eq0, nI_le0, ↓ok_0, ↓ok_1, ↓bI_ok, if_true, if_false, ne_eq, not_true_eq_false, not_false_eq_true, nI_m1, nI_1ne, nI_0eq, bI_eq0, bI_ne0, Bool.false_eq_true, iw_nI, decide_true, decide_false, Nat.add_sub_cancel, nI_ge0, nI_lt0, nm_lt, nm_ge, bI_T, bI_F, Nat.one_ne_zero, Nat.zero_ne_one, pk_div, pk_rem, pk_sub, r1, le, r33, h33, z6, md]
        exact q
      | some u =>
        have hu := hr u rfl
        have ou : oI (some u) = nI u := rfl
        have q := fun C hC => lay C hC
        have qn := fun C hC => no C hC
        rw [ou] at q qn ⊢
        simp (disch := omega) only [i_X8_fill_60, i_X8_fill_61, i_X8_fill_64, i_X8_fill_67, i_X8_fill_68, i_X8_fill_71, i_X8_fill_73, i_X8_fill_74, i_X8_fill_75, i_X8_fill_77, i_X8_fill_78, i_X8_fill_81, i_X8_fill_82, i_X8_fill_83, i_X8_fill_86, i_X8_fill_87, i_X8_fill_89, i_X8_fill_90, i_X8_fill_92, gh_o32, gh_r33, gh_r41, gh_r42, gh_r43, gh_w41, gh_w42, gh_w43, gh_u32, gp_32_0, gp_32_11, gp_32_13, gf_32_1, gf_32_2, gf_32_11, gf_32_12, gf_32_13, gf_32_14, gf_32_15, gf_32_36, gf_32_37, z_o_i, z_ai_i, z_si_i, z_ab_b, z_ab_z, z_sb_b, z_sb_z, z_al_i, z_al_b, z_pu_s, z_pu_n, nI_toN, z_inN, true_and, and_true, nI_add, pk_mul, vu_eq, vu_ne, nI_leI, nI_ltI, nI_eqI, nI_eq0, nI_le0, ↓ok_0, ↓ok_1, ↓bI_ok, if_true, if_false, ne_eq, not_true_eq_false, not_false_eq_true, nI_m1, nI_1ne, nI_0eq, bI_eq0, bI_ne0, Bool.false_eq_true, iw_nI, decide_true, decide_false, Nat.add_sub_cancel, nI_ge0, nI_lt0, nm_lt, nm_ge, bI_T, bI_F, Nat.one_ne_zero, Nat.zero_ne_one, pk_div, pk_rem, pk_sub, r1, le, r33, h33, z6, md]
        refine c_howOf hB.1 hB.2.2.1 (by omega) hu (by omega) (fun C hC => ?_)
        rw [hB.2.1]
        have om : (oI (hwq s.1 s.2 w u 6) = -1) = (hwq s.1 s.2 w u 6 = none) := oI_m1 (fun y hy => hwq_lt (fun i => hB.1.b34 i) hy)
        have hFC := hF.trans hC.fy
        by_cases z : hwq s.1 s.2 w u 6 = none
        · simp (disch := omega) only [i_X8_fill_95, i_X8_fill_96, gh_o32, gh_r33, gh_r41, gh_r42, gh_r43, gh_w41, gh_w42, gh_w43, gh_u32, gp_32_0, gp_32_11, gp_32_13, gf_32_1, gf_32_2, gf_32_11, gf_32_12, gf_32_13, gf_32_14, gf_32_15, gf_32_36, gf_32_37, z_o_i, z_ai_i, z_si_i, z_ab_b, z_ab_z, z_sb_b, z_sb_z, z_al_i, z_al_b, z_pu_s, z_pu_n, nI_toN, z_inN, true_and, and_true, nI_add, pk_mul, vu_eq, vu_ne, nI_leI, nI_ltI, nI_eqI, nI_eq0, nI_le0, ↓ok_0, ↓ok_1, ↓bI_ok, if_true, if_false, ne_eq, not_true_eq_false, not_false_eq_true, nI_m1, nI_1ne, nI_0eq, bI_eq0, bI_ne0, Bool.false_eq_true, iw_nI, decide_true, decide_false, Nat.add_sub_cancel, nI_ge0, nI_lt0, nm_lt, nm_ge, bI_T, bI_F, Nat.one_ne_zero, Nat.zero_ne_one, pk_div, pk_rem, pk_sub, om, z]
          refine qn C hFC ?_
          simp [flP, rhR, z]
        · simp (disch := omega) only [i_X8_fill_95, i_X8_fill_96, gh_o32, gh_r33, gh_r41, gh_r42, gh_r43, gh_w41, gh_w42, gh_w43, gh_u32, gp_32_0, gp_32_11, gp_32_13, gf_32_1, gf_32_2, gf_32_11, gf_32_12, gf_32_13, gf_32_14, gf_32_15, gf_32_36, gf_32_37, z_o_i, z_ai_i, z_si_i, z_ab_b, z_ab_z, z_sb_b, z_sb_z, z_al_i, z_al_b, z_pu_s, z_pu_n, nI_toN, z_inN, true_and, and_true, nI_add, pk_mul, vu_eq, vu_ne, nI_leI, nI_ltI, nI_eqI, nI_eq0, nI_le0, ↓ok_0, ↓ok_1, ↓bI_ok, if_true, if_false, ne_eq, not_true_eq_false, not_false_eq_true, nI_m1, nI_1ne, nI_0eq, bI_eq0, bI_ne0, Bool.false_eq_true, iw_nI, decide_true, decide_false, Nat.add_sub_cancel, nI_ge0, nI_lt0, nm_lt, nm_ge, bI_T, bI_F, Nat.one_ne_zero, Nat.zero_ne_one, pk_div, pk_rem, pk_sub, om, z]
          exact q C hFC (by simp [rhR, z])
    · simp (disch := omega) only [i_X8_fill_60, i_X8_fill_61, i_X8_fill_64, i_X8_fill_67, i_X8_fill_68, i_X8_fill_71, i_X8_fill_73, i_X8_fill_74, i_X8_fill_75, i_X8_fill_77, i_X8_fill_78, gh_o32, gh_r33, gh_r41, gh_r42, gh_r43, gh_w41, gh_w42, gh_w43, gh_u32, gp_32_0, gp_32_11, gp_32_13, gf_32_1, gf_32_2, gf_32_11, gf_32_12, gf_32_13, gf_32_14, gf_32_15, gf_32_36, gf_32_37, z_o_i, z_ai_i, z_si_i, z_ab_b, z_ab_z, z_sb_b, z_sb_z, z_al_i, z_al_b, z_pu_s, z_pu_n, nI_toN, z_inN, true_and, and_true, nI_add, pk_mul, vu_eq, vu_ne, nI_leI, nI_ltI, nI_eqI, nI_eq0, nI_le0, ↓ok_0, ↓ok_1, ↓bI_ok, if_true, if_false, ne_eq, not_true_eq_false, not_false_eq_true, nI_m1, nI_1ne, nI_0eq, bI_eq0, bI_ne0, Bool.false_eq_true, iw_nI, decide_true, decide_false, Nat.add_sub_cancel, nI_ge0, nI_lt0, nm_lt, nm_ge, bI_T, bI_F, Nat.one_ne_zero, Nat.zero_ne_one, pk_div, pk_rem, pk_sub, r1, le, r33, h33, z6, md]
      refine no B hF ?_
      simp [flP, h33]
def s_fill (s : z_S) (l p r i : Int32) : Int32 :=
  if iw l (s.1 32 13) = true ∧ iw p (6 * s.1 42 l.toNatClampNeg) = true ∧ (r = -1 ∨ iw r (s.1 32 1) = true) ∧ iw i 2147483648 = true then
    oI (nt (flP s l.toNatClampNeg (p.toNatClampNeg / 6) (p.toNatClampNeg % 6) (if r = -1 then none else some r.toNatClampNeg)) (s.1 32 1) 0 i.toNatClampNeg) else -3
theorem m_fill {l p r i : Int32} (hM : Mo s A) (hQ : ∀ B, Mo s B → Fk A B → Q (some (.int (s_fill s l p r i))) (GH B P dy) nx) : XC (d + 5) m_X8_fill [.ref 32, .int l, .int p, .int r, .int i] (GH A P dy) nx Q := by
  show X (d + 5) m_X8_fill 0 [some (.ref 32), some (.int l), some (.int p), some (.int r), some (.int i), none, none] [] (GH A P dy) nx 0 0 Q
  obtain ⟨B, eB, hB, fB⟩ := t0_ex hM
  simp (disch := omega) only [i_X8_fill_0, i_X8_fill_1, i_X8_fill_2, gh_o32, gh_r33, gh_r41, gh_r42, gh_r43, gh_w41, gh_w42, gh_w43, gh_u32, gp_32_0, gp_32_11, gp_32_13, gf_32_1, gf_32_2, gf_32_11, gf_32_12, gf_32_13, gf_32_14, gf_32_15, gf_32_36, gf_32_37, z_o_i, z_ai_i, z_si_i, z_ab_b, z_ab_z, z_sb_b, z_sb_z, z_al_i, z_al_b, z_pu_s, z_pu_n, nI_toN, z_inN, true_and, and_true, nI_add, pk_mul, vu_eq, vu_ne, nI_leI, nI_ltI, nI_eqI, nI_eq0, nI_le0, ↓ok_0, ↓ok_1, ↓bI_ok, if_true, if_false, ne_eq, not_true_eq_false, not_false_eq_true, nI_m1, nI_1ne, nI_0eq, bI_eq0, bI_ne0, Bool.false_eq_true, iw_nI, decide_true, decide_false, Nat.add_sub_cancel, nI_ge0, nI_lt0, nm_lt, nm_ge, bI_T, bI_F, Nat.one_ne_zero, Nat.zero_ne_one, pk_div, pk_rem, eB]
  have iL : ∀ {d nx : Nat} {Q : z_Q} {x : Int32}, XC (d + 1) m_X8_isLine [.ref 32, .int x] (GH B P dy) nx Q = Q (some (.int (bI (iw x (s.1 32 13) = true)))) (GH B P dy) nx := c_isLine hB
  have iW : ∀ {d nx : Nat} {Q : z_Q} {x : Int32}, XC (d + 1) m_X8_isWord [.ref 32, .int x] (GH B P dy) nx Q = Q (some (.int (bI (iw x (s.1 32 1) = true)))) (GH B P dy) nx := c_isWord hB
  have sc := hB.1.sc
  have z6 : ¬ (6 : Nat) = 0 := by omega
  unfold s_fill at hQ
  by_cases hl : iw l (s.1 32 13) = true
  · obtain ⟨a, h1, rfl⟩ := iw_ex hl
    rw [nI_toN (by omega)] at hQ
    have r42 := hB.1.r42 a
    have b42 := hB.1.b42 a
    by_cases hp : iw p (6 * s.1 42 a) = true
    · obtain ⟨b, h2, rfl⟩ := iw_ex hp
      rw [nI_toN (by omega)] at hQ
      have c : ¬ s.1 42 a ≤ b / 6 := by omega
      by_cases hi : iw i 2147483648 = true
      · have hi' := hi
        rw [iw_0] at hi'
        by_cases hr : r = -1
        · rw [if_pos ⟨hl, hp, Or.inl hr, hi⟩, if_pos hr] at hQ
          obtain ⟨e, h3, rfl⟩ := iw_ex hi
          rw [nI_toN (by omega)] at hQ
          simp (disch := omega) only [i_X8_fill_5, i_X8_fill_6, i_X8_fill_7, i_X8_fill_10, i_X8_fill_13, i_X8_fill_14, i_X8_fill_17, i_X8_fill_18, i_X8_fill_20, i_X8_fill_21, i_X8_fill_22, i_X8_fill_25, i_X8_fill_26, i_X8_fill_27, i_X8_fill_30, i_X8_fill_31, i_X8_fill_32, i_X8_fill_43, i_X8_fill_45, i_X8_fill_51, i_X8_fill_53, i_X8_fill_55, i_X8_fill_56, gh_o32, gh_r33, gh_r41, gh_r42, gh_r43, gh_w41, gh_w42, gh_w43, gh_u32, gp_32_0, gp_32_11, gp_32_13, gf_32_1, gf_32_2, gf_32_11, gf_32_12, gf_32_13, gf_32_14, gf_32_15, gf_32_36, gf_32_37, z_o_i, z_ai_i, z_si_i, z_ab_b, z_ab_z, z_sb_b, z_sb_z, z_al_i, z_al_b, z_pu_s, z_pu_n, nI_toN, z_inN, true_and, and_true, nI_add, pk_mul, vu_eq, vu_ne, nI_leI, nI_ltI, nI_eqI, nI_eq0, nI_le0, ↓ok_0, ↓ok_1, ↓bI_ok, if_true, if_false, ne_eq, not_true_eq_false, not_false_eq_true, nI_m1, nI_1ne, nI_0eq, bI_eq0, bI_ne0, Bool.false_eq_true, iw_nI, decide_true, decide_false, Nat.add_sub_cancel, nI_ge0, nI_lt0, nm_lt, nm_ge, bI_T, bI_F, Nat.one_ne_zero, Nat.zero_ne_one, pk_div, pk_rem, iL, h1, r42, c, z6, hr]
          exact l_fill (r := none) hB h1 (by omega) (fun u q => by cases q) (fun C hC => hQ C (hC.mo hB) (fB.trans hC.fk)) (s.1 32 1) 0 e B (by omega) h3 Fy.refl rfl
        · by_cases hw : iw r (s.1 32 1) = true
          · rw [if_pos ⟨hl, hp, Or.inr hw, hi⟩, if_neg hr] at hQ
            obtain ⟨e, h3, rfl⟩ := iw_ex hi
            obtain ⟨u, h4, rfl⟩ := iw_ex hw
            rw [nI_toN (by omega), nI_toN (by omega)] at hQ
            simp (disch := omega) only [i_X8_fill_5, i_X8_fill_6, i_X8_fill_7, i_X8_fill_10, i_X8_fill_13, i_X8_fill_14, i_X8_fill_17, i_X8_fill_18, i_X8_fill_20, i_X8_fill_21, i_X8_fill_22, i_X8_fill_25, i_X8_fill_26, i_X8_fill_27, i_X8_fill_30, i_X8_fill_31, i_X8_fill_32, i_X8_fill_35, i_X8_fill_36, i_X8_fill_37, i_X8_fill_40, i_X8_fill_43, i_X8_fill_45, i_X8_fill_51, i_X8_fill_53, i_X8_fill_55, i_X8_fill_56, gh_o32, gh_r33, gh_r41, gh_r42, gh_r43, gh_w41, gh_w42, gh_w43, gh_u32, gp_32_0, gp_32_11, gp_32_13, gf_32_1, gf_32_2, gf_32_11, gf_32_12, gf_32_13, gf_32_14, gf_32_15, gf_32_36, gf_32_37, z_o_i, z_ai_i, z_si_i, z_ab_b, z_ab_z, z_sb_b, z_sb_z, z_al_i, z_al_b, z_pu_s, z_pu_n, nI_toN, z_inN, true_and, and_true, nI_add, pk_mul, vu_eq, vu_ne, nI_leI, nI_ltI, nI_eqI, nI_eq0, nI_le0, ↓ok_0, ↓ok_1, ↓bI_ok, if_true, if_false, ne_eq, not_true_eq_false, not_false_eq_true, nI_m1, nI_1ne, nI_0eq, bI_eq0, bI_ne0, Bool.false_eq_true, iw_nI, decide_true, decide_false, Nat.add_sub_cancel, nI_ge0, nI_lt0, nm_lt, nm_ge, bI_T, bI_F, Nat.one_ne_zero, Nat.zero_ne_one, pk_div, pk_rem, iL, iW, h1, r42, c, z6, h4]
            exact l_fill (r := some u) hB h1 (by omega) (fun v q => by cases q; exact h4) (fun C hC => hQ C (hC.mo hB) (fB.trans hC.fk)) (s.1 32 1) 0 e B (by omega) h3 Fy.refl rfl
          · rw [if_neg (fun q => q.2.2.1.elim hr hw)] at hQ
            simp (disch := omega) only [i_X8_fill_5, i_X8_fill_6, i_X8_fill_7, i_X8_fill_10, i_X8_fill_13, i_X8_fill_14, i_X8_fill_17, i_X8_fill_18, i_X8_fill_20, i_X8_fill_21, i_X8_fill_22, i_X8_fill_25, i_X8_fill_26, i_X8_fill_27, i_X8_fill_30, i_X8_fill_31, i_X8_fill_32, i_X8_fill_35, i_X8_fill_36, i_X8_fill_37, i_X8_fill_40, i_X8_fill_48, i_X8_fill_50, gh_o32, gh_r33, gh_r41, gh_r42, gh_r43, gh_w41, gh_w42, gh_w43, gh_u32, gp_32_0, gp_32_11, gp_32_13, gf_32_1, gf_32_2, gf_32_11, gf_32_12, gf_32_13, gf_32_14, gf_32_15, gf_32_36, gf_32_37, z_o_i, z_ai_i, z_si_i, z_ab_b, z_ab_z, z_sb_b, z_sb_z, z_al_i, z_al_b, z_pu_s, z_pu_n, nI_toN, z_inN, true_and, and_true, nI_add, pk_mul, vu_eq, vu_ne, nI_leI, nI_ltI, nI_eqI, nI_eq0, nI_le0, ↓ok_0, ↓ok_1, ↓bI_ok, if_true, if_false, ne_eq, not_true_eq_false, not_false_eq_true, nI_m1, nI_1ne, nI_0eq, bI_eq0, bI_ne0, Bool.false_eq_true, iw_nI, decide_true, decide_false, Nat.add_sub_cancel, nI_ge0, nI_lt0, nm_lt, nm_ge, bI_T, bI_F, Nat.one_ne_zero, Nat.zero_ne_one, pk_div, pk_rem, iL, iW, h1, r42, c, z6, hr, hw]
            exact hQ B hB fB
      · rw [if_neg (fun q => hi q.2.2.2)] at hQ
        rw [iw_0] at hi
        by_cases hr : r = -1
        · simp (disch := omega) only [i_X8_fill_5, i_X8_fill_6, i_X8_fill_7, i_X8_fill_10, i_X8_fill_13, i_X8_fill_14, i_X8_fill_17, i_X8_fill_18, i_X8_fill_20, i_X8_fill_21, i_X8_fill_22, i_X8_fill_25, i_X8_fill_26, i_X8_fill_27, i_X8_fill_30, i_X8_fill_31, i_X8_fill_32, i_X8_fill_43, i_X8_fill_45, i_X8_fill_48, i_X8_fill_50, gh_o32, gh_r33, gh_r41, gh_r42, gh_r43, gh_w41, gh_w42, gh_w43, gh_u32, gp_32_0, gp_32_11, gp_32_13, gf_32_1, gf_32_2, gf_32_11, gf_32_12, gf_32_13, gf_32_14, gf_32_15, gf_32_36, gf_32_37, z_o_i, z_ai_i, z_si_i, z_ab_b, z_ab_z, z_sb_b, z_sb_z, z_al_i, z_al_b, z_pu_s, z_pu_n, nI_toN, z_inN, true_and, and_true, nI_add, pk_mul, vu_eq, vu_ne, nI_leI, nI_ltI, nI_eqI, nI_eq0, nI_le0, ↓ok_0, ↓ok_1, ↓bI_ok, if_true, if_false, ne_eq, not_true_eq_false, not_false_eq_true, nI_m1, nI_1ne, nI_0eq, bI_eq0, bI_ne0, Bool.false_eq_true, iw_nI, decide_true, decide_false, Nat.add_sub_cancel, nI_ge0, nI_lt0, nm_lt, nm_ge, bI_T, bI_F, Nat.one_ne_zero, Nat.zero_ne_one, pk_div, pk_rem, iL, h1, r42, c, z6, hr, hi]
          exact hQ B hB fB
        · by_cases hw : iw r (s.1 32 1) = true
          · simp (disch := omega) only [i_X8_fill_5, i_X8_fill_6, i_X8_fill_7, i_X8_fill_10, i_X8_fill_13, i_X8_fill_14, i_X8_fill_17, i_X8_fill_18, i_X8_fill_20, i_X8_fill_21, i_X8_fill_22, i_X8_fill_25, i_X8_fill_26, i_X8_fill_27, i_X8_fill_30, i_X8_fill_31, i_X8_fill_32, i_X8_fill_35, i_X8_fill_36, i_X8_fill_37, i_X8_fill_40, i_X8_fill_43, i_X8_fill_45, i_X8_fill_48, i_X8_fill_50, gh_o32, gh_r33, gh_r41, gh_r42, gh_r43, gh_w41, gh_w42, gh_w43, gh_u32, gp_32_0, gp_32_11, gp_32_13, gf_32_1, gf_32_2, gf_32_11, gf_32_12, gf_32_13, gf_32_14, gf_32_15, gf_32_36, gf_32_37, z_o_i, z_ai_i, z_si_i, z_ab_b, z_ab_z, z_sb_b, z_sb_z, z_al_i, z_al_b, z_pu_s, z_pu_n, nI_toN, z_inN, true_and, and_true, nI_add, pk_mul, vu_eq, vu_ne, nI_leI, nI_ltI, nI_eqI, nI_eq0, nI_le0, ↓ok_0, ↓ok_1, ↓bI_ok, if_true, if_false, ne_eq, not_true_eq_false, not_false_eq_true, nI_m1, nI_1ne, nI_0eq, bI_eq0, bI_ne0, Bool.false_eq_true, iw_nI, decide_true, decide_false, Nat.add_sub_cancel, nI_ge0, nI_lt0, nm_lt, nm_ge, bI_T, bI_F, Nat.one_ne_zero, Nat.zero_ne_one, pk_div, pk_rem, iL, iW, h1, r42, c, z6, hr, hw, hi]
            exact hQ B hB fB
          · simp (disch := omega) only [i_X8_fill_5, i_X8_fill_6, i_X8_fill_7, i_X8_fill_10, i_X8_fill_13, i_X8_fill_14, i_X8_fill_17, i_X8_fill_18, i_X8_fill_20, i_X8_fill_21, i_X8_fill_22, i_X8_fill_25, i_X8_fill_26, i_X8_fill_27, i_X8_fill_30, i_X8_fill_31, i_X8_fill_32, i_X8_fill_35, i_X8_fill_36, i_X8_fill_37, i_X8_fill_40, i_X8_fill_48, i_X8_fill_50, gh_o32, gh_r33, gh_r41, gh_r42, gh_r43, gh_w41, gh_w42, gh_w43, gh_u32, gp_32_0, gp_32_11, gp_32_13, gf_32_1, gf_32_2, gf_32_11, gf_32_12, gf_32_13, gf_32_14, gf_32_15, gf_32_36, gf_32_37, z_o_i, z_ai_i, z_si_i, z_ab_b, z_ab_z, z_sb_b, z_sb_z, z_al_i, z_al_b, z_pu_s, z_pu_n, nI_toN, z_inN, true_and, and_true, nI_add, pk_mul, vu_eq, vu_ne, nI_leI, nI_ltI, nI_eqI, nI_eq0, nI_le0, ↓ok_0, ↓ok_1, ↓bI_ok, if_true, if_false, ne_eq, not_true_eq_false, not_false_eq_true, nI_m1, nI_1ne, nI_0eq, bI_eq0, bI_ne0, Bool.false_eq_true, iw_nI, decide_true, decide_false, Nat.add_sub_cancel, nI_ge0, nI_lt0, nm_lt, nm_ge, bI_T, bI_F, Nat.one_ne_zero, Nat.zero_ne_one, pk_div, pk_rem, iL, iW, h1, r42, c, z6, hr, hw]
            exact hQ B hB fB
    · rw [if_neg (fun q => hp q.2.1)] at hQ
      by_cases p0 : p < 0
      · simp (disch := omega) only [i_X8_fill_5, i_X8_fill_6, i_X8_fill_7, i_X8_fill_10, i_X8_fill_13, i_X8_fill_14, i_X8_fill_48, i_X8_fill_50, gh_o32, gh_r33, gh_r41, gh_r42, gh_r43, gh_w41, gh_w42, gh_w43, gh_u32, gp_32_0, gp_32_11, gp_32_13, gf_32_1, gf_32_2, gf_32_11, gf_32_12, gf_32_13, gf_32_14, gf_32_15, gf_32_36, gf_32_37, z_o_i, z_ai_i, z_si_i, z_ab_b, z_ab_z, z_sb_b, z_sb_z, z_al_i, z_al_b, z_pu_s, z_pu_n, nI_toN, z_inN, true_and, and_true, nI_add, pk_mul, vu_eq, vu_ne, nI_leI, nI_ltI, nI_eqI, nI_eq0, nI_le0, ↓ok_0, ↓ok_1, ↓bI_ok, if_true, if_false, ne_eq, not_true_eq_false, not_false_eq_true, nI_m1, nI_1ne, nI_0eq, bI_eq0, bI_ne0, Bool.false_eq_true, iw_nI, decide_true, decide_false, Nat.add_sub_cancel, nI_ge0, nI_lt0, nm_lt, nm_ge, bI_T, bI_F, Nat.one_ne_zero, Nat.zero_ne_one, pk_div, pk_rem, iL, h1, p0]
        exact hQ B hB fB
      · have pp : iw p 2147483648 = true := by rw [iw_0]; exact Int32.not_lt.mp p0
        obtain ⟨b, h2, rfl⟩ := iw_ex pp
        rw [iw_nI (by omega)] at hp
        have c : s.1 42 a ≤ b / 6 := by
          have : ¬ b < 6 * s.1 42 a := by simpa using hp
          omega
        simp (disch := omega) only [i_X8_fill_5, i_X8_fill_6, i_X8_fill_7, i_X8_fill_10, i_X8_fill_13, i_X8_fill_14, i_X8_fill_17, i_X8_fill_18, i_X8_fill_20, i_X8_fill_21, i_X8_fill_22, i_X8_fill_25, i_X8_fill_26, i_X8_fill_27, i_X8_fill_48, i_X8_fill_50, gh_o32, gh_r33, gh_r41, gh_r42, gh_r43, gh_w41, gh_w42, gh_w43, gh_u32, gp_32_0, gp_32_11, gp_32_13, gf_32_1, gf_32_2, gf_32_11, gf_32_12, gf_32_13, gf_32_14, gf_32_15, gf_32_36, gf_32_37, z_o_i, z_ai_i, z_si_i, z_ab_b, z_ab_z, z_sb_b, z_sb_z, z_al_i, z_al_b, z_pu_s, z_pu_n, nI_toN, z_inN, true_and, and_true, nI_add, pk_mul, vu_eq, vu_ne, nI_leI, nI_ltI, nI_eqI, nI_eq0, nI_le0, ↓ok_0, ↓ok_1, ↓bI_ok, if_true, if_false, ne_eq, not_true_eq_false, not_false_eq_true, nI_m1, nI_1ne, nI_0eq, bI_eq0, bI_ne0, Bool.false_eq_true, iw_nI, decide_true, decide_false, Nat.add_sub_cancel, nI_ge0, nI_lt0, nm_lt, nm_ge, bI_T, bI_F, Nat.one_ne_zero, Nat.zero_ne_one, pk_div, pk_rem, iL, h1, r42, c, z6]
        exact hQ B hB fB
  · rw [if_neg (fun q => hl q.1)] at hQ
    simp (disch := omega) only [i_X8_fill_5, i_X8_fill_6, i_X8_fill_7, i_X8_fill_10, i_X8_fill_48, i_X8_fill_50, gh_o32, gh_r33, gh_r41, gh_r42, gh_r43, gh_w41, gh_w42, gh_w43, gh_u32, gp_32_0, gp_32_11, gp_32_13, gf_32_1, gf_32_2, gf_32_11, gf_32_12, gf_32_13, gf_32_14, gf_32_15, gf_32_36, gf_32_37, z_o_i, z_ai_i, z_si_i, z_ab_b, z_ab_z, z_sb_b, z_sb_z, z_al_i, z_al_b, z_pu_s, z_pu_n, nI_toN, z_inN, true_and, and_true, nI_add, pk_mul, vu_eq, vu_ne, nI_leI, nI_ltI, nI_eqI, nI_eq0, nI_le0, ↓ok_0, ↓ok_1, ↓bI_ok, if_true, if_false, ne_eq, not_true_eq_false, not_false_eq_true, nI_m1, nI_1ne, nI_0eq, bI_eq0, bI_ne0, Bool.false_eq_true, iw_nI, decide_true, decide_false, Nat.add_sub_cancel, nI_ge0, nI_lt0, nm_lt, nm_ge, bI_T, bI_F, Nat.one_ne_zero, Nat.zero_ne_one, pk_div, pk_rem, iL, hl]
    exact hQ B hB fB
end MPub5
