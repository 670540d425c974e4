/-! THE CLASS: the cost of two tails -/
/-- what the ear's reckoning may change -/
def Fe (A B : Nat → Nat → Int32) (P R : Nat → Nat → Nat) : Prop := (∀ k, k ≠ 8 → k ≠ 9 → B k = A k) ∧ (∀ k, k ≠ 6 → R k = P k) ∧ ((R 6 2 = 8 ∨ R 6 2 = 9) ∧ (R 6 3 = 8 ∨ R 6 3 = 9) ∧ R 6 2 ≠ R 6 3)
theorem Fe.trans {A B C : Nat → Nat → Int32} {P R S : Nat → Nat → Nat} (h : Fe A B P R) (g : Fe B C R S) : Fe A C P S := ⟨fun k h1 h2 => (g.1 k h1 h2).trans (h.1 k h1 h2), fun k h1 => (g.2.1 k h1).trans (h.2.1 k h1), g.2.2⟩
theorem Fe.up {A B : Nat → Nat → Int32} {P R : Nat → Nat → Nat} {x : Nat} {f : Nat → Int32} (h : Fe A B P R) (hx : x = 8 ∨ x = 9) : Fe A (va_up B x f) P R := ⟨fun k h1 h2 => by rw [vu_ne (by omega)]; exact h.1 k h1 h2, h.2⟩
theorem gh_c {A : Nat → Nat → Int32} {P : Nat → Nat → Nat} {dy : z_H} {x : Nat} (hx : x = 8 ∨ x = 9) : GH A P dy x = .inl (0, 13, A x) := by rcases hx with rfl | rfl <;> rfl
theorem gh_cw {A : Nat → Nat → Int32} {P : Nat → Nat → Nat} {dy : z_H} {x : Nat} {f : Nat → Int32} (hx : x = 8 ∨ x = 9) : va_up (GH A P dy) x (.inl (0, 13, f)) = GH (va_up A x f) P dy := by
  rcases hx with rfl | rfl
  · exact gh_w8
  · exact gh_w9
theorem mnN {a b : Nat} : (if b < a then nI b else nI a) = nI (min a b) := by
  by_cases h : b < a
  · rw [if_pos h, Nat.min_eq_right (by omega)]
  · rw [if_neg h, Nat.min_eq_left (by omega)]
/-- the first m + 1 of a row -/
def Ro (A : Nat → Nat → Int32) (x m : Nat) (φ : Nat → Nat) : Prop := ∀ j, j ≤ m → A x j = nI (φ j)
section CCost
variable {A : Nat → Nat → Int32} {P : Nat → Nat → Nat} {dy : z_H} {d nx bc bs : Nat} {Q : z_Q} {φ : Nat → Nat} {p0 n0 p1 n1 : Nat} {f0 g0 f1 g1 : Nat → Nat}
theorem k_one {x : Nat} {h : z_H} (hx : x < 40) : XC d m_X0_costOfOne [.int (nI x)] h nx Q = Q (some (.int (nI (c1 x)))) h nx := by
  show X d m_X0_costOfOne 0 [some (.int (nI x))] [] h nx 0 0 Q = _
  by_cases c : x < 10
  · have c' : ¬ 10 ≤ x := by omega
    rw [c1, if_pos c]
    simp (disch := omega) only [i_X0_costOfOne_0, i_X0_costOfOne_1, i_X0_costOfOne_3, i_X0_costOfOne_6, i_X0_costOfOne_8, i_X0_costOfOne_11, i_X0_costOfOne_12, gh_o6, gf_6_0, gf_6_1, gf_6_2, gf_6_3, gp_6_2, gp_6_3, gh_v6, sgF_0, sgF_7, z_o_i, z_ai_i, z_si_i, z_ab_b, z_ab_z, z_sb_b, z_sb_z, z_al_i, z_al_b, z_pu_s, z_pu_n, nI_toN, z_inN, true_and, and_true, nI_add, pk_mul, vu_eq, vu_ne, nI_leI, nI_ltI, nI_eqI, nI_eq0, ↓ok_0, ↓ok_1, ↓bI_ok, if_true, if_false, nI_lt0, nI_ge0, ne_eq, not_true_eq_false, not_false_eq_true, bI_eq0, bI_ne0, bI_T, bI_F, Bool.false_eq_true, mnN, c']
  · have c' : 10 ≤ x := by omega
    rw [c1, if_neg c]
    simp (disch := omega) only [i_X0_costOfOne_0, i_X0_costOfOne_1, i_X0_costOfOne_3, i_X0_costOfOne_6, i_X0_costOfOne_8, i_X0_costOfOne_11, i_X0_costOfOne_12, gh_o6, gf_6_0, gf_6_1, gf_6_2, gf_6_3, gp_6_2, gp_6_3, gh_v6, sgF_0, sgF_7, z_o_i, z_ai_i, z_si_i, z_ab_b, z_ab_z, z_sb_b, z_sb_z, z_al_i, z_al_b, z_pu_s, z_pu_n, nI_toN, z_inN, true_and, and_true, nI_add, pk_mul, vu_eq, vu_ne, nI_leI, nI_ltI, nI_eqI, nI_eq0, ↓ok_0, ↓ok_1, ↓bI_ok, if_true, if_false, nI_lt0, nI_ge0, ne_eq, not_true_eq_false, not_false_eq_true, bI_eq0, bI_ne0, bI_T, bI_F, Bool.false_eq_true, mnN, c']
theorem k_isV {x : Nat} {h : z_H} (hx : x < 1000) : XC d m_X7_isVowel [.int (nI x)] h nx Q = Q (some (.int (bI (x < 10)))) h nx := by
  show X d m_X7_isVowel 0 [some (.int (nI x))] [] h nx 0 0 Q = _
  by_cases c : x < 10
  · have c' : ¬ 10 ≤ x := by omega
    rw [bI_t c]
    simp (disch := omega) only [i_X7_isVowel_0, i_X7_isVowel_1, i_X7_isVowel_3, i_X7_isVowel_6, i_X7_isVowel_7, i_X7_isVowel_10, i_X7_isVowel_11, gh_o6, gf_6_0, gf_6_1, gf_6_2, gf_6_3, gp_6_2, gp_6_3, gh_v6, sgF_0, sgF_7, z_o_i, z_ai_i, z_si_i, z_ab_b, z_ab_z, z_sb_b, z_sb_z, z_al_i, z_al_b, z_pu_s, z_pu_n, nI_toN, z_inN, true_and, and_true, nI_add, pk_mul, vu_eq, vu_ne, nI_leI, nI_ltI, nI_eqI, nI_eq0, ↓ok_0, ↓ok_1, ↓bI_ok, if_true, if_false, nI_lt0, nI_ge0, ne_eq, not_true_eq_false, not_false_eq_true, bI_eq0, bI_ne0, bI_T, bI_F, Bool.false_eq_true, mnN, c']
  · have c' : 10 ≤ x := by omega
    rw [bI_f c]
    simp (disch := omega) only [i_X7_isVowel_0, i_X7_isVowel_1, i_X7_isVowel_3, i_X7_isVowel_6, i_X7_isVowel_7, i_X7_isVowel_10, i_X7_isVowel_11, gh_o6, gf_6_0, gf_6_1, gf_6_2, gf_6_3, gp_6_2, gp_6_3, gh_v6, sgF_0, sgF_7, z_o_i, z_ai_i, z_si_i, z_ab_b, z_ab_z, z_sb_b, z_sb_z, z_al_i, z_al_b, z_pu_s, z_pu_n, nI_toN, z_inN, true_and, and_true, nI_add, pk_mul, vu_eq, vu_ne, nI_leI, nI_ltI, nI_eqI, nI_eq0, ↓ok_0, ↓ok_1, ↓bI_ok, if_true, if_false, nI_lt0, nI_ge0, ne_eq, not_true_eq_false, not_false_eq_true, bI_eq0, bI_ne0, bI_T, bI_F, Bool.false_eq_true, mnN, c']
theorem k_change {x y : Nat} {h : z_H} (hx : x < 40) (hy : y < 40) : XC d m_X0_costOfChange [.int (nI x), .int (nI y)] h nx Q = Q (some (.int (nI (ct x y)))) h nx := by
  show X d m_X0_costOfChange 0 [some (.int (nI x)), some (.int (nI y))] [] h nx 0 0 Q = _
  have z5 : ¬ (5 : Nat) = 0 := by omega
  have mx : x - x / 5 * 5 = x % 5 := by omega
  have my : y - y / 5 * 5 = y % 5 := by omega
  by_cases c : x = y
  · rw [ct, if_pos c]
    simp (disch := omega) only [i_X0_costOfChange_0, i_X0_costOfChange_1, i_X0_costOfChange_2, i_X0_costOfChange_5, i_X0_costOfChange_6, i_X0_costOfChange_7, i_X0_costOfChange_8, i_X0_costOfChange_10, i_X0_costOfChange_13, i_X0_costOfChange_14, i_X0_costOfChange_15, i_X0_costOfChange_16, i_X0_costOfChange_17, i_X0_costOfChange_18, i_X0_costOfChange_19, i_X0_costOfChange_22, i_X0_costOfChange_23, i_X0_costOfChange_26, i_X0_costOfChange_28, gh_o6, gf_6_0, gf_6_1, gf_6_2, gf_6_3, gp_6_2, gp_6_3, gh_v6, sgF_0, sgF_7, z_o_i, z_ai_i, z_si_i, z_ab_b, z_ab_z, z_sb_b, z_sb_z, z_al_i, z_al_b, z_pu_s, z_pu_n, nI_toN, z_inN, true_and, and_true, nI_add, pk_mul, vu_eq, vu_ne, nI_leI, nI_ltI, nI_eqI, nI_eq0, ↓ok_0, ↓ok_1, ↓bI_ok, if_true, if_false, nI_lt0, nI_ge0, ne_eq, not_true_eq_false, not_false_eq_true, bI_eq0, bI_ne0, bI_T, bI_F, Bool.false_eq_true, mnN, c]
  · rw [ct, if_neg c]
    by_cases c1 : x < 10
    · rw [if_pos (Or.inl c1)]
      simp (disch := omega) only [i_X0_costOfChange_0, i_X0_costOfChange_1, i_X0_costOfChange_2, i_X0_costOfChange_5, i_X0_costOfChange_6, i_X0_costOfChange_7, i_X0_costOfChange_8, i_X0_costOfChange_10, i_X0_costOfChange_13, i_X0_costOfChange_14, i_X0_costOfChange_15, i_X0_costOfChange_16, i_X0_costOfChange_17, i_X0_costOfChange_18, i_X0_costOfChange_19, i_X0_costOfChange_22, i_X0_costOfChange_23, i_X0_costOfChange_26, i_X0_costOfChange_28, gh_o6, gf_6_0, gf_6_1, gf_6_2, gf_6_3, gp_6_2, gp_6_3, gh_v6, sgF_0, sgF_7, z_o_i, z_ai_i, z_si_i, z_ab_b, z_ab_z, z_sb_b, z_sb_z, z_al_i, z_al_b, z_pu_s, z_pu_n, nI_toN, z_inN, true_and, and_true, nI_add, pk_mul, vu_eq, vu_ne, nI_leI, nI_ltI, nI_eqI, nI_eq0, ↓ok_0, ↓ok_1, ↓bI_ok, if_true, if_false, nI_lt0, nI_ge0, ne_eq, not_true_eq_false, not_false_eq_true, bI_eq0, bI_ne0, bI_T, bI_F, Bool.false_eq_true, mnN, c, c1]
    · by_cases c2 : x % 5 = y % 5
      · rw [if_pos (Or.inr c2)]
        simp (disch := omega) only [i_X0_costOfChange_0, i_X0_costOfChange_1, i_X0_costOfChange_2, i_X0_costOfChange_5, i_X0_costOfChange_6, i_X0_costOfChange_7, i_X0_costOfChange_8, i_X0_costOfChange_10, i_X0_costOfChange_13, i_X0_costOfChange_14, i_X0_costOfChange_15, i_X0_costOfChange_16, i_X0_costOfChange_17, i_X0_costOfChange_18, i_X0_costOfChange_19, i_X0_costOfChange_22, i_X0_costOfChange_23, i_X0_costOfChange_26, i_X0_costOfChange_28, gh_o6, gf_6_0, gf_6_1, gf_6_2, gf_6_3, gp_6_2, gp_6_3, gh_v6, sgF_0, sgF_7, z_o_i, z_ai_i, z_si_i, z_ab_b, z_ab_z, z_sb_b, z_sb_z, z_al_i, z_al_b, z_pu_s, z_pu_n, nI_toN, z_inN, true_and, and_true, nI_add, pk_mul, vu_eq, vu_ne, nI_leI, nI_ltI, nI_eqI, nI_eq0, ↓ok_0, ↓ok_1, ↓bI_ok, if_true, if_false, nI_lt0, nI_ge0, ne_eq, not_true_eq_false, not_false_eq_true, bI_eq0, bI_ne0, bI_T, bI_F, Bool.false_eq_true, mnN, c, c1, pk_div, pk_sub, z5, mx, my, c2]
      · rw [if_neg (fun z => z.elim c1 c2)]
        simp (disch := omega) only [i_X0_costOfChange_0, i_X0_costOfChange_1, i_X0_costOfChange_2, i_X0_costOfChange_5, i_X0_costOfChange_6, i_X0_costOfChange_7, i_X0_costOfChange_8, i_X0_costOfChange_10, i_X0_costOfChange_13, i_X0_costOfChange_14, i_X0_costOfChange_15, i_X0_costOfChange_16, i_X0_costOfChange_17, i_X0_costOfChange_18, i_X0_costOfChange_19, i_X0_costOfChange_22, i_X0_costOfChange_23, i_X0_costOfChange_26, i_X0_costOfChange_28, gh_o6, gf_6_0, gf_6_1, gf_6_2, gf_6_3, gp_6_2, gp_6_3, gh_v6, sgF_0, sgF_7, z_o_i, z_ai_i, z_si_i, z_ab_b, z_ab_z, z_sb_b, z_sb_z, z_al_i, z_al_b, z_pu_s, z_pu_n, nI_toN, z_inN, true_and, and_true, nI_add, pk_mul, vu_eq, vu_ne, nI_leI, nI_ltI, nI_eqI, nI_eq0, ↓ok_0, ↓ok_1, ↓bI_ok, if_true, if_false, nI_lt0, nI_ge0, ne_eq, not_true_eq_false, not_false_eq_true, bI_eq0, bI_ne0, bI_T, bI_F, Bool.false_eq_true, mnN, c, c1, pk_div, pk_sub, z5, mx, my, c2]
/-- the first row -/
theorem l_cost1 {m x : Nat} {x5 x6 x7 x8 x9 : Option Value} (hA : ∀ i, i < 40 → A 7 i = nI (φ i)) (hφ : ∀ i, φ i < 40) (hT : ∀ {A : Nat → Nat → Int32} {P : Nat → Nat → Nat}, Sq (GH A P dy) p1 n1 f1 g1) (hn : n1 ≤ 12) (hf : ∀ i, f1 i < 40) (hm : tlR f1 g1 n1 + m = n1) (hx : P 6 2 = x) (h89 : x = 8 ∨ x = 9)
    (hQ : ∀ B, (∀ k, k ≠ x → B k = A k) → Ro B x m (d0 (fun j => φ (f1 (tlR f1 g1 n1 + j)))) → X (d + 1) m_X0_costOfTails 64 [some (.ref 6), some (.ref p0), some (.ref p1), some (.int (nI m)), some (.int (nI m)), x5, x6, x7, x8, x9] [] (GH B P dy) nx bc bs Q) :
    ∀ (r k : Nat) (B : Nat → Nat → Int32), k + r = m → (∀ k, k ≠ x → B k = A k) → Ro B x k (d0 (fun j => φ (f1 (tlR f1 g1 n1 + j)))) → X (d + 1) m_X0_costOfTails 20 [some (.ref 6), some (.ref p0), some (.ref p1), some (.int (nI m)), some (.int (nI k)), x5, x6, x7, x8, x9] [] (GH B P dy) nx bc bs Q := by
  have gx : ∀ {A : Nat → Nat → Int32} {P : Nat → Nat → Nat}, GH A P dy x = .inl (0, 13, A x) := gh_c h89
  have gw : ∀ {A : Nat → Nat → Int32} {P : Nat → Nat → Nat} {f : Nat → Int32}, va_up (GH A P dy) x (.inl (0, 13, f)) = GH (va_up A x f) P dy := gh_cw h89
  intro r
  induction r with
  | zero =>
    intro k B hk hB hR
    have e : k = m := by omega
    subst e
    simp (disch := omega) only [i_X0_costOfTails_20, i_X0_costOfTails_22, i_X0_costOfTails_23, gh_o6, gf_6_0, gf_6_1, gf_6_2, gf_6_3, gp_6_2, gp_6_3, gh_v6, sgF_0, sgF_7, z_o_i, z_ai_i, z_si_i, z_ab_b, z_ab_z, z_sb_b, z_sb_z, z_al_i, z_al_b, z_pu_s, z_pu_n, nI_toN, z_inN, true_and, and_true, nI_add, pk_mul, vu_eq, vu_ne, nI_leI, nI_ltI, nI_eqI, nI_eq0, ↓ok_0, ↓ok_1, ↓bI_ok, if_true, if_false, nI_lt0, nI_ge0, ne_eq, not_true_eq_false, not_false_eq_true, bI_eq0, bI_ne0, bI_T, bI_F, Bool.false_eq_true, mnN, Nat.le_refl]
    exact hQ B hB hR
  | succ r ih =>
    intro k B hk hB hR
    have le : ¬ m ≤ k := by omega
    have b7 : B 7 = A 7 := hB 7 (by omega)
    have kh : ∀ {d nx : Nat} {Q : z_Q}, XC d m_X0_heardAt [.ref 6, .ref p1, .int (nI (tlR f1 g1 n1 + k))] (GH B P dy) nx Q = Q (some (.int (nI (φ (f1 (tlR f1 g1 n1 + k)))))) (GH B P dy) nx := k_heardAt (by rw [b7]; exact hA) hT hn hf (by omega)
    obtain ⟨so, vo, st, F, h1, h2, h3, h4, h5⟩ := hT (A := B) (P := P)
    have rk := hR k (Nat.le_refl _)
    have bφ := hφ (f1 (tlR f1 g1 n1 + k))
    have bd := d0_le (fun j => φ (f1 (tlR f1 g1 n1 + j))) k
    have bc1 := c1_le (φ (f1 (tlR f1 g1 n1 + k)))
    have lt : tlR f1 g1 n1 < 13 := by omega
    rw [i_X0_costOfTails_20]
    simp (disch := omega) only [i_X0_costOfTails_22, i_X0_costOfTails_23, i_X0_costOfTails_26, i_X0_costOfTails_27, i_X0_costOfTails_30, i_X0_costOfTails_32, i_X0_costOfTails_33, i_X0_costOfTails_34, i_X0_costOfTails_35, i_X0_costOfTails_38, i_X0_costOfTails_40, i_X0_costOfTails_41, i_X0_costOfTails_42, i_X0_costOfTails_43, i_X0_costOfTails_44, i_X0_costOfTails_47, i_X0_costOfTails_49, i_X0_costOfTails_50, i_X0_costOfTails_53, i_X0_costOfTails_56, i_X0_costOfTails_57, i_X0_costOfTails_58, i_X0_costOfTails_61, gh_o6, gf_6_0, gf_6_1, gf_6_2, gf_6_3, gp_6_2, gp_6_3, gh_v6, sgF_0, sgF_7, z_o_i, z_ai_i, z_si_i, z_ab_b, z_ab_z, z_sb_b, z_sb_z, z_al_i, z_al_b, z_pu_s, z_pu_n, nI_toN, z_inN, true_and, and_true, nI_add, pk_mul, vu_eq, vu_ne, nI_leI, nI_ltI, nI_eqI, nI_eq0, ↓ok_0, ↓ok_1, ↓bI_ok, if_true, if_false, nI_lt0, nI_ge0, ne_eq, not_true_eq_false, not_false_eq_true, bI_eq0, bI_ne0, bI_T, bI_F, Bool.false_eq_true, mnN, hx, gx, gw, h1, le, kh, k_one, rk]
    refine ih (k + 1) _ (by omega) (fun q hq => by rw [vu_ne hq]; exact hB q hq) (fun j hj => ?_)
    rw [vu_eq, vu_if]
    by_cases e : j = k + 1
    · rw [if_pos e, e]; rfl
    · rw [if_neg e]; exact hR j (by omega)
/-- one more row -/
theorem l_cost2 {m x y u : Nat} {pr : Nat → Nat} {x4 : Option Value} (hA : ∀ i, i < 40 → A 7 i = nI (φ i)) (hφ : ∀ i, φ i < 40) (hT : ∀ {A : Nat → Nat → Int32} {P : Nat → Nat → Nat}, Sq (GH A P dy) p1 n1 f1 g1) (hn : n1 ≤ 12) (hf : ∀ i, f1 i < 40) (hm : tlR f1 g1 n1 + m = n1) (hx : P 6 2 = x) (hy : P 6 3 = y) (h89 : x = 8 ∨ x = 9) (g89 : y = 8 ∨ y = 9) (hxy : x ≠ y) (hu : u < 40) (hp : ∀ j, j ≤ m → pr j < 1000) (hRx : Ro A x m pr)
    (hQ : ∀ B x8 x9, (∀ k, k ≠ y → B k = A k) → Ro B y m (dn pr u (fun j => φ (f1 (tlR f1 g1 n1 + j)))) → X (d + 1) m_X0_costOfTails 215 [some (.ref 6), some (.ref p0), some (.ref p1), some (.int (nI m)), x4, some (.int (nI u)), some (.int (nI (c1 u))), some (.int (nI m)), x8, x9] [] (GH B P dy) nx bc bs Q) (hdn : ∀ j, j ≤ m → dn pr u (fun j => φ (f1 (tlR f1 g1 n1 + j))) j < 1000) :
    ∀ (r k : Nat) (B : Nat → Nat → Int32) (x8 x9 : Option Value), k + r = m → (∀ k, k ≠ y → B k = A k) → Ro B y k (dn pr u (fun j => φ (f1 (tlR f1 g1 n1 + j)))) → X (d + 1) m_X0_costOfTails 113 [some (.ref 6), some (.ref p0), some (.ref p1), some (.int (nI m)), x4, some (.int (nI u)), some (.int (nI (c1 u))), some (.int (nI k)), x8, x9] [] (GH B P dy) nx bc bs Q := by
  have gx : ∀ {A : Nat → Nat → Int32} {P : Nat → Nat → Nat}, GH A P dy x = .inl (0, 13, A x) := gh_c h89
  have gy : ∀ {A : Nat → Nat → Int32} {P : Nat → Nat → Nat}, GH A P dy y = .inl (0, 13, A y) := gh_c g89
  have gw : ∀ {A : Nat → Nat → Int32} {P : Nat → Nat → Nat} {f : Nat → Int32}, va_up (GH A P dy) y (.inl (0, 13, f)) = GH (va_up A y f) P dy := gh_cw g89
  intro r
  induction r with
  | zero =>
    intro k B x8 x9 hk hB hR
    have e : k = m := by omega
    subst e
    simp (disch := omega) only [i_X0_costOfTails_113, i_X0_costOfTails_115, i_X0_costOfTails_116, gh_o6, gf_6_0, gf_6_1, gf_6_2, gf_6_3, gp_6_2, gp_6_3, gh_v6, sgF_0, sgF_7, z_o_i, z_ai_i, z_si_i, z_ab_b, z_ab_z, z_sb_b, z_sb_z, z_al_i, z_al_b, z_pu_s, z_pu_n, nI_toN, z_inN, true_and, and_true, nI_add, pk_mul, vu_eq, vu_ne, nI_leI, nI_ltI, nI_eqI, nI_eq0, ↓ok_0, ↓ok_1, ↓bI_ok, if_true, if_false, nI_lt0, nI_ge0, ne_eq, not_true_eq_false, not_false_eq_true, bI_eq0, bI_ne0, bI_T, bI_F, Bool.false_eq_true, mnN, Nat.le_refl]
    exact hQ B x8 x9 hB hR
  | succ r ih =>
    intro k B x8 x9 hk hB hR
    have le : ¬ m ≤ k := by omega
    have b7 : B 7 = A 7 := hB 7 (by omega)
    have bx : B x = A x := hB x hxy
    have kh : ∀ {d nx : Nat} {Q : z_Q}, XC d m_X0_heardAt [.ref 6, .ref p1, .int (nI (tlR f1 g1 n1 + k))] (GH B P dy) nx Q = Q (some (.int (nI (φ (f1 (tlR f1 g1 n1 + k)))))) (GH B P dy) nx := k_heardAt (by rw [b7]; exact hA) hT hn hf (by omega)
    obtain ⟨so, vo, st, F, h1, h2, h3, h4, h5⟩ := hT (A := B) (P := P)
    have rk := hR k (Nat.le_refl _)
    have r0 : B x k = nI (pr k) := by rw [bx]; exact hRx k (by omega)
    have r1 : B x (k + 1) = nI (pr (k + 1)) := by rw [bx]; exact hRx (k + 1) (by omega)
    have bv := hφ (f1 (tlR f1 g1 n1 + k))
    have lt : tlR f1 g1 n1 < 13 := by omega
    have nxt := ih (k + 1) (va_up B y (va_up (B y) (k + 1) (nI (dn pr u (fun j => φ (f1 (tlR f1 g1 n1 + j))) (k + 1))))) (some (.int (nI (φ (f1 (tlR f1 g1 n1 + k)))))) (some (.int (nI (dn pr u (fun j => φ (f1 (tlR f1 g1 n1 + j))) (k + 1))))) (by omega) (fun q hq => by rw [vu_ne hq]; exact hB q hq) (fun j hj => by
      rw [vu_eq, vu_if]
      by_cases e : j = k + 1
      · rw [if_pos e, e]
      · rw [if_neg e]; exact hR j (by omega))
    have dnk := hdn k (by omega)
    have ed : dn pr u (fun j => φ (f1 (tlR f1 g1 n1 + j))) (k + 1) = min (if sm u (φ (f1 (tlR f1 g1 n1 + k))) = true then pr k + ct u (φ (f1 (tlR f1 g1 n1 + k))) else 1000000000) (min (dn pr u (fun j => φ (f1 (tlR f1 g1 n1 + j))) k + c1 (φ (f1 (tlR f1 g1 n1 + k)))) (pr (k + 1) + c1 u)) := rfl
    generalize hD : dn pr u (fun j => φ (f1 (tlR f1 g1 n1 + j))) k = D at rk dnk ed
    generalize hv : φ (f1 (tlR f1 g1 n1 + k)) = v at kh bv ed nxt
    have c1v := c1_le v
    have c1u := c1_le u
    have ctb := ct_le u v
    have p1b := hp (k + 1) (by omega)
    have p0b := hp k (by omega)
    rw [i_X0_costOfTails_113]
    by_cases c : sm u v = true
    · rw [if_pos c] at ed
      have c' : (u < 10 ↔ v < 10) := by simpa [sm] using c
      have em : min (min (pr (k + 1) + c1 u) (D + c1 v)) (pr k + ct u v) = dn pr u (fun j => φ (f1 (tlR f1 g1 n1 + j))) (k + 1) := by rw [ed]; omega
      rw [← em] at nxt
      simp (disch := omega) only [i_X0_costOfTails_115, i_X0_costOfTails_116, i_X0_costOfTails_119, i_X0_costOfTails_120, i_X0_costOfTails_121, i_X0_costOfTails_122, i_X0_costOfTails_125, i_X0_costOfTails_127, i_X0_costOfTails_128, i_X0_costOfTails_131, i_X0_costOfTails_133, i_X0_costOfTails_134, i_X0_costOfTails_137, i_X0_costOfTails_139, i_X0_costOfTails_140, i_X0_costOfTails_141, i_X0_costOfTails_142, i_X0_costOfTails_144, i_X0_costOfTails_145, i_X0_costOfTails_146, i_X0_costOfTails_149, i_X0_costOfTails_151, i_X0_costOfTails_152, i_X0_costOfTails_154, i_X0_costOfTails_157, i_X0_costOfTails_158, i_X0_costOfTails_161, i_X0_costOfTails_163, i_X0_costOfTails_165, i_X0_costOfTails_168, i_X0_costOfTails_170, i_X0_costOfTails_173, i_X0_costOfTails_176, i_X0_costOfTails_178, i_X0_costOfTails_179, i_X0_costOfTails_182, i_X0_costOfTails_184, i_X0_costOfTails_185, i_X0_costOfTails_187, i_X0_costOfTails_189, i_X0_costOfTails_192, i_X0_costOfTails_193, i_X0_costOfTails_196, i_X0_costOfTails_198, i_X0_costOfTails_199, i_X0_costOfTails_202, i_X0_costOfTails_204, i_X0_costOfTails_205, i_X0_costOfTails_206, i_X0_costOfTails_208, i_X0_costOfTails_209, i_X0_costOfTails_212, gh_o6, gf_6_0, gf_6_1, gf_6_2, gf_6_3, gp_6_2, gp_6_3, gh_v6, sgF_0, sgF_7, z_o_i, z_ai_i, z_si_i, z_ab_b, z_ab_z, z_sb_b, z_sb_z, z_al_i, z_al_b, z_pu_s, z_pu_n, nI_toN, z_inN, true_and, and_true, nI_add, pk_mul, vu_eq, vu_ne, nI_leI, nI_ltI, nI_eqI, nI_eq0, ↓ok_0, ↓ok_1, ↓bI_ok, if_true, if_false, nI_lt0, nI_ge0, ne_eq, not_true_eq_false, not_false_eq_true, bI_eq0, bI_ne0, bI_T, bI_F, Bool.false_eq_true, mnN, hx, hy, gx, gy, gw, h1, le, kh, k_one, k_isV, k_change, bI_eqI, c', rk, r0, r1]
      exact nxt
    · rw [if_neg c] at ed
      have c' : ¬ (u < 10 ↔ v < 10) := by simpa [sm] using c
      have em : min (pr (k + 1) + c1 u) (D + c1 v) = dn pr u (fun j => φ (f1 (tlR f1 g1 n1 + j))) (k + 1) := by rw [ed]; omega
      rw [← em] at nxt
      simp (disch := omega) only [i_X0_costOfTails_115, i_X0_costOfTails_116, i_X0_costOfTails_119, i_X0_costOfTails_120, i_X0_costOfTails_121, i_X0_costOfTails_122, i_X0_costOfTails_125, i_X0_costOfTails_127, i_X0_costOfTails_128, i_X0_costOfTails_131, i_X0_costOfTails_133, i_X0_costOfTails_134, i_X0_costOfTails_137, i_X0_costOfTails_139, i_X0_costOfTails_140, i_X0_costOfTails_141, i_X0_costOfTails_142, i_X0_costOfTails_144, i_X0_costOfTails_145, i_X0_costOfTails_146, i_X0_costOfTails_149, i_X0_costOfTails_151, i_X0_costOfTails_152, i_X0_costOfTails_154, i_X0_costOfTails_157, i_X0_costOfTails_158, i_X0_costOfTails_161, i_X0_costOfTails_163, i_X0_costOfTails_165, i_X0_costOfTails_168, i_X0_costOfTails_170, i_X0_costOfTails_173, i_X0_costOfTails_198, i_X0_costOfTails_199, i_X0_costOfTails_202, i_X0_costOfTails_204, i_X0_costOfTails_205, i_X0_costOfTails_206, i_X0_costOfTails_208, i_X0_costOfTails_209, i_X0_costOfTails_212, gh_o6, gf_6_0, gf_6_1, gf_6_2, gf_6_3, gp_6_2, gp_6_3, gh_v6, sgF_0, sgF_7, z_o_i, z_ai_i, z_si_i, z_ab_b, z_ab_z, z_sb_b, z_sb_z, z_al_i, z_al_b, z_pu_s, z_pu_n, nI_toN, z_inN, true_and, and_true, nI_add, pk_mul, vu_eq, vu_ne, nI_leI, nI_ltI, nI_eqI, nI_eq0, ↓ok_0, ↓ok_1, ↓bI_ok, if_true, if_false, nI_lt0, nI_ge0, ne_eq, not_true_eq_false, not_false_eq_true, bI_eq0, bI_ne0, bI_T, bI_F, Bool.false_eq_true, mnN, hx, hy, gx, gy, gw, h1, le, kh, k_one, k_isV, bI_eqI, c', rk, r1]
      exact nxt
theorem l_cost3 {m : Nat} (hA : ∀ i, i < 40 → A 7 i = nI (φ i)) (hφ : ∀ i, φ i < 40) (hS : ∀ {A : Nat → Nat → Int32} {P : Nat → Nat → Nat}, Sq (GH A P dy) p0 n0 f0 g0) (hT : ∀ {A : Nat → Nat → Int32} {P : Nat → Nat → Nat}, Sq (GH A P dy) p1 n1 f1 g1) (hn0 : n0 ≤ 12) (hn : n1 ≤ 12) (hf0 : ∀ i, f0 i < 40) (hf : ∀ i, f1 i < 40) (ht : tlR f0 g0 n0 ≤ n0) (hm : tlR f1 g1 n1 + m = n1)
    (hQ : ∀ B R, Fe A B P R → Q (some (.int (nI (dC (fun i => φ (f0 (tlR f0 g0 n0 + i))) (fun j => φ (f1 (tlR f1 g1 n1 + j))) (n0 - tlR f0 g0 n0) m)))) (GH B R dy) nx) :
    ∀ (r i : Nat) (B : Nat → Nat → Int32) (R : Nat → Nat → Nat) (x5 x6 x7 x8 x9 : Option Value), tlR f0 g0 n0 + i + r = n0 → Fe A B P R → Ro B (R 6 2) m (dC (fun i => φ (f0 (tlR f0 g0 n0 + i))) (fun j => φ (f1 (tlR f1 g1 n1 + j))) i) → X (d + 1) m_X0_costOfTails 70 [some (.ref 6), some (.ref p0), some (.ref p1), some (.int (nI m)), some (.int (nI (tlR f0 g0 n0 + i))), x5, x6, x7, x8, x9] [] (GH B R dy) nx bc bs Q := by
  intro r
  induction r with
  | zero =>
    intro i B R x5 x6 x7 x8 x9 hi hF hR
    have e : tlR f0 g0 n0 + i = n0 := by omega
    have ei : n0 - tlR f0 g0 n0 = i := by omega
    obtain ⟨so, vo, st, F, h1, h2, h3, h4, h5⟩ := hS (A := B) (P := R)
    have q := hQ B R hF
    rw [ei] at q
    have rm := hR m (Nat.le_refl _)
    have gx : GH B R dy (R 6 2) = .inl (0, 13, B (R 6 2)) := gh_c hF.2.2.1
    rw [e]
    simp (disch := omega) only [i_X0_costOfTails_70, i_X0_costOfTails_72, i_X0_costOfTails_73, i_X0_costOfTails_76, i_X0_costOfTails_241, i_X0_costOfTails_242, i_X0_costOfTails_245, i_X0_costOfTails_246, i_X0_costOfTails_247, gh_o6, gf_6_0, gf_6_1, gf_6_2, gf_6_3, gp_6_2, gp_6_3, gh_v6, sgF_0, sgF_7, z_o_i, z_ai_i, z_si_i, z_ab_b, z_ab_z, z_sb_b, z_sb_z, z_al_i, z_al_b, z_pu_s, z_pu_n, nI_toN, z_inN, true_and, and_true, nI_add, pk_mul, vu_eq, vu_ne, nI_leI, nI_ltI, nI_eqI, nI_eq0, ↓ok_0, ↓ok_1, ↓bI_ok, if_true, if_false, nI_lt0, nI_ge0, ne_eq, not_true_eq_false, not_false_eq_true, bI_eq0, bI_ne0, bI_T, bI_F, Bool.false_eq_true, mnN, h1, Nat.le_refl, gx, rm]
    exact q
  | succ r ih =>
    intro i B R x5 x6 x7 x8 x9 hi hF hR
    have le : ¬ n0 ≤ tlR f0 g0 n0 + i := by omega
    have b7 : B 7 = A 7 := hF.1 7 (by omega) (by omega)
    have kh : ∀ {d nx : Nat} {Q : z_Q}, XC d m_X0_heardAt [.ref 6, .ref p0, .int (nI (tlR f0 g0 n0 + i))] (GH B R dy) nx Q = Q (some (.int (nI (φ (f0 (tlR f0 g0 n0 + i)))))) (GH B R dy) nx := k_heardAt (by rw [b7]; exact hA) hS hn0 hf0 (by omega)
    obtain ⟨so, vo, st, F, h1, h2, h3, h4, h5⟩ := hS (A := B) (P := R)
    obtain ⟨hR2, hR3, hne⟩ := hF.2.2
    have gx : ∀ {A : Nat → Nat → Int32} {P : Nat → Nat → Nat}, GH A P dy (R 6 2) = .inl (0, 13, A (R 6 2)) := gh_c hR2
    have gy : ∀ {A : Nat → Nat → Int32} {P : Nat → Nat → Nat}, GH A P dy (R 6 3) = .inl (0, 13, A (R 6 3)) := gh_c hR3
    have gw : ∀ {A : Nat → Nat → Int32} {P : Nat → Nat → Nat} {f : Nat → Int32}, va_up (GH A P dy) (R 6 3) (.inl (0, 13, f)) = GH (va_up A (R 6 3) f) P dy := gh_cw hR3
    have bu := hφ (f0 (tlR f0 g0 n0 + i))
    have r0 := hR 0 (Nat.zero_le _)
    have bb : ∀ i j, dC (fun i => φ (f0 (tlR f0 g0 n0 + i))) (fun j => φ (f1 (tlR f1 g1 n1 + j))) i j ≤ _ := fun i j => dC_le _ _ i j
    have lt : tlR f0 g0 n0 < 13 := by omega
    have lm : m < 13 := by omega
    rw [i_X0_costOfTails_70]
    simp (disch := omega) only [i_X0_costOfTails_72, i_X0_costOfTails_73, i_X0_costOfTails_76, i_X0_costOfTails_79, i_X0_costOfTails_80, i_X0_costOfTails_81, i_X0_costOfTails_83, i_X0_costOfTails_86, i_X0_costOfTails_88, i_X0_costOfTails_90, i_X0_costOfTails_93, i_X0_costOfTails_95, i_X0_costOfTails_96, i_X0_costOfTails_99, i_X0_costOfTails_100, i_X0_costOfTails_101, i_X0_costOfTails_104, i_X0_costOfTails_105, i_X0_costOfTails_106, i_X0_costOfTails_108, i_X0_costOfTails_109, i_X0_costOfTails_110, i_X0_costOfTails_111, gh_o6, gf_6_0, gf_6_1, gf_6_2, gf_6_3, gp_6_2, gp_6_3, gh_v6, sgF_0, sgF_7, z_o_i, z_ai_i, z_si_i, z_ab_b, z_ab_z, z_sb_b, z_sb_z, z_al_i, z_al_b, z_pu_s, z_pu_n, nI_toN, z_inN, true_and, and_true, nI_add, pk_mul, vu_eq, vu_ne, nI_leI, nI_ltI, nI_eqI, nI_eq0, ↓ok_0, ↓ok_1, ↓bI_ok, if_true, if_false, nI_lt0, nI_ge0, ne_eq, not_true_eq_false, not_false_eq_true, bI_eq0, bI_ne0, bI_T, bI_F, Bool.false_eq_true, mnN, h1, le, kh, k_one, gx, gy, gw, r0]
    have hdn : dn (dC (fun i => φ (f0 (tlR f0 g0 n0 + i))) (fun j => φ (f1 (tlR f1 g1 n1 + j))) i) (φ (f0 (tlR f0 g0 n0 + i))) (fun j => φ (f1 (tlR f1 g1 n1 + j))) = dC (fun i => φ (f0 (tlR f0 g0 n0 + i))) (fun j => φ (f1 (tlR f1 g1 n1 + j))) (i + 1) := rfl
    have hF1 : Fe A (va_up B (R 6 3) (va_up (B (R 6 3)) 0 (nI (dC (fun i => φ (f0 (tlR f0 g0 n0 + i))) (fun j => φ (f1 (tlR f1 g1 n1 + j))) i 0 + c1 (φ (f0 (tlR f0 g0 n0 + i))))))) P R := hF.up hR3
    refine l_cost2 (pr := dC (fun i => φ (f0 (tlR f0 g0 n0 + i))) (fun j => φ (f1 (tlR f1 g1 n1 + j))) i) (x := R 6 2) (y := R 6 3) (by rw [vu_ne (by omega), b7]; exact hA) hφ hT hn hf hm rfl rfl hR2 hR3 hne bu (fun j hj => by have := bb i j; omega) (fun j hj => by rw [vu_ne hne]; exact hR j hj) (fun C y8 y9 hC rC => ?_) (fun j hj => by rw [hdn]; have := bb (i + 1) j; omega) m 0 _ _ _ (by omega) (fun k hk => rfl) (fun j hj => ?_)
    · rw [hdn] at rC
      simp (disch := omega) only [i_X0_costOfTails_215, i_X0_costOfTails_216, i_X0_costOfTails_219, i_X0_costOfTails_221, i_X0_costOfTails_222, i_X0_costOfTails_223, i_X0_costOfTails_226, i_X0_costOfTails_229, i_X0_costOfTails_230, i_X0_costOfTails_232, i_X0_costOfTails_235, i_X0_costOfTails_238, gh_o6, gf_6_0, gf_6_1, gf_6_2, gf_6_3, gp_6_2, gp_6_3, gh_v6, sgF_0, sgF_7, z_o_i, z_ai_i, z_si_i, z_ab_b, z_ab_z, z_sb_b, z_sb_z, z_al_i, z_al_b, z_pu_s, z_pu_n, nI_toN, z_inN, true_and, and_true, nI_add, pk_mul, vu_eq, vu_ne, nI_leI, nI_ltI, nI_eqI, nI_eq0, ↓ok_0, ↓ok_1, ↓bI_ok, if_true, if_false, nI_lt0, nI_ge0, ne_eq, not_true_eq_false, not_false_eq_true, bI_eq0, bI_ne0, bI_T, bI_F, Bool.false_eq_true, mnN]
      have hF2 : Fe A C P R := ⟨fun k h1 h2 => by rw [hC k (by omega)]; exact hF1.1 k h1 h2, hF1.2⟩
      have rC' : Ro C (R 6 3) m (dC (fun i => φ (f0 (tlR f0 g0 n0 + i))) (fun j => φ (f1 (tlR f1 g1 n1 + j))) (i + 1)) := rC
      refine ih (i + 1) C _ _ _ _ _ _ (by omega) ⟨hF2.1, fun k hk => ?_, ?_⟩ ?_
      · rw [vu_ne hk, vu_ne hk]; exact hF2.2.1 k hk
      · rw [vu_eq]
        refine ⟨?_, ?_, ?_⟩
        · rw [vu_ne (by omega), vu_eq]; exact hR3
        · rw [vu_eq]; exact hR2
        · rw [vu_ne (by omega), vu_eq, vu_eq]; exact fun z => hne z.symm
      · rw [vu_eq, vu_ne (by omega), vu_eq]; exact rC'
    · have j0 : j = 0 := by omega
      subst j0
      rw [vu_eq, vu_eq]
      rfl
theorem k_cost (hA : ∀ i, i < 40 → A 7 i = nI (φ i)) (hφ : ∀ i, φ i < 40) (hP : (P 6 2 = 8 ∨ P 6 2 = 9) ∧ (P 6 3 = 8 ∨ P 6 3 = 9) ∧ P 6 2 ≠ P 6 3) (hS : ∀ {A : Nat → Nat → Int32} {P : Nat → Nat → Nat}, Sq (GH A P dy) p0 n0 f0 g0) (hT : ∀ {A : Nat → Nat → Int32} {P : Nat → Nat → Nat}, Sq (GH A P dy) p1 n1 f1 g1) (hn0 : n0 ≤ 12) (hn : n1 ≤ 12) (hf0 : ∀ i, f0 i < 40) (hf : ∀ i, f1 i < 40) (ht : tlR f0 g0 n0 ≤ n0) (hu : tlR f1 g1 n1 ≤ n1)
    (hQ : ∀ B R, Fe A B P R → Q (some (.int (nI (dC (fun i => φ (f0 (tlR f0 g0 n0 + i))) (fun j => φ (f1 (tlR f1 g1 n1 + j))) (n0 - tlR f0 g0 n0) (n1 - tlR f1 g1 n1))))) (GH B R dy) nx) : XC (d + 1) m_X0_costOfTails [.ref 6, .ref p0, .ref p1] (GH A P dy) nx Q := by
  show X (d + 1) m_X0_costOfTails 0 [some (.ref 6), some (.ref p0), some (.ref p1), none, none, none, none, none, none, none] [] (GH A P dy) nx 0 0 Q
  obtain ⟨so, vo, st, F, h1, h2, h3, h4, h5⟩ := hT (A := A) (P := P)
  have gx : ∀ {A : Nat → Nat → Int32} {P' : Nat → Nat → Nat}, GH A P' dy (P 6 2) = .inl (0, 13, A (P 6 2)) := gh_c hP.1
  have gw : ∀ {A : Nat → Nat → Int32} {P' : Nat → Nat → Nat} {f : Nat → Int32}, va_up (GH A P' dy) (P 6 2) (.inl (0, 13, f)) = GH (va_up A (P 6 2) f) P' dy := gh_cw hP.1
  have s1 : (nI n1 - nI (tlR f1 g1 n1) : Int32) = nI (n1 - tlR f1 g1 n1) := pk_sub hu
  simp (disch := omega) only [i_X0_costOfTails_0, i_X0_costOfTails_1, i_X0_costOfTails_4, i_X0_costOfTails_5, i_X0_costOfTails_8, i_X0_costOfTails_9, i_X0_costOfTails_10, i_X0_costOfTails_11, i_X0_costOfTails_14, i_X0_costOfTails_15, i_X0_costOfTails_16, i_X0_costOfTails_17, i_X0_costOfTails_18, gh_o6, gf_6_0, gf_6_1, gf_6_2, gf_6_3, gp_6_2, gp_6_3, gh_v6, sgF_0, sgF_7, z_o_i, z_ai_i, z_si_i, z_ab_b, z_ab_z, z_sb_b, z_sb_z, z_al_i, z_al_b, z_pu_s, z_pu_n, nI_toN, z_inN, true_and, and_true, nI_add, pk_mul, vu_eq, vu_ne, nI_leI, nI_ltI, nI_eqI, nI_eq0, ↓ok_0, ↓ok_1, ↓bI_ok, if_true, if_false, nI_lt0, nI_ge0, ne_eq, not_true_eq_false, not_false_eq_true, bI_eq0, bI_ne0, bI_T, bI_F, Bool.false_eq_true, mnN, h1, s1, gx, gw]
  refine l_cost1 (m := n1 - tlR f1 g1 n1) (x := P 6 2) (A := va_up A (P 6 2) (va_up (A (P 6 2)) 0 (nI 0))) (by rw [vu_ne (by omega)]; exact hA) hφ hT hn hf (by omega) rfl hP.1 (fun B hB rB => ?_) (n1 - tlR f1 g1 n1) 0 _ (by omega) (fun _ _ => rfl) (fun j hj => ?_)
  · have hF : Fe A B P P := ⟨fun k h1 h2 => by rw [hB k (by omega), vu_ne (by omega)], fun _ _ => rfl, hP⟩
    obtain ⟨so', vo', st', F', h1', _⟩ := hS (A := B) (P := P)
    simp (disch := omega) only [i_X0_costOfTails_64, i_X0_costOfTails_65, i_X0_costOfTails_68, gh_o6, gf_6_0, gf_6_1, gf_6_2, gf_6_3, gp_6_2, gp_6_3, gh_v6, sgF_0, sgF_7, z_o_i, z_ai_i, z_si_i, z_ab_b, z_ab_z, z_sb_b, z_sb_z, z_al_i, z_al_b, z_pu_s, z_pu_n, nI_toN, z_inN, true_and, and_true, nI_add, pk_mul, vu_eq, vu_ne, nI_leI, nI_ltI, nI_eqI, nI_eq0, ↓ok_0, ↓ok_1, ↓bI_ok, if_true, if_false, nI_lt0, nI_ge0, ne_eq, not_true_eq_false, not_false_eq_true, bI_eq0, bI_ne0, bI_T, bI_F, Bool.false_eq_true, mnN, h1']
    have lp := l_cost3 (d := d) (bc := 0) (bs := 0) (Q := Q) (nx := nx) (m := n1 - tlR f1 g1 n1) hA hφ hS hT hn0 hn hf0 hf ht (by omega) hQ (n0 - tlR f0 g0 n0) 0 B P none none none none none (by omega) hF rB
    exact lp
  · have j0 : j = 0 := by omega
    subst j0
    rw [vu_eq, vu_eq]
    rfl
end CCost
