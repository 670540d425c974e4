/-! THE CLASS: a syllable, a word and a line are laid -/
/-- the four stages are apart -/
def Pm (P : Nat → Nat → Nat) : Prop := (Sx (P 10 3) ∧ Sx (P 10 4) ∧ Sx (P 10 5) ∧ Sx (P 10 6)) ∧ (P 10 3 ≠ P 10 4 ∧ P 10 3 ≠ P 10 5 ∧ P 10 3 ≠ P 10 6 ∧ P 10 4 ≠ P 10 5 ∧ P 10 4 ≠ P 10 6 ∧ P 10 5 ≠ P 10 6)
theorem Rc.pm {s : z_S} {A : Nat → Nat → Int32} {P : Nat → Nat → Nat} (h : Rc s A P) : Pm P := ⟨h.2.2.2.1, h.2.2.2.2⟩
theorem Sx.ne {x y : Nat} (hx : Sx x) (hy : Sx y) (h : x ≠ y) : x + 1 ≠ y + 1 ∧ x + 1 ≠ y + 2 ∧ x + 2 ≠ y + 1 ∧ x + 2 ≠ y + 2 := by unfold Sx at hx hy; omega
/-- the meter, and the stage at hand -/
def Ly (A : Nat → Nat → Int32) (mk : Nat → Nat) (marks : Nat) : Prop := A 10 0 = nI marks ∧ ∀ j, j < 12 → A 11 j = nI (mk j)
theorem Ly.fg {A B : Nat → Nat → Int32} {mk : Nat → Nat} {marks y : Nat} (h : Ly A mk marks) (hy : Sx y) (g : Fg1 y A B) : Ly B mk marks := by
  have n1 : B 10 = A 10 := g 10 (by unfold Sx at hy; omega) (by unfold Sx at hy; omega)
  have n2 : B 11 = A 11 := g 11 (by unfold Sx at hy; omega) (by unfold Sx at hy; omega)
  exact ⟨by rw [n1]; exact h.1, by rw [n2]; exact h.2⟩
theorem Rs.fg {A B : Nat → Nat → Int32} {x y b : Nat} {S : Nat → Nat × Nat} (h : Rs 1000000 b 27 S (A (x + 1)) (A (x + 2))) (hx : Sx x) (hy : Sx y) (hxy : x ≠ y) (g : Fg1 y A B) : Rs 1000000 b 27 S (B (x + 1)) (B (x + 2)) := by
  have n := Sx.ne hx hy hxy
  rw [g (x + 1) n.1 n.2.1, g (x + 2) n.2.2.1 n.2.2.2]
  exact h
section CSyl
variable {A : Nat → Nat → Int32} {P : Nat → Nat → Nat} {dy : z_H} {d nx bc bs : Nat} {Q : z_Q} {mk : Nat → Nat} {marks st b : Nat} {S T : Nat → Nat × Nat} {first : Bool}
theorem k_agree {a : Nat} {h : z_H} (ha : a ≤ 2) (hs : st ≤ 2) : XC d m_X4_agree [.int (nI a), .int (nI st)] h nx Q = Q (some (.int (bI (ag a st = true)))) h nx := by
  show X d m_X4_agree 0 [some (.int (nI a)), some (.int (nI st))] [] h nx 0 0 Q = _
  have oa : a = 0 ∨ a = 1 ∨ a = 2 := by omega
  have os : st = 0 ∨ st = 1 ∨ st = 2 := by omega
  have e12 : ((1 : Nat) = 2) = False := by simp
  have e02 : ((0 : Nat) = 2) = False := by simp
  have e21 : ((2 : Nat) = 1) = False := by simp
  have e20 : ((2 : Nat) = 0) = False := by simp
  rcases oa with rfl | rfl | rfl <;> rcases os with rfl | rfl | rfl <;> simp (disch := omega) only [i_X4_agree_0, i_X4_agree_1, i_X4_agree_2, i_X4_agree_5, i_X4_agree_6, i_X4_agree_7, i_X4_agree_10, i_X4_agree_11, i_X4_agree_12, i_X4_agree_13, i_X4_agree_16, i_X4_agree_17, i_X4_agree_20, i_X4_agree_21, i_X4_agree_24, i_X4_agree_25, i_X4_agree_28, i_X4_agree_29, i_X4_agree_30, i_X4_agree_33, i_X4_agree_34, i_X4_agree_37, i_X4_agree_38, gh_o10, gh_r11, gf_10_0, gf_10_1, gf_10_2, gf_10_3, gf_10_4, gf_10_5, gf_10_6, gp_10_2, gp_10_3, gp_10_4, gp_10_5, gp_10_6, gh_u10, gh_v10, stF_0, stF_1, z_o_i, z_ai_i, z_si_i, z_ab_b, z_ab_z, z_sb_b, z_sb_z, z_al_i, z_al_b, z_pu_s, z_pu_n, nI_toN, z_inN, true_and, and_true, nI_add, pk_mul, vu_eq, vu_ne, nI_leI, nI_ltI, nI_eqI, nI_eq0, nI_le0, ↓ok_0, ↓ok_1, ↓bI_ok, if_true, if_false, nI_lt0, nI_ge0, ne_eq, not_true_eq_false, not_false_eq_true, bI_eq0, bI_ne0, bI_T, bI_F, Bool.false_eq_true, Nat.one_ne_zero, Nat.zero_ne_one, Nat.zero_add, e12, e02, e21, e20] <;> rfl
theorem k_turn {m : Nat} (hA : Ly A mk marks) (hm : m ≤ marks) (h12 : marks ≤ 12) (hk : ∀ j, mk j ≤ 2) : XC d m_X4_canTurn [.ref 10, .int (nI m)] (GH A P dy) nx Q = Q (some (.int (bI (mk m = 0 ∧ m + 1 < marks ∧ mk (m + 1) = 1)))) (GH A P dy) nx := by
  show X d m_X4_canTurn 0 [some (.ref 10), some (.int (nI m))] [] (GH A P dy) nx 0 0 Q = _
  have r0 := hA.1
  have b1 := hk m
  have b2 := hk (m + 1)
  by_cases c : marks ≤ m + 1
  · rw [bI_f (c := mk m = 0 ∧ m + 1 < marks ∧ mk (m + 1) = 1) (by omega)]
    simp (disch := omega) only [i_X4_canTurn_0, i_X4_canTurn_1, i_X4_canTurn_2, i_X4_canTurn_3, i_X4_canTurn_4, i_X4_canTurn_7, i_X4_canTurn_10, i_X4_canTurn_11, i_X4_canTurn_14, i_X4_canTurn_15, i_X4_canTurn_16, i_X4_canTurn_19, i_X4_canTurn_20, i_X4_canTurn_23, i_X4_canTurn_24, i_X4_canTurn_25, i_X4_canTurn_26, i_X4_canTurn_27, i_X4_canTurn_28, i_X4_canTurn_31, i_X4_canTurn_32, i_X4_canTurn_35, i_X4_canTurn_36, gh_o10, gh_r11, gf_10_0, gf_10_1, gf_10_2, gf_10_3, gf_10_4, gf_10_5, gf_10_6, gp_10_2, gp_10_3, gp_10_4, gp_10_5, gp_10_6, gh_u10, gh_v10, stF_0, stF_1, z_o_i, z_ai_i, z_si_i, z_ab_b, z_ab_z, z_sb_b, z_sb_z, z_al_i, z_al_b, z_pu_s, z_pu_n, nI_toN, z_inN, true_and, and_true, nI_add, pk_mul, vu_eq, vu_ne, nI_leI, nI_ltI, nI_eqI, nI_eq0, nI_le0, ↓ok_0, ↓ok_1, ↓bI_ok, if_true, if_false, nI_lt0, nI_ge0, ne_eq, not_true_eq_false, not_false_eq_true, bI_eq0, bI_ne0, bI_T, bI_F, Bool.false_eq_true, Nat.one_ne_zero, Nat.zero_ne_one, Nat.zero_add, r0, c]
  · have r1 := hA.2 m (by omega)
    have r2 := hA.2 (m + 1) (by omega)
    by_cases c1 : mk m = 0
    · by_cases c2 : mk (m + 1) = 1
      · rw [bI_t (c := mk m = 0 ∧ m + 1 < marks ∧ mk (m + 1) = 1) (by omega)]
        simp (disch := omega) only [i_X4_canTurn_0, i_X4_canTurn_1, i_X4_canTurn_2, i_X4_canTurn_3, i_X4_canTurn_4, i_X4_canTurn_7, i_X4_canTurn_10, i_X4_canTurn_11, i_X4_canTurn_14, i_X4_canTurn_15, i_X4_canTurn_16, i_X4_canTurn_19, i_X4_canTurn_20, i_X4_canTurn_23, i_X4_canTurn_24, i_X4_canTurn_25, i_X4_canTurn_26, i_X4_canTurn_27, i_X4_canTurn_28, i_X4_canTurn_31, i_X4_canTurn_32, i_X4_canTurn_35, i_X4_canTurn_36, gh_o10, gh_r11, gf_10_0, gf_10_1, gf_10_2, gf_10_3, gf_10_4, gf_10_5, gf_10_6, gp_10_2, gp_10_3, gp_10_4, gp_10_5, gp_10_6, gh_u10, gh_v10, stF_0, stF_1, z_o_i, z_ai_i, z_si_i, z_ab_b, z_ab_z, z_sb_b, z_sb_z, z_al_i, z_al_b, z_pu_s, z_pu_n, nI_toN, z_inN, true_and, and_true, nI_add, pk_mul, vu_eq, vu_ne, nI_leI, nI_ltI, nI_eqI, nI_eq0, nI_le0, ↓ok_0, ↓ok_1, ↓bI_ok, if_true, if_false, nI_lt0, nI_ge0, ne_eq, not_true_eq_false, not_false_eq_true, bI_eq0, bI_ne0, bI_T, bI_F, Bool.false_eq_true, Nat.one_ne_zero, Nat.zero_ne_one, Nat.zero_add, r0, r1, r2, c, c1, c2]
      · rw [bI_f (c := mk m = 0 ∧ m + 1 < marks ∧ mk (m + 1) = 1) (by omega)]
        simp (disch := omega) only [i_X4_canTurn_0, i_X4_canTurn_1, i_X4_canTurn_2, i_X4_canTurn_3, i_X4_canTurn_4, i_X4_canTurn_7, i_X4_canTurn_10, i_X4_canTurn_11, i_X4_canTurn_14, i_X4_canTurn_15, i_X4_canTurn_16, i_X4_canTurn_19, i_X4_canTurn_20, i_X4_canTurn_23, i_X4_canTurn_24, i_X4_canTurn_25, i_X4_canTurn_26, i_X4_canTurn_27, i_X4_canTurn_28, i_X4_canTurn_31, i_X4_canTurn_32, i_X4_canTurn_35, i_X4_canTurn_36, gh_o10, gh_r11, gf_10_0, gf_10_1, gf_10_2, gf_10_3, gf_10_4, gf_10_5, gf_10_6, gp_10_2, gp_10_3, gp_10_4, gp_10_5, gp_10_6, gh_u10, gh_v10, stF_0, stF_1, z_o_i, z_ai_i, z_si_i, z_ab_b, z_ab_z, z_sb_b, z_sb_z, z_al_i, z_al_b, z_pu_s, z_pu_n, nI_toN, z_inN, true_and, and_true, nI_add, pk_mul, vu_eq, vu_ne, nI_leI, nI_ltI, nI_eqI, nI_eq0, nI_le0, ↓ok_0, ↓ok_1, ↓bI_ok, if_true, if_false, nI_lt0, nI_ge0, ne_eq, not_true_eq_false, not_false_eq_true, bI_eq0, bI_ne0, bI_T, bI_F, Bool.false_eq_true, Nat.one_ne_zero, Nat.zero_ne_one, Nat.zero_add, r0, r1, r2, c, c1, c2]
    · rw [bI_f (c := mk m = 0 ∧ m + 1 < marks ∧ mk (m + 1) = 1) (by omega)]
      simp (disch := omega) only [i_X4_canTurn_0, i_X4_canTurn_1, i_X4_canTurn_2, i_X4_canTurn_3, i_X4_canTurn_4, i_X4_canTurn_7, i_X4_canTurn_10, i_X4_canTurn_11, i_X4_canTurn_14, i_X4_canTurn_15, i_X4_canTurn_16, i_X4_canTurn_19, i_X4_canTurn_20, i_X4_canTurn_23, i_X4_canTurn_24, i_X4_canTurn_25, i_X4_canTurn_26, i_X4_canTurn_27, i_X4_canTurn_28, i_X4_canTurn_31, i_X4_canTurn_32, i_X4_canTurn_35, i_X4_canTurn_36, gh_o10, gh_r11, gf_10_0, gf_10_1, gf_10_2, gf_10_3, gf_10_4, gf_10_5, gf_10_6, gp_10_2, gp_10_3, gp_10_4, gp_10_5, gp_10_6, gh_u10, gh_v10, stF_0, stF_1, z_o_i, z_ai_i, z_si_i, z_ab_b, z_ab_z, z_sb_b, z_sb_z, z_al_i, z_al_b, z_pu_s, z_pu_n, nI_toN, z_inN, true_and, and_true, nI_add, pk_mul, vu_eq, vu_ne, nI_leI, nI_ltI, nI_eqI, nI_eq0, nI_le0, ↓ok_0, ↓ok_1, ↓bI_ok, if_true, if_false, nI_lt0, nI_ge0, ne_eq, not_true_eq_false, not_false_eq_true, bI_eq0, bI_ne0, bI_T, bI_F, Bool.false_eq_true, Nat.one_ne_zero, Nat.zero_ne_one, Nat.zero_add, r0, r1, c, c1]
/-- a stage that takes -/
theorem k_takeS {y k : Nat} {p : Nat × Nat} {v : Int32} {e : Nat} (hy : Sx y) (hk : k < 27) (hp : p.1 ≤ 1000000 ∧ p.2 ≤ b) (he : e ≤ 3) (hv : v = nI (lo 1000000 p + e)) (hb : b + 3 ≤ 2000) (hr : Rs 1000000 (b + 3) 27 T (A (y + 1)) (A (y + 2))) (hQ : ∀ C, Fg1 y A C → Rs 1000000 (b + 3) 27 (tu T k p.1 (p.2 + e)) (C (y + 1)) (C (y + 2)) → Q none (GH C P dy) nx) : XC d m_X5_take [.ref y, .int (nI k), .int (nI p.1), .int v] (GH A P dy) nx Q :=
  k_take hy hk hp.1 (fun z => ⟨by rw [hv, lo, if_neg z], by omega⟩) hb hr hQ
theorem l_syl {x y : Nat} (hx : P 10 5 = x) (hy : P 10 6 = y) (gx : Sx x) (gy : Sx y) (hxy : x ≠ y) (h12 : marks ≤ 12) (hk : ∀ j, mk j ≤ 2) (hs : st ≤ 2) (hb : b + 3 ≤ 2000) (hL : Ly A mk marks) (hS : Rs 1000000 b 27 S (A (x + 1)) (A (x + 2)))
    (hQ : ∀ C x4 x5, Fg1 y A C → Rs 1000000 (b + 3) 27 (cyq mk marks st first S) (C (y + 1)) (C (y + 2)) → X (d + 1) m_X4_laySyllable 202 [some (.ref 10), some (.int (nI st)), some (.int (bI (first = true))), some (.int (nI (marks + 1))), x4, x5] [] (GH C P dy) nx bc bs Q) :
    ∀ (r m : Nat) (C : Nat → Nat → Int32) (x4 x5 : Option Value), m + r = marks + 1 → Fg1 y A C → Rs 1000000 (b + 3) 27 (cyF mk marks st first S m) (C (y + 1)) (C (y + 2)) → X (d + 1) m_X4_laySyllable 9 [some (.ref 10), some (.int (nI st)), some (.int (bI (first = true))), some (.int (nI m)), x4, x5] [] (GH C P dy) nx bc bs Q := by
  have gs : ∀ {A : Nat → Nat → Int32} {P : Nat → Nat → Nat}, GH A P dy x = .inr (.inl (5, stF x)) := gh_st gx
  have g1 : ∀ {A : Nat → Nat → Int32} {P : Nat → Nat → Nat}, GH A P dy (x + 1) = .inl (0, 27, A (x + 1)) := gh_s1 gx
  have g2 : ∀ {A : Nat → Nat → Int32} {P : Nat → Nat → Nat}, GH A P dy (x + 2) = .inl (0, 27, A (x + 2)) := gh_s2 gx
  have gy' : ∀ {A : Nat → Nat → Int32} {P : Nat → Nat → Nat}, GH A P dy y = .inr (.inl (5, stF y)) := gh_st gy
  have bS := hS.2
  intro r
  induction r with
  | zero =>
    intro m C x4 x5 hm hF hr
    have e : m = marks + 1 := by omega
    subst e
    have r0 := (hL.fg gy hF).1
    have lt : marks < marks + 1 := by omega
    simp (disch := omega) only [i_X4_laySyllable_9, i_X4_laySyllable_10, i_X4_laySyllable_11, i_X4_laySyllable_14, gh_o10, gh_r11, gf_10_0, gf_10_1, gf_10_2, gf_10_3, gf_10_4, gf_10_5, gf_10_6, gp_10_2, gp_10_3, gp_10_4, gp_10_5, gp_10_6, gh_u10, gh_v10, stF_0, stF_1, z_o_i, z_ai_i, z_si_i, z_ab_b, z_ab_z, z_sb_b, z_sb_z, z_al_i, z_al_b, z_pu_s, z_pu_n, nI_toN, z_inN, true_and, and_true, nI_add, pk_mul, vu_eq, vu_ne, nI_leI, nI_ltI, nI_eqI, nI_eq0, nI_le0, ↓ok_0, ↓ok_1, ↓bI_ok, if_true, if_false, nI_lt0, nI_ge0, ne_eq, not_true_eq_false, not_false_eq_true, bI_eq0, bI_ne0, bI_T, bI_F, Bool.false_eq_true, Nat.one_ne_zero, Nat.zero_ne_one, Nat.zero_add, r0, lt]
    exact hQ C x4 x5 hF hr
  | succ r ih =>
    intro m C x4 x5 hm hF hr
    have le : ¬ marks < m := by omega
    have hLC := hL.fg gy hF
    have hSC := hS.fg gx gy hxy hF
    have r0 := hLC.1
    have q1 := (hSC.1 m (by omega)).1
    have q2 := (hSC.1 m (by omega)).2
    have bm := bS m
    have b13 := bS (13 + m)
    have lb : lo 1000000 (S m) ≤ 1000000 := by
      unfold lo
      split <;> omega
    have lb13 : lo 1000000 (S (13 + m)) ≤ 1000000 := by
      unfold lo
      split <;> omega
    rw [i_X4_laySyllable_9]
    simp (disch := omega) only [i_X4_laySyllable_10, i_X4_laySyllable_11, i_X4_laySyllable_14, i_X4_laySyllable_17, i_X4_laySyllable_18, i_X4_laySyllable_21, i_X4_laySyllable_24, i_X4_laySyllable_25, i_X4_laySyllable_26, i_X4_laySyllable_27, i_X4_laySyllable_28, i_X4_laySyllable_30, i_X4_laySyllable_31, i_X4_laySyllable_34, i_X4_laySyllable_37, i_X4_laySyllable_38, i_X4_laySyllable_39, i_X4_laySyllable_40, i_X4_laySyllable_41, gh_o10, gh_r11, gf_10_0, gf_10_1, gf_10_2, gf_10_3, gf_10_4, gf_10_5, gf_10_6, gp_10_2, gp_10_3, gp_10_4, gp_10_5, gp_10_6, gh_u10, gh_v10, stF_0, stF_1, z_o_i, z_ai_i, z_si_i, z_ab_b, z_ab_z, z_sb_b, z_sb_z, z_al_i, z_al_b, z_pu_s, z_pu_n, nI_toN, z_inN, true_and, and_true, nI_add, pk_mul, vu_eq, vu_ne, nI_leI, nI_ltI, nI_eqI, nI_eq0, nI_le0, ↓ok_0, ↓ok_1, ↓bI_ok, if_true, if_false, nI_lt0, nI_ge0, ne_eq, not_true_eq_false, not_false_eq_true, bI_eq0, bI_ne0, bI_T, bI_F, Bool.false_eq_true, Nat.one_ne_zero, Nat.zero_ne_one, Nat.zero_add, r0, hx, gs, g1, g2, le, q1, q2]
    -- what comes behind each take
    have p5 : ∀ (D : Nat → Nat → Int32), Fg1 y A D → st = 0 → Rs 1000000 (b + 3) 27 (cy4 marks st m (S m).1 (S m).2 (cy3 st first m (S m).1 (S m).2 (cy2 mk marks st m (S m).1 (S m).2 (cy1 mk marks st m (S m).1 (S m).2 (cyF mk marks st first S m))))) (D (y + 1)) (D (y + 2)) → X (d + 1) m_X4_laySyllable 162 [some (.ref 10), some (.int (nI st)), some (.int (bI (first = true))), some (.int (nI m)), some (.int (nI (S m).1)), some (.int (nI (lo 1000000 (S m))))] [] (GH D P dy) nx bc bs Q := by
      intro D hD s0 rD
      have hSD := hS.fg gx gy hxy hD
      have w1 := (hSD.1 (13 + m) (by omega)).1
      have w2 := (hSD.1 (13 + m) (by omega)).2
      simp (disch := omega) only [i_X4_laySyllable_162, i_X4_laySyllable_163, i_X4_laySyllable_166, i_X4_laySyllable_167, i_X4_laySyllable_168, i_X4_laySyllable_169, i_X4_laySyllable_170, i_X4_laySyllable_173, i_X4_laySyllable_176, i_X4_laySyllable_178, i_X4_laySyllable_179, i_X4_laySyllable_180, i_X4_laySyllable_181, i_X4_laySyllable_182, i_X4_laySyllable_185, i_X4_laySyllable_188, i_X4_laySyllable_190, i_X4_laySyllable_191, i_X4_laySyllable_192, i_X4_laySyllable_193, gh_o10, gh_r11, gf_10_0, gf_10_1, gf_10_2, gf_10_3, gf_10_4, gf_10_5, gf_10_6, gp_10_2, gp_10_3, gp_10_4, gp_10_5, gp_10_6, gh_u10, gh_v10, stF_0, stF_1, z_o_i, z_ai_i, z_si_i, z_ab_b, z_ab_z, z_sb_b, z_sb_z, z_al_i, z_al_b, z_pu_s, z_pu_n, nI_toN, z_inN, true_and, and_true, nI_add, pk_mul, vu_eq, vu_ne, nI_leI, nI_ltI, nI_eqI, nI_eq0, nI_le0, ↓ok_0, ↓ok_1, ↓bI_ok, if_true, if_false, nI_lt0, nI_ge0, ne_eq, not_true_eq_false, not_false_eq_true, bI_eq0, bI_ne0, bI_T, bI_F, Bool.false_eq_true, Nat.one_ne_zero, Nat.zero_ne_one, Nat.zero_add, hx, hy, gs, gy', g1, g2, w1, w2]
      refine k_takeS (p := S (13 + m)) (e := 0) gy (by omega) b13 (by omega) (by rw [Nat.add_zero]) hb rD (fun E hE rE => ?_)
      simp (disch := omega) only [i_X4_laySyllable_196, i_X4_laySyllable_199, gh_o10, gh_r11, gf_10_0, gf_10_1, gf_10_2, gf_10_3, gf_10_4, gf_10_5, gf_10_6, gp_10_2, gp_10_3, gp_10_4, gp_10_5, gp_10_6, gh_u10, gh_v10, stF_0, stF_1, z_o_i, z_ai_i, z_si_i, z_ab_b, z_ab_z, z_sb_b, z_sb_z, z_al_i, z_al_b, z_pu_s, z_pu_n, nI_toN, z_inN, true_and, and_true, nI_add, pk_mul, vu_eq, vu_ne, nI_leI, nI_ltI, nI_eqI, nI_eq0, nI_le0, ↓ok_0, ↓ok_1, ↓bI_ok, if_true, if_false, nI_lt0, nI_ge0, ne_eq, not_true_eq_false, not_false_eq_true, bI_eq0, bI_ne0, bI_T, bI_F, Bool.false_eq_true, Nat.one_ne_zero, Nat.zero_ne_one, Nat.zero_add]
      refine ih (m + 1) E _ _ (by omega) (hD.trans hE) ?_
      rw [cyF, cy5, if_pos s0]
      exact rE
    have p4 : ∀ (D : Nat → Nat → Int32), Fg1 y A D → st = 0 → Rs 1000000 (b + 3) 27 (cy3 st first m (S m).1 (S m).2 (cy2 mk marks st m (S m).1 (S m).2 (cy1 mk marks st m (S m).1 (S m).2 (cyF mk marks st first S m)))) (D (y + 1)) (D (y + 2)) → X (d + 1) m_X4_laySyllable 139 [some (.ref 10), some (.int (nI st)), some (.int (bI (first = true))), some (.int (nI m)), some (.int (nI (S m).1)), some (.int (nI (lo 1000000 (S m))))] [] (GH D P dy) nx bc bs Q := by
      intro D hD s0 rD
      have r0D := (hL.fg gy hD).1
      by_cases c : m = marks
      · simp (disch := omega) only [i_X4_laySyllable_139, i_X4_laySyllable_140, i_X4_laySyllable_141, i_X4_laySyllable_144, i_X4_laySyllable_147, i_X4_laySyllable_148, i_X4_laySyllable_151, i_X4_laySyllable_153, i_X4_laySyllable_155, i_X4_laySyllable_157, i_X4_laySyllable_158, i_X4_laySyllable_159, gh_o10, gh_r11, gf_10_0, gf_10_1, gf_10_2, gf_10_3, gf_10_4, gf_10_5, gf_10_6, gp_10_2, gp_10_3, gp_10_4, gp_10_5, gp_10_6, gh_u10, gh_v10, stF_0, stF_1, z_o_i, z_ai_i, z_si_i, z_ab_b, z_ab_z, z_sb_b, z_sb_z, z_al_i, z_al_b, z_pu_s, z_pu_n, nI_toN, z_inN, true_and, and_true, nI_add, pk_mul, vu_eq, vu_ne, nI_leI, nI_ltI, nI_eqI, nI_eq0, nI_le0, ↓ok_0, ↓ok_1, ↓bI_ok, if_true, if_false, nI_lt0, nI_ge0, ne_eq, not_true_eq_false, not_false_eq_true, bI_eq0, bI_ne0, bI_T, bI_F, Bool.false_eq_true, Nat.one_ne_zero, Nat.zero_ne_one, Nat.zero_add, r0D, hy, gy', c]
        refine k_takeS (p := S marks) (e := 1) gy (by omega) (bS marks) (by omega) rfl hb rD (fun E hE rE => ?_)
        simp (disch := omega) only [gh_o10, gh_r11, gf_10_0, gf_10_1, gf_10_2, gf_10_3, gf_10_4, gf_10_5, gf_10_6, gp_10_2, gp_10_3, gp_10_4, gp_10_5, gp_10_6, gh_u10, gh_v10, stF_0, stF_1, z_o_i, z_ai_i, z_si_i, z_ab_b, z_ab_z, z_sb_b, z_sb_z, z_al_i, z_al_b, z_pu_s, z_pu_n, nI_toN, z_inN, true_and, and_true, nI_add, pk_mul, vu_eq, vu_ne, nI_leI, nI_ltI, nI_eqI, nI_eq0, nI_le0, ↓ok_0, ↓ok_1, ↓bI_ok, if_true, if_false, nI_lt0, nI_ge0, ne_eq, not_true_eq_false, not_false_eq_true, bI_eq0, bI_ne0, bI_T, bI_F, Bool.false_eq_true, Nat.one_ne_zero, Nat.zero_ne_one, Nat.zero_add]
        have q := p5 E (hD.trans hE) s0 (by rw [cy4, if_pos ⟨s0, c⟩]; subst c; exact rE)
        rw [c] at q
        exact q
      · simp (disch := omega) only [i_X4_laySyllable_139, i_X4_laySyllable_140, i_X4_laySyllable_141, i_X4_laySyllable_144, gh_o10, gh_r11, gf_10_0, gf_10_1, gf_10_2, gf_10_3, gf_10_4, gf_10_5, gf_10_6, gp_10_2, gp_10_3, gp_10_4, gp_10_5, gp_10_6, gh_u10, gh_v10, stF_0, stF_1, z_o_i, z_ai_i, z_si_i, z_ab_b, z_ab_z, z_sb_b, z_sb_z, z_al_i, z_al_b, z_pu_s, z_pu_n, nI_toN, z_inN, true_and, and_true, nI_add, pk_mul, vu_eq, vu_ne, nI_leI, nI_ltI, nI_eqI, nI_eq0, nI_le0, ↓ok_0, ↓ok_1, ↓bI_ok, if_true, if_false, nI_lt0, nI_ge0, ne_eq, not_true_eq_false, not_false_eq_true, bI_eq0, bI_ne0, bI_T, bI_F, Bool.false_eq_true, Nat.one_ne_zero, Nat.zero_ne_one, Nat.zero_add, r0D, c]
        exact p5 D hD s0 (by rw [cy4, if_neg (fun z => c z.2)]; exact rD)
    have p3 : ∀ (D : Nat → Nat → Int32), Fg1 y A D → Rs 1000000 (b + 3) 27 (cy2 mk marks st m (S m).1 (S m).2 (cy1 mk marks st m (S m).1 (S m).2 (cyF mk marks st first S m))) (D (y + 1)) (D (y + 2)) → X (d + 1) m_X4_laySyllable 112 [some (.ref 10), some (.int (nI st)), some (.int (bI (first = true))), some (.int (nI m)), some (.int (nI (S m).1)), some (.int (nI (lo 1000000 (S m))))] [] (GH D P dy) nx bc bs Q := by
      intro D hD rD
      by_cases s0 : st = 0
      · by_cases f0 : first = true
        · simp (disch := omega) only [i_X4_laySyllable_112, i_X4_laySyllable_113, i_X4_laySyllable_119, i_X4_laySyllable_120, gh_o10, gh_r11, gf_10_0, gf_10_1, gf_10_2, gf_10_3, gf_10_4, gf_10_5, gf_10_6, gp_10_2, gp_10_3, gp_10_4, gp_10_5, gp_10_6, gh_u10, gh_v10, stF_0, stF_1, z_o_i, z_ai_i, z_si_i, z_ab_b, z_ab_z, z_sb_b, z_sb_z, z_al_i, z_al_b, z_pu_s, z_pu_n, nI_toN, z_inN, true_and, and_true, nI_add, pk_mul, vu_eq, vu_ne, nI_leI, nI_ltI, nI_eqI, nI_eq0, nI_le0, ↓ok_0, ↓ok_1, ↓bI_ok, if_true, if_false, nI_lt0, nI_ge0, ne_eq, not_true_eq_false, not_false_eq_true, bI_eq0, bI_ne0, bI_T, bI_F, Bool.false_eq_true, Nat.one_ne_zero, Nat.zero_ne_one, Nat.zero_add, s0, f0]
          have q := p4 D hD s0 (by rw [cy3, if_neg (by rw [f0]; simp)]; exact rD)
          rw [s0, f0, bI_t rfl] at q
          exact q
        · have f1 : first = false := by simpa using f0
          simp (disch := omega) only [i_X4_laySyllable_112, i_X4_laySyllable_113, i_X4_laySyllable_119, i_X4_laySyllable_120, i_X4_laySyllable_123, i_X4_laySyllable_124, i_X4_laySyllable_127, i_X4_laySyllable_128, i_X4_laySyllable_129, i_X4_laySyllable_130, i_X4_laySyllable_132, i_X4_laySyllable_134, i_X4_laySyllable_135, i_X4_laySyllable_136, gh_o10, gh_r11, gf_10_0, gf_10_1, gf_10_2, gf_10_3, gf_10_4, gf_10_5, gf_10_6, gp_10_2, gp_10_3, gp_10_4, gp_10_5, gp_10_6, gh_u10, gh_v10, stF_0, stF_1, z_o_i, z_ai_i, z_si_i, z_ab_b, z_ab_z, z_sb_b, z_sb_z, z_al_i, z_al_b, z_pu_s, z_pu_n, nI_toN, z_inN, true_and, and_true, nI_add, pk_mul, vu_eq, vu_ne, nI_leI, nI_ltI, nI_eqI, nI_eq0, nI_le0, ↓ok_0, ↓ok_1, ↓bI_ok, if_true, if_false, nI_lt0, nI_ge0, ne_eq, not_true_eq_false, not_false_eq_true, bI_eq0, bI_ne0, bI_T, bI_F, Bool.false_eq_true, Nat.one_ne_zero, Nat.zero_ne_one, Nat.zero_add, s0, f1, hy, gy']
          refine k_takeS (p := S m) (e := 2) gy (by omega) bm (by omega) rfl hb rD (fun E hE rE => ?_)
          have q := p4 E (hD.trans hE) s0 (by rw [cy3, if_pos ⟨s0, f1⟩]; exact rE)
          rw [s0, f1, bI_f (by simp)] at q
          simp (disch := omega) only [gh_o10, gh_r11, gf_10_0, gf_10_1, gf_10_2, gf_10_3, gf_10_4, gf_10_5, gf_10_6, gp_10_2, gp_10_3, gp_10_4, gp_10_5, gp_10_6, gh_u10, gh_v10, stF_0, stF_1, z_o_i, z_ai_i, z_si_i, z_ab_b, z_ab_z, z_sb_b, z_sb_z, z_al_i, z_al_b, z_pu_s, z_pu_n, nI_toN, z_inN, true_and, and_true, nI_add, pk_mul, vu_eq, vu_ne, nI_leI, nI_ltI, nI_eqI, nI_eq0, nI_le0, ↓ok_0, ↓ok_1, ↓bI_ok, if_true, if_false, nI_lt0, nI_ge0, ne_eq, not_true_eq_false, not_false_eq_true, bI_eq0, bI_ne0, bI_T, bI_F, Bool.false_eq_true, Nat.one_ne_zero, Nat.zero_ne_one, Nat.zero_add]
          exact q
      · simp (disch := omega) only [i_X4_laySyllable_112, i_X4_laySyllable_113, i_X4_laySyllable_116, i_X4_laySyllable_196, i_X4_laySyllable_199, gh_o10, gh_r11, gf_10_0, gf_10_1, gf_10_2, gf_10_3, gf_10_4, gf_10_5, gf_10_6, gp_10_2, gp_10_3, gp_10_4, gp_10_5, gp_10_6, gh_u10, gh_v10, stF_0, stF_1, z_o_i, z_ai_i, z_si_i, z_ab_b, z_ab_z, z_sb_b, z_sb_z, z_al_i, z_al_b, z_pu_s, z_pu_n, nI_toN, z_inN, true_and, and_true, nI_add, pk_mul, vu_eq, vu_ne, nI_leI, nI_ltI, nI_eqI, nI_eq0, nI_le0, ↓ok_0, ↓ok_1, ↓bI_ok, if_true, if_false, nI_lt0, nI_ge0, ne_eq, not_true_eq_false, not_false_eq_true, bI_eq0, bI_ne0, bI_T, bI_F, Bool.false_eq_true, Nat.one_ne_zero, Nat.zero_ne_one, Nat.zero_add, s0]
        refine ih (m + 1) D _ _ (by omega) hD ?_
        rw [cyF, cy5, if_neg s0, cy4, if_neg (fun z => s0 z.1), cy3, if_neg (fun z => s0 z.1)]
        exact rD
    have p2 : ∀ (D : Nat → Nat → Int32), Fg1 y A D → Rs 1000000 (b + 3) 27 (cy1 mk marks st m (S m).1 (S m).2 (cyF mk marks st first S m)) (D (y + 1)) (D (y + 2)) → X (d + 1) m_X4_laySyllable 80 [some (.ref 10), some (.int (nI st)), some (.int (bI (first = true))), some (.int (nI m)), some (.int (nI (S m).1)), some (.int (nI (lo 1000000 (S m))))] [] (GH D P dy) nx bc bs Q := by
      intro D hD rD
      by_cases s2 : st = 2
      · have kT : ∀ {d nx : Nat} {Q : z_Q}, XC d m_X4_canTurn [.ref 10, .int (nI m)] (GH D P dy) nx Q = _ := k_turn (hL.fg gy hD) (by omega) h12 hk
        by_cases c : mk m = 0 ∧ m + 1 < marks ∧ mk (m + 1) = 1
        · have e15 : 13 + m + 2 = 15 + m := by omega
          simp (disch := omega) only [i_X4_laySyllable_80, i_X4_laySyllable_81, i_X4_laySyllable_82, i_X4_laySyllable_85, i_X4_laySyllable_86, i_X4_laySyllable_87, i_X4_laySyllable_90, i_X4_laySyllable_93, i_X4_laySyllable_94, i_X4_laySyllable_97, i_X4_laySyllable_99, i_X4_laySyllable_100, i_X4_laySyllable_101, i_X4_laySyllable_102, i_X4_laySyllable_103, i_X4_laySyllable_105, i_X4_laySyllable_107, i_X4_laySyllable_108, i_X4_laySyllable_109, gh_o10, gh_r11, gf_10_0, gf_10_1, gf_10_2, gf_10_3, gf_10_4, gf_10_5, gf_10_6, gp_10_2, gp_10_3, gp_10_4, gp_10_5, gp_10_6, gh_u10, gh_v10, stF_0, stF_1, z_o_i, z_ai_i, z_si_i, z_ab_b, z_ab_z, z_sb_b, z_sb_z, z_al_i, z_al_b, z_pu_s, z_pu_n, nI_toN, z_inN, true_and, and_true, nI_add, pk_mul, vu_eq, vu_ne, nI_leI, nI_ltI, nI_eqI, nI_eq0, nI_le0, ↓ok_0, ↓ok_1, ↓bI_ok, if_true, if_false, nI_lt0, nI_ge0, ne_eq, not_true_eq_false, not_false_eq_true, bI_eq0, bI_ne0, bI_T, bI_F, Bool.false_eq_true, Nat.one_ne_zero, Nat.zero_ne_one, Nat.zero_add, s2, kT, c, hy, gy', e15, and_self]
          have cm := c.2.1
          refine k_takeS (p := S m) (e := 3) gy (by omega) bm (by omega) rfl hb rD (fun E hE rE => ?_)
          have q := p3 E (hD.trans hE) (by rw [cy2, if_pos ⟨c.1, s2, c.2⟩]; exact rE)
          rw [s2] at q
          simp (disch := omega) only [gh_o10, gh_r11, gf_10_0, gf_10_1, gf_10_2, gf_10_3, gf_10_4, gf_10_5, gf_10_6, gp_10_2, gp_10_3, gp_10_4, gp_10_5, gp_10_6, gh_u10, gh_v10, stF_0, stF_1, z_o_i, z_ai_i, z_si_i, z_ab_b, z_ab_z, z_sb_b, z_sb_z, z_al_i, z_al_b, z_pu_s, z_pu_n, nI_toN, z_inN, true_and, and_true, nI_add, pk_mul, vu_eq, vu_ne, nI_leI, nI_ltI, nI_eqI, nI_eq0, nI_le0, ↓ok_0, ↓ok_1, ↓bI_ok, if_true, if_false, nI_lt0, nI_ge0, ne_eq, not_true_eq_false, not_false_eq_true, bI_eq0, bI_ne0, bI_T, bI_F, Bool.false_eq_true, Nat.one_ne_zero, Nat.zero_ne_one, Nat.zero_add]
          exact q
        · simp (disch := omega) only [i_X4_laySyllable_80, i_X4_laySyllable_81, i_X4_laySyllable_82, i_X4_laySyllable_85, i_X4_laySyllable_86, i_X4_laySyllable_87, i_X4_laySyllable_90, gh_o10, gh_r11, gf_10_0, gf_10_1, gf_10_2, gf_10_3, gf_10_4, gf_10_5, gf_10_6, gp_10_2, gp_10_3, gp_10_4, gp_10_5, gp_10_6, gh_u10, gh_v10, stF_0, stF_1, z_o_i, z_ai_i, z_si_i, z_ab_b, z_ab_z, z_sb_b, z_sb_z, z_al_i, z_al_b, z_pu_s, z_pu_n, nI_toN, z_inN, true_and, and_true, nI_add, pk_mul, vu_eq, vu_ne, nI_leI, nI_ltI, nI_eqI, nI_eq0, nI_le0, ↓ok_0, ↓ok_1, ↓bI_ok, if_true, if_false, nI_lt0, nI_ge0, ne_eq, not_true_eq_false, not_false_eq_true, bI_eq0, bI_ne0, bI_T, bI_F, Bool.false_eq_true, Nat.one_ne_zero, Nat.zero_ne_one, Nat.zero_add, s2, kT, c]
          have q := p3 D hD (by rw [cy2, if_neg (fun z => c ⟨z.1, z.2.2⟩)]; exact rD)
          rw [s2] at q
          exact q
      · simp (disch := omega) only [i_X4_laySyllable_80, i_X4_laySyllable_81, i_X4_laySyllable_82, gh_o10, gh_r11, gf_10_0, gf_10_1, gf_10_2, gf_10_3, gf_10_4, gf_10_5, gf_10_6, gp_10_2, gp_10_3, gp_10_4, gp_10_5, gp_10_6, gh_u10, gh_v10, stF_0, stF_1, z_o_i, z_ai_i, z_si_i, z_ab_b, z_ab_z, z_sb_b, z_sb_z, z_al_i, z_al_b, z_pu_s, z_pu_n, nI_toN, z_inN, true_and, and_true, nI_add, pk_mul, vu_eq, vu_ne, nI_leI, nI_ltI, nI_eqI, nI_eq0, nI_le0, ↓ok_0, ↓ok_1, ↓bI_ok, if_true, if_false, nI_lt0, nI_ge0, ne_eq, not_true_eq_false, not_false_eq_true, bI_eq0, bI_ne0, bI_T, bI_F, Bool.false_eq_true, Nat.one_ne_zero, Nat.zero_ne_one, Nat.zero_add, s2]
        exact p3 D hD (by rw [cy2, if_neg (fun z => s2 z.2.1)]; exact rD)
    by_cases lt : marks ≤ m
    · simp (disch := omega) only [i_X4_laySyllable_43, i_X4_laySyllable_44, i_X4_laySyllable_45, i_X4_laySyllable_48, gh_o10, gh_r11, gf_10_0, gf_10_1, gf_10_2, gf_10_3, gf_10_4, gf_10_5, gf_10_6, gp_10_2, gp_10_3, gp_10_4, gp_10_5, gp_10_6, gh_u10, gh_v10, stF_0, stF_1, z_o_i, z_ai_i, z_si_i, z_ab_b, z_ab_z, z_sb_b, z_sb_z, z_al_i, z_al_b, z_pu_s, z_pu_n, nI_toN, z_inN, true_and, and_true, nI_add, pk_mul, vu_eq, vu_ne, nI_leI, nI_ltI, nI_eqI, nI_eq0, nI_le0, ↓ok_0, ↓ok_1, ↓bI_ok, if_true, if_false, nI_lt0, nI_ge0, ne_eq, not_true_eq_false, not_false_eq_true, bI_eq0, bI_ne0, bI_T, bI_F, Bool.false_eq_true, Nat.one_ne_zero, Nat.zero_ne_one, Nat.zero_add, r0, lt]
      exact p2 C hF (by rw [cy1, if_neg (by omega)]; exact hr)
    · have rm := hLC.2 m (by omega)
      have bk := hk m
      have kA : ∀ {d nx : Nat} {Q : z_Q} {h : z_H}, XC d m_X4_agree [.int (nI (mk m)), .int (nI st)] h nx Q = _ := k_agree bk hs
      by_cases c : ag (mk m) st = true
      · simp (disch := omega) only [i_X4_laySyllable_43, i_X4_laySyllable_44, i_X4_laySyllable_45, i_X4_laySyllable_48, i_X4_laySyllable_51, i_X4_laySyllable_52, i_X4_laySyllable_55, i_X4_laySyllable_56, i_X4_laySyllable_57, i_X4_laySyllable_58, i_X4_laySyllable_61, i_X4_laySyllable_64, i_X4_laySyllable_65, i_X4_laySyllable_68, i_X4_laySyllable_69, i_X4_laySyllable_70, i_X4_laySyllable_71, i_X4_laySyllable_72, i_X4_laySyllable_73, i_X4_laySyllable_75, i_X4_laySyllable_77, gh_o10, gh_r11, gf_10_0, gf_10_1, gf_10_2, gf_10_3, gf_10_4, gf_10_5, gf_10_6, gp_10_2, gp_10_3, gp_10_4, gp_10_5, gp_10_6, gh_u10, gh_v10, stF_0, stF_1, z_o_i, z_ai_i, z_si_i, z_ab_b, z_ab_z, z_sb_b, z_sb_z, z_al_i, z_al_b, z_pu_s, z_pu_n, nI_toN, z_inN, true_and, and_true, nI_add, pk_mul, vu_eq, vu_ne, nI_leI, nI_ltI, nI_eqI, nI_eq0, nI_le0, ↓ok_0, ↓ok_1, ↓bI_ok, if_true, if_false, nI_lt0, nI_ge0, ne_eq, not_true_eq_false, not_false_eq_true, bI_eq0, bI_ne0, bI_T, bI_F, Bool.false_eq_true, Nat.one_ne_zero, Nat.zero_ne_one, Nat.zero_add, r0, lt, rm, kA, c, hy, gy']
        refine k_takeS (p := S m) (e := 0) gy (by omega) bm (by omega) (by rw [Nat.add_zero]) hb hr (fun E hE rE => ?_)
        have q := p2 E (hF.trans hE) (by rw [cy1, if_pos ⟨by omega, c⟩]; exact rE)
        simp (disch := omega) only [gh_o10, gh_r11, gf_10_0, gf_10_1, gf_10_2, gf_10_3, gf_10_4, gf_10_5, gf_10_6, gp_10_2, gp_10_3, gp_10_4, gp_10_5, gp_10_6, gh_u10, gh_v10, stF_0, stF_1, z_o_i, z_ai_i, z_si_i, z_ab_b, z_ab_z, z_sb_b, z_sb_z, z_al_i, z_al_b, z_pu_s, z_pu_n, nI_toN, z_inN, true_and, and_true, nI_add, pk_mul, vu_eq, vu_ne, nI_leI, nI_ltI, nI_eqI, nI_eq0, nI_le0, ↓ok_0, ↓ok_1, ↓bI_ok, if_true, if_false, nI_lt0, nI_ge0, ne_eq, not_true_eq_false, not_false_eq_true, bI_eq0, bI_ne0, bI_T, bI_F, Bool.false_eq_true, Nat.one_ne_zero, Nat.zero_ne_one, Nat.zero_add]
        exact q
      · simp (disch := omega) only [i_X4_laySyllable_43, i_X4_laySyllable_44, i_X4_laySyllable_45, i_X4_laySyllable_48, i_X4_laySyllable_51, i_X4_laySyllable_52, i_X4_laySyllable_55, i_X4_laySyllable_56, i_X4_laySyllable_57, i_X4_laySyllable_58, i_X4_laySyllable_61, gh_o10, gh_r11, gf_10_0, gf_10_1, gf_10_2, gf_10_3, gf_10_4, gf_10_5, gf_10_6, gp_10_2, gp_10_3, gp_10_4, gp_10_5, gp_10_6, gh_u10, gh_v10, stF_0, stF_1, z_o_i, z_ai_i, z_si_i, z_ab_b, z_ab_z, z_sb_b, z_sb_z, z_al_i, z_al_b, z_pu_s, z_pu_n, nI_toN, z_inN, true_and, and_true, nI_add, pk_mul, vu_eq, vu_ne, nI_leI, nI_ltI, nI_eqI, nI_eq0, nI_le0, ↓ok_0, ↓ok_1, ↓bI_ok, if_true, if_false, nI_lt0, nI_ge0, ne_eq, not_true_eq_false, not_false_eq_true, bI_eq0, bI_ne0, bI_T, bI_F, Bool.false_eq_true, Nat.one_ne_zero, Nat.zero_ne_one, Nat.zero_add, r0, lt, rm, kA, c]
        exact p2 C hF (by rw [cy1, if_neg (fun z => c z.2)]; exact hr)
theorem k_syl {x y : Nat} (hx : P 10 5 = x) (hy : P 10 6 = y) (gx : Sx x) (gy : Sx y) (hxy : x ≠ y) (h12 : marks ≤ 12) (hk : ∀ j, mk j ≤ 2) (hs : st ≤ 2) (hb : b + 3 ≤ 2000) (hL : Ly A mk marks) (hS : Rs 1000000 b 27 S (A (x + 1)) (A (x + 2)))
    (hQ : ∀ C R, Fg1 y A C → R 10 3 = P 10 3 → R 10 4 = P 10 4 → R 10 5 = y → R 10 6 = x → (∀ k, k ≠ 10 → R k = P k) → Rs 1000000 (b + 3) 27 (cyq mk marks st first S) (C (y + 1)) (C (y + 2)) → Q none (GH C R dy) nx) : XC (d + 1) m_X4_laySyllable [.ref 10, .int (nI st), .int (bI (first = true))] (GH A P dy) nx Q := by
  show X (d + 1) m_X4_laySyllable 0 [some (.ref 10), some (.int (nI st)), some (.int (bI (first = true))), none, none, none] [] (GH A P dy) nx 0 0 Q
  have gy' : ∀ {A : Nat → Nat → Int32} {P : Nat → Nat → Nat}, GH A P dy y = .inr (.inl (5, stF y)) := gh_st gy
  simp (disch := omega) only [i_X4_laySyllable_0, i_X4_laySyllable_1, i_X4_laySyllable_4, gh_o10, gh_r11, gf_10_0, gf_10_1, gf_10_2, gf_10_3, gf_10_4, gf_10_5, gf_10_6, gp_10_2, gp_10_3, gp_10_4, gp_10_5, gp_10_6, gh_u10, gh_v10, stF_0, stF_1, z_o_i, z_ai_i, z_si_i, z_ab_b, z_ab_z, z_sb_b, z_sb_z, z_al_i, z_al_b, z_pu_s, z_pu_n, nI_toN, z_inN, true_and, and_true, nI_add, pk_mul, vu_eq, vu_ne, nI_leI, nI_ltI, nI_eqI, nI_eq0, nI_le0, ↓ok_0, ↓ok_1, ↓bI_ok, if_true, if_false, nI_lt0, nI_ge0, ne_eq, not_true_eq_false, not_false_eq_true, bI_eq0, bI_ne0, bI_T, bI_F, Bool.false_eq_true, Nat.one_ne_zero, Nat.zero_ne_one, Nat.zero_add, hy, gy']
  refine k_empty gy (fun C hC rC => ?_)
  simp (disch := omega) only [i_X4_laySyllable_7, i_X4_laySyllable_8, gh_o10, gh_r11, gf_10_0, gf_10_1, gf_10_2, gf_10_3, gf_10_4, gf_10_5, gf_10_6, gp_10_2, gp_10_3, gp_10_4, gp_10_5, gp_10_6, gh_u10, gh_v10, stF_0, stF_1, z_o_i, z_ai_i, z_si_i, z_ab_b, z_ab_z, z_sb_b, z_sb_z, z_al_i, z_al_b, z_pu_s, z_pu_n, nI_toN, z_inN, true_and, and_true, nI_add, pk_mul, vu_eq, vu_ne, nI_leI, nI_ltI, nI_eqI, nI_eq0, nI_le0, ↓ok_0, ↓ok_1, ↓bI_ok, if_true, if_false, nI_lt0, nI_ge0, ne_eq, not_true_eq_false, not_false_eq_true, bI_eq0, bI_ne0, bI_T, bI_F, Bool.false_eq_true, Nat.one_ne_zero, Nat.zero_ne_one, Nat.zero_add]
  refine l_syl (A := A) hx hy gx gy hxy h12 hk hs hb hL hS (fun D x4 x5 hD rD => ?_) (marks + 1) 0 C none none (by omega) hC (rC.b (by omega))
  simp (disch := omega) only [i_X4_laySyllable_202, i_X4_laySyllable_203, i_X4_laySyllable_206, i_X4_laySyllable_207, i_X4_laySyllable_208, i_X4_laySyllable_209, i_X4_laySyllable_212, i_X4_laySyllable_215, i_X4_laySyllable_216, i_X4_laySyllable_217, i_X4_laySyllable_220, gh_o10, gh_r11, gf_10_0, gf_10_1, gf_10_2, gf_10_3, gf_10_4, gf_10_5, gf_10_6, gp_10_2, gp_10_3, gp_10_4, gp_10_5, gp_10_6, gh_u10, gh_v10, stF_0, stF_1, z_o_i, z_ai_i, z_si_i, z_ab_b, z_ab_z, z_sb_b, z_sb_z, z_al_i, z_al_b, z_pu_s, z_pu_n, nI_toN, z_inN, true_and, and_true, nI_add, pk_mul, vu_eq, vu_ne, nI_leI, nI_ltI, nI_eqI, nI_eq0, nI_le0, ↓ok_0, ↓ok_1, ↓bI_ok, if_true, if_false, nI_lt0, nI_ge0, ne_eq, not_true_eq_false, not_false_eq_true, bI_eq0, bI_ne0, bI_T, bI_F, Bool.false_eq_true, Nat.one_ne_zero, Nat.zero_ne_one, Nat.zero_add, hx, hy]
  refine hQ D _ hD ?_ ?_ ?_ ?_ (fun k hk => ?_) rD
  · rw [vu_eq, vu_ne (by omega), vu_ne (by omega)]
  · rw [vu_eq, vu_ne (by omega), vu_ne (by omega)]
  · rw [vu_eq, vu_ne (by omega), vu_eq]
  · rw [vu_eq, vu_eq]
  · rw [vu_ne hk, vu_ne hk]
end CSyl
