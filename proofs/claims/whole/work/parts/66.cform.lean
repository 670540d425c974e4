/-! THE CLASS: meter, form, place, loose, set, stands, count -/
section CForm
variable {s : z_S} {A : Nat → Nat → Int32} {P : Nat → Nat → Nat} {dy : z_H} {d nx nz bc bs : Nat} {Q : z_Q} {wd ln : Nat → Nat}
theorem mxN {a b : Nat} : (if a < b then nI b else nI a) = nI (max a b) := by
  by_cases h : a < b
  · rw [if_pos h, Nat.max_eq_right (by omega)]
  · rw [if_neg h, Nat.max_eq_left (by omega)]
theorem l_mt1 {n T : Nat} {x2 : Option Value} {h : z_H} (hn : n ≤ 12) (hT : T < 2147483648) (hQ : X (d + 1) m_X7_meter 39 [some (.ref 3), some (.int (nI n)), x2, some (.int (nI (T / 3 ^ n))), some (.int (nI n))] [] h nx bc bs Q) : ∀ (m k : Nat), k + m = n → X (d + 1) m_X7_meter 23 [some (.ref 3), some (.int (nI n)), x2, some (.int (nI (T / 3 ^ k))), some (.int (nI k))] [] h nx bc bs Q := by
  intro m
  induction m with
  | zero =>
    intro k hk
    have e : k = n := by omega
    subst e
    simp (disch := omega) only [i_X7_meter_23, i_X7_meter_25, i_X7_meter_26, gh_o3, gh_l4, gh_l5, gh_o10, gh_r11, gh_w11, gh_o24, gh_r25, gh_r26, gh_r27, gh_w25, gh_w26, gh_w27, gh_u24, gp_24_0, gp_24_1, gf_24_0, gf_24_1, gf_24_2, gf_24_3, gf_24_4, gf_24_5, gf_3_0, gf_3_1, gf_3_3, gf_3_4, gf_10_0, gf_10_1, gp_10_0, gh_u10, wdF_0, wdF_1, wdF_3, lsF_1, lsF_2, z_o_i, z_ai_i, z_si_i, z_ab_b, z_ab_z, z_sb_b, z_sb_z, z_al_i, z_al_b, z_pu_s, z_pu_n, nI_toN, z_inN, true_and, and_true, nI_add, pk_mul, vu_eq, vu_ne, nI_leI, nI_ltI, nI_eqI, nI_eq0, nI_le0, ↓ok_0, ↓ok_1, ↓bI_ok, if_true, if_false, nI_lt0, nI_ge0, ne_eq, not_true_eq_false, not_false_eq_true, bI_eq0, bI_ne0, bI_T, bI_F, Bool.false_eq_true, Nat.one_ne_zero, Nat.zero_ne_one, Nat.zero_add, nI_m1, mnN, Nat.le_refl]
    exact hQ
  | succ m ih =>
    intro k hk
    have l1 : ¬ n ≤ k := by omega
    have lt : T / 3 ^ k < 2147483648 := Nat.lt_of_le_of_lt (Nat.div_le_self _ _) hT
    have e : T / 3 ^ k / 3 = T / 3 ^ (k + 1) := by rw [Nat.div_div_eq_div_mul, Nat.pow_succ]
    have z3 : ¬ (3 : Nat) = 0 := by omega
    rw [i_X7_meter_23]
    simp (disch := omega) only [i_X7_meter_25, i_X7_meter_26, i_X7_meter_29, i_X7_meter_30, i_X7_meter_31, i_X7_meter_32, i_X7_meter_33, i_X7_meter_36, gh_o3, gh_l4, gh_l5, gh_o10, gh_r11, gh_w11, gh_o24, gh_r25, gh_r26, gh_r27, gh_w25, gh_w26, gh_w27, gh_u24, gp_24_0, gp_24_1, gf_24_0, gf_24_1, gf_24_2, gf_24_3, gf_24_4, gf_24_5, gf_3_0, gf_3_1, gf_3_3, gf_3_4, gf_10_0, gf_10_1, gp_10_0, gh_u10, wdF_0, wdF_1, wdF_3, lsF_1, lsF_2, z_o_i, z_ai_i, z_si_i, z_ab_b, z_ab_z, z_sb_b, z_sb_z, z_al_i, z_al_b, z_pu_s, z_pu_n, nI_toN, z_inN, true_and, and_true, nI_add, pk_mul, vu_eq, vu_ne, nI_leI, nI_ltI, nI_eqI, nI_eq0, nI_le0, ↓ok_0, ↓ok_1, ↓bI_ok, if_true, if_false, nI_lt0, nI_ge0, ne_eq, not_true_eq_false, not_false_eq_true, bI_eq0, bI_ne0, bI_T, bI_F, Bool.false_eq_true, Nat.one_ne_zero, Nat.zero_ne_one, Nat.zero_add, nI_m1, mnN, l1, z3, pk_div, e]
    exact ih (k + 1) (by omega)
theorem l_mt2 {n T : Nat} {x2 : Option Value} {f : Nat → Int32} {A : Nat → Nat → Int32} (hn : n ≤ 12) (hT : T < 531441) (h10 : A 10 0 = nI n) (hQ : Q none (GH (va_up A 11 (pt f (fun i => nI (T / 3 ^ i % 3)) 0 n)) P dy) nx) : ∀ (m k : Nat), k + m = n → X d m_X4_tellMarks 19 [some (.ref 10), some (.int (nI n)), x2, some (.int (nI (T / 3 ^ k))), some (.int (nI k))] [] (GH (va_up A 11 (pt f (fun i => nI (T / 3 ^ i % 3)) 0 k)) P dy) nx bc bs Q := by
  intro m
  induction m with
  | zero =>
    intro k hk
    have e : k = n := by omega
    subst e
    simp (disch := omega) only [i_X4_tellMarks_19, i_X4_tellMarks_21, i_X4_tellMarks_22, i_X4_tellMarks_25, i_X4_tellMarks_48, gh_o3, gh_l4, gh_l5, gh_o10, gh_r11, gh_w11, gh_o24, gh_r25, gh_r26, gh_r27, gh_w25, gh_w26, gh_w27, gh_u24, gp_24_0, gp_24_1, gf_24_0, gf_24_1, gf_24_2, gf_24_3, gf_24_4, gf_24_5, gf_3_0, gf_3_1, gf_3_3, gf_3_4, gf_10_0, gf_10_1, gp_10_0, gh_u10, wdF_0, wdF_1, wdF_3, lsF_1, lsF_2, z_o_i, z_ai_i, z_si_i, z_ab_b, z_ab_z, z_sb_b, z_sb_z, z_al_i, z_al_b, z_pu_s, z_pu_n, nI_toN, z_inN, true_and, and_true, nI_add, pk_mul, vu_eq, vu_ne, nI_leI, nI_ltI, nI_eqI, nI_eq0, nI_le0, ↓ok_0, ↓ok_1, ↓bI_ok, if_true, if_false, nI_lt0, nI_ge0, ne_eq, not_true_eq_false, not_false_eq_true, bI_eq0, bI_ne0, bI_T, bI_F, Bool.false_eq_true, Nat.one_ne_zero, Nat.zero_ne_one, Nat.zero_add, nI_m1, mnN, h10, Nat.le_refl]
    exact hQ
  | succ m ih =>
    intro k hk
    have l1 : ¬ n ≤ k := by omega
    have lt : T / 3 ^ k < 531441 := Nat.lt_of_le_of_lt (Nat.div_le_self _ _) hT
    have e : T / 3 ^ k / 3 = T / 3 ^ (k + 1) := by rw [Nat.div_div_eq_div_mul, Nat.pow_succ]
    have z3 : ¬ (3 : Nat) = 0 := by omega
    have p1 := pt_succ f (fun i => nI (T / 3 ^ i % 3)) 0 k (v := nI (T / 3 ^ k % 3)) rfl
    rw [Nat.zero_add] at p1
    have md : T / 3 ^ k - T / 3 ^ (k + 1) * 3 = T / 3 ^ k % 3 := by rw [← e]; omega
    rw [i_X4_tellMarks_19]
    simp (disch := omega) only [i_X4_tellMarks_21, i_X4_tellMarks_22, i_X4_tellMarks_25, i_X4_tellMarks_28, i_X4_tellMarks_29, i_X4_tellMarks_32, i_X4_tellMarks_34, i_X4_tellMarks_35, i_X4_tellMarks_36, i_X4_tellMarks_37, i_X4_tellMarks_38, i_X4_tellMarks_39, i_X4_tellMarks_40, i_X4_tellMarks_41, i_X4_tellMarks_42, i_X4_tellMarks_45, gh_o3, gh_l4, gh_l5, gh_o10, gh_r11, gh_w11, gh_o24, gh_r25, gh_r26, gh_r27, gh_w25, gh_w26, gh_w27, gh_u24, gp_24_0, gp_24_1, gf_24_0, gf_24_1, gf_24_2, gf_24_3, gf_24_4, gf_24_5, gf_3_0, gf_3_1, gf_3_3, gf_3_4, gf_10_0, gf_10_1, gp_10_0, gh_u10, wdF_0, wdF_1, wdF_3, lsF_1, lsF_2, z_o_i, z_ai_i, z_si_i, z_ab_b, z_ab_z, z_sb_b, z_sb_z, z_al_i, z_al_b, z_pu_s, z_pu_n, nI_toN, z_inN, true_and, and_true, nI_add, pk_mul, vu_eq, vu_ne, nI_leI, nI_ltI, nI_eqI, nI_eq0, nI_le0, ↓ok_0, ↓ok_1, ↓bI_ok, if_true, if_false, nI_lt0, nI_ge0, ne_eq, not_true_eq_false, not_false_eq_true, bI_eq0, bI_ne0, bI_T, bI_F, Bool.false_eq_true, Nat.one_ne_zero, Nat.zero_ne_one, Nat.zero_add, nI_m1, mnN, h10, l1, z3, pk_div, e, pk_sub, md, p1]
    rw [vu_vu]
    exact ih (k + 1) (by omega)
theorem x_meter {n x : Int32} (hI : Iv s) (hK : Cl s A P dy nx) (hQ : ∀ B R, Cl (s_meter s n x).2 B R dy nx → Fz A B → Q (some (.int (s_meter s n x).1)) (GH B R dy) nx) : XC (d + 2) m_X7_meter [.ref 3, .int n, .int x] (GH A P dy) nx Q := by
  show X (d + 2) m_X7_meter 0 [some (.ref 3), some (.int n), some (.int x), none, none] [] (GH A P dy) nx 0 0 Q
  unfold s_meter at hQ
  by_cases hn : ir n 1 12 = true
  · obtain ⟨k, k1, k2, rfl⟩ := ir_ex hn
    rw [nI_toN (by omega)] at hQ
    have p3 := p3_le k2
    have c1 : ¬ k < 1 := by omega
    have c2 : ¬ 12 < k := by omega
    by_cases x0 : 0 ≤ x
    · have hx : iw x 2147483648 = true := by rw [iw_0]; exact x0
      obtain ⟨T, hT, rfl⟩ := iw_ex hx
      rw [nI_toN (by omega)] at hQ
      simp (disch := omega) only [i_X7_meter_0, i_X7_meter_1, i_X7_meter_2, i_X7_meter_5, i_X7_meter_6, i_X7_meter_8, i_X7_meter_11, i_X7_meter_12, i_X7_meter_18, i_X7_meter_19, i_X7_meter_20, i_X7_meter_21, gh_o3, gh_l4, gh_l5, gh_o10, gh_r11, gh_w11, gh_o24, gh_r25, gh_r26, gh_r27, gh_w25, gh_w26, gh_w27, gh_u24, gp_24_0, gp_24_1, gf_24_0, gf_24_1, gf_24_2, gf_24_3, gf_24_4, gf_24_5, gf_3_0, gf_3_1, gf_3_3, gf_3_4, gf_10_0, gf_10_1, gp_10_0, gh_u10, wdF_0, wdF_1, wdF_3, lsF_1, lsF_2, z_o_i, z_ai_i, z_si_i, z_ab_b, z_ab_z, z_sb_b, z_sb_z, z_al_i, z_al_b, z_pu_s, z_pu_n, nI_toN, z_inN, true_and, and_true, nI_add, pk_mul, vu_eq, vu_ne, nI_leI, nI_ltI, nI_eqI, nI_eq0, nI_le0, ↓ok_0, ↓ok_1, ↓bI_ok, if_true, if_false, nI_lt0, nI_ge0, ne_eq, not_true_eq_false, not_false_eq_true, bI_eq0, bI_ne0, bI_T, bI_F, Bool.false_eq_true, Nat.one_ne_zero, Nat.zero_ne_one, Nat.zero_add, nI_m1, mnN, c1, c2]
      have lp := l_mt1 (d := d + 1) (nx := nx) (bc := 0) (bs := 0) (Q := Q) (n := k) (T := T) (x2 := some (.int (nI T))) (h := GH A P dy) k2 hT ?_ k 0 (by omega)
      · rw [Nat.pow_zero, Nat.div_one] at lp
        exact lp
      · have ltd : T / 3 ^ k < 2147483648 := Nat.lt_of_le_of_lt (Nat.div_le_self _ _) hT
        have pp : 0 < 3 ^ k := Nat.pow_pos (by omega)
        by_cases z : T / 3 ^ k = 0
        · have lt : T < 3 ^ k := by
            rcases Nat.lt_or_ge T (3 ^ k) with h | h
            · exact h
            · have := Nat.div_pos h pp; omega
          rw [if_pos ⟨hn, by rw [iw_nI (by omega)]; simpa using lt⟩] at hQ
          simp (disch := omega) only [i_X7_meter_39, i_X7_meter_40, i_X7_meter_46, i_X7_meter_47, i_X7_meter_50, i_X7_meter_51, i_X7_meter_52, gh_o3, gh_l4, gh_l5, gh_o10, gh_r11, gh_w11, gh_o24, gh_r25, gh_r26, gh_r27, gh_w25, gh_w26, gh_w27, gh_u24, gp_24_0, gp_24_1, gf_24_0, gf_24_1, gf_24_2, gf_24_3, gf_24_4, gf_24_5, gf_3_0, gf_3_1, gf_3_3, gf_3_4, gf_10_0, gf_10_1, gp_10_0, gh_u10, wdF_0, wdF_1, wdF_3, lsF_1, lsF_2, z_o_i, z_ai_i, z_si_i, z_ab_b, z_ab_z, z_sb_b, z_sb_z, z_al_i, z_al_b, z_pu_s, z_pu_n, nI_toN, z_inN, true_and, and_true, nI_add, pk_mul, vu_eq, vu_ne, nI_leI, nI_ltI, nI_eqI, nI_eq0, nI_le0, ↓ok_0, ↓ok_1, ↓bI_ok, if_true, if_false, nI_lt0, nI_ge0, ne_eq, not_true_eq_false, not_false_eq_true, bI_eq0, bI_ne0, bI_T, bI_F, Bool.false_eq_true, Nat.one_ne_zero, Nat.zero_ne_one, Nat.zero_add, nI_m1, mnN, z]
          show X (d + 1) m_X4_tellMarks 0 [some (.ref 10), some (.int (nI k)), some (.int (nI T)), none, none] [] (GH A P dy) nx 0 0 _
          have mx : max 1 (min k 12) = k := by omega
          simp (disch := omega) only [i_X4_tellMarks_0, i_X4_tellMarks_1, i_X4_tellMarks_2, i_X4_tellMarks_3, i_X4_tellMarks_5, i_X4_tellMarks_8, i_X4_tellMarks_11, i_X4_tellMarks_14, i_X4_tellMarks_15, i_X4_tellMarks_16, i_X4_tellMarks_17, gh_o3, gh_l4, gh_l5, gh_o10, gh_r11, gh_w11, gh_o24, gh_r25, gh_r26, gh_r27, gh_w25, gh_w26, gh_w27, gh_u24, gp_24_0, gp_24_1, gf_24_0, gf_24_1, gf_24_2, gf_24_3, gf_24_4, gf_24_5, gf_3_0, gf_3_1, gf_3_3, gf_3_4, gf_10_0, gf_10_1, gp_10_0, gh_u10, wdF_0, wdF_1, wdF_3, lsF_1, lsF_2, z_o_i, z_ai_i, z_si_i, z_ab_b, z_ab_z, z_sb_b, z_sb_z, z_al_i, z_al_b, z_pu_s, z_pu_n, nI_toN, z_inN, true_and, and_true, nI_add, pk_mul, vu_eq, vu_ne, nI_leI, nI_ltI, nI_eqI, nI_eq0, nI_le0, ↓ok_0, ↓ok_1, ↓bI_ok, if_true, if_false, nI_lt0, nI_ge0, ne_eq, not_true_eq_false, not_false_eq_true, bI_eq0, bI_ne0, bI_T, bI_F, Bool.false_eq_true, Nat.one_ne_zero, Nat.zero_ne_one, Nat.zero_add, nI_m1, mnN, mxN, mx]
          have e1 : va_up (va_up A 10 (va_up (A 10) 0 (nI k))) 11 (pt (A 11) (fun i => nI (T / 3 ^ i % 3)) 0 0) = va_up A 10 (va_up (A 10) 0 (nI k)) := by
            rw [pt_0, vu_self]; rfl
          have lp := l_mt2 (d := d + 1) (bc := 0) (bs := 0) (nx := nx) (P := P) (dy := dy) (x2 := some (.int (nI T))) (f := A 11) (A := va_up A 10 (va_up (A 10) 0 (nI k))) (Q := fun r h' nx' => X (d + 1 + 1) m_X7_meter 55 [some (.ref 3), some (.int (nI k)), some (.int (nI T)), some (.int (nI 0)), some (.int (nI k))] (z_pu r []) h' nx' 0 0 Q) k2 (T := T) (by omega) (by rw [vu_eq, vu_eq]) ?_ k 0 (by omega)
          · rw [e1, Nat.pow_zero, Nat.div_one] at lp
            exact lp
          · simp (disch := omega) only [i_X7_meter_55, i_X7_meter_56, gh_o3, gh_l4, gh_l5, gh_o10, gh_r11, gh_w11, gh_o24, gh_r25, gh_r26, gh_r27, gh_w25, gh_w26, gh_w27, gh_u24, gp_24_0, gp_24_1, gf_24_0, gf_24_1, gf_24_2, gf_24_3, gf_24_4, gf_24_5, gf_3_0, gf_3_1, gf_3_3, gf_3_4, gf_10_0, gf_10_1, gp_10_0, gh_u10, wdF_0, wdF_1, wdF_3, lsF_1, lsF_2, z_o_i, z_ai_i, z_si_i, z_ab_b, z_ab_z, z_sb_b, z_sb_z, z_al_i, z_al_b, z_pu_s, z_pu_n, nI_toN, z_inN, true_and, and_true, nI_add, pk_mul, vu_eq, vu_ne, nI_leI, nI_ltI, nI_eqI, nI_eq0, nI_le0, ↓ok_0, ↓ok_1, ↓bI_ok, if_true, if_false, nI_lt0, nI_ge0, ne_eq, not_true_eq_false, not_false_eq_true, bI_eq0, bI_ne0, bI_T, bI_F, Bool.false_eq_true, Nat.one_ne_zero, Nat.zero_ne_one, Nat.zero_add, nI_m1, mnN]
            refine hQ _ _ ⟨⟨⟨hK.1.1.1, hK.1.1.2.1, rfl, fun i hi => ?_⟩, hK.1.2⟩, ?_⟩ ((Fz.refl.up (by omega)).up (by omega))
            · show pt (A 11) (fun i => nI (T / 3 ^ i % 3)) 0 k i = nI (pt (s.1 41) (fun i => T / 3 ^ i % 3) 0 k i)
              unfold pt
              by_cases e : 0 ≤ i ∧ i < 0 + k
              · rw [if_pos e, if_pos e]
              · rw [if_neg e, if_neg e]; exact hK.1.1.2.2.2 i hi
            · obtain ⟨_, wd, ln, hD⟩ := hK
              exact ⟨wd, ln, hD.of rfl rfl rfl rfl⟩
        · have ge : ¬ T < 3 ^ k := fun h => z (Nat.div_eq_of_lt h)
          rw [if_neg (fun q => ge (by have := q.2; rw [iw_nI (by omega)] at this; simpa using this))] at hQ
          simp (disch := omega) only [i_X7_meter_39, i_X7_meter_40, i_X7_meter_43, i_X7_meter_45, gh_o3, gh_l4, gh_l5, gh_o10, gh_r11, gh_w11, gh_o24, gh_r25, gh_r26, gh_r27, gh_w25, gh_w26, gh_w27, gh_u24, gp_24_0, gp_24_1, gf_24_0, gf_24_1, gf_24_2, gf_24_3, gf_24_4, gf_24_5, gf_3_0, gf_3_1, gf_3_3, gf_3_4, gf_10_0, gf_10_1, gp_10_0, gh_u10, wdF_0, wdF_1, wdF_3, lsF_1, lsF_2, z_o_i, z_ai_i, z_si_i, z_ab_b, z_ab_z, z_sb_b, z_sb_z, z_al_i, z_al_b, z_pu_s, z_pu_n, nI_toN, z_inN, true_and, and_true, nI_add, pk_mul, vu_eq, vu_ne, nI_leI, nI_ltI, nI_eqI, nI_eq0, nI_le0, ↓ok_0, ↓ok_1, ↓bI_ok, if_true, if_false, nI_lt0, nI_ge0, ne_eq, not_true_eq_false, not_false_eq_true, bI_eq0, bI_ne0, bI_T, bI_F, Bool.false_eq_true, Nat.one_ne_zero, Nat.zero_ne_one, Nat.zero_add, nI_m1, mnN, z]
          exact hQ A P hK Fz.refl
    · rw [if_neg (fun q => x0 (by have := q.2; simp only [iw, decide_eq_true_eq] at this; rw [Int32.le_iff_toInt_le]; exact this.1))] at hQ
      simp (disch := omega) only [i_X7_meter_0, i_X7_meter_1, i_X7_meter_2, i_X7_meter_5, i_X7_meter_6, i_X7_meter_8, i_X7_meter_11, i_X7_meter_12, i_X7_meter_15, i_X7_meter_17, gh_o3, gh_l4, gh_l5, gh_o10, gh_r11, gh_w11, gh_o24, gh_r25, gh_r26, gh_r27, gh_w25, gh_w26, gh_w27, gh_u24, gp_24_0, gp_24_1, gf_24_0, gf_24_1, gf_24_2, gf_24_3, gf_24_4, gf_24_5, gf_3_0, gf_3_1, gf_3_3, gf_3_4, gf_10_0, gf_10_1, gp_10_0, gh_u10, wdF_0, wdF_1, wdF_3, lsF_1, lsF_2, z_o_i, z_ai_i, z_si_i, z_ab_b, z_ab_z, z_sb_b, z_sb_z, z_al_i, z_al_b, z_pu_s, z_pu_n, nI_toN, z_inN, true_and, and_true, nI_add, pk_mul, vu_eq, vu_ne, nI_leI, nI_ltI, nI_eqI, nI_eq0, nI_le0, ↓ok_0, ↓ok_1, ↓bI_ok, if_true, if_false, nI_lt0, nI_ge0, ne_eq, not_true_eq_false, not_false_eq_true, bI_eq0, bI_ne0, bI_T, bI_F, Bool.false_eq_true, Nat.one_ne_zero, Nat.zero_ne_one, Nat.zero_add, nI_m1, mnN, c1, c2, x0]
      exact hQ A P hK Fz.refl
  · rw [if_neg (fun q => hn q.1)] at hQ
    simp only [ir, decide_eq_true_eq] at hn
    by_cases n1 : n < nI 1
    · simp (disch := omega) only [i_X7_meter_0, i_X7_meter_1, i_X7_meter_2, i_X7_meter_15, i_X7_meter_17, gh_o3, gh_l4, gh_l5, gh_o10, gh_r11, gh_w11, gh_o24, gh_r25, gh_r26, gh_r27, gh_w25, gh_w26, gh_w27, gh_u24, gp_24_0, gp_24_1, gf_24_0, gf_24_1, gf_24_2, gf_24_3, gf_24_4, gf_24_5, gf_3_0, gf_3_1, gf_3_3, gf_3_4, gf_10_0, gf_10_1, gp_10_0, gh_u10, wdF_0, wdF_1, wdF_3, lsF_1, lsF_2, z_o_i, z_ai_i, z_si_i, z_ab_b, z_ab_z, z_sb_b, z_sb_z, z_al_i, z_al_b, z_pu_s, z_pu_n, nI_toN, z_inN, true_and, and_true, nI_add, pk_mul, vu_eq, vu_ne, nI_leI, nI_ltI, nI_eqI, nI_eq0, nI_le0, ↓ok_0, ↓ok_1, ↓bI_ok, if_true, if_false, nI_lt0, nI_ge0, ne_eq, not_true_eq_false, not_false_eq_true, bI_eq0, bI_ne0, bI_T, bI_F, Bool.false_eq_true, Nat.one_ne_zero, Nat.zero_ne_one, Nat.zero_add, nI_m1, mnN, n1]
      exact hQ A P hK Fz.refl
    · have n12 : nI 12 < n := by
        rw [Int32.lt_iff_toInt_lt, nI_toInt (by omega)] at n1 ⊢
        omega
      simp (disch := omega) only [i_X7_meter_0, i_X7_meter_1, i_X7_meter_2, i_X7_meter_5, i_X7_meter_6, i_X7_meter_8, i_X7_meter_15, i_X7_meter_17, gh_o3, gh_l4, gh_l5, gh_o10, gh_r11, gh_w11, gh_o24, gh_r25, gh_r26, gh_r27, gh_w25, gh_w26, gh_w27, gh_u24, gp_24_0, gp_24_1, gf_24_0, gf_24_1, gf_24_2, gf_24_3, gf_24_4, gf_24_5, gf_3_0, gf_3_1, gf_3_3, gf_3_4, gf_10_0, gf_10_1, gp_10_0, gh_u10, wdF_0, wdF_1, wdF_3, lsF_1, lsF_2, z_o_i, z_ai_i, z_si_i, z_ab_b, z_ab_z, z_sb_b, z_sb_z, z_al_i, z_al_b, z_pu_s, z_pu_n, nI_toN, z_inN, true_and, and_true, nI_add, pk_mul, vu_eq, vu_ne, nI_leI, nI_ltI, nI_eqI, nI_eq0, nI_le0, ↓ok_0, ↓ok_1, ↓bI_ok, if_true, if_false, nI_lt0, nI_ge0, ne_eq, not_true_eq_false, not_false_eq_true, bI_eq0, bI_ne0, bI_T, bI_F, Bool.false_eq_true, Nat.one_ne_zero, Nat.zero_ne_one, Nat.zero_add, nI_m1, mnN, n1, n12]
      exact hQ A P hK Fz.refl
theorem k_has {x : Int32} (h : A 24 0 = nI (s.1 32 16)) (hb : s.1 32 16 ≤ 14) : XC d m_X1_hasPlace [.ref 24, .int x] (GH A P dy) nx Q = Q (some (.int (bI (iw x (s.1 32 16) = true)))) (GH A P dy) nx := by
  show X d m_X1_hasPlace 0 [some (.ref 24), some (.int x)] [] (GH A P dy) nx 0 0 Q = _
  by_cases hx : iw x (s.1 32 16) = true
  · obtain ⟨k, hk, rfl⟩ := iw_ex hx
    have le : ¬ s.1 32 16 ≤ k := by omega
    rw [bI_t hx]
    simp (disch := omega) only [i_X1_hasPlace_0, i_X1_hasPlace_1, i_X1_hasPlace_4, i_X1_hasPlace_5, i_X1_hasPlace_6, i_X1_hasPlace_9, i_X1_hasPlace_12, i_X1_hasPlace_13, i_X1_hasPlace_16, i_X1_hasPlace_17, gh_o3, gh_l4, gh_l5, gh_o10, gh_r11, gh_w11, gh_o24, gh_r25, gh_r26, gh_r27, gh_w25, gh_w26, gh_w27, gh_u24, gp_24_0, gp_24_1, gf_24_0, gf_24_1, gf_24_2, gf_24_3, gf_24_4, gf_24_5, gf_3_0, gf_3_1, gf_3_3, gf_3_4, gf_10_0, gf_10_1, gp_10_0, gh_u10, wdF_0, wdF_1, wdF_3, lsF_1, lsF_2, z_o_i, z_ai_i, z_si_i, z_ab_b, z_ab_z, z_sb_b, z_sb_z, z_al_i, z_al_b, z_pu_s, z_pu_n, nI_toN, z_inN, true_and, and_true, nI_add, pk_mul, vu_eq, vu_ne, nI_leI, nI_ltI, nI_eqI, nI_eq0, nI_le0, ↓ok_0, ↓ok_1, ↓bI_ok, if_true, if_false, nI_lt0, nI_ge0, ne_eq, not_true_eq_false, not_false_eq_true, bI_eq0, bI_ne0, bI_T, bI_F, Bool.false_eq_true, Nat.one_ne_zero, Nat.zero_ne_one, Nat.zero_add, nI_m1, mnN, h, le]
  · rw [bI_f hx]
    by_cases x0 : x < 0
    · simp (disch := omega) only [i_X1_hasPlace_0, i_X1_hasPlace_1, i_X1_hasPlace_4, i_X1_hasPlace_5, i_X1_hasPlace_6, i_X1_hasPlace_9, i_X1_hasPlace_12, i_X1_hasPlace_13, i_X1_hasPlace_16, i_X1_hasPlace_17, gh_o3, gh_l4, gh_l5, gh_o10, gh_r11, gh_w11, gh_o24, gh_r25, gh_r26, gh_r27, gh_w25, gh_w26, gh_w27, gh_u24, gp_24_0, gp_24_1, gf_24_0, gf_24_1, gf_24_2, gf_24_3, gf_24_4, gf_24_5, gf_3_0, gf_3_1, gf_3_3, gf_3_4, gf_10_0, gf_10_1, gp_10_0, gh_u10, wdF_0, wdF_1, wdF_3, lsF_1, lsF_2, z_o_i, z_ai_i, z_si_i, z_ab_b, z_ab_z, z_sb_b, z_sb_z, z_al_i, z_al_b, z_pu_s, z_pu_n, nI_toN, z_inN, true_and, and_true, nI_add, pk_mul, vu_eq, vu_ne, nI_leI, nI_ltI, nI_eqI, nI_eq0, nI_le0, ↓ok_0, ↓ok_1, ↓bI_ok, if_true, if_false, nI_lt0, nI_ge0, ne_eq, not_true_eq_false, not_false_eq_true, bI_eq0, bI_ne0, bI_T, bI_F, Bool.false_eq_true, Nat.one_ne_zero, Nat.zero_ne_one, Nat.zero_add, nI_m1, mnN, x0]
    · have x1 : nI (s.1 32 16) ≤ x := (iw_lt (by simpa using hx) (by omega)).resolve_left x0
      simp (disch := omega) only [i_X1_hasPlace_0, i_X1_hasPlace_1, i_X1_hasPlace_4, i_X1_hasPlace_5, i_X1_hasPlace_6, i_X1_hasPlace_9, i_X1_hasPlace_12, i_X1_hasPlace_13, i_X1_hasPlace_16, i_X1_hasPlace_17, gh_o3, gh_l4, gh_l5, gh_o10, gh_r11, gh_w11, gh_o24, gh_r25, gh_r26, gh_r27, gh_w25, gh_w26, gh_w27, gh_u24, gp_24_0, gp_24_1, gf_24_0, gf_24_1, gf_24_2, gf_24_3, gf_24_4, gf_24_5, gf_3_0, gf_3_1, gf_3_3, gf_3_4, gf_10_0, gf_10_1, gp_10_0, gh_u10, wdF_0, wdF_1, wdF_3, lsF_1, lsF_2, z_o_i, z_ai_i, z_si_i, z_ab_b, z_ab_z, z_sb_b, z_sb_z, z_al_i, z_al_b, z_pu_s, z_pu_n, nI_toN, z_inN, true_and, and_true, nI_add, pk_mul, vu_eq, vu_ne, nI_leI, nI_ltI, nI_eqI, nI_eq0, nI_le0, ↓ok_0, ↓ok_1, ↓bI_ok, if_true, if_false, nI_lt0, nI_ge0, ne_eq, not_true_eq_false, not_false_eq_true, bI_eq0, bI_ne0, bI_T, bI_F, Bool.false_eq_true, Nat.one_ne_zero, Nat.zero_ne_one, Nat.zero_add, nI_m1, mnN, h, x0, x1]
theorem x_form {x : Int32} (hI : Iv s) (hK : Cl s A P dy nx) (hQ : ∀ B R, Cl (s_form s x).2 B R dy nx → Fz A B → Q (some (.int (s_form s x).1)) (GH B R dy) nx) : XC (d + 2) m_X7_form [.ref 3, .int x] (GH A P dy) nx Q := by
  show X (d + 2) m_X7_form 0 [some (.ref 3), some (.int x)] [] (GH A P dy) nx 0 0 Q
  unfold s_form at hQ
  by_cases hx : iw x 15 = true
  · rw [if_pos hx] at hQ
    obtain ⟨n, hn, rfl⟩ := iw_ex hx
    rw [nI_toN (by omega)] at hQ
    have c1 : n ≤ 14 := by omega
    have mx : max 0 (min n 14) = n := by omega
    simp (disch := omega) only [i_X7_form_0, i_X7_form_1, i_X7_form_4, i_X7_form_5, i_X7_form_7, i_X7_form_13, i_X7_form_14, i_X7_form_17, i_X7_form_18, gh_o3, gh_l4, gh_l5, gh_o10, gh_r11, gh_w11, gh_o24, gh_r25, gh_r26, gh_r27, gh_w25, gh_w26, gh_w27, gh_u24, gp_24_0, gp_24_1, gf_24_0, gf_24_1, gf_24_2, gf_24_3, gf_24_4, gf_24_5, gf_3_0, gf_3_1, gf_3_3, gf_3_4, gf_10_0, gf_10_1, gp_10_0, gh_u10, wdF_0, wdF_1, wdF_3, lsF_1, lsF_2, z_o_i, z_ai_i, z_si_i, z_ab_b, z_ab_z, z_sb_b, z_sb_z, z_al_i, z_al_b, z_pu_s, z_pu_n, nI_toN, z_inN, true_and, and_true, nI_add, pk_mul, vu_eq, vu_ne, nI_leI, nI_ltI, nI_eqI, nI_eq0, nI_le0, ↓ok_0, ↓ok_1, ↓bI_ok, if_true, if_false, nI_lt0, nI_ge0, ne_eq, not_true_eq_false, not_false_eq_true, bI_eq0, bI_ne0, bI_T, bI_F, Bool.false_eq_true, Nat.one_ne_zero, Nat.zero_ne_one, Nat.zero_add, nI_m1, mnN, c1]
    show X (d + 1) m_X1_startAnew 0 [some (.ref 24), some (.int (nI n))] [] (GH A P dy) nx 0 0 _
    simp (disch := omega) only [i_X1_startAnew_0, i_X1_startAnew_1, i_X1_startAnew_2, i_X1_startAnew_3, i_X1_startAnew_5, i_X1_startAnew_8, i_X1_startAnew_11, i_X1_startAnew_14, i_X1_startAnew_15, i_X1_startAnew_16, i_X1_startAnew_19, i_X1_startAnew_20, i_X1_startAnew_23, i_X1_startAnew_24, gh_o3, gh_l4, gh_l5, gh_o10, gh_r11, gh_w11, gh_o24, gh_r25, gh_r26, gh_r27, gh_w25, gh_w26, gh_w27, gh_u24, gp_24_0, gp_24_1, gf_24_0, gf_24_1, gf_24_2, gf_24_3, gf_24_4, gf_24_5, gf_3_0, gf_3_1, gf_3_3, gf_3_4, gf_10_0, gf_10_1, gp_10_0, gh_u10, wdF_0, wdF_1, wdF_3, lsF_1, lsF_2, z_o_i, z_ai_i, z_si_i, z_ab_b, z_ab_z, z_sb_b, z_sb_z, z_al_i, z_al_b, z_pu_s, z_pu_n, nI_toN, z_inN, true_and, and_true, nI_add, pk_mul, vu_eq, vu_ne, nI_leI, nI_ltI, nI_eqI, nI_eq0, nI_le0, ↓ok_0, ↓ok_1, ↓bI_ok, if_true, if_false, nI_lt0, nI_ge0, ne_eq, not_true_eq_false, not_false_eq_true, bI_eq0, bI_ne0, bI_T, bI_F, Bool.false_eq_true, Nat.one_ne_zero, Nat.zero_ne_one, Nat.zero_add, nI_m1, mnN, mxN, mx]
    refine c_fillI gh_r25 (by omega) ?_
    simp (disch := omega) only [i_X1_startAnew_27, i_X1_startAnew_28, i_X1_startAnew_31, i_X1_startAnew_32, gh_o3, gh_l4, gh_l5, gh_o10, gh_r11, gh_w11, gh_o24, gh_r25, gh_r26, gh_r27, gh_w25, gh_w26, gh_w27, gh_u24, gp_24_0, gp_24_1, gf_24_0, gf_24_1, gf_24_2, gf_24_3, gf_24_4, gf_24_5, gf_3_0, gf_3_1, gf_3_3, gf_3_4, gf_10_0, gf_10_1, gp_10_0, gh_u10, wdF_0, wdF_1, wdF_3, lsF_1, lsF_2, z_o_i, z_ai_i, z_si_i, z_ab_b, z_ab_z, z_sb_b, z_sb_z, z_al_i, z_al_b, z_pu_s, z_pu_n, nI_toN, z_inN, true_and, and_true, nI_add, pk_mul, vu_eq, vu_ne, nI_leI, nI_ltI, nI_eqI, nI_eq0, nI_le0, ↓ok_0, ↓ok_1, ↓bI_ok, if_true, if_false, nI_lt0, nI_ge0, ne_eq, not_true_eq_false, not_false_eq_true, bI_eq0, bI_ne0, bI_T, bI_F, Bool.false_eq_true, Nat.one_ne_zero, Nat.zero_ne_one, Nat.zero_add, nI_m1, mnN]
    refine c_fillI gh_r26 (by omega) ?_
    simp (disch := omega) only [i_X1_startAnew_35, i_X1_startAnew_36, i_X1_startAnew_39, i_X1_startAnew_40, gh_o3, gh_l4, gh_l5, gh_o10, gh_r11, gh_w11, gh_o24, gh_r25, gh_r26, gh_r27, gh_w25, gh_w26, gh_w27, gh_u24, gp_24_0, gp_24_1, gf_24_0, gf_24_1, gf_24_2, gf_24_3, gf_24_4, gf_24_5, gf_3_0, gf_3_1, gf_3_3, gf_3_4, gf_10_0, gf_10_1, gp_10_0, gh_u10, wdF_0, wdF_1, wdF_3, lsF_1, lsF_2, z_o_i, z_ai_i, z_si_i, z_ab_b, z_ab_z, z_sb_b, z_sb_z, z_al_i, z_al_b, z_pu_s, z_pu_n, nI_toN, z_inN, true_and, and_true, nI_add, pk_mul, vu_eq, vu_ne, nI_leI, nI_ltI, nI_eqI, nI_eq0, nI_le0, ↓ok_0, ↓ok_1, ↓bI_ok, if_true, if_false, nI_lt0, nI_ge0, ne_eq, not_true_eq_false, not_false_eq_true, bI_eq0, bI_ne0, bI_T, bI_F, Bool.false_eq_true, Nat.one_ne_zero, Nat.zero_ne_one, Nat.zero_add, nI_m1, mnN]
    refine c_fillI gh_r27 (by omega) ?_
    simp (disch := omega) only [i_X1_startAnew_43, gh_o3, gh_l4, gh_l5, gh_o10, gh_r11, gh_w11, gh_o24, gh_r25, gh_r26, gh_r27, gh_w25, gh_w26, gh_w27, gh_u24, gp_24_0, gp_24_1, gf_24_0, gf_24_1, gf_24_2, gf_24_3, gf_24_4, gf_24_5, gf_3_0, gf_3_1, gf_3_3, gf_3_4, gf_10_0, gf_10_1, gp_10_0, gh_u10, wdF_0, wdF_1, wdF_3, lsF_1, lsF_2, z_o_i, z_ai_i, z_si_i, z_ab_b, z_ab_z, z_sb_b, z_sb_z, z_al_i, z_al_b, z_pu_s, z_pu_n, nI_toN, z_inN, true_and, and_true, nI_add, pk_mul, vu_eq, vu_ne, nI_leI, nI_ltI, nI_eqI, nI_eq0, nI_le0, ↓ok_0, ↓ok_1, ↓bI_ok, if_true, if_false, nI_lt0, nI_ge0, ne_eq, not_true_eq_false, not_false_eq_true, bI_eq0, bI_ne0, bI_T, bI_F, Bool.false_eq_true, Nat.one_ne_zero, Nat.zero_ne_one, Nat.zero_add, nI_m1, mnN]
    simp (disch := omega) only [i_X7_form_21, i_X7_form_22, gh_o3, gh_l4, gh_l5, gh_o10, gh_r11, gh_w11, gh_o24, gh_r25, gh_r26, gh_r27, gh_w25, gh_w26, gh_w27, gh_u24, gp_24_0, gp_24_1, gf_24_0, gf_24_1, gf_24_2, gf_24_3, gf_24_4, gf_24_5, gf_3_0, gf_3_1, gf_3_3, gf_3_4, gf_10_0, gf_10_1, gp_10_0, gh_u10, wdF_0, wdF_1, wdF_3, lsF_1, lsF_2, z_o_i, z_ai_i, z_si_i, z_ab_b, z_ab_z, z_sb_b, z_sb_z, z_al_i, z_al_b, z_pu_s, z_pu_n, nI_toN, z_inN, true_and, and_true, nI_add, pk_mul, vu_eq, vu_ne, nI_leI, nI_ltI, nI_eqI, nI_eq0, nI_le0, ↓ok_0, ↓ok_1, ↓bI_ok, if_true, if_false, nI_lt0, nI_ge0, ne_eq, not_true_eq_false, not_false_eq_true, bI_eq0, bI_ne0, bI_T, bI_F, Bool.false_eq_true, Nat.one_ne_zero, Nat.zero_ne_one, Nat.zero_add, nI_m1, mnN]
    refine hQ _ _ ⟨⟨hK.1.1, ⟨rfl, rfl, fun i hi => ?_, fun i hi => ?_, fun i hi => ?_⟩, hK.1.2.2⟩, ?_⟩ (((((Fz.refl.up (by omega)).up (by omega)).up (by omega)).up (by omega)).up (by omega))
    · show pt _ (fun _ => nI 0) 0 14 i = nI (pt (s.1 44) (fun _ => 0) 0 14 i)
      rw [pt_in (by omega) (by omega), pt_in (by omega) (by omega)]
    · show pt _ (fun _ => -1) 0 14 i = nI (pt (s.1 45) (fun _ => 0) 0 14 i) - nI 1
      rw [pt_in (by omega) (by omega), pt_in (by omega) (by omega)]
      exact (by decide : (-1 : Int32) = nI 0 - nI 1)
    · show pt _ (fun _ => -1) 0 14 i = nI (pt (s.1 46) (fun _ => 0) 0 14 i) - nI 1
      rw [pt_in (by omega) (by omega), pt_in (by omega) (by omega)]
      exact (by decide : (-1 : Int32) = nI 0 - nI 1)
    · obtain ⟨_, wd, ln, hD⟩ := hK
      exact ⟨wd, ln, hD.of rfl rfl rfl rfl⟩
  · rw [if_neg hx] at hQ
    by_cases x0 : x < 0
    · simp (disch := omega) only [i_X7_form_0, i_X7_form_1, i_X7_form_10, i_X7_form_12, gh_o3, gh_l4, gh_l5, gh_o10, gh_r11, gh_w11, gh_o24, gh_r25, gh_r26, gh_r27, gh_w25, gh_w26, gh_w27, gh_u24, gp_24_0, gp_24_1, gf_24_0, gf_24_1, gf_24_2, gf_24_3, gf_24_4, gf_24_5, gf_3_0, gf_3_1, gf_3_3, gf_3_4, gf_10_0, gf_10_1, gp_10_0, gh_u10, wdF_0, wdF_1, wdF_3, lsF_1, lsF_2, z_o_i, z_ai_i, z_si_i, z_ab_b, z_ab_z, z_sb_b, z_sb_z, z_al_i, z_al_b, z_pu_s, z_pu_n, nI_toN, z_inN, true_and, and_true, nI_add, pk_mul, vu_eq, vu_ne, nI_leI, nI_ltI, nI_eqI, nI_eq0, nI_le0, ↓ok_0, ↓ok_1, ↓bI_ok, if_true, if_false, nI_lt0, nI_ge0, ne_eq, not_true_eq_false, not_false_eq_true, bI_eq0, bI_ne0, bI_T, bI_F, Bool.false_eq_true, Nat.one_ne_zero, Nat.zero_ne_one, Nat.zero_add, nI_m1, mnN, x0]
      exact hQ A P hK Fz.refl
    · have x1 : ¬ x ≤ nI 14 := by
        have := (iw_lt (by simpa using hx) (by omega)).resolve_left x0
        rw [Int32.le_iff_toInt_le, nI_toInt (by omega)] at this
        rw [Int32.le_iff_toInt_le, nI_toInt (by omega)]
        omega
      simp (disch := omega) only [i_X7_form_0, i_X7_form_1, i_X7_form_4, i_X7_form_5, i_X7_form_7, i_X7_form_10, i_X7_form_12, gh_o3, gh_l4, gh_l5, gh_o10, gh_r11, gh_w11, gh_o24, gh_r25, gh_r26, gh_r27, gh_w25, gh_w26, gh_w27, gh_u24, gp_24_0, gp_24_1, gf_24_0, gf_24_1, gf_24_2, gf_24_3, gf_24_4, gf_24_5, gf_3_0, gf_3_1, gf_3_3, gf_3_4, gf_10_0, gf_10_1, gp_10_0, gh_u10, wdF_0, wdF_1, wdF_3, lsF_1, lsF_2, z_o_i, z_ai_i, z_si_i, z_ab_b, z_ab_z, z_sb_b, z_sb_z, z_al_i, z_al_b, z_pu_s, z_pu_n, nI_toN, z_inN, true_and, and_true, nI_add, pk_mul, vu_eq, vu_ne, nI_leI, nI_ltI, nI_eqI, nI_eq0, nI_le0, ↓ok_0, ↓ok_1, ↓bI_ok, if_true, if_false, nI_lt0, nI_ge0, ne_eq, not_true_eq_false, not_false_eq_true, bI_eq0, bI_ne0, bI_T, bI_F, Bool.false_eq_true, Nat.one_ne_zero, Nat.zero_ne_one, Nat.zero_add, nI_m1, mnN, x0, x1]
      exact hQ A P hK Fz.refl
theorem x_place {i l g : Int32} (hI : Iv s) (hK : Cl s A P dy nx) (hQ : ∀ B R, Cl (s_place s i l g).2 B R dy nx → Fz A B → Q (some (.int (s_place s i l g).1)) (GH B R dy) nx) : XC (d + 1) m_X7_place [.ref 3, .int i, .int l, .int g] (GH A P dy) nx Q := by
  show X (d + 1) m_X7_place 0 [some (.ref 3), some (.int i), some (.int l), some (.int g)] [] (GH A P dy) nx 0 0 Q
  have sc := hI.sc
  have kH : ∀ {d nx : Nat} {Q : z_Q} {x : Int32}, XC d m_X1_hasPlace [.ref 24, .int x] (GH A P dy) nx Q = _ := k_has hK.1.2.1.1 sc.2.2.2.2.2.1
  unfold s_place at hQ
  by_cases hi : iw i (s.1 32 16) = true
  · obtain ⟨k, hk, rfl⟩ := iw_ex hi
    rw [nI_toN (by omega)] at hQ
    by_cases hl : iw l 8 = true
    · obtain ⟨m, hm, rfl⟩ := iw_ex hl
      rw [nI_toN (by omega)] at hQ
      by_cases hg : g = -1 ∨ iw g k = true
      · rw [if_pos ⟨hi, hl, hg⟩] at hQ
        have gx := gN_ex (by omega) hg
        have key : Q (some (.int (nI 0))) (GH (va_up (va_up A 25 (va_up (A 25) k (nI m))) 26 (va_up (A 26) k g)) P dy) nx := by
          refine hQ _ _ ⟨⟨hK.1.1, ⟨hK.1.2.1.1, hK.1.2.1.2.1, fun j hj => ?_, fun j hj => ?_, hK.1.2.1.2.2.2.2⟩, hK.1.2.2⟩, ?_⟩ ((Fz.refl.up (by omega)).up (by omega))
          · show va_up (A 25) k (nI m) j = nI (va_up (s.1 44) k m j)
            rw [vu_if, vu_if]
            by_cases e : j = k
            · rw [if_pos e, if_pos e]
            · rw [if_neg e, if_neg e]; exact hK.1.2.1.2.2.1 j hj
          · show va_up (A 26) k g j = nI (va_up (s.1 45) k (gN g) j) - nI 1
            rw [vu_if, vu_if]
            by_cases e : j = k
            · rw [if_pos e, if_pos e]; exact gx.1
            · rw [if_neg e, if_neg e]; exact hK.1.2.1.2.2.2.1 j hj
          · obtain ⟨_, wd, ln, hD⟩ := hK
            exact ⟨wd, ln, hD.of rfl rfl rfl rfl⟩
        by_cases g1 : g = -1
        · subst g1
          have me : ((-1 : Int32) = -1) = True := by simp
          simp (disch := omega) only [i_X7_place_0, i_X7_place_1, i_X7_place_4, i_X7_place_5, i_X7_place_8, i_X7_place_11, i_X7_place_12, i_X7_place_15, i_X7_place_16, i_X7_place_18, i_X7_place_24, i_X7_place_25, i_X7_place_26, i_X7_place_41, i_X7_place_42, i_X7_place_45, i_X7_place_48, i_X7_place_49, i_X7_place_50, i_X7_place_51, i_X7_place_52, i_X7_place_55, i_X7_place_58, i_X7_place_59, i_X7_place_60, i_X7_place_61, i_X7_place_62, gh_o3, gh_l4, gh_l5, gh_o10, gh_r11, gh_w11, gh_o24, gh_r25, gh_r26, gh_r27, gh_w25, gh_w26, gh_w27, gh_u24, gp_24_0, gp_24_1, gf_24_0, gf_24_1, gf_24_2, gf_24_3, gf_24_4, gf_24_5, gf_3_0, gf_3_1, gf_3_3, gf_3_4, gf_10_0, gf_10_1, gp_10_0, gh_u10, wdF_0, wdF_1, wdF_3, lsF_1, lsF_2, z_o_i, z_ai_i, z_si_i, z_ab_b, z_ab_z, z_sb_b, z_sb_z, z_al_i, z_al_b, z_pu_s, z_pu_n, nI_toN, z_inN, true_and, and_true, nI_add, pk_mul, vu_eq, vu_ne, nI_leI, nI_ltI, nI_eqI, nI_eq0, nI_le0, ↓ok_0, ↓ok_1, ↓bI_ok, if_true, if_false, nI_lt0, nI_ge0, ne_eq, not_true_eq_false, not_false_eq_true, bI_eq0, bI_ne0, bI_T, bI_F, Bool.false_eq_true, Nat.one_ne_zero, Nat.zero_ne_one, Nat.zero_add, nI_m1, mnN, kH, hi, hm, me]
          exact key
        · obtain ⟨y, hy, rfl⟩ := iw_ex (hg.resolve_left g1)
          simp (disch := omega) only [i_X7_place_0, i_X7_place_1, i_X7_place_4, i_X7_place_5, i_X7_place_8, i_X7_place_11, i_X7_place_12, i_X7_place_15, i_X7_place_16, i_X7_place_18, i_X7_place_24, i_X7_place_25, i_X7_place_26, i_X7_place_29, i_X7_place_30, i_X7_place_33, i_X7_place_34, i_X7_place_35, i_X7_place_41, i_X7_place_42, i_X7_place_45, i_X7_place_48, i_X7_place_49, i_X7_place_50, i_X7_place_51, i_X7_place_52, i_X7_place_55, i_X7_place_58, i_X7_place_59, i_X7_place_60, i_X7_place_61, i_X7_place_62, gh_o3, gh_l4, gh_l5, gh_o10, gh_r11, gh_w11, gh_o24, gh_r25, gh_r26, gh_r27, gh_w25, gh_w26, gh_w27, gh_u24, gp_24_0, gp_24_1, gf_24_0, gf_24_1, gf_24_2, gf_24_3, gf_24_4, gf_24_5, gf_3_0, gf_3_1, gf_3_3, gf_3_4, gf_10_0, gf_10_1, gp_10_0, gh_u10, wdF_0, wdF_1, wdF_3, lsF_1, lsF_2, z_o_i, z_ai_i, z_si_i, z_ab_b, z_ab_z, z_sb_b, z_sb_z, z_al_i, z_al_b, z_pu_s, z_pu_n, nI_toN, z_inN, true_and, and_true, nI_add, pk_mul, vu_eq, vu_ne, nI_leI, nI_ltI, nI_eqI, nI_eq0, nI_le0, ↓ok_0, ↓ok_1, ↓bI_ok, if_true, if_false, nI_lt0, nI_ge0, ne_eq, not_true_eq_false, not_false_eq_true, bI_eq0, bI_ne0, bI_T, bI_F, Bool.false_eq_true, Nat.one_ne_zero, Nat.zero_ne_one, Nat.zero_add, nI_m1, mnN, kH, hi, hm, hy]
          exact key
      · rw [if_neg (fun q => hg q.2.2)] at hQ
        have g1 : ¬ g = -1 := fun q => hg (Or.inl q)
        have g2 : ¬ iw g k = true := fun q => hg (Or.inr q)
        by_cases g0 : g < 0
        · simp (disch := omega) only [i_X7_place_0, i_X7_place_1, i_X7_place_4, i_X7_place_5, i_X7_place_8, i_X7_place_11, i_X7_place_12, i_X7_place_15, i_X7_place_16, i_X7_place_18, i_X7_place_24, i_X7_place_25, i_X7_place_26, i_X7_place_29, i_X7_place_30, i_X7_place_33, i_X7_place_34, i_X7_place_35, i_X7_place_38, i_X7_place_40, gh_o3, gh_l4, gh_l5, gh_o10, gh_r11, gh_w11, gh_o24, gh_r25, gh_r26, gh_r27, gh_w25, gh_w26, gh_w27, gh_u24, gp_24_0, gp_24_1, gf_24_0, gf_24_1, gf_24_2, gf_24_3, gf_24_4, gf_24_5, gf_3_0, gf_3_1, gf_3_3, gf_3_4, gf_10_0, gf_10_1, gp_10_0, gh_u10, wdF_0, wdF_1, wdF_3, lsF_1, lsF_2, z_o_i, z_ai_i, z_si_i, z_ab_b, z_ab_z, z_sb_b, z_sb_z, z_al_i, z_al_b, z_pu_s, z_pu_n, nI_toN, z_inN, true_and, and_true, nI_add, pk_mul, vu_eq, vu_ne, nI_leI, nI_ltI, nI_eqI, nI_eq0, nI_le0, ↓ok_0, ↓ok_1, ↓bI_ok, if_true, if_false, nI_lt0, nI_ge0, ne_eq, not_true_eq_false, not_false_eq_true, bI_eq0, bI_ne0, bI_T, bI_F, Bool.false_eq_true, Nat.one_ne_zero, Nat.zero_ne_one, Nat.zero_add, nI_m1, mnN, kH, hi, hm, g1, g0]
          exact hQ A P hK Fz.refl
        · have g3 : ¬ g < nI k := Int32.not_lt.mpr ((iw_lt (by simpa using g2) (by omega)).resolve_left g0)
          simp (disch := omega) only [i_X7_place_0, i_X7_place_1, i_X7_place_4, i_X7_place_5, i_X7_place_8, i_X7_place_11, i_X7_place_12, i_X7_place_15, i_X7_place_16, i_X7_place_18, i_X7_place_24, i_X7_place_25, i_X7_place_26, i_X7_place_29, i_X7_place_30, i_X7_place_33, i_X7_place_34, i_X7_place_35, i_X7_place_38, i_X7_place_40, gh_o3, gh_l4, gh_l5, gh_o10, gh_r11, gh_w11, gh_o24, gh_r25, gh_r26, gh_r27, gh_w25, gh_w26, gh_w27, gh_u24, gp_24_0, gp_24_1, gf_24_0, gf_24_1, gf_24_2, gf_24_3, gf_24_4, gf_24_5, gf_3_0, gf_3_1, gf_3_3, gf_3_4, gf_10_0, gf_10_1, gp_10_0, gh_u10, wdF_0, wdF_1, wdF_3, lsF_1, lsF_2, z_o_i, z_ai_i, z_si_i, z_ab_b, z_ab_z, z_sb_b, z_sb_z, z_al_i, z_al_b, z_pu_s, z_pu_n, nI_toN, z_inN, true_and, and_true, nI_add, pk_mul, vu_eq, vu_ne, nI_leI, nI_ltI, nI_eqI, nI_eq0, nI_le0, ↓ok_0, ↓ok_1, ↓bI_ok, if_true, if_false, nI_lt0, nI_ge0, ne_eq, not_true_eq_false, not_false_eq_true, bI_eq0, bI_ne0, bI_T, bI_F, Bool.false_eq_true, Nat.one_ne_zero, Nat.zero_ne_one, Nat.zero_add, nI_m1, mnN, kH, hi, hm, g1, g0, g3]
          exact hQ A P hK Fz.refl
    · rw [if_neg (fun q => hl q.2.1)] at hQ
      by_cases l0 : l < 0
      · simp (disch := omega) only [i_X7_place_0, i_X7_place_1, i_X7_place_4, i_X7_place_5, i_X7_place_8, i_X7_place_11, i_X7_place_12, i_X7_place_21, i_X7_place_23, gh_o3, gh_l4, gh_l5, gh_o10, gh_r11, gh_w11, gh_o24, gh_r25, gh_r26, gh_r27, gh_w25, gh_w26, gh_w27, gh_u24, gp_24_0, gp_24_1, gf_24_0, gf_24_1, gf_24_2, gf_24_3, gf_24_4, gf_24_5, gf_3_0, gf_3_1, gf_3_3, gf_3_4, gf_10_0, gf_10_1, gp_10_0, gh_u10, wdF_0, wdF_1, wdF_3, lsF_1, lsF_2, z_o_i, z_ai_i, z_si_i, z_ab_b, z_ab_z, z_sb_b, z_sb_z, z_al_i, z_al_b, z_pu_s, z_pu_n, nI_toN, z_inN, true_and, and_true, nI_add, pk_mul, vu_eq, vu_ne, nI_leI, nI_ltI, nI_eqI, nI_eq0, nI_le0, ↓ok_0, ↓ok_1, ↓bI_ok, if_true, if_false, nI_lt0, nI_ge0, ne_eq, not_true_eq_false, not_false_eq_true, bI_eq0, bI_ne0, bI_T, bI_F, Bool.false_eq_true, Nat.one_ne_zero, Nat.zero_ne_one, Nat.zero_add, nI_m1, mnN, kH, hi, l0]
        exact hQ A P hK Fz.refl
      · have l1 : ¬ l < nI 8 := Int32.not_lt.mpr ((iw_lt (by simpa using hl) (by omega)).resolve_left l0)
        simp (disch := omega) only [i_X7_place_0, i_X7_place_1, i_X7_place_4, i_X7_place_5, i_X7_place_8, i_X7_place_11, i_X7_place_12, i_X7_place_15, i_X7_place_16, i_X7_place_18, i_X7_place_21, i_X7_place_23, gh_o3, gh_l4, gh_l5, gh_o10, gh_r11, gh_w11, gh_o24, gh_r25, gh_r26, gh_r27, gh_w25, gh_w26, gh_w27, gh_u24, gp_24_0, gp_24_1, gf_24_0, gf_24_1, gf_24_2, gf_24_3, gf_24_4, gf_24_5, gf_3_0, gf_3_1, gf_3_3, gf_3_4, gf_10_0, gf_10_1, gp_10_0, gh_u10, wdF_0, wdF_1, wdF_3, lsF_1, lsF_2, z_o_i, z_ai_i, z_si_i, z_ab_b, z_ab_z, z_sb_b, z_sb_z, z_al_i, z_al_b, z_pu_s, z_pu_n, nI_toN, z_inN, true_and, and_true, nI_add, pk_mul, vu_eq, vu_ne, nI_leI, nI_ltI, nI_eqI, nI_eq0, nI_le0, ↓ok_0, ↓ok_1, ↓bI_ok, if_true, if_false, nI_lt0, nI_ge0, ne_eq, not_true_eq_false, not_false_eq_true, bI_eq0, bI_ne0, bI_T, bI_F, Bool.false_eq_true, Nat.one_ne_zero, Nat.zero_ne_one, Nat.zero_add, nI_m1, mnN, kH, hi, l0, l1]
        exact hQ A P hK Fz.refl
  · rw [if_neg (fun q => hi q.1)] at hQ
    simp (disch := omega) only [i_X7_place_0, i_X7_place_1, i_X7_place_4, i_X7_place_5, i_X7_place_8, i_X7_place_21, i_X7_place_23, gh_o3, gh_l4, gh_l5, gh_o10, gh_r11, gh_w11, gh_o24, gh_r25, gh_r26, gh_r27, gh_w25, gh_w26, gh_w27, gh_u24, gp_24_0, gp_24_1, gf_24_0, gf_24_1, gf_24_2, gf_24_3, gf_24_4, gf_24_5, gf_3_0, gf_3_1, gf_3_3, gf_3_4, gf_10_0, gf_10_1, gp_10_0, gh_u10, wdF_0, wdF_1, wdF_3, lsF_1, lsF_2, z_o_i, z_ai_i, z_si_i, z_ab_b, z_ab_z, z_sb_b, z_sb_z, z_al_i, z_al_b, z_pu_s, z_pu_n, nI_toN, z_inN, true_and, and_true, nI_add, pk_mul, vu_eq, vu_ne, nI_leI, nI_ltI, nI_eqI, nI_eq0, nI_le0, ↓ok_0, ↓ok_1, ↓bI_ok, if_true, if_false, nI_lt0, nI_ge0, ne_eq, not_true_eq_false, not_false_eq_true, bI_eq0, bI_ne0, bI_T, bI_F, Bool.false_eq_true, Nat.one_ne_zero, Nat.zero_ne_one, Nat.zero_add, nI_m1, mnN, kH, hi]
    exact hQ A P hK Fz.refl
theorem x_loose {x : Int32} (hI : Iv s) (hK : Cl s A P dy nx) (hQ : ∀ B R, Cl (s_loose s x).2 B R dy nx → Fz A B → Q (some (.int (s_loose s x).1)) (GH B R dy) nx) : XC d m_X7_loose [.ref 3, .int x] (GH A P dy) nx Q := by
  show X d m_X7_loose 0 [some (.ref 3), some (.int x), none] [] (GH A P dy) nx 0 0 Q
  have r1 := hK.1.2.1.2.1
  unfold s_loose at hQ
  by_cases hx : iw x 2 = true
  · rw [if_pos hx] at hQ
    obtain ⟨n, hn, rfl⟩ := iw_ex hx
    rw [nI_toN (by omega)] at hQ
    have key : Q (some (.int (nI (s.1 32 19)))) (GH (va_up A 24 (va_up (A 24) 1 (nI n))) P dy) nx := by
      refine hQ _ _ ⟨⟨hK.1.1, ⟨hK.1.2.1.1, rfl, hK.1.2.1.2.2⟩, hK.1.2.2⟩, ?_⟩ (Fz.refl.up (by omega))
      obtain ⟨_, wd, ln, hD⟩ := hK
      exact ⟨wd, ln, hD.of rfl rfl rfl rfl⟩
    have on : n = 0 ∨ n = 1 := by omega
    rcases on with rfl | rfl
    · simp (disch := omega) only [i_X7_loose_0, i_X7_loose_1, i_X7_loose_12, i_X7_loose_13, i_X7_loose_16, i_X7_loose_19, i_X7_loose_20, i_X7_loose_21, i_X7_loose_24, i_X7_loose_25, i_X7_loose_28, i_X7_loose_29, gh_o3, gh_l4, gh_l5, gh_o10, gh_r11, gh_w11, gh_o24, gh_r25, gh_r26, gh_r27, gh_w25, gh_w26, gh_w27, gh_u24, gp_24_0, gp_24_1, gf_24_0, gf_24_1, gf_24_2, gf_24_3, gf_24_4, gf_24_5, gf_3_0, gf_3_1, gf_3_3, gf_3_4, gf_10_0, gf_10_1, gp_10_0, gh_u10, wdF_0, wdF_1, wdF_3, lsF_1, lsF_2, z_o_i, z_ai_i, z_si_i, z_ab_b, z_ab_z, z_sb_b, z_sb_z, z_al_i, z_al_b, z_pu_s, z_pu_n, nI_toN, z_inN, true_and, and_true, nI_add, pk_mul, vu_eq, vu_ne, nI_leI, nI_ltI, nI_eqI, nI_eq0, nI_le0, ↓ok_0, ↓ok_1, ↓bI_ok, if_true, if_false, nI_lt0, nI_ge0, ne_eq, not_true_eq_false, not_false_eq_true, bI_eq0, bI_ne0, bI_T, bI_F, Bool.false_eq_true, Nat.one_ne_zero, Nat.zero_ne_one, Nat.zero_add, nI_m1, mnN, r1]
      exact key
    · simp (disch := omega) only [i_X7_loose_0, i_X7_loose_1, i_X7_loose_4, i_X7_loose_5, i_X7_loose_6, i_X7_loose_12, i_X7_loose_13, i_X7_loose_16, i_X7_loose_19, i_X7_loose_20, i_X7_loose_21, i_X7_loose_24, i_X7_loose_25, i_X7_loose_28, i_X7_loose_29, gh_o3, gh_l4, gh_l5, gh_o10, gh_r11, gh_w11, gh_o24, gh_r25, gh_r26, gh_r27, gh_w25, gh_w26, gh_w27, gh_u24, gp_24_0, gp_24_1, gf_24_0, gf_24_1, gf_24_2, gf_24_3, gf_24_4, gf_24_5, gf_3_0, gf_3_1, gf_3_3, gf_3_4, gf_10_0, gf_10_1, gp_10_0, gh_u10, wdF_0, wdF_1, wdF_3, lsF_1, lsF_2, z_o_i, z_ai_i, z_si_i, z_ab_b, z_ab_z, z_sb_b, z_sb_z, z_al_i, z_al_b, z_pu_s, z_pu_n, nI_toN, z_inN, true_and, and_true, nI_add, pk_mul, vu_eq, vu_ne, nI_leI, nI_ltI, nI_eqI, nI_eq0, nI_le0, ↓ok_0, ↓ok_1, ↓bI_ok, if_true, if_false, nI_lt0, nI_ge0, ne_eq, not_true_eq_false, not_false_eq_true, bI_eq0, bI_ne0, bI_T, bI_F, Bool.false_eq_true, Nat.one_ne_zero, Nat.zero_ne_one, Nat.zero_add, nI_m1, mnN, r1]
      exact key
  · rw [if_neg hx] at hQ
    simp only [iw, decide_eq_true_eq] at hx
    have x0 : ¬ x = 0 := fun z => hx (by rw [z]; decide)
    have x1 : ¬ x = nI 1 := fun z => hx (by rw [z]; decide)
    simp (disch := omega) only [i_X7_loose_0, i_X7_loose_1, i_X7_loose_4, i_X7_loose_5, i_X7_loose_6, i_X7_loose_9, i_X7_loose_11, gh_o3, gh_l4, gh_l5, gh_o10, gh_r11, gh_w11, gh_o24, gh_r25, gh_r26, gh_r27, gh_w25, gh_w26, gh_w27, gh_u24, gp_24_0, gp_24_1, gf_24_0, gf_24_1, gf_24_2, gf_24_3, gf_24_4, gf_24_5, gf_3_0, gf_3_1, gf_3_3, gf_3_4, gf_10_0, gf_10_1, gp_10_0, gh_u10, wdF_0, wdF_1, wdF_3, lsF_1, lsF_2, z_o_i, z_ai_i, z_si_i, z_ab_b, z_ab_z, z_sb_b, z_sb_z, z_al_i, z_al_b, z_pu_s, z_pu_n, nI_toN, z_inN, true_and, and_true, nI_add, pk_mul, vu_eq, vu_ne, nI_leI, nI_ltI, nI_eqI, nI_eq0, nI_le0, ↓ok_0, ↓ok_1, ↓bI_ok, if_true, if_false, nI_lt0, nI_ge0, ne_eq, not_true_eq_false, not_false_eq_true, bI_eq0, bI_ne0, bI_T, bI_F, Bool.false_eq_true, Nat.one_ne_zero, Nat.zero_ne_one, Nat.zero_add, nI_m1, mnN, x0, x1]
    exact hQ A P hK Fz.refl
theorem x_set {i l : Int32} (hI : Iv s) (hK : Cl s A P dy nx) (hQ : ∀ B R, Cl (s_set s i l).2 B R dy nx → Fz A B → Q (some (.int (s_set s i l).1)) (GH B R dy) nx) : XC (d + 4) m_X7_set [.ref 3, .int i, .int l] (GH A P dy) nx Q := by
  show X (d + 4) m_X7_set 0 [some (.ref 3), some (.int i), some (.int l), none] [] (GH A P dy) nx 0 0 Q
  have sc := hI.sc
  have kH : ∀ {d nx : Nat} {Q : z_Q} {x : Int32}, XC d m_X1_hasPlace [.ref 24, .int x] (GH A P dy) nx Q = _ := k_has hK.1.2.1.1 sc.2.2.2.2.2.1
  have hK' := hK
  obtain ⟨hC, wd, ln, hD⟩ := hK
  have kL : ∀ {d nx : Nat} {Q : z_Q} {w : Nat}, w < s.1 32 13 → XC (d + 3) m_X7_lineAt [.ref 3, .int (nI w)] (GH A P dy) nx Q = Q (some (.ref (ln w))) (GH A P dy) nx := fun h => k_lineAt hD h
  have kN : ∀ {d nx : Nat} {Q : z_Q} {x : Int32}, ¬ iw x (s.1 32 13) = true → XC (d + 3) m_X7_lineAt [.ref 3, .int x] (GH A P dy) nx Q = Q (some .null) (GH A P dy) nx := fun h => k_lineAtN hD sc.2.2.2.2.1 h
  unfold s_set at hQ
  by_cases hi : iw i (s.1 32 16) = true
  · obtain ⟨k, hk, rfl⟩ := iw_ex hi
    rw [nI_toN (by omega)] at hQ
    have r27 := hC.2.1.2.2.2.2 k (by omega)
    by_cases hl : l = -1 ∨ iw l (s.1 32 13) = true
    · rw [if_pos ⟨hi, hl⟩] at hQ
      have gx := gN_ex (by omega) hl
      have key : Q (some (.int (nI (s.1 46 k) - nI 1))) (GH (va_up A 27 (va_up (A 27) k l)) P dy) nx := by
        refine hQ _ _ ⟨⟨hC.1, ⟨hC.2.1.1, hC.2.1.2.1, hC.2.1.2.2.1, hC.2.1.2.2.2.1, fun j hj => ?_⟩, hC.2.2⟩, wd, ln, hD.of rfl rfl rfl rfl⟩ (Fz.refl.up (by omega))
        show va_up (A 27) k l j = nI (va_up (s.1 46) k (gN l) j) - nI 1
        rw [vu_if, vu_if]
        by_cases e : j = k
        · rw [if_pos e, if_pos e]; exact gx.1
        · rw [if_neg e, if_neg e]; exact hC.2.1.2.2.2.2 j hj
      by_cases l1 : l = -1
      · subst l1
        have me : ((-1 : Int32) = -1) = True := by simp
        simp (disch := omega) only [i_X7_set_0, i_X7_set_0n, i_X7_set_1, i_X7_set_4, i_X7_set_5, i_X7_set_8, i_X7_set_11, i_X7_set_12, i_X7_set_13, i_X7_set_27, i_X7_set_27n, i_X7_set_28, i_X7_set_31, i_X7_set_34, i_X7_set_35, i_X7_set_36, i_X7_set_37, i_X7_set_37n, i_X7_set_38, i_X7_set_41, i_X7_set_44, i_X7_set_45, i_X7_set_46, i_X7_set_47, i_X7_set_48, gh_o3, gh_l4, gh_l5, gh_o10, gh_r11, gh_w11, gh_o24, gh_r25, gh_r26, gh_r27, gh_w25, gh_w26, gh_w27, gh_u24, gp_24_0, gp_24_1, gf_24_0, gf_24_1, gf_24_2, gf_24_3, gf_24_4, gf_24_5, gf_3_0, gf_3_1, gf_3_3, gf_3_4, gf_10_0, gf_10_1, gp_10_0, gh_u10, wdF_0, wdF_1, wdF_3, lsF_1, lsF_2, z_o_i, z_ai_i, z_si_i, z_ab_b, z_ab_z, z_sb_b, z_sb_z, z_al_i, z_al_b, z_pu_s, z_pu_n, nI_toN, z_inN, true_and, and_true, nI_add, pk_mul, vu_eq, vu_ne, nI_leI, nI_ltI, nI_eqI, nI_eq0, nI_le0, ↓ok_0, ↓ok_1, ↓bI_ok, if_true, if_false, nI_lt0, nI_ge0, ne_eq, not_true_eq_false, not_false_eq_true, bI_eq0, bI_ne0, bI_T, bI_F, Bool.false_eq_true, Nat.one_ne_zero, Nat.zero_ne_one, Nat.zero_add, nI_m1, mnN, kH, hi, me, r27]
        exact key
      · obtain ⟨y, hy, rfl⟩ := iw_ex (hl.resolve_left l1)
        simp (disch := omega) only [i_X7_set_0, i_X7_set_0n, i_X7_set_1, i_X7_set_4, i_X7_set_5, i_X7_set_8, i_X7_set_11, i_X7_set_12, i_X7_set_13, i_X7_set_16, i_X7_set_16n, i_X7_set_17, i_X7_set_18, i_X7_set_21, i_X7_set_21n, i_X7_set_27, i_X7_set_27n, i_X7_set_28, i_X7_set_31, i_X7_set_34, i_X7_set_35, i_X7_set_36, i_X7_set_37, i_X7_set_37n, i_X7_set_38, i_X7_set_41, i_X7_set_44, i_X7_set_45, i_X7_set_46, i_X7_set_47, i_X7_set_48, gh_o3, gh_l4, gh_l5, gh_o10, gh_r11, gh_w11, gh_o24, gh_r25, gh_r26, gh_r27, gh_w25, gh_w26, gh_w27, gh_u24, gp_24_0, gp_24_1, gf_24_0, gf_24_1, gf_24_2, gf_24_3, gf_24_4, gf_24_5, gf_3_0, gf_3_1, gf_3_3, gf_3_4, gf_10_0, gf_10_1, gp_10_0, gh_u10, wdF_0, wdF_1, wdF_3, lsF_1, lsF_2, z_o_i, z_ai_i, z_si_i, z_ab_b, z_ab_z, z_sb_b, z_sb_z, z_al_i, z_al_b, z_pu_s, z_pu_n, nI_toN, z_inN, true_and, and_true, nI_add, pk_mul, vu_eq, vu_ne, nI_leI, nI_ltI, nI_eqI, nI_eq0, nI_le0, ↓ok_0, ↓ok_1, ↓bI_ok, if_true, if_false, nI_lt0, nI_ge0, ne_eq, not_true_eq_false, not_false_eq_true, bI_eq0, bI_ne0, bI_T, bI_F, Bool.false_eq_true, Nat.one_ne_zero, Nat.zero_ne_one, Nat.zero_add, nI_m1, mnN, kH, kL, hi, r27]
        exact key
    · rw [if_neg (fun q => hl q.2)] at hQ
      have l1 : ¬ l = -1 := fun q => hl (Or.inl q)
      have kNl : ∀ {d nx : Nat} {Q : z_Q}, XC (d + 3) m_X7_lineAt [.ref 3, .int l] (GH A P dy) nx Q = Q (some .null) (GH A P dy) nx := kN (fun q => hl (Or.inr q))
      simp (disch := omega) only [i_X7_set_0, i_X7_set_0n, i_X7_set_1, i_X7_set_4, i_X7_set_5, i_X7_set_8, i_X7_set_11, i_X7_set_12, i_X7_set_13, i_X7_set_16, i_X7_set_16n, i_X7_set_17, i_X7_set_18, i_X7_set_21, i_X7_set_21n, i_X7_set_24, i_X7_set_26, gh_o3, gh_l4, gh_l5, gh_o10, gh_r11, gh_w11, gh_o24, gh_r25, gh_r26, gh_r27, gh_w25, gh_w26, gh_w27, gh_u24, gp_24_0, gp_24_1, gf_24_0, gf_24_1, gf_24_2, gf_24_3, gf_24_4, gf_24_5, gf_3_0, gf_3_1, gf_3_3, gf_3_4, gf_10_0, gf_10_1, gp_10_0, gh_u10, wdF_0, wdF_1, wdF_3, lsF_1, lsF_2, z_o_i, z_ai_i, z_si_i, z_ab_b, z_ab_z, z_sb_b, z_sb_z, z_al_i, z_al_b, z_pu_s, z_pu_n, nI_toN, z_inN, true_and, and_true, nI_add, pk_mul, vu_eq, vu_ne, nI_leI, nI_ltI, nI_eqI, nI_eq0, nI_le0, ↓ok_0, ↓ok_1, ↓bI_ok, if_true, if_false, nI_lt0, nI_ge0, ne_eq, not_true_eq_false, not_false_eq_true, bI_eq0, bI_ne0, bI_T, bI_F, Bool.false_eq_true, Nat.one_ne_zero, Nat.zero_ne_one, Nat.zero_add, nI_m1, mnN, kH, kNl, hi, l1]
      exact hQ A P hK' Fz.refl
  · rw [if_neg (fun q => hi q.1)] at hQ
    simp (disch := omega) only [i_X7_set_0, i_X7_set_0n, i_X7_set_1, i_X7_set_4, i_X7_set_5, i_X7_set_8, i_X7_set_24, i_X7_set_26, gh_o3, gh_l4, gh_l5, gh_o10, gh_r11, gh_w11, gh_o24, gh_r25, gh_r26, gh_r27, gh_w25, gh_w26, gh_w27, gh_u24, gp_24_0, gp_24_1, gf_24_0, gf_24_1, gf_24_2, gf_24_3, gf_24_4, gf_24_5, gf_3_0, gf_3_1, gf_3_3, gf_3_4, gf_10_0, gf_10_1, gp_10_0, gh_u10, wdF_0, wdF_1, wdF_3, lsF_1, lsF_2, z_o_i, z_ai_i, z_si_i, z_ab_b, z_ab_z, z_sb_b, z_sb_z, z_al_i, z_al_b, z_pu_s, z_pu_n, nI_toN, z_inN, true_and, and_true, nI_add, pk_mul, vu_eq, vu_ne, nI_leI, nI_ltI, nI_eqI, nI_eq0, nI_le0, ↓ok_0, ↓ok_1, ↓bI_ok, if_true, if_false, nI_lt0, nI_ge0, ne_eq, not_true_eq_false, not_false_eq_true, bI_eq0, bI_ne0, bI_T, bI_F, Bool.false_eq_true, Nat.one_ne_zero, Nat.zero_ne_one, Nat.zero_add, nI_m1, mnN, kH, hi]
    exact hQ A P hK' Fz.refl
theorem x_stands {i : Int32} (hI : Iv s) (hK : Cl s A P dy nx) (hQ : ∀ B R, Cl s B R dy nx → Fz A B → Q (some (.int (s_stands s i))) (GH B R dy) nx) : XC (d + 1) m_X7_stands [.ref 3, .int i] (GH A P dy) nx Q := by
  show X (d + 1) m_X7_stands 0 [some (.ref 3), some (.int i)] [] (GH A P dy) nx 0 0 Q
  have sc := hI.sc
  have kH : ∀ {d nx : Nat} {Q : z_Q} {x : Int32}, XC d m_X1_hasPlace [.ref 24, .int x] (GH A P dy) nx Q = _ := k_has hK.1.2.1.1 sc.2.2.2.2.2.1
  have q := hQ A P hK Fz.refl
  unfold s_stands at q
  by_cases hi : iw i (s.1 32 16) = true
  · rw [if_pos hi] at q
    obtain ⟨k, hk, rfl⟩ := iw_ex hi
    rw [nI_toN (by omega)] at q
    have r27 := hK.1.2.1.2.2.2.2 k (by omega)
    simp (disch := omega) only [i_X7_stands_0, i_X7_stands_1, i_X7_stands_4, i_X7_stands_5, i_X7_stands_8, i_X7_stands_11, i_X7_stands_12, i_X7_stands_15, i_X7_stands_18, i_X7_stands_19, i_X7_stands_20, i_X7_stands_25, gh_o3, gh_l4, gh_l5, gh_o10, gh_r11, gh_w11, gh_o24, gh_r25, gh_r26, gh_r27, gh_w25, gh_w26, gh_w27, gh_u24, gp_24_0, gp_24_1, gf_24_0, gf_24_1, gf_24_2, gf_24_3, gf_24_4, gf_24_5, gf_3_0, gf_3_1, gf_3_3, gf_3_4, gf_10_0, gf_10_1, gp_10_0, gh_u10, wdF_0, wdF_1, wdF_3, lsF_1, lsF_2, z_o_i, z_ai_i, z_si_i, z_ab_b, z_ab_z, z_sb_b, z_sb_z, z_al_i, z_al_b, z_pu_s, z_pu_n, nI_toN, z_inN, true_and, and_true, nI_add, pk_mul, vu_eq, vu_ne, nI_leI, nI_ltI, nI_eqI, nI_eq0, nI_le0, ↓ok_0, ↓ok_1, ↓bI_ok, if_true, if_false, nI_lt0, nI_ge0, ne_eq, not_true_eq_false, not_false_eq_true, bI_eq0, bI_ne0, bI_T, bI_F, Bool.false_eq_true, Nat.one_ne_zero, Nat.zero_ne_one, Nat.zero_add, nI_m1, mnN, kH, hi, r27]
    exact q
  · rw [if_neg hi] at q
    simp (disch := omega) only [i_X7_stands_0, i_X7_stands_1, i_X7_stands_4, i_X7_stands_5, i_X7_stands_8, i_X7_stands_23, i_X7_stands_25, gh_o3, gh_l4, gh_l5, gh_o10, gh_r11, gh_w11, gh_o24, gh_r25, gh_r26, gh_r27, gh_w25, gh_w26, gh_w27, gh_u24, gp_24_0, gp_24_1, gf_24_0, gf_24_1, gf_24_2, gf_24_3, gf_24_4, gf_24_5, gf_3_0, gf_3_1, gf_3_3, gf_3_4, gf_10_0, gf_10_1, gp_10_0, gh_u10, wdF_0, wdF_1, wdF_3, lsF_1, lsF_2, z_o_i, z_ai_i, z_si_i, z_ab_b, z_ab_z, z_sb_b, z_sb_z, z_al_i, z_al_b, z_pu_s, z_pu_n, nI_toN, z_inN, true_and, and_true, nI_add, pk_mul, vu_eq, vu_ne, nI_leI, nI_ltI, nI_eqI, nI_eq0, nI_le0, ↓ok_0, ↓ok_1, ↓bI_ok, if_true, if_false, nI_lt0, nI_ge0, ne_eq, not_true_eq_false, not_false_eq_true, bI_eq0, bI_ne0, bI_T, bI_F, Bool.false_eq_true, Nat.one_ne_zero, Nat.zero_ne_one, Nat.zero_add, nI_m1, mnN, kH, hi]
    exact q
theorem l_cs (hI : Iv s) (hD : Rd s A P dy nz wd ln) (hQ : Q (some (.int (nI (smN (s.1 34) (s.1 32 1))))) (GH A P dy) nx) : ∀ (m i : Nat), i + m = s.1 32 1 → X (d + 3) m_X7_countSayings 4 [some (.ref 3), some (.int (nI (smN (s.1 34) i))), some (.int (nI i))] [] (GH A P dy) nx bc bs Q := by
  have sc := hI.sc
  have kS : ∀ {d nx : Nat} {Q : z_Q}, XC d m_Jx4a65c_size_8abf5 [.ref 4] (GH A P dy) nx Q = _ := k_size4 hD
  intro m
  induction m with
  | zero =>
    intro i hi
    have e : i = s.1 32 1 := by omega
    subst e
    simp (disch := omega) only [i_X7_countSayings_4, i_X7_countSayings_5, i_X7_countSayings_6, i_X7_countSayings_9, i_X7_countSayings_12, i_X7_countSayings_41, i_X7_countSayings_42, gh_o3, gh_l4, gh_l5, gh_o10, gh_r11, gh_w11, gh_o24, gh_r25, gh_r26, gh_r27, gh_w25, gh_w26, gh_w27, gh_u24, gp_24_0, gp_24_1, gf_24_0, gf_24_1, gf_24_2, gf_24_3, gf_24_4, gf_24_5, gf_3_0, gf_3_1, gf_3_3, gf_3_4, gf_10_0, gf_10_1, gp_10_0, gh_u10, wdF_0, wdF_1, wdF_3, lsF_1, lsF_2, z_o_i, z_ai_i, z_si_i, z_ab_b, z_ab_z, z_sb_b, z_sb_z, z_al_i, z_al_b, z_pu_s, z_pu_n, nI_toN, z_inN, true_and, and_true, nI_add, pk_mul, vu_eq, vu_ne, nI_leI, nI_ltI, nI_eqI, nI_eq0, nI_le0, ↓ok_0, ↓ok_1, ↓bI_ok, if_true, if_false, nI_lt0, nI_ge0, ne_eq, not_true_eq_false, not_false_eq_true, bI_eq0, bI_ne0, bI_T, bI_F, Bool.false_eq_true, Nat.one_ne_zero, Nat.zero_ne_one, Nat.zero_add, nI_m1, mnN, kS, Nat.le_refl]
    exact hQ
  | succ m ih =>
    intro i hi
    have le : ¬ s.1 32 1 ≤ i := by omega
    have kG : ∀ {d nx : Nat} {Q : z_Q}, XC (d + 2) m_Jx4a65c_get_915e3 [.ref 4, .int (nI i)] (GH A P dy) nx Q = _ := k_get4 hD (show i < s.1 32 1 by omega)
    obtain ⟨ρ, hWq⟩ := hD.wq (show i < s.1 32 1 by omega)
    obtain ⟨l, b, e, c, mm, g, K, w1, w2, _⟩ := hWq
    have cs : ∀ {d nx : Nat} {Q : z_Q}, XC d m_Jx4a65c_size_8abf5 [.ref l] (GH A P dy) nx Q = Q (some (.int (nI (s.1 34 i)))) (GH A P dy) nx := c_size w2
    have q := ih (i + 1) (by omega)
    rw [smN] at q
    rw [i_X7_countSayings_4]
    simp (disch := omega) only [i_X7_countSayings_5, i_X7_countSayings_6, i_X7_countSayings_9, i_X7_countSayings_12, i_X7_countSayings_15, i_X7_countSayings_16, i_X7_countSayings_17, i_X7_countSayings_20, i_X7_countSayings_21, i_X7_countSayings_24, i_X7_countSayings_27, i_X7_countSayings_30, i_X7_countSayings_33, i_X7_countSayings_34, i_X7_countSayings_35, i_X7_countSayings_38, gh_o3, gh_l4, gh_l5, gh_o10, gh_r11, gh_w11, gh_o24, gh_r25, gh_r26, gh_r27, gh_w25, gh_w26, gh_w27, gh_u24, gp_24_0, gp_24_1, gf_24_0, gf_24_1, gf_24_2, gf_24_3, gf_24_4, gf_24_5, gf_3_0, gf_3_1, gf_3_3, gf_3_4, gf_10_0, gf_10_1, gp_10_0, gh_u10, wdF_0, wdF_1, wdF_3, lsF_1, lsF_2, z_o_i, z_ai_i, z_si_i, z_ab_b, z_ab_z, z_sb_b, z_sb_z, z_al_i, z_al_b, z_pu_s, z_pu_n, nI_toN, z_inN, true_and, and_true, nI_add, pk_mul, vu_eq, vu_ne, nI_leI, nI_ltI, nI_eqI, nI_eq0, nI_le0, ↓ok_0, ↓ok_1, ↓bI_ok, if_true, if_false, nI_lt0, nI_ge0, ne_eq, not_true_eq_false, not_false_eq_true, bI_eq0, bI_ne0, bI_T, bI_F, Bool.false_eq_true, Nat.one_ne_zero, Nat.zero_ne_one, Nat.zero_add, nI_m1, mnN, kS, kG, w1, w2, cs, le]
    exact q
theorem l_cw (hI : Iv s) (hD : Rd s A P dy nz wd ln) (hQ : Q (some (.int (nI (ctN (fun i => decide (¬ s.1 38 i = 0)) (s.1 32 1))))) (GH A P dy) nx) : ∀ (m i : Nat), i + m = s.1 32 1 → X (d + 3) m_X7_countWritings 4 [some (.ref 3), some (.int (nI (ctN (fun i => decide (¬ s.1 38 i = 0)) i))), some (.int (nI i))] [] (GH A P dy) nx bc bs Q := by
  have sc := hI.sc
  have kS : ∀ {d nx : Nat} {Q : z_Q}, XC d m_Jx4a65c_size_8abf5 [.ref 4] (GH A P dy) nx Q = _ := k_size4 hD
  intro m
  induction m with
  | zero =>
    intro i hi
    have e : i = s.1 32 1 := by omega
    subst e
    simp (disch := omega) only [i_X7_countWritings_4, i_X7_countWritings_5, i_X7_countWritings_6, i_X7_countWritings_9, i_X7_countWritings_12, i_X7_countWritings_42, i_X7_countWritings_43, gh_o3, gh_l4, gh_l5, gh_o10, gh_r11, gh_w11, gh_o24, gh_r25, gh_r26, gh_r27, gh_w25, gh_w26, gh_w27, gh_u24, gp_24_0, gp_24_1, gf_24_0, gf_24_1, gf_24_2, gf_24_3, gf_24_4, gf_24_5, gf_3_0, gf_3_1, gf_3_3, gf_3_4, gf_10_0, gf_10_1, gp_10_0, gh_u10, wdF_0, wdF_1, wdF_3, lsF_1, lsF_2, z_o_i, z_ai_i, z_si_i, z_ab_b, z_ab_z, z_sb_b, z_sb_z, z_al_i, z_al_b, z_pu_s, z_pu_n, nI_toN, z_inN, true_and, and_true, nI_add, pk_mul, vu_eq, vu_ne, nI_leI, nI_ltI, nI_eqI, nI_eq0, nI_le0, ↓ok_0, ↓ok_1, ↓bI_ok, if_true, if_false, nI_lt0, nI_ge0, ne_eq, not_true_eq_false, not_false_eq_true, bI_eq0, bI_ne0, bI_T, bI_F, Bool.false_eq_true, Nat.one_ne_zero, Nat.zero_ne_one, Nat.zero_add, nI_m1, mnN, kS, Nat.le_refl]
    exact hQ
  | succ m ih =>
    intro i hi
    have le : ¬ s.1 32 1 ≤ i := by omega
    have kG : ∀ {d nx : Nat} {Q : z_Q}, XC (d + 2) m_Jx4a65c_get_915e3 [.ref 4, .int (nI i)] (GH A P dy) nx Q = _ := k_get4 hD (show i < s.1 32 1 by omega)
    obtain ⟨ρ, hWq⟩ := hD.wq (show i < s.1 32 1 by omega)
    obtain ⟨l, b, e, c, mm, g, K, w1, w2, _⟩ := hWq
    have b38 := hI.b38 i
    have q := ih (i + 1) (by omega)
    rw [ctN] at q
    rw [i_X7_countWritings_4]
    by_cases z : s.1 38 i = 0
    · have w1' : GH A P dy (wd i) = .inr (.inl (6, wdF (nI (s.1 33 i)) l b (-1))) := by rw [w1, z]; rfl
      rw [if_neg (by simpa using z)] at q
      have me : ((-1 : Int32) = -1) = True := by simp
      simp (disch := omega) only [i_X7_countWritings_5, i_X7_countWritings_6, i_X7_countWritings_9, i_X7_countWritings_12, i_X7_countWritings_15, i_X7_countWritings_16, i_X7_countWritings_19, i_X7_countWritings_20, i_X7_countWritings_23, i_X7_countWritings_26, i_X7_countWritings_29, i_X7_countWritings_30, i_X7_countWritings_36, i_X7_countWritings_39, gh_o3, gh_l4, gh_l5, gh_o10, gh_r11, gh_w11, gh_o24, gh_r25, gh_r26, gh_r27, gh_w25, gh_w26, gh_w27, gh_u24, gp_24_0, gp_24_1, gf_24_0, gf_24_1, gf_24_2, gf_24_3, gf_24_4, gf_24_5, gf_3_0, gf_3_1, gf_3_3, gf_3_4, gf_10_0, gf_10_1, gp_10_0, gh_u10, wdF_0, wdF_1, wdF_3, lsF_1, lsF_2, z_o_i, z_ai_i, z_si_i, z_ab_b, z_ab_z, z_sb_b, z_sb_z, z_al_i, z_al_b, z_pu_s, z_pu_n, nI_toN, z_inN, true_and, and_true, nI_add, pk_mul, vu_eq, vu_ne, nI_leI, nI_ltI, nI_eqI, nI_eq0, nI_le0, ↓ok_0, ↓ok_1, ↓bI_ok, if_true, if_false, nI_lt0, nI_ge0, ne_eq, not_true_eq_false, not_false_eq_true, bI_eq0, bI_ne0, bI_T, bI_F, Bool.false_eq_true, Nat.one_ne_zero, Nat.zero_ne_one, Nat.zero_add, nI_m1, mnN, kS, kG, w1', le, me]
      exact q
    · have w1' : GH A P dy (wd i) = .inr (.inl (6, wdF (nI (s.1 33 i)) l b (nI (s.1 38 i - 1)))) := by rw [w1, pk_sub (by omega)]
      rw [if_pos (by simpa using z)] at q
      simp (disch := omega) only [i_X7_countWritings_5, i_X7_countWritings_6, i_X7_countWritings_9, i_X7_countWritings_12, i_X7_countWritings_15, i_X7_countWritings_16, i_X7_countWritings_19, i_X7_countWritings_20, i_X7_countWritings_23, i_X7_countWritings_26, i_X7_countWritings_29, i_X7_countWritings_30, i_X7_countWritings_33, i_X7_countWritings_36, i_X7_countWritings_39, gh_o3, gh_l4, gh_l5, gh_o10, gh_r11, gh_w11, gh_o24, gh_r25, gh_r26, gh_r27, gh_w25, gh_w26, gh_w27, gh_u24, gp_24_0, gp_24_1, gf_24_0, gf_24_1, gf_24_2, gf_24_3, gf_24_4, gf_24_5, gf_3_0, gf_3_1, gf_3_3, gf_3_4, gf_10_0, gf_10_1, gp_10_0, gh_u10, wdF_0, wdF_1, wdF_3, lsF_1, lsF_2, z_o_i, z_ai_i, z_si_i, z_ab_b, z_ab_z, z_sb_b, z_sb_z, z_al_i, z_al_b, z_pu_s, z_pu_n, nI_toN, z_inN, true_and, and_true, nI_add, pk_mul, vu_eq, vu_ne, nI_leI, nI_ltI, nI_eqI, nI_eq0, nI_le0, ↓ok_0, ↓ok_1, ↓bI_ok, if_true, if_false, nI_lt0, nI_ge0, ne_eq, not_true_eq_false, not_false_eq_true, bI_eq0, bI_ne0, bI_T, bI_F, Bool.false_eq_true, Nat.one_ne_zero, Nat.zero_ne_one, Nat.zero_add, nI_m1, mnN, kS, kG, w1', le]
      exact q
theorem l_ce (hI : Iv s) (hC : Rc s A P) (hQ : Q (some (.int (nI (ctN (fun i => decide (s.1 46 i = 0)) (s.1 32 16))))) (GH A P dy) nx) : ∀ (m i : Nat), i + m = s.1 32 16 → X d m_X1_countEmpty 4 [some (.ref 24), some (.int (nI (ctN (fun i => decide (s.1 46 i = 0)) i))), some (.int (nI i))] [] (GH A P dy) nx bc bs Q := by
  have sc := hI.sc
  have r1 := hC.2.1.1
  intro m
  induction m with
  | zero =>
    intro i hi
    have e : i = s.1 32 16 := by omega
    subst e
    simp (disch := omega) only [i_X1_countEmpty_4, i_X1_countEmpty_5, i_X1_countEmpty_6, i_X1_countEmpty_9, i_X1_countEmpty_31, i_X1_countEmpty_32, gh_o3, gh_l4, gh_l5, gh_o10, gh_r11, gh_w11, gh_o24, gh_r25, gh_r26, gh_r27, gh_w25, gh_w26, gh_w27, gh_u24, gp_24_0, gp_24_1, gf_24_0, gf_24_1, gf_24_2, gf_24_3, gf_24_4, gf_24_5, gf_3_0, gf_3_1, gf_3_3, gf_3_4, gf_10_0, gf_10_1, gp_10_0, gh_u10, wdF_0, wdF_1, wdF_3, lsF_1, lsF_2, z_o_i, z_ai_i, z_si_i, z_ab_b, z_ab_z, z_sb_b, z_sb_z, z_al_i, z_al_b, z_pu_s, z_pu_n, nI_toN, z_inN, true_and, and_true, nI_add, pk_mul, vu_eq, vu_ne, nI_leI, nI_ltI, nI_eqI, nI_eq0, nI_le0, ↓ok_0, ↓ok_1, ↓bI_ok, if_true, if_false, nI_lt0, nI_ge0, ne_eq, not_true_eq_false, not_false_eq_true, bI_eq0, bI_ne0, bI_T, bI_F, Bool.false_eq_true, Nat.one_ne_zero, Nat.zero_ne_one, Nat.zero_add, nI_m1, mnN, r1, Nat.le_refl]
    exact hQ
  | succ m ih =>
    intro i hi
    have le : ¬ s.1 32 16 ≤ i := by omega
    have r46 := hC.2.1.2.2.2.2 i (by omega)
    have b46 := hI.b46 i
    have q := ih (i + 1) (by omega)
    rw [ctN] at q
    rw [i_X1_countEmpty_4]
    by_cases z : s.1 46 i = 0
    · rw [if_pos (by simpa using z)] at q
      rw [z, show (nI 0 - nI 1 : Int32) = -1 by decide] at r46
      simp (disch := omega) only [i_X1_countEmpty_5, i_X1_countEmpty_6, i_X1_countEmpty_9, i_X1_countEmpty_12, i_X1_countEmpty_13, i_X1_countEmpty_16, i_X1_countEmpty_17, i_X1_countEmpty_18, i_X1_countEmpty_19, i_X1_countEmpty_22, i_X1_countEmpty_25, i_X1_countEmpty_28, gh_o3, gh_l4, gh_l5, gh_o10, gh_r11, gh_w11, gh_o24, gh_r25, gh_r26, gh_r27, gh_w25, gh_w26, gh_w27, gh_u24, gp_24_0, gp_24_1, gf_24_0, gf_24_1, gf_24_2, gf_24_3, gf_24_4, gf_24_5, gf_3_0, gf_3_1, gf_3_3, gf_3_4, gf_10_0, gf_10_1, gp_10_0, gh_u10, wdF_0, wdF_1, wdF_3, lsF_1, lsF_2, z_o_i, z_ai_i, z_si_i, z_ab_b, z_ab_z, z_sb_b, z_sb_z, z_al_i, z_al_b, z_pu_s, z_pu_n, nI_toN, z_inN, true_and, and_true, nI_add, pk_mul, vu_eq, vu_ne, nI_leI, nI_ltI, nI_eqI, nI_eq0, nI_le0, ↓ok_0, ↓ok_1, ↓bI_ok, if_true, if_false, nI_lt0, nI_ge0, ne_eq, not_true_eq_false, not_false_eq_true, bI_eq0, bI_ne0, bI_T, bI_F, Bool.false_eq_true, Nat.one_ne_zero, Nat.zero_ne_one, Nat.zero_add, nI_m1, mnN, r1, le, r46]
      exact q
    · rw [if_neg (by simpa using z)] at q
      rw [pk_sub (by omega)] at r46
      simp (disch := omega) only [i_X1_countEmpty_5, i_X1_countEmpty_6, i_X1_countEmpty_9, i_X1_countEmpty_12, i_X1_countEmpty_13, i_X1_countEmpty_16, i_X1_countEmpty_17, i_X1_countEmpty_18, i_X1_countEmpty_19, i_X1_countEmpty_22, i_X1_countEmpty_25, i_X1_countEmpty_28, gh_o3, gh_l4, gh_l5, gh_o10, gh_r11, gh_w11, gh_o24, gh_r25, gh_r26, gh_r27, gh_w25, gh_w26, gh_w27, gh_u24, gp_24_0, gp_24_1, gf_24_0, gf_24_1, gf_24_2, gf_24_3, gf_24_4, gf_24_5, gf_3_0, gf_3_1, gf_3_3, gf_3_4, gf_10_0, gf_10_1, gp_10_0, gh_u10, wdF_0, wdF_1, wdF_3, lsF_1, lsF_2, z_o_i, z_ai_i, z_si_i, z_ab_b, z_ab_z, z_sb_b, z_sb_z, z_al_i, z_al_b, z_pu_s, z_pu_n, nI_toN, z_inN, true_and, and_true, nI_add, pk_mul, vu_eq, vu_ne, nI_leI, nI_ltI, nI_eqI, nI_eq0, nI_le0, ↓ok_0, ↓ok_1, ↓bI_ok, if_true, if_false, nI_lt0, nI_ge0, ne_eq, not_true_eq_false, not_false_eq_true, bI_eq0, bI_ne0, bI_T, bI_F, Bool.false_eq_true, Nat.one_ne_zero, Nat.zero_ne_one, Nat.zero_add, nI_m1, mnN, r1, le, r46]
      exact q
theorem x_count {x : Int32} (hI : Iv s) (hK : Cl s A P dy nx) (hQ : ∀ B R, Cl s B R dy nx → Fz A B → Q (some (.int (s_count s x))) (GH B R dy) nx) : XC (d + 4) m_X7_count [.ref 3, .int x] (GH A P dy) nx Q := by
  show X (d + 4) m_X7_count 0 [some (.ref 3), some (.int x)] [] (GH A P dy) nx 0 0 Q
  have q := hQ A P hK Fz.refl
  obtain ⟨hC, wd, ln, hD⟩ := hK
  have kS4 : ∀ {d nx : Nat} {Q : z_Q}, XC d m_Jx4a65c_size_8abf5 [.ref 4] (GH A P dy) nx Q = _ := k_size4 hD
  have kS5 : ∀ {d nx : Nat} {Q : z_Q}, XC d m_Jx4a65c_size_8abf5 [.ref 5] (GH A P dy) nx Q = _ := k_size5 hD
  have r11 := hC.1.2.2.1
  have r16 := hC.2.1.1
  rw [i_X7_count_0]
  unfold s_count at q
  by_cases x0 : x = nI 0
  · rw [if_pos x0] at q
    subst x0
    simp (disch := omega) only [i_X7_count_1_0, i_X7_count_1_1, i_X7_count_1_2, i_X7_count_1_3, i_X7_count_1_4, i_X7_count_1_5, i_X7_count_1_6, i_X7_count_44, i_X7_count_45, i_X7_count_48, i_X7_count_51, gh_o3, gh_l4, gh_l5, gh_o10, gh_r11, gh_w11, gh_o24, gh_r25, gh_r26, gh_r27, gh_w25, gh_w26, gh_w27, gh_u24, gp_24_0, gp_24_1, gf_24_0, gf_24_1, gf_24_2, gf_24_3, gf_24_4, gf_24_5, gf_3_0, gf_3_1, gf_3_3, gf_3_4, gf_10_0, gf_10_1, gp_10_0, gh_u10, wdF_0, wdF_1, wdF_3, lsF_1, lsF_2, z_o_i, z_ai_i, z_si_i, z_ab_b, z_ab_z, z_sb_b, z_sb_z, z_al_i, z_al_b, z_pu_s, z_pu_n, nI_toN, z_inN, true_and, and_true, nI_add, pk_mul, vu_eq, vu_ne, nI_leI, nI_ltI, nI_eqI, nI_eq0, nI_le0, ↓ok_0, ↓ok_1, ↓bI_ok, if_true, if_false, nI_lt0, nI_ge0, ne_eq, not_true_eq_false, not_false_eq_true, bI_eq0, bI_ne0, bI_T, bI_F, Bool.false_eq_true, Nat.one_ne_zero, Nat.zero_ne_one, Nat.zero_add, nI_m1, mnN, kS4]
    exact q
  rw [if_neg x0] at q
  by_cases x1 : x = nI 1
  · rw [if_pos x1] at q
    subst x1
    simp (disch := omega) only [i_X7_count_1_0, i_X7_count_1_1, i_X7_count_1_2, i_X7_count_1_3, i_X7_count_1_4, i_X7_count_1_5, i_X7_count_1_6, i_X7_count_52, i_X7_count_53, gh_o3, gh_l4, gh_l5, gh_o10, gh_r11, gh_w11, gh_o24, gh_r25, gh_r26, gh_r27, gh_w25, gh_w26, gh_w27, gh_u24, gp_24_0, gp_24_1, gf_24_0, gf_24_1, gf_24_2, gf_24_3, gf_24_4, gf_24_5, gf_3_0, gf_3_1, gf_3_3, gf_3_4, gf_10_0, gf_10_1, gp_10_0, gh_u10, wdF_0, wdF_1, wdF_3, lsF_1, lsF_2, z_o_i, z_ai_i, z_si_i, z_ab_b, z_ab_z, z_sb_b, z_sb_z, z_al_i, z_al_b, z_pu_s, z_pu_n, nI_toN, z_inN, true_and, and_true, nI_add, pk_mul, vu_eq, vu_ne, nI_leI, nI_ltI, nI_eqI, nI_eq0, nI_le0, ↓ok_0, ↓ok_1, ↓bI_ok, if_true, if_false, nI_lt0, nI_ge0, ne_eq, not_true_eq_false, not_false_eq_true, bI_eq0, bI_ne0, bI_T, bI_F, Bool.false_eq_true, Nat.one_ne_zero, Nat.zero_ne_one, Nat.zero_add, nI_m1, mnN]
    show X (d + 3) m_X7_countSayings 0 [some (.ref 3), none, none] [] (GH A P dy) nx 0 0 _
    simp (disch := omega) only [i_X7_countSayings_0, i_X7_countSayings_1, i_X7_countSayings_2, i_X7_countSayings_3, gh_o3, gh_l4, gh_l5, gh_o10, gh_r11, gh_w11, gh_o24, gh_r25, gh_r26, gh_r27, gh_w25, gh_w26, gh_w27, gh_u24, gp_24_0, gp_24_1, gf_24_0, gf_24_1, gf_24_2, gf_24_3, gf_24_4, gf_24_5, gf_3_0, gf_3_1, gf_3_3, gf_3_4, gf_10_0, gf_10_1, gp_10_0, gh_u10, wdF_0, wdF_1, wdF_3, lsF_1, lsF_2, z_o_i, z_ai_i, z_si_i, z_ab_b, z_ab_z, z_sb_b, z_sb_z, z_al_i, z_al_b, z_pu_s, z_pu_n, nI_toN, z_inN, true_and, and_true, nI_add, pk_mul, vu_eq, vu_ne, nI_leI, nI_ltI, nI_eqI, nI_eq0, nI_le0, ↓ok_0, ↓ok_1, ↓bI_ok, if_true, if_false, nI_lt0, nI_ge0, ne_eq, not_true_eq_false, not_false_eq_true, bI_eq0, bI_ne0, bI_T, bI_F, Bool.false_eq_true, Nat.one_ne_zero, Nat.zero_ne_one, Nat.zero_add, nI_m1, mnN]
    exact l_cs hI hD (by simp (disch := omega) only [i_X7_count_56, gh_o3, gh_l4, gh_l5, gh_o10, gh_r11, gh_w11, gh_o24, gh_r25, gh_r26, gh_r27, gh_w25, gh_w26, gh_w27, gh_u24, gp_24_0, gp_24_1, gf_24_0, gf_24_1, gf_24_2, gf_24_3, gf_24_4, gf_24_5, gf_3_0, gf_3_1, gf_3_3, gf_3_4, gf_10_0, gf_10_1, gp_10_0, gh_u10, wdF_0, wdF_1, wdF_3, lsF_1, lsF_2, z_o_i, z_ai_i, z_si_i, z_ab_b, z_ab_z, z_sb_b, z_sb_z, z_al_i, z_al_b, z_pu_s, z_pu_n, nI_toN, z_inN, true_and, and_true, nI_add, pk_mul, vu_eq, vu_ne, nI_leI, nI_ltI, nI_eqI, nI_eq0, nI_le0, ↓ok_0, ↓ok_1, ↓bI_ok, if_true, if_false, nI_lt0, nI_ge0, ne_eq, not_true_eq_false, not_false_eq_true, bI_eq0, bI_ne0, bI_T, bI_F, Bool.false_eq_true, Nat.one_ne_zero, Nat.zero_ne_one, Nat.zero_add, nI_m1, mnN]; exact q) (s.1 32 1) 0 (by omega)
  rw [if_neg x1] at q
  by_cases x2 : x = nI 2
  · rw [if_pos x2] at q
    subst x2
    simp (disch := omega) only [i_X7_count_1_0, i_X7_count_1_1, i_X7_count_1_2, i_X7_count_1_3, i_X7_count_1_4, i_X7_count_1_5, i_X7_count_1_6, i_X7_count_57, i_X7_count_58, i_X7_count_61, i_X7_count_64, gh_o3, gh_l4, gh_l5, gh_o10, gh_r11, gh_w11, gh_o24, gh_r25, gh_r26, gh_r27, gh_w25, gh_w26, gh_w27, gh_u24, gp_24_0, gp_24_1, gf_24_0, gf_24_1, gf_24_2, gf_24_3, gf_24_4, gf_24_5, gf_3_0, gf_3_1, gf_3_3, gf_3_4, gf_10_0, gf_10_1, gp_10_0, gh_u10, wdF_0, wdF_1, wdF_3, lsF_1, lsF_2, z_o_i, z_ai_i, z_si_i, z_ab_b, z_ab_z, z_sb_b, z_sb_z, z_al_i, z_al_b, z_pu_s, z_pu_n, nI_toN, z_inN, true_and, and_true, nI_add, pk_mul, vu_eq, vu_ne, nI_leI, nI_ltI, nI_eqI, nI_eq0, nI_le0, ↓ok_0, ↓ok_1, ↓bI_ok, if_true, if_false, nI_lt0, nI_ge0, ne_eq, not_true_eq_false, not_false_eq_true, bI_eq0, bI_ne0, bI_T, bI_F, Bool.false_eq_true, Nat.one_ne_zero, Nat.zero_ne_one, Nat.zero_add, nI_m1, mnN, kS5]
    exact q
  rw [if_neg x2] at q
  by_cases x3 : x = nI 3
  · rw [if_pos x3] at q
    subst x3
    simp (disch := omega) only [i_X7_count_1_0, i_X7_count_1_1, i_X7_count_1_2, i_X7_count_1_3, i_X7_count_1_4, i_X7_count_1_5, i_X7_count_1_6, i_X7_count_65, i_X7_count_66, i_X7_count_69, i_X7_count_72, gh_o3, gh_l4, gh_l5, gh_o10, gh_r11, gh_w11, gh_o24, gh_r25, gh_r26, gh_r27, gh_w25, gh_w26, gh_w27, gh_u24, gp_24_0, gp_24_1, gf_24_0, gf_24_1, gf_24_2, gf_24_3, gf_24_4, gf_24_5, gf_3_0, gf_3_1, gf_3_3, gf_3_4, gf_10_0, gf_10_1, gp_10_0, gh_u10, wdF_0, wdF_1, wdF_3, lsF_1, lsF_2, z_o_i, z_ai_i, z_si_i, z_ab_b, z_ab_z, z_sb_b, z_sb_z, z_al_i, z_al_b, z_pu_s, z_pu_n, nI_toN, z_inN, true_and, and_true, nI_add, pk_mul, vu_eq, vu_ne, nI_leI, nI_ltI, nI_eqI, nI_eq0, nI_le0, ↓ok_0, ↓ok_1, ↓bI_ok, if_true, if_false, nI_lt0, nI_ge0, ne_eq, not_true_eq_false, not_false_eq_true, bI_eq0, bI_ne0, bI_T, bI_F, Bool.false_eq_true, Nat.one_ne_zero, Nat.zero_ne_one, Nat.zero_add, nI_m1, mnN, r11]
    exact q
  rw [if_neg x3] at q
  by_cases x4 : x = nI 4
  · rw [if_pos x4] at q
    subst x4
    simp (disch := omega) only [i_X7_count_1_0, i_X7_count_1_1, i_X7_count_1_2, i_X7_count_1_3, i_X7_count_1_4, i_X7_count_1_5, i_X7_count_1_6, i_X7_count_73, i_X7_count_74, i_X7_count_77, i_X7_count_80, gh_o3, gh_l4, gh_l5, gh_o10, gh_r11, gh_w11, gh_o24, gh_r25, gh_r26, gh_r27, gh_w25, gh_w26, gh_w27, gh_u24, gp_24_0, gp_24_1, gf_24_0, gf_24_1, gf_24_2, gf_24_3, gf_24_4, gf_24_5, gf_3_0, gf_3_1, gf_3_3, gf_3_4, gf_10_0, gf_10_1, gp_10_0, gh_u10, wdF_0, wdF_1, wdF_3, lsF_1, lsF_2, z_o_i, z_ai_i, z_si_i, z_ab_b, z_ab_z, z_sb_b, z_sb_z, z_al_i, z_al_b, z_pu_s, z_pu_n, nI_toN, z_inN, true_and, and_true, nI_add, pk_mul, vu_eq, vu_ne, nI_leI, nI_ltI, nI_eqI, nI_eq0, nI_le0, ↓ok_0, ↓ok_1, ↓bI_ok, if_true, if_false, nI_lt0, nI_ge0, ne_eq, not_true_eq_false, not_false_eq_true, bI_eq0, bI_ne0, bI_T, bI_F, Bool.false_eq_true, Nat.one_ne_zero, Nat.zero_ne_one, Nat.zero_add, nI_m1, mnN, r16]
    exact q
  rw [if_neg x4] at q
  by_cases x5 : x = nI 5
  · rw [if_pos x5] at q
    subst x5
    simp (disch := omega) only [i_X7_count_1_0, i_X7_count_1_1, i_X7_count_1_2, i_X7_count_1_3, i_X7_count_1_4, i_X7_count_1_5, i_X7_count_1_6, i_X7_count_81, i_X7_count_82, i_X7_count_85, gh_o3, gh_l4, gh_l5, gh_o10, gh_r11, gh_w11, gh_o24, gh_r25, gh_r26, gh_r27, gh_w25, gh_w26, gh_w27, gh_u24, gp_24_0, gp_24_1, gf_24_0, gf_24_1, gf_24_2, gf_24_3, gf_24_4, gf_24_5, gf_3_0, gf_3_1, gf_3_3, gf_3_4, gf_10_0, gf_10_1, gp_10_0, gh_u10, wdF_0, wdF_1, wdF_3, lsF_1, lsF_2, z_o_i, z_ai_i, z_si_i, z_ab_b, z_ab_z, z_sb_b, z_sb_z, z_al_i, z_al_b, z_pu_s, z_pu_n, nI_toN, z_inN, true_and, and_true, nI_add, pk_mul, vu_eq, vu_ne, nI_leI, nI_ltI, nI_eqI, nI_eq0, nI_le0, ↓ok_0, ↓ok_1, ↓bI_ok, if_true, if_false, nI_lt0, nI_ge0, ne_eq, not_true_eq_false, not_false_eq_true, bI_eq0, bI_ne0, bI_T, bI_F, Bool.false_eq_true, Nat.one_ne_zero, Nat.zero_ne_one, Nat.zero_add, nI_m1, mnN]
    show X (d + 3) m_X1_countEmpty 0 [some (.ref 24), none, none] [] (GH A P dy) nx 0 0 _
    simp (disch := omega) only [i_X1_countEmpty_0, i_X1_countEmpty_1, i_X1_countEmpty_2, i_X1_countEmpty_3, gh_o3, gh_l4, gh_l5, gh_o10, gh_r11, gh_w11, gh_o24, gh_r25, gh_r26, gh_r27, gh_w25, gh_w26, gh_w27, gh_u24, gp_24_0, gp_24_1, gf_24_0, gf_24_1, gf_24_2, gf_24_3, gf_24_4, gf_24_5, gf_3_0, gf_3_1, gf_3_3, gf_3_4, gf_10_0, gf_10_1, gp_10_0, gh_u10, wdF_0, wdF_1, wdF_3, lsF_1, lsF_2, z_o_i, z_ai_i, z_si_i, z_ab_b, z_ab_z, z_sb_b, z_sb_z, z_al_i, z_al_b, z_pu_s, z_pu_n, nI_toN, z_inN, true_and, and_true, nI_add, pk_mul, vu_eq, vu_ne, nI_leI, nI_ltI, nI_eqI, nI_eq0, nI_le0, ↓ok_0, ↓ok_1, ↓bI_ok, if_true, if_false, nI_lt0, nI_ge0, ne_eq, not_true_eq_false, not_false_eq_true, bI_eq0, bI_ne0, bI_T, bI_F, Bool.false_eq_true, Nat.one_ne_zero, Nat.zero_ne_one, Nat.zero_add, nI_m1, mnN]
    exact l_ce hI hC (by simp (disch := omega) only [i_X7_count_88, gh_o3, gh_l4, gh_l5, gh_o10, gh_r11, gh_w11, gh_o24, gh_r25, gh_r26, gh_r27, gh_w25, gh_w26, gh_w27, gh_u24, gp_24_0, gp_24_1, gf_24_0, gf_24_1, gf_24_2, gf_24_3, gf_24_4, gf_24_5, gf_3_0, gf_3_1, gf_3_3, gf_3_4, gf_10_0, gf_10_1, gp_10_0, gh_u10, wdF_0, wdF_1, wdF_3, lsF_1, lsF_2, z_o_i, z_ai_i, z_si_i, z_ab_b, z_ab_z, z_sb_b, z_sb_z, z_al_i, z_al_b, z_pu_s, z_pu_n, nI_toN, z_inN, true_and, and_true, nI_add, pk_mul, vu_eq, vu_ne, nI_leI, nI_ltI, nI_eqI, nI_eq0, nI_le0, ↓ok_0, ↓ok_1, ↓bI_ok, if_true, if_false, nI_lt0, nI_ge0, ne_eq, not_true_eq_false, not_false_eq_true, bI_eq0, bI_ne0, bI_T, bI_F, Bool.false_eq_true, Nat.one_ne_zero, Nat.zero_ne_one, Nat.zero_add, nI_m1, mnN]; exact q) (s.1 32 16) 0 (by omega)
  rw [if_neg x5] at q
  by_cases x6 : x = nI 6
  · rw [if_pos x6] at q
    subst x6
    simp (disch := omega) only [i_X7_count_1_0, i_X7_count_1_1, i_X7_count_1_2, i_X7_count_1_3, i_X7_count_1_4, i_X7_count_1_5, i_X7_count_1_6, i_X7_count_89, i_X7_count_90, gh_o3, gh_l4, gh_l5, gh_o10, gh_r11, gh_w11, gh_o24, gh_r25, gh_r26, gh_r27, gh_w25, gh_w26, gh_w27, gh_u24, gp_24_0, gp_24_1, gf_24_0, gf_24_1, gf_24_2, gf_24_3, gf_24_4, gf_24_5, gf_3_0, gf_3_1, gf_3_3, gf_3_4, gf_10_0, gf_10_1, gp_10_0, gh_u10, wdF_0, wdF_1, wdF_3, lsF_1, lsF_2, z_o_i, z_ai_i, z_si_i, z_ab_b, z_ab_z, z_sb_b, z_sb_z, z_al_i, z_al_b, z_pu_s, z_pu_n, nI_toN, z_inN, true_and, and_true, nI_add, pk_mul, vu_eq, vu_ne, nI_leI, nI_ltI, nI_eqI, nI_eq0, nI_le0, ↓ok_0, ↓ok_1, ↓bI_ok, if_true, if_false, nI_lt0, nI_ge0, ne_eq, not_true_eq_false, not_false_eq_true, bI_eq0, bI_ne0, bI_T, bI_F, Bool.false_eq_true, Nat.one_ne_zero, Nat.zero_ne_one, Nat.zero_add, nI_m1, mnN]
    show X (d + 3) m_X7_countWritings 0 [some (.ref 3), none, none] [] (GH A P dy) nx 0 0 _
    simp (disch := omega) only [i_X7_countWritings_0, i_X7_countWritings_1, i_X7_countWritings_2, i_X7_countWritings_3, gh_o3, gh_l4, gh_l5, gh_o10, gh_r11, gh_w11, gh_o24, gh_r25, gh_r26, gh_r27, gh_w25, gh_w26, gh_w27, gh_u24, gp_24_0, gp_24_1, gf_24_0, gf_24_1, gf_24_2, gf_24_3, gf_24_4, gf_24_5, gf_3_0, gf_3_1, gf_3_3, gf_3_4, gf_10_0, gf_10_1, gp_10_0, gh_u10, wdF_0, wdF_1, wdF_3, lsF_1, lsF_2, z_o_i, z_ai_i, z_si_i, z_ab_b, z_ab_z, z_sb_b, z_sb_z, z_al_i, z_al_b, z_pu_s, z_pu_n, nI_toN, z_inN, true_and, and_true, nI_add, pk_mul, vu_eq, vu_ne, nI_leI, nI_ltI, nI_eqI, nI_eq0, nI_le0, ↓ok_0, ↓ok_1, ↓bI_ok, if_true, if_false, nI_lt0, nI_ge0, ne_eq, not_true_eq_false, not_false_eq_true, bI_eq0, bI_ne0, bI_T, bI_F, Bool.false_eq_true, Nat.one_ne_zero, Nat.zero_ne_one, Nat.zero_add, nI_m1, mnN]
    exact l_cw hI hD (by simp (disch := omega) only [i_X7_count_93, gh_o3, gh_l4, gh_l5, gh_o10, gh_r11, gh_w11, gh_o24, gh_r25, gh_r26, gh_r27, gh_w25, gh_w26, gh_w27, gh_u24, gp_24_0, gp_24_1, gf_24_0, gf_24_1, gf_24_2, gf_24_3, gf_24_4, gf_24_5, gf_3_0, gf_3_1, gf_3_3, gf_3_4, gf_10_0, gf_10_1, gp_10_0, gh_u10, wdF_0, wdF_1, wdF_3, lsF_1, lsF_2, z_o_i, z_ai_i, z_si_i, z_ab_b, z_ab_z, z_sb_b, z_sb_z, z_al_i, z_al_b, z_pu_s, z_pu_n, nI_toN, z_inN, true_and, and_true, nI_add, pk_mul, vu_eq, vu_ne, nI_leI, nI_ltI, nI_eqI, nI_eq0, nI_le0, ↓ok_0, ↓ok_1, ↓bI_ok, if_true, if_false, nI_lt0, nI_ge0, ne_eq, not_true_eq_false, not_false_eq_true, bI_eq0, bI_ne0, bI_T, bI_F, Bool.false_eq_true, Nat.one_ne_zero, Nat.zero_ne_one, Nat.zero_add, nI_m1, mnN]; exact q) (s.1 32 1) 0 (by omega)
  rw [if_neg x6] at q
  rw [i_X7_count_1_out (by
    rw [← Int32.toInt_inj, nI_toInt (by omega)] at x0 x1 x2 x3 x4 x5 x6
    omega), i_X7_count_94, i_X7_count_96]
  exact q
end CForm
