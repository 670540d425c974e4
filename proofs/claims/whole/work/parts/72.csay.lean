/-! THE CLASS: new sayings -/
section CSay
variable {s : z_S} {A : Nat → Nat → Int32} {P : Nat → Nat → Nat} {dy : z_H} {d nx nz bc bs : Nat} {Q : z_Q} {wd ln : Nat → Nat}
theorem k_tb {f g : Int64} {i : Nat} {h : z_H} (hi : i < 12) : XC d m_X7_toldByte [.long f, .long g, .int (nI i)] h nx Q = Q (some (.int (nI (bN f g i)))) h nx := by
  show X d m_X7_toldByte 0 [some (.long f), none, some (.long g), none, some (.int (nI i)), none, none] [] h nx 0 0 Q = _
  rw [← byw_eq, byw]
  have z8 : ¬ (8 : Nat) = 0 := by omega
  have md : i - i / 8 * 8 = i % 8 := by omega
  by_cases c : i < 8
  · have c' : ¬ 8 ≤ i := by omega
    rw [if_pos c]
    simp (disch := omega) only [i_X7_toldByte_0, i_X7_toldByte_2, i_X7_toldByte_4, i_X7_toldByte_7, i_X7_toldByte_8, i_X7_toldByte_11, i_X7_toldByte_12, i_X7_toldByte_14, i_X7_toldByte_16, i_X7_toldByte_18, i_X7_toldByte_20, i_X7_toldByte_22, i_X7_toldByte_23, i_X7_toldByte_24, i_X7_toldByte_25, i_X7_toldByte_26, i_X7_toldByte_29, i_X7_toldByte_30, gh_dy, gh_dyup, lsF_0, lsF_1, lsF_2, wdF_1, sgF_0, sgF_1, sgF_2, sgF_3, sgF_4, sgF_5, sgF_6, sgF_7, z_o_i, z_ai_i, z_si_i, z_ab_b, z_ab_z, z_sb_b, z_sb_z, z_al_i, z_al_b, z_pu_s, z_pu_n, nI_toN, z_inN, true_and, and_true, nI_add, pk_mul, vu_eq, vu_ne, nI_leI, nI_ltI, nI_eqI, nI_eq0, nI_le0, ↓ok_0, ↓ok_1, ↓bI_ok, if_true, if_false, nI_lt0, nI_ge0, ne_eq, not_true_eq_false, not_false_eq_true, nI_m1, nI_1ne, nI_0eq, bI_eq0, bI_ne0, Bool.false_eq_true, bI_T, bI_F, Nat.one_ne_zero, Nat.zero_ne_one, pk_div, pk_sub, md_40, z_40, k_isV, c', z8, md]
  · have c' : 8 ≤ i := by omega
    rw [if_neg c]
    simp (disch := omega) only [i_X7_toldByte_0, i_X7_toldByte_2, i_X7_toldByte_4, i_X7_toldByte_7, i_X7_toldByte_8, i_X7_toldByte_11, i_X7_toldByte_12, i_X7_toldByte_14, i_X7_toldByte_16, i_X7_toldByte_18, i_X7_toldByte_20, i_X7_toldByte_22, i_X7_toldByte_23, i_X7_toldByte_24, i_X7_toldByte_25, i_X7_toldByte_26, i_X7_toldByte_29, i_X7_toldByte_30, gh_dy, gh_dyup, lsF_0, lsF_1, lsF_2, wdF_1, sgF_0, sgF_1, sgF_2, sgF_3, sgF_4, sgF_5, sgF_6, sgF_7, z_o_i, z_ai_i, z_si_i, z_ab_b, z_ab_z, z_sb_b, z_sb_z, z_al_i, z_al_b, z_pu_s, z_pu_n, nI_toN, z_inN, true_and, and_true, nI_add, pk_mul, vu_eq, vu_ne, nI_leI, nI_ltI, nI_eqI, nI_eq0, nI_le0, ↓ok_0, ↓ok_1, ↓bI_ok, if_true, if_false, nI_lt0, nI_ge0, ne_eq, not_true_eq_false, not_false_eq_true, nI_m1, nI_1ne, nI_0eq, bI_eq0, bI_ne0, Bool.false_eq_true, bI_T, bI_F, Nat.one_ne_zero, Nat.zero_ne_one, pk_div, pk_sub, md_40, z_40, k_isV, c', z8, md]
theorem l_cbs {n : Nat} {f g : Int64} {h : z_H} (hn : n ≤ 12) (hQ : Q (some (.int (bI (aS f g n = true ∧ aV f g n = true)))) h nx) : ∀ (m k : Nat) (x7 x8 : Option Value), k + m = n → aS f g k = true → X (d + 1) m_X7_canBeSaid 6 [some (.int (nI n)), some (.long f), none, some (.long g), none, some (.int (bI (aV f g k = true))), some (.int (nI k)), x7, x8] [] h nx 0 0 Q := by
  intro m
  induction m with
  | zero =>
    intro k x7 x8 hk hS
    have e : k = n := by omega
    subst e
    have e2 : (aS f g k = true ∧ aV f g k = true) = (aV f g k = true) := by simp [hS]
    simp only [e2] at hQ
    simp (disch := omega) only [i_X7_canBeSaid_6, i_X7_canBeSaid_8, i_X7_canBeSaid_9, i_X7_canBeSaid_75, i_X7_canBeSaid_77, gh_dy, gh_dyup, lsF_0, lsF_1, lsF_2, wdF_1, sgF_0, sgF_1, sgF_2, sgF_3, sgF_4, sgF_5, sgF_6, sgF_7, z_o_i, z_ai_i, z_si_i, z_ab_b, z_ab_z, z_sb_b, z_sb_z, z_al_i, z_al_b, z_pu_s, z_pu_n, nI_toN, z_inN, true_and, and_true, nI_add, pk_mul, vu_eq, vu_ne, nI_leI, nI_ltI, nI_eqI, nI_eq0, nI_le0, ↓ok_0, ↓ok_1, ↓bI_ok, if_true, if_false, nI_lt0, nI_ge0, ne_eq, not_true_eq_false, not_false_eq_true, nI_m1, nI_1ne, nI_0eq, bI_eq0, bI_ne0, Bool.false_eq_true, bI_T, bI_F, Nat.one_ne_zero, Nat.zero_ne_one, pk_div, pk_sub, md_40, z_40, k_isV, Nat.le_refl]
    exact hQ
  | succ m ih =>
    intro k x7 x8 hk hS
    have le : ¬ n ≤ k := by omega
    have bb := byw_b f g k
    have z40 : ¬ (40 : Nat) = 0 := by omega
    have eS : (aS f g (k + 1) = true) = (isS (bN f g k) = true) := by simp [aS, hS]
    have eV : (aV f g (k + 1) = true) = (aV f g k = true ∨ bN f g k % 40 < 10) := by simp [aV]
    have key : ∀ v x8 : Int32, v = bI (aV f g (k + 1) = true) → isS (bN f g k) = true → X (d + 1) m_X7_canBeSaid 6 [some (.int (nI n)), some (.long f), none, some (.long g), none, some (.int v), some (.int (nI (k + 1))), some (.int (nI (bN f g k))), some (.int x8)] [] h nx 0 0 Q := by
      intro v x8 hv hs; rw [hv]; exact ih (k + 1) _ _ (by omega) (by rw [eS]; exact hs)
    have bad : ¬ isS (bN f g k) = true → Q (some (.int (nI 0))) h nx := fun q => by
      have : ¬ (aS f g n = true ∧ aV f g n = true) := fun z => q (aS_all n z.1 k (by omega))
      rw [bI_f this] at hQ; exact hQ
    rw [i_X7_canBeSaid_6]
    by_cases c1 : 120 ≤ bN f g k
    · simp (disch := omega) only [i_X7_canBeSaid_8, i_X7_canBeSaid_9, i_X7_canBeSaid_12, i_X7_canBeSaid_13, i_X7_canBeSaid_14, i_X7_canBeSaid_16, i_X7_canBeSaid_19, i_X7_canBeSaid_21, i_X7_canBeSaid_23, i_X7_canBeSaid_25, i_X7_canBeSaid_26, i_X7_canBeSaid_29, i_X7_canBeSaid_31, i_X7_canBeSaid_33, i_X7_canBeSaid_35, i_X7_canBeSaid_50, i_X7_canBeSaid_51, gh_dy, gh_dyup, lsF_0, lsF_1, lsF_2, wdF_1, sgF_0, sgF_1, sgF_2, sgF_3, sgF_4, sgF_5, sgF_6, sgF_7, z_o_i, z_ai_i, z_si_i, z_ab_b, z_ab_z, z_sb_b, z_sb_z, z_al_i, z_al_b, z_pu_s, z_pu_n, nI_toN, z_inN, true_and, and_true, nI_add, pk_mul, vu_eq, vu_ne, nI_leI, nI_ltI, nI_eqI, nI_eq0, nI_le0, ↓ok_0, ↓ok_1, ↓bI_ok, if_true, if_false, nI_lt0, nI_ge0, ne_eq, not_true_eq_false, not_false_eq_true, nI_m1, nI_1ne, nI_0eq, bI_eq0, bI_ne0, Bool.false_eq_true, bI_T, bI_F, Nat.one_ne_zero, Nat.zero_ne_one, pk_div, pk_sub, md_40, z_40, k_isV, k_tb, le, c1, z40]
      exact bad (by simp [isS]; omega)
    · by_cases c4 : bN f g k % 40 < 10
      · have v1 : nI 1 = bI (aV f g (k + 1) = true) := (bI_t (by rw [eV]; exact Or.inr c4)).symm
        have hs : isS (bN f g k) = true := by simp [isS]; omega
        by_cases c2 : bN f g k < 40
        · by_cases c3 : aV f g k = true
          · simp (disch := omega) only [i_X7_canBeSaid_8, i_X7_canBeSaid_9, i_X7_canBeSaid_12, i_X7_canBeSaid_13, i_X7_canBeSaid_14, i_X7_canBeSaid_16, i_X7_canBeSaid_19, i_X7_canBeSaid_21, i_X7_canBeSaid_23, i_X7_canBeSaid_25, i_X7_canBeSaid_26, i_X7_canBeSaid_29, i_X7_canBeSaid_31, i_X7_canBeSaid_33, i_X7_canBeSaid_35, i_X7_canBeSaid_38, i_X7_canBeSaid_40, i_X7_canBeSaid_42, i_X7_canBeSaid_52, i_X7_canBeSaid_54, i_X7_canBeSaid_57, i_X7_canBeSaid_59, i_X7_canBeSaid_62, i_X7_canBeSaid_63, i_X7_canBeSaid_66, i_X7_canBeSaid_67, i_X7_canBeSaid_69, i_X7_canBeSaid_72, gh_dy, gh_dyup, lsF_0, lsF_1, lsF_2, wdF_1, sgF_0, sgF_1, sgF_2, sgF_3, sgF_4, sgF_5, sgF_6, sgF_7, z_o_i, z_ai_i, z_si_i, z_ab_b, z_ab_z, z_sb_b, z_sb_z, z_al_i, z_al_b, z_pu_s, z_pu_n, nI_toN, z_inN, true_and, and_true, nI_add, pk_mul, vu_eq, vu_ne, nI_leI, nI_ltI, nI_eqI, nI_eq0, nI_le0, ↓ok_0, ↓ok_1, ↓bI_ok, if_true, if_false, nI_lt0, nI_ge0, ne_eq, not_true_eq_false, not_false_eq_true, nI_m1, nI_1ne, nI_0eq, bI_eq0, bI_ne0, Bool.false_eq_true, bI_T, bI_F, Nat.one_ne_zero, Nat.zero_ne_one, pk_div, pk_sub, md_40, z_40, k_isV, k_tb, le, c1, c2, c3, c4, z40]
            exact key _ _ v1 hs
          · simp (disch := omega) only [i_X7_canBeSaid_8, i_X7_canBeSaid_9, i_X7_canBeSaid_12, i_X7_canBeSaid_13, i_X7_canBeSaid_14, i_X7_canBeSaid_16, i_X7_canBeSaid_19, i_X7_canBeSaid_21, i_X7_canBeSaid_23, i_X7_canBeSaid_25, i_X7_canBeSaid_26, i_X7_canBeSaid_29, i_X7_canBeSaid_31, i_X7_canBeSaid_33, i_X7_canBeSaid_35, i_X7_canBeSaid_38, i_X7_canBeSaid_40, i_X7_canBeSaid_42, i_X7_canBeSaid_52, i_X7_canBeSaid_54, i_X7_canBeSaid_57, i_X7_canBeSaid_59, i_X7_canBeSaid_62, i_X7_canBeSaid_63, i_X7_canBeSaid_66, i_X7_canBeSaid_67, i_X7_canBeSaid_69, i_X7_canBeSaid_72, gh_dy, gh_dyup, lsF_0, lsF_1, lsF_2, wdF_1, sgF_0, sgF_1, sgF_2, sgF_3, sgF_4, sgF_5, sgF_6, sgF_7, z_o_i, z_ai_i, z_si_i, z_ab_b, z_ab_z, z_sb_b, z_sb_z, z_al_i, z_al_b, z_pu_s, z_pu_n, nI_toN, z_inN, true_and, and_true, nI_add, pk_mul, vu_eq, vu_ne, nI_leI, nI_ltI, nI_eqI, nI_eq0, nI_le0, ↓ok_0, ↓ok_1, ↓bI_ok, if_true, if_false, nI_lt0, nI_ge0, ne_eq, not_true_eq_false, not_false_eq_true, nI_m1, nI_1ne, nI_0eq, bI_eq0, bI_ne0, Bool.false_eq_true, bI_T, bI_F, Nat.one_ne_zero, Nat.zero_ne_one, pk_div, pk_sub, md_40, z_40, k_isV, k_tb, le, c1, c2, c3, c4, z40]
            exact key _ _ v1 hs
        · by_cases c3 : aV f g k = true
          · simp (disch := omega) only [i_X7_canBeSaid_8, i_X7_canBeSaid_9, i_X7_canBeSaid_12, i_X7_canBeSaid_13, i_X7_canBeSaid_14, i_X7_canBeSaid_16, i_X7_canBeSaid_19, i_X7_canBeSaid_21, i_X7_canBeSaid_23, i_X7_canBeSaid_25, i_X7_canBeSaid_26, i_X7_canBeSaid_29, i_X7_canBeSaid_31, i_X7_canBeSaid_33, i_X7_canBeSaid_35, i_X7_canBeSaid_38, i_X7_canBeSaid_40, i_X7_canBeSaid_42, i_X7_canBeSaid_45, i_X7_canBeSaid_47, i_X7_canBeSaid_52, i_X7_canBeSaid_54, i_X7_canBeSaid_57, i_X7_canBeSaid_59, i_X7_canBeSaid_62, i_X7_canBeSaid_63, i_X7_canBeSaid_66, i_X7_canBeSaid_67, i_X7_canBeSaid_69, i_X7_canBeSaid_72, gh_dy, gh_dyup, lsF_0, lsF_1, lsF_2, wdF_1, sgF_0, sgF_1, sgF_2, sgF_3, sgF_4, sgF_5, sgF_6, sgF_7, z_o_i, z_ai_i, z_si_i, z_ab_b, z_ab_z, z_sb_b, z_sb_z, z_al_i, z_al_b, z_pu_s, z_pu_n, nI_toN, z_inN, true_and, and_true, nI_add, pk_mul, vu_eq, vu_ne, nI_leI, nI_ltI, nI_eqI, nI_eq0, nI_le0, ↓ok_0, ↓ok_1, ↓bI_ok, if_true, if_false, nI_lt0, nI_ge0, ne_eq, not_true_eq_false, not_false_eq_true, nI_m1, nI_1ne, nI_0eq, bI_eq0, bI_ne0, Bool.false_eq_true, bI_T, bI_F, Nat.one_ne_zero, Nat.zero_ne_one, pk_div, pk_sub, md_40, z_40, k_isV, k_tb, le, c1, c2, c3, c4, z40]
            exact key _ _ v1 hs
          · simp (disch := omega) only [i_X7_canBeSaid_8, i_X7_canBeSaid_9, i_X7_canBeSaid_12, i_X7_canBeSaid_13, i_X7_canBeSaid_14, i_X7_canBeSaid_16, i_X7_canBeSaid_19, i_X7_canBeSaid_21, i_X7_canBeSaid_23, i_X7_canBeSaid_25, i_X7_canBeSaid_26, i_X7_canBeSaid_29, i_X7_canBeSaid_31, i_X7_canBeSaid_33, i_X7_canBeSaid_35, i_X7_canBeSaid_38, i_X7_canBeSaid_40, i_X7_canBeSaid_42, i_X7_canBeSaid_45, i_X7_canBeSaid_47, i_X7_canBeSaid_52, i_X7_canBeSaid_54, i_X7_canBeSaid_57, i_X7_canBeSaid_59, i_X7_canBeSaid_62, i_X7_canBeSaid_63, i_X7_canBeSaid_66, i_X7_canBeSaid_67, i_X7_canBeSaid_69, i_X7_canBeSaid_72, gh_dy, gh_dyup, lsF_0, lsF_1, lsF_2, wdF_1, sgF_0, sgF_1, sgF_2, sgF_3, sgF_4, sgF_5, sgF_6, sgF_7, z_o_i, z_ai_i, z_si_i, z_ab_b, z_ab_z, z_sb_b, z_sb_z, z_al_i, z_al_b, z_pu_s, z_pu_n, nI_toN, z_inN, true_and, and_true, nI_add, pk_mul, vu_eq, vu_ne, nI_leI, nI_ltI, nI_eqI, nI_eq0, nI_le0, ↓ok_0, ↓ok_1, ↓bI_ok, if_true, if_false, nI_lt0, nI_ge0, ne_eq, not_true_eq_false, not_false_eq_true, nI_m1, nI_1ne, nI_0eq, bI_eq0, bI_ne0, Bool.false_eq_true, bI_T, bI_F, Nat.one_ne_zero, Nat.zero_ne_one, pk_div, pk_sub, md_40, z_40, k_isV, k_tb, le, c1, c2, c3, c4, z40]
            exact key _ _ v1 hs
      · by_cases c2 : bN f g k < 40
        · have hs : isS (bN f g k) = true := by simp [isS]; omega
          by_cases c3 : aV f g k = true
          · have v1 : nI 1 = bI (aV f g (k + 1) = true) := (bI_t (by rw [eV]; exact Or.inl c3)).symm
            simp (disch := omega) only [i_X7_canBeSaid_8, i_X7_canBeSaid_9, i_X7_canBeSaid_12, i_X7_canBeSaid_13, i_X7_canBeSaid_14, i_X7_canBeSaid_16, i_X7_canBeSaid_19, i_X7_canBeSaid_21, i_X7_canBeSaid_23, i_X7_canBeSaid_25, i_X7_canBeSaid_26, i_X7_canBeSaid_29, i_X7_canBeSaid_31, i_X7_canBeSaid_33, i_X7_canBeSaid_35, i_X7_canBeSaid_38, i_X7_canBeSaid_40, i_X7_canBeSaid_42, i_X7_canBeSaid_52, i_X7_canBeSaid_54, i_X7_canBeSaid_57, i_X7_canBeSaid_59, i_X7_canBeSaid_62, i_X7_canBeSaid_63, i_X7_canBeSaid_66, i_X7_canBeSaid_67, i_X7_canBeSaid_69, i_X7_canBeSaid_72, gh_dy, gh_dyup, lsF_0, lsF_1, lsF_2, wdF_1, sgF_0, sgF_1, sgF_2, sgF_3, sgF_4, sgF_5, sgF_6, sgF_7, z_o_i, z_ai_i, z_si_i, z_ab_b, z_ab_z, z_sb_b, z_sb_z, z_al_i, z_al_b, z_pu_s, z_pu_n, nI_toN, z_inN, true_and, and_true, nI_add, pk_mul, vu_eq, vu_ne, nI_leI, nI_ltI, nI_eqI, nI_eq0, nI_le0, ↓ok_0, ↓ok_1, ↓bI_ok, if_true, if_false, nI_lt0, nI_ge0, ne_eq, not_true_eq_false, not_false_eq_true, nI_m1, nI_1ne, nI_0eq, bI_eq0, bI_ne0, Bool.false_eq_true, bI_T, bI_F, Nat.one_ne_zero, Nat.zero_ne_one, pk_div, pk_sub, md_40, z_40, k_isV, k_tb, le, c1, c2, c3, c4, z40]
            exact key _ _ v1 hs
          · have v1 : nI 0 = bI (aV f g (k + 1) = true) := (bI_f (by rw [eV]; exact fun z => z.elim c3 c4)).symm
            simp (disch := omega) only [i_X7_canBeSaid_8, i_X7_canBeSaid_9, i_X7_canBeSaid_12, i_X7_canBeSaid_13, i_X7_canBeSaid_14, i_X7_canBeSaid_16, i_X7_canBeSaid_19, i_X7_canBeSaid_21, i_X7_canBeSaid_23, i_X7_canBeSaid_25, i_X7_canBeSaid_26, i_X7_canBeSaid_29, i_X7_canBeSaid_31, i_X7_canBeSaid_33, i_X7_canBeSaid_35, i_X7_canBeSaid_38, i_X7_canBeSaid_40, i_X7_canBeSaid_42, i_X7_canBeSaid_52, i_X7_canBeSaid_54, i_X7_canBeSaid_57, i_X7_canBeSaid_59, i_X7_canBeSaid_62, i_X7_canBeSaid_63, i_X7_canBeSaid_66, i_X7_canBeSaid_67, i_X7_canBeSaid_69, i_X7_canBeSaid_72, gh_dy, gh_dyup, lsF_0, lsF_1, lsF_2, wdF_1, sgF_0, sgF_1, sgF_2, sgF_3, sgF_4, sgF_5, sgF_6, sgF_7, z_o_i, z_ai_i, z_si_i, z_ab_b, z_ab_z, z_sb_b, z_sb_z, z_al_i, z_al_b, z_pu_s, z_pu_n, nI_toN, z_inN, true_and, and_true, nI_add, pk_mul, vu_eq, vu_ne, nI_leI, nI_ltI, nI_eqI, nI_eq0, nI_le0, ↓ok_0, ↓ok_1, ↓bI_ok, if_true, if_false, nI_lt0, nI_ge0, ne_eq, not_true_eq_false, not_false_eq_true, nI_m1, nI_1ne, nI_0eq, bI_eq0, bI_ne0, Bool.false_eq_true, bI_T, bI_F, Nat.one_ne_zero, Nat.zero_ne_one, pk_div, pk_sub, md_40, z_40, k_isV, k_tb, le, c1, c2, c3, c4, z40]
            exact key _ _ v1 hs
        · simp (disch := omega) only [i_X7_canBeSaid_8, i_X7_canBeSaid_9, i_X7_canBeSaid_12, i_X7_canBeSaid_13, i_X7_canBeSaid_14, i_X7_canBeSaid_16, i_X7_canBeSaid_19, i_X7_canBeSaid_21, i_X7_canBeSaid_23, i_X7_canBeSaid_25, i_X7_canBeSaid_26, i_X7_canBeSaid_29, i_X7_canBeSaid_31, i_X7_canBeSaid_33, i_X7_canBeSaid_35, i_X7_canBeSaid_38, i_X7_canBeSaid_40, i_X7_canBeSaid_42, i_X7_canBeSaid_45, i_X7_canBeSaid_47, i_X7_canBeSaid_50, i_X7_canBeSaid_51, gh_dy, gh_dyup, lsF_0, lsF_1, lsF_2, wdF_1, sgF_0, sgF_1, sgF_2, sgF_3, sgF_4, sgF_5, sgF_6, sgF_7, z_o_i, z_ai_i, z_si_i, z_ab_b, z_ab_z, z_sb_b, z_sb_z, z_al_i, z_al_b, z_pu_s, z_pu_n, nI_toN, z_inN, true_and, and_true, nI_add, pk_mul, vu_eq, vu_ne, nI_leI, nI_ltI, nI_eqI, nI_eq0, nI_le0, ↓ok_0, ↓ok_1, ↓bI_ok, if_true, if_false, nI_lt0, nI_ge0, ne_eq, not_true_eq_false, not_false_eq_true, nI_m1, nI_1ne, nI_0eq, bI_eq0, bI_ne0, Bool.false_eq_true, bI_T, bI_F, Nat.one_ne_zero, Nat.zero_ne_one, pk_div, pk_sub, md_40, z_40, k_isV, k_tb, le, c1, c2, c4, z40]
          exact bad (by simp [isS]; omega)
theorem k_cbs {n : Nat} {f g : Int64} {h : z_H} (hn : n ≤ 12) (hQ : Q (some (.int (bI (aS f g n = true ∧ aV f g n = true)))) h nx) : XC (d + 1) m_X7_canBeSaid [.int (nI n), .long f, .long g] h nx Q := by
  show X (d + 1) m_X7_canBeSaid 0 [some (.int (nI n)), some (.long f), none, some (.long g), none, none, none, none, none] [] h nx 0 0 Q
  simp (disch := omega) only [i_X7_canBeSaid_0, i_X7_canBeSaid_1, i_X7_canBeSaid_3, i_X7_canBeSaid_4, gh_dy, gh_dyup, lsF_0, lsF_1, lsF_2, wdF_1, sgF_0, sgF_1, sgF_2, sgF_3, sgF_4, sgF_5, sgF_6, sgF_7, z_o_i, z_ai_i, z_si_i, z_ab_b, z_ab_z, z_sb_b, z_sb_z, z_al_i, z_al_b, z_pu_s, z_pu_n, nI_toN, z_inN, true_and, and_true, nI_add, pk_mul, vu_eq, vu_ne, nI_leI, nI_ltI, nI_eqI, nI_eq0, nI_le0, ↓ok_0, ↓ok_1, ↓bI_ok, if_true, if_false, nI_lt0, nI_ge0, ne_eq, not_true_eq_false, not_false_eq_true, nI_m1, nI_1ne, nI_0eq, bI_eq0, bI_ne0, Bool.false_eq_true, bI_T, bI_F, Nat.one_ne_zero, Nat.zero_ne_one, pk_div, pk_sub, md_40, z_40, k_isV]
  exact l_cbs hn hQ n 0 none none (by omega) rfl
theorem sg_mk {n a b c : Nat} : va_up (va_up (va_up (va_up (z_df 3) 0 (.int (nI n))) 1 (.ref a)) 3 (.ref b)) 4 (.ref c) = sgF n a 0 b c 0 0 0 0 0 0 := by
  funext j
  match j with
  | 0 => rfl
  | 1 => rfl
  | 2 => rfl
  | 3 => rfl
  | 4 => rfl
  | 5 => rfl
  | 6 => rfl
  | 7 => rfl
  | 8 => rfl
  | 9 => rfl
  | 10 => rfl
  | (k + 11) =>
    rw [vu_ne (by omega), vu_ne (by omega), vu_ne (by omega), vu_ne (by omega)]
    exact if_neg (by show ¬ k + 11 < 11; omega)
theorem bt_none {f g : Nat → Nat} {n : Nat} (h : bt f g n = none) : cv f n = 0 := by
  rcases Nat.eq_zero_or_pos (cv f n) with z | z
  · exact z
  · obtain ⟨i, h1, h2, _⟩ := cv_pos n 0 z
    obtain ⟨b, hb⟩ := bt_some (g := g) n ⟨i, h1, h2⟩
    rw [h] at hb; cases hb
end CSay
