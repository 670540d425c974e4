/-! THE MODEL'S CALLS: spell, writing, copy -/
section MPub2
variable {s : z_S} {A : Nat → Nat → Int32} {P : Nat → Nat → Nat} {dy : z_H} {d nx bc bs : Nat} {Q : z_Q}
theorem nI_ge0 {n : Nat} (h : n < 2147483648) : (0 ≤ nI n) = True := by
  simp only [eq_iff_iff, iff_true]; exact nI_pos' h
theorem nI_lt0 {n : Nat} (h : n < 2147483648) : (nI n < 0) = False := by
  simp only [eq_iff_iff, iff_false, Int32.not_lt]; exact nI_pos' h
theorem nm_lt : ((-1 : Int32) < 0) = True := by simp only [eq_iff_iff, iff_true]; decide
theorem nm_ge : (0 ≤ (-1 : Int32)) = False := by simp only [eq_iff_iff, iff_false]; decide
def ib (x : Int32) : Bool := decide (-128 ≤ x.toInt ∧ x.toInt ≤ 127)
theorem c_inB {x : Int32} {h : z_H} : XC d m_X8_in [.long x.toInt64, .long (-128), .long (lN 127)] h nx Q = Q (some (.int (bI (ib x = true)))) h nx := by
  rw [c_in]
  have e : (¬ x.toInt64 < -128 ∧ ¬ lN 127 < x.toInt64) = (ib x = true) := by
    simp only [ib, decide_eq_true_eq, Int64.lt_iff_toInt_lt, Int32.toInt_toInt64]
    rw [lN_toInt (by omega), show (-128 : Int64).toInt = -128 by decide]
    simp only [eq_iff_iff]
    omega
  by_cases q : ib x = true
  · rw [bI_t q, bI_t (e ▸ q)]
  · rw [bI_f q, bI_f (e ▸ q)]
def s_spell (s : z_S) (w p v : Int32) : Int32 × z_S :=
  if iw w (s.1 32 1) = true then
    (if s.1 38 w.toNatClampNeg = 0 then (-11, s)
    else if iw p (s.1 38 w.toNatClampNeg - 1) = true then
      (if ib v = true then (s.2 (8 * w.toNatClampNeg + p.toNatClampNeg) + nI 1000, (s.1, va_up s.2 (8 * w.toNatClampNeg + p.toNatClampNeg) v)) else (-3, s))
    else (-13, s))
  else (-3, s)
theorem m_spell {w p v : Int32} (hM : Mo s A) (hQ : ∀ B, Mo (s_spell s w p v).2 B → Fk A B → Q (some (.int (s_spell s w p v).1)) (GH B P dy) nx) : XC (d + 2) m_X8_spell [.ref 32, .int w, .int p, .int v] (GH A P dy) nx Q := by
  show X (d + 2) m_X8_spell 0 [some (.ref 32), some (.int w), some (.int p), some (.int v), none] [] (GH A P dy) nx 0 0 Q
  obtain ⟨B, eB, hB, fB⟩ := t0_ex hM
  simp (disch := omega) only [i_X8_spell_0, i_X8_spell_1, i_X8_spell_2, gh_o32, gh_r38, gh_r39, gh_w38, gh_w39, gh_u32, gp_32_0, gf_32_1, gf_32_7, gf_32_8, z_o_i, z_ai_i, z_si_i, z_ab_b, z_ab_z, z_sb_b, z_sb_z, z_al_i, z_al_b, z_pu_s, z_pu_n, nI_toN, z_inN, true_and, and_true, nI_add, pk_mul, vu_eq, vu_ne, nI_leI, nI_ltI, nI_eqI, nI_eq0, ↓ok_0, ↓ok_1, ↓bI_ok, if_true, if_false, ne_eq, not_true_eq_false, not_false_eq_true, nI_m1, nI_1ne, nI_0eq, bI_eq0, bI_ne0, Bool.false_eq_true, c_inK, c_inN, c_inB, iw_nI, decide_true, decide_false, Nat.add_sub_cancel, nI_ge0, nI_lt0, nm_lt, nm_ge, bI_T, bI_F, Nat.one_ne_zero, eB]
  have sc := hB.1.sc
  have iW : ∀ {d nx : Nat} {Q : z_Q} {x : Int32}, XC (d + 1) m_X8_isWord [.ref 32, .int x] (GH B P dy) nx Q = Q (some (.int (bI (iw x (s.1 32 1) = true)))) (GH B P dy) nx := c_isWord hB
  unfold s_spell at hQ
  by_cases hw : iw w (s.1 32 1) = true
  · rw [if_pos hw] at hQ
    obtain ⟨u, hu, rfl⟩ := iw_ex hw
    rw [nI_toN (by omega)] at hQ
    have r38 := hB.1.r38 u
    have b38 := hB.1.b38 u
    by_cases z : s.1 38 u = 0
    · rw [if_pos z] at hQ
      rw [z, show (nI 0 - nI 1 : Int32) = -1 by decide] at r38
      simp (disch := omega) only [i_X8_spell_5, i_X8_spell_6, i_X8_spell_7, i_X8_spell_10, i_X8_spell_13, i_X8_spell_15, i_X8_spell_16, i_X8_spell_17, i_X8_spell_20, i_X8_spell_21, i_X8_spell_22, i_X8_spell_25, i_X8_spell_27, gh_o32, gh_r38, gh_r39, gh_w38, gh_w39, gh_u32, gp_32_0, gf_32_1, gf_32_7, gf_32_8, z_o_i, z_ai_i, z_si_i, z_ab_b, z_ab_z, z_sb_b, z_sb_z, z_al_i, z_al_b, z_pu_s, z_pu_n, nI_toN, z_inN, true_and, and_true, nI_add, pk_mul, vu_eq, vu_ne, nI_leI, nI_ltI, nI_eqI, nI_eq0, ↓ok_0, ↓ok_1, ↓bI_ok, if_true, if_false, ne_eq, not_true_eq_false, not_false_eq_true, nI_m1, nI_1ne, nI_0eq, bI_eq0, bI_ne0, Bool.false_eq_true, c_inK, c_inN, c_inB, iw_nI, decide_true, decide_false, Nat.add_sub_cancel, nI_ge0, nI_lt0, nm_lt, nm_ge, bI_T, bI_F, Nat.one_ne_zero, iW, hu, r38]
      exact hQ B hB fB
    · rw [if_neg z] at hQ
      rw [pk_sub (by omega)] at r38
      by_cases hp : iw p (s.1 38 u - 1) = true
      · rw [if_pos hp] at hQ
        obtain ⟨q, hq, rfl⟩ := iw_ex hp
        rw [nI_toN (by omega)] at hQ
        by_cases hv : ib v = true
        · rw [if_pos hv] at hQ
          have e39 := hB.2.1
          simp (disch := omega) only [i_X8_spell_5, i_X8_spell_6, i_X8_spell_7, i_X8_spell_10, i_X8_spell_13, i_X8_spell_15, i_X8_spell_16, i_X8_spell_17, i_X8_spell_20, i_X8_spell_21, i_X8_spell_22, i_X8_spell_28, i_X8_spell_29, i_X8_spell_30, i_X8_spell_31, i_X8_spell_32, i_X8_spell_35, i_X8_spell_36, i_X8_spell_37, i_X8_spell_38, i_X8_spell_39, i_X8_spell_40, i_X8_spell_43, i_X8_spell_49, i_X8_spell_50, i_X8_spell_51, i_X8_spell_54, i_X8_spell_57, i_X8_spell_60, i_X8_spell_66, i_X8_spell_67, i_X8_spell_70, i_X8_spell_72, i_X8_spell_73, i_X8_spell_74, i_X8_spell_75, i_X8_spell_76, i_X8_spell_77, i_X8_spell_79, i_X8_spell_80, i_X8_spell_83, i_X8_spell_85, i_X8_spell_86, i_X8_spell_87, i_X8_spell_88, i_X8_spell_89, i_X8_spell_90, i_X8_spell_91, i_X8_spell_93, i_X8_spell_96, i_X8_spell_97, gh_o32, gh_r38, gh_r39, gh_w38, gh_w39, gh_u32, gp_32_0, gf_32_1, gf_32_7, gf_32_8, z_o_i, z_ai_i, z_si_i, z_ab_b, z_ab_z, z_sb_b, z_sb_z, z_al_i, z_al_b, z_pu_s, z_pu_n, nI_toN, z_inN, true_and, and_true, nI_add, pk_mul, vu_eq, vu_ne, nI_leI, nI_ltI, nI_eqI, nI_eq0, ↓ok_0, ↓ok_1, ↓bI_ok, if_true, if_false, ne_eq, not_true_eq_false, not_false_eq_true, nI_m1, nI_1ne, nI_0eq, bI_eq0, bI_ne0, Bool.false_eq_true, c_inK, c_inN, c_inB, iw_nI, decide_true, decide_false, Nat.add_sub_cancel, nI_ge0, nI_lt0, nm_lt, nm_ge, bI_T, bI_F, Nat.one_ne_zero, iW, hu, r38, hq, hv]
          rw [e39]
          refine hQ _ ⟨hB.1.u39, by rw [vu_eq], ?_⟩ (fB.up (by omega))
          · obtain ⟨h1, h2, h3, h4, h5⟩ := hB.2.2
            refine ⟨h1, h2, h3, h4, fun i => ?_⟩
            show -128 ≤ (va_up s.2 (8 * u + q) v i).toInt ∧ (va_up s.2 (8 * u + q) v i).toInt ≤ 127
            rw [vu_if]
            by_cases e : i = 8 * u + q
            · rw [if_pos e]; simpa [ib] using hv
            · rw [if_neg e]; exact h5 i
        · rw [if_neg hv] at hQ
          simp (disch := omega) only [i_X8_spell_5, i_X8_spell_6, i_X8_spell_7, i_X8_spell_10, i_X8_spell_13, i_X8_spell_15, i_X8_spell_16, i_X8_spell_17, i_X8_spell_20, i_X8_spell_21, i_X8_spell_22, i_X8_spell_28, i_X8_spell_29, i_X8_spell_30, i_X8_spell_31, i_X8_spell_32, i_X8_spell_35, i_X8_spell_36, i_X8_spell_37, i_X8_spell_38, i_X8_spell_39, i_X8_spell_40, i_X8_spell_43, i_X8_spell_49, i_X8_spell_50, i_X8_spell_51, i_X8_spell_54, i_X8_spell_57, i_X8_spell_60, i_X8_spell_63, i_X8_spell_65, gh_o32, gh_r38, gh_r39, gh_w38, gh_w39, gh_u32, gp_32_0, gf_32_1, gf_32_7, gf_32_8, z_o_i, z_ai_i, z_si_i, z_ab_b, z_ab_z, z_sb_b, z_sb_z, z_al_i, z_al_b, z_pu_s, z_pu_n, nI_toN, z_inN, true_and, and_true, nI_add, pk_mul, vu_eq, vu_ne, nI_leI, nI_ltI, nI_eqI, nI_eq0, ↓ok_0, ↓ok_1, ↓bI_ok, if_true, if_false, ne_eq, not_true_eq_false, not_false_eq_true, nI_m1, nI_1ne, nI_0eq, bI_eq0, bI_ne0, Bool.false_eq_true, c_inK, c_inN, c_inB, iw_nI, decide_true, decide_false, Nat.add_sub_cancel, nI_ge0, nI_lt0, nm_lt, nm_ge, bI_T, bI_F, Nat.one_ne_zero, iW, hu, r38, hq, hv]
          exact hQ B hB fB
      · rw [if_neg hp] at hQ
        simp (disch := omega) only [i_X8_spell_5, i_X8_spell_6, i_X8_spell_7, i_X8_spell_10, i_X8_spell_13, i_X8_spell_15, i_X8_spell_16, i_X8_spell_17, i_X8_spell_20, i_X8_spell_21, i_X8_spell_22, i_X8_spell_28, i_X8_spell_29, i_X8_spell_30, i_X8_spell_31, i_X8_spell_32, i_X8_spell_35, i_X8_spell_36, i_X8_spell_37, i_X8_spell_38, i_X8_spell_39, i_X8_spell_40, i_X8_spell_43, i_X8_spell_46, i_X8_spell_48, gh_o32, gh_r38, gh_r39, gh_w38, gh_w39, gh_u32, gp_32_0, gf_32_1, gf_32_7, gf_32_8, z_o_i, z_ai_i, z_si_i, z_ab_b, z_ab_z, z_sb_b, z_sb_z, z_al_i, z_al_b, z_pu_s, z_pu_n, nI_toN, z_inN, true_and, and_true, nI_add, pk_mul, vu_eq, vu_ne, nI_leI, nI_ltI, nI_eqI, nI_eq0, ↓ok_0, ↓ok_1, ↓bI_ok, if_true, if_false, ne_eq, not_true_eq_false, not_false_eq_true, nI_m1, nI_1ne, nI_0eq, bI_eq0, bI_ne0, Bool.false_eq_true, c_inK, c_inN, c_inB, iw_nI, decide_true, decide_false, Nat.add_sub_cancel, nI_ge0, nI_lt0, nm_lt, nm_ge, bI_T, bI_F, Nat.one_ne_zero, iW, hu, r38, hp]
        exact hQ B hB fB
  · rw [if_neg hw] at hQ
    simp (disch := omega) only [i_X8_spell_5, i_X8_spell_6, i_X8_spell_7, i_X8_spell_10, i_X8_spell_13, i_X8_spell_15, gh_o32, gh_r38, gh_r39, gh_w38, gh_w39, gh_u32, gp_32_0, gf_32_1, gf_32_7, gf_32_8, z_o_i, z_ai_i, z_si_i, z_ab_b, z_ab_z, z_sb_b, z_sb_z, z_al_i, z_al_b, z_pu_s, z_pu_n, nI_toN, z_inN, true_and, and_true, nI_add, pk_mul, vu_eq, vu_ne, nI_leI, nI_ltI, nI_eqI, nI_eq0, ↓ok_0, ↓ok_1, ↓bI_ok, if_true, if_false, ne_eq, not_true_eq_false, not_false_eq_true, nI_m1, nI_1ne, nI_0eq, bI_eq0, bI_ne0, Bool.false_eq_true, c_inK, c_inN, c_inB, iw_nI, decide_true, decide_false, Nat.add_sub_cancel, nI_ge0, nI_lt0, nm_lt, nm_ge, bI_T, bI_F, Nat.one_ne_zero, iW, hw]
    exact hQ B hB fB
def s_writing (s : z_S) (w n : Int32) : Int32 × z_S :=
  if iw w (s.1 32 1) = true ∧ n ≤ nI 8 then (if n < 0 then (-14, s) else (n, (va_up s.1 38 (va_up (s.1 38) w.toNatClampNeg (n.toNatClampNeg + 1)), pt s.2 (fun _ => nI 0) (8 * w.toNatClampNeg) 8))) else (-3, s)
theorem l_writing {w n : Nat} {L : Nat → Int32} (hw : w < 24) {A : Nat → Nat → Int32} (hQ : Q (some (.int (nI n))) (GH (va_up A 39 (pt L (fun _ => nI 0) (8 * w) 8)) P dy) nx) : ∀ (m k : Nat), k + m = 8 → X (d + 2) m_X8_writing 38 [some (.ref 32), some (.int (nI w)), some (.int (nI n)), some (.int (nI k))] [] (GH (va_up A 39 (pt L (fun _ => nI 0) (8 * w) k)) P dy) nx bc bs Q := by
  intro m
  induction m with
  | zero =>
    intro k hk
    have e : k = 8 := by omega
    subst e
    simp (disch := omega) only [i_X8_writing_38, i_X8_writing_39, i_X8_writing_41, i_X8_writing_62, i_X8_writing_63, gh_o32, gh_r38, gh_r39, gh_w38, gh_w39, gh_u32, gp_32_0, gf_32_1, gf_32_7, gf_32_8, z_o_i, z_ai_i, z_si_i, z_ab_b, z_ab_z, z_sb_b, z_sb_z, z_al_i, z_al_b, z_pu_s, z_pu_n, nI_toN, z_inN, true_and, and_true, nI_add, pk_mul, vu_eq, vu_ne, nI_leI, nI_ltI, nI_eqI, nI_eq0, ↓ok_0, ↓ok_1, ↓bI_ok, if_true, if_false, ne_eq, not_true_eq_false, not_false_eq_true, nI_m1, nI_1ne, nI_0eq, bI_eq0, bI_ne0, Bool.false_eq_true, c_inK, c_inN, c_inB, iw_nI, decide_true, decide_false, Nat.add_sub_cancel, nI_ge0, nI_lt0, nm_lt, nm_ge, bI_T, bI_F, Nat.one_ne_zero, Nat.le_refl]
    exact hQ
  | succ m ih =>
    intro k hk
    have le : ¬ 8 ≤ k := by omega
    rw [i_X8_writing_38]
    simp (disch := omega) only [i_X8_writing_39, i_X8_writing_41, i_X8_writing_44, i_X8_writing_45, i_X8_writing_48, i_X8_writing_50, i_X8_writing_51, i_X8_writing_52, i_X8_writing_53, i_X8_writing_54, i_X8_writing_55, i_X8_writing_56, i_X8_writing_59, gh_o32, gh_r38, gh_r39, gh_w38, gh_w39, gh_u32, gp_32_0, gf_32_1, gf_32_7, gf_32_8, z_o_i, z_ai_i, z_si_i, z_ab_b, z_ab_z, z_sb_b, z_sb_z, z_al_i, z_al_b, z_pu_s, z_pu_n, nI_toN, z_inN, true_and, and_true, nI_add, pk_mul, vu_eq, vu_ne, nI_leI, nI_ltI, nI_eqI, nI_eq0, ↓ok_0, ↓ok_1, ↓bI_ok, if_true, if_false, ne_eq, not_true_eq_false, not_false_eq_true, nI_m1, nI_1ne, nI_0eq, bI_eq0, bI_ne0, Bool.false_eq_true, c_inK, c_inN, c_inB, iw_nI, decide_true, decide_false, Nat.add_sub_cancel, nI_ge0, nI_lt0, nm_lt, nm_ge, bI_T, bI_F, Nat.one_ne_zero, le]
    rw [pt_succ _ _ _ _ rfl, vu_vu]
    exact ih (k + 1) (by omega)
theorem m_writing {w n : Int32} (hM : Mo s A) (hQ : ∀ B, Mo (s_writing s w n).2 B → Fk A B → Q (some (.int (s_writing s w n).1)) (GH B P dy) nx) : XC (d + 2) m_X8_writing [.ref 32, .int w, .int n] (GH A P dy) nx Q := by
  show X (d + 2) m_X8_writing 0 [some (.ref 32), some (.int w), some (.int n), none] [] (GH A P dy) nx 0 0 Q
  obtain ⟨B, eB, hB, fB⟩ := t0_ex hM
  simp (disch := omega) only [i_X8_writing_0, i_X8_writing_1, i_X8_writing_2, gh_o32, gh_r38, gh_r39, gh_w38, gh_w39, gh_u32, gp_32_0, gf_32_1, gf_32_7, gf_32_8, z_o_i, z_ai_i, z_si_i, z_ab_b, z_ab_z, z_sb_b, z_sb_z, z_al_i, z_al_b, z_pu_s, z_pu_n, nI_toN, z_inN, true_and, and_true, nI_add, pk_mul, vu_eq, vu_ne, nI_leI, nI_ltI, nI_eqI, nI_eq0, ↓ok_0, ↓ok_1, ↓bI_ok, if_true, if_false, ne_eq, not_true_eq_false, not_false_eq_true, nI_m1, nI_1ne, nI_0eq, bI_eq0, bI_ne0, Bool.false_eq_true, c_inK, c_inN, c_inB, iw_nI, decide_true, decide_false, Nat.add_sub_cancel, nI_ge0, nI_lt0, nm_lt, nm_ge, bI_T, bI_F, Nat.one_ne_zero, eB]
  have sc := hB.1.sc
  have iW : ∀ {d nx : Nat} {Q : z_Q} {x : Int32}, XC (d + 1) m_X8_isWord [.ref 32, .int x] (GH B P dy) nx Q = Q (some (.int (bI (iw x (s.1 32 1) = true)))) (GH B P dy) nx := c_isWord hB
  unfold s_writing at hQ
  by_cases hw : iw w (s.1 32 1) = true
  · by_cases n8 : n ≤ nI 8
    · rw [if_pos ⟨hw, n8⟩] at hQ
      by_cases n0 : n < 0
      · rw [if_pos n0] at hQ
        have n0' : ¬ 0 ≤ n := Int32.not_le.mpr n0
        simp (disch := omega) only [i_X8_writing_5, i_X8_writing_6, i_X8_writing_7, i_X8_writing_10, i_X8_writing_13, i_X8_writing_14, i_X8_writing_16, i_X8_writing_22, i_X8_writing_23, i_X8_writing_26, i_X8_writing_28, gh_o32, gh_r38, gh_r39, gh_w38, gh_w39, gh_u32, gp_32_0, gf_32_1, gf_32_7, gf_32_8, z_o_i, z_ai_i, z_si_i, z_ab_b, z_ab_z, z_sb_b, z_sb_z, z_al_i, z_al_b, z_pu_s, z_pu_n, nI_toN, z_inN, true_and, and_true, nI_add, pk_mul, vu_eq, vu_ne, nI_leI, nI_ltI, nI_eqI, nI_eq0, ↓ok_0, ↓ok_1, ↓bI_ok, if_true, if_false, ne_eq, not_true_eq_false, not_false_eq_true, nI_m1, nI_1ne, nI_0eq, bI_eq0, bI_ne0, Bool.false_eq_true, c_inK, c_inN, c_inB, iw_nI, decide_true, decide_false, Nat.add_sub_cancel, nI_ge0, nI_lt0, nm_lt, nm_ge, bI_T, bI_F, Nat.one_ne_zero, iW, hw, n8, n0']
        exact hQ B hB fB
      · rw [if_neg n0] at hQ
        obtain ⟨u, hu, rfl⟩ := iw_ex hw
        have hn : iw n 9 = true := by
          rw [iw_ge (by omega)]
          refine ⟨n0, fun q => ?_⟩
          have := Int32.le_trans q n8
          exact absurd this (by decide)
        obtain ⟨v, hv, rfl⟩ := iw_ex hn
        rw [nI_toN (by omega), nI_toN (by omega)] at hQ
        have v8 : v ≤ 8 := by omega
        simp (disch := omega) only [i_X8_writing_5, i_X8_writing_6, i_X8_writing_7, i_X8_writing_10, i_X8_writing_13, i_X8_writing_14, i_X8_writing_16, i_X8_writing_22, i_X8_writing_23, i_X8_writing_29, i_X8_writing_30, i_X8_writing_33, i_X8_writing_34, i_X8_writing_35, i_X8_writing_36, i_X8_writing_37, gh_o32, gh_r38, gh_r39, gh_w38, gh_w39, gh_u32, gp_32_0, gf_32_1, gf_32_7, gf_32_8, z_o_i, z_ai_i, z_si_i, z_ab_b, z_ab_z, z_sb_b, z_sb_z, z_al_i, z_al_b, z_pu_s, z_pu_n, nI_toN, z_inN, true_and, and_true, nI_add, pk_mul, vu_eq, vu_ne, nI_leI, nI_ltI, nI_eqI, nI_eq0, ↓ok_0, ↓ok_1, ↓bI_ok, if_true, if_false, ne_eq, not_true_eq_false, not_false_eq_true, nI_m1, nI_1ne, nI_0eq, bI_eq0, bI_ne0, Bool.false_eq_true, c_inK, c_inN, c_inB, iw_nI, decide_true, decide_false, Nat.add_sub_cancel, nI_ge0, nI_lt0, nm_lt, nm_ge, bI_T, bI_F, Nat.one_ne_zero, iW, hu, v8]
        have e1 : va_up (va_up B 38 (va_up (B 38) u (nI v))) 39 (pt s.2 (fun _ => nI 0) (8 * u) 0) = va_up B 38 (va_up (B 38) u (nI v)) := by
          rw [pt_0, vu_self]
          rw [vu_ne (by omega)]
          exact hB.2.1.symm
        rw [← e1]
        refine l_writing (by omega) (hQ _ ⟨?_, by rw [vu_eq], ?_⟩ ((fB.up (by omega)).up (by omega))) 8 0 (by omega)
        · exact (hB.1.u38 (vs_rm hB.1.r38 (by rw [pk_sub (by omega)]; rfl)) (vs_le hB.1.b38 (by omega))).u39
        · obtain ⟨h1, h2, h3, h4, h5⟩ := hB.2.2
          refine ⟨h1, h2, h3, h4, fun i => ?_⟩
          show -128 ≤ (pt s.2 (fun _ => nI 0) (8 * u) 8 i).toInt ∧ (pt s.2 (fun _ => nI 0) (8 * u) 8 i).toInt ≤ 127
          unfold pt
          by_cases e : 8 * u ≤ i ∧ i < 8 * u + 8
          · rw [if_pos e]; exact (by decide : -128 ≤ (nI 0 : Int32).toInt ∧ (nI 0 : Int32).toInt ≤ 127)
          · rw [if_neg e]; exact h5 i
    · rw [if_neg (fun q => n8 q.2)] at hQ
      simp (disch := omega) only [i_X8_writing_5, i_X8_writing_6, i_X8_writing_7, i_X8_writing_10, i_X8_writing_13, i_X8_writing_14, i_X8_writing_16, i_X8_writing_19, i_X8_writing_21, gh_o32, gh_r38, gh_r39, gh_w38, gh_w39, gh_u32, gp_32_0, gf_32_1, gf_32_7, gf_32_8, z_o_i, z_ai_i, z_si_i, z_ab_b, z_ab_z, z_sb_b, z_sb_z, z_al_i, z_al_b, z_pu_s, z_pu_n, nI_toN, z_inN, true_and, and_true, nI_add, pk_mul, vu_eq, vu_ne, nI_leI, nI_ltI, nI_eqI, nI_eq0, ↓ok_0, ↓ok_1, ↓bI_ok, if_true, if_false, ne_eq, not_true_eq_false, not_false_eq_true, nI_m1, nI_1ne, nI_0eq, bI_eq0, bI_ne0, Bool.false_eq_true, c_inK, c_inN, c_inB, iw_nI, decide_true, decide_false, Nat.add_sub_cancel, nI_ge0, nI_lt0, nm_lt, nm_ge, bI_T, bI_F, Nat.one_ne_zero, iW, hw, n8]
      exact hQ B hB fB
  · rw [if_neg (fun q => hw q.1)] at hQ
    simp (disch := omega) only [i_X8_writing_5, i_X8_writing_6, i_X8_writing_7, i_X8_writing_10, i_X8_writing_19, i_X8_writing_21, gh_o32, gh_r38, gh_r39, gh_w38, gh_w39, gh_u32, gp_32_0, gf_32_1, gf_32_7, gf_32_8, z_o_i, z_ai_i, z_si_i, z_ab_b, z_ab_z, z_sb_b, z_sb_z, z_al_i, z_al_b, z_pu_s, z_pu_n, nI_toN, z_inN, true_and, and_true, nI_add, pk_mul, vu_eq, vu_ne, nI_leI, nI_ltI, nI_eqI, nI_eq0, ↓ok_0, ↓ok_1, ↓bI_ok, if_true, if_false, ne_eq, not_true_eq_false, not_false_eq_true, nI_m1, nI_1ne, nI_0eq, bI_eq0, bI_ne0, Bool.false_eq_true, c_inK, c_inN, c_inB, iw_nI, decide_true, decide_false, Nat.add_sub_cancel, nI_ge0, nI_lt0, nm_lt, nm_ge, bI_T, bI_F, Nat.one_ne_zero, iW, hw]
    exact hQ B hB fB
def s_copy (s : z_S) (f t p m : Int32) : Int32 × z_S :=
  if iw f (s.1 32 1) = true ∧ iw t (s.1 32 1) = true then
    (if s.1 38 f.toNatClampNeg = 0 ∨ s.1 38 t.toNatClampNeg = 0 then (-11, s)
    else if iw m (s.1 38 f.toNatClampNeg) = true ∧ iw p (s.1 38 t.toNatClampNeg - m.toNatClampNeg) = true then
      (m, (s.1, pt s.2 (fun i => s.2 (8 * f.toNatClampNeg + i)) (8 * t.toNatClampNeg + p.toNatClampNeg) m.toNatClampNeg))
    else (-13, s))
  else (-3, s)
/-- the last m - k of m letters are copied -/
def cpD (L : Nat → Int32) (b f k m : Nat) : Nat → Int32 := fun i => if b + k ≤ i ∧ i < b + m then L (f + (i - b)) else L i
theorem cpD_step {L : Nat → Int32} {b f k m : Nat} (hk : k < m) : va_up (cpD L b f (k + 1) m) (b + k) (L (f + k)) = cpD L b f k m := by
  funext i
  simp only [vu_if, cpD]
  by_cases e : i = b + k
  · subst e
    rw [if_pos rfl, if_pos (by omega)]
    congr 1
    omega
  · rw [if_neg e]
    by_cases h : b + k ≤ i ∧ i < b + m
    · rw [if_pos h, if_pos (by omega)]
    · rw [if_neg h, if_neg (by omega)]
theorem l_copy {f t p m : Nat} {L : Nat → Int32} (hf : f < 24) (ht : t < 24) (hp : p + m ≤ 8) {A : Nat → Nat → Int32} (hQ : Q (some (.int (nI m))) (GH (va_up A 39 (cpD L (8 * t + p) (8 * f) 0 m)) P dy) nx) : ∀ (k : Nat), k ≤ m → X (d + 2) m_X8_copy 87 [some (.ref 32), some (.int (nI f)), some (.int (nI t)), some (.int (nI p)), some (.int (nI m)), some (.int (nI k - nI 1))] [] (GH (va_up A 39 (cpD L (8 * t + p) (8 * f) k m)) P dy) nx bc bs Q := by
  intro k
  induction k with
  | zero =>
    intro hk
    have m0 : (nI 0 - nI 1 : Int32) = -1 := by decide
    rw [m0]
    simp (disch := omega) only [i_X8_copy_87, i_X8_copy_89, i_X8_copy_124, i_X8_copy_126, gh_o32, gh_r38, gh_r39, gh_w38, gh_w39, gh_u32, gp_32_0, gf_32_1, gf_32_7, gf_32_8, z_o_i, z_ai_i, z_si_i, z_ab_b, z_ab_z, z_sb_b, z_sb_z, z_al_i, z_al_b, z_pu_s, z_pu_n, nI_toN, z_inN, true_and, and_true, nI_add, pk_mul, vu_eq, vu_ne, nI_leI, nI_ltI, nI_eqI, nI_eq0, ↓ok_0, ↓ok_1, ↓bI_ok, if_true, if_false, ne_eq, not_true_eq_false, not_false_eq_true, nI_m1, nI_1ne, nI_0eq, bI_eq0, bI_ne0, Bool.false_eq_true, c_inK, c_inN, c_inB, iw_nI, decide_true, decide_false, Nat.add_sub_cancel, nI_ge0, nI_lt0, nm_lt, nm_ge, bI_T, bI_F, Nat.one_ne_zero]
    exact hQ
  | succ k ih =>
    intro hk
    have m1 : (nI (k + 1) - nI 1 : Int32) = nI k := by rw [pk_sub (by omega)]; rfl
    have m2 : (nI k + (-1) : Int32) = nI k - nI 1 := by rw [Int32.sub_eq_add_neg]; rfl
    have m3 : (Int32.ofInt (-1) : Int32) = -1 := by decide
    have rd : cpD L (8 * t + p) (8 * f) (k + 1) m (8 * f + k) = L (8 * f + k) := if_neg (by omega)
    rw [m1, i_X8_copy_87]
    simp (disch := omega) only [i_X8_copy_89, i_X8_copy_92, i_X8_copy_93, i_X8_copy_96, i_X8_copy_98, i_X8_copy_99, i_X8_copy_100, i_X8_copy_101, i_X8_copy_102, i_X8_copy_104, i_X8_copy_105, i_X8_copy_106, i_X8_copy_109, i_X8_copy_111, i_X8_copy_112, i_X8_copy_113, i_X8_copy_115, i_X8_copy_116, i_X8_copy_117, i_X8_copy_118, i_X8_copy_121, gh_o32, gh_r38, gh_r39, gh_w38, gh_w39, gh_u32, gp_32_0, gf_32_1, gf_32_7, gf_32_8, z_o_i, z_ai_i, z_si_i, z_ab_b, z_ab_z, z_sb_b, z_sb_z, z_al_i, z_al_b, z_pu_s, z_pu_n, nI_toN, z_inN, true_and, and_true, nI_add, pk_mul, vu_eq, vu_ne, nI_leI, nI_ltI, nI_eqI, nI_eq0, ↓ok_0, ↓ok_1, ↓bI_ok, if_true, if_false, ne_eq, not_true_eq_false, not_false_eq_true, nI_m1, nI_1ne, nI_0eq, bI_eq0, bI_ne0, Bool.false_eq_true, c_inK, c_inN, c_inB, iw_nI, decide_true, decide_false, Nat.add_sub_cancel, nI_ge0, nI_lt0, nm_lt, nm_ge, bI_T, bI_F, Nat.one_ne_zero, rd, m2, m3]
    rw [vu_vu, cpD_step (by omega)]
    exact ih (by omega)
theorem m_copy {f t p m : Int32} (hM : Mo s A) (hQ : ∀ B, Mo (s_copy s f t p m).2 B → Fk A B → Q (some (.int (s_copy s f t p m).1)) (GH B P dy) nx) : XC (d + 2) m_X8_copy [.ref 32, .int f, .int t, .int p, .int m] (GH A P dy) nx Q := by
  show X (d + 2) m_X8_copy 0 [some (.ref 32), some (.int f), some (.int t), some (.int p), some (.int m), none] [] (GH A P dy) nx 0 0 Q
  obtain ⟨B, eB, hB, fB⟩ := t0_ex hM
  simp (disch := omega) only [i_X8_copy_0, i_X8_copy_1, i_X8_copy_2, gh_o32, gh_r38, gh_r39, gh_w38, gh_w39, gh_u32, gp_32_0, gf_32_1, gf_32_7, gf_32_8, z_o_i, z_ai_i, z_si_i, z_ab_b, z_ab_z, z_sb_b, z_sb_z, z_al_i, z_al_b, z_pu_s, z_pu_n, nI_toN, z_inN, true_and, and_true, nI_add, pk_mul, vu_eq, vu_ne, nI_leI, nI_ltI, nI_eqI, nI_eq0, ↓ok_0, ↓ok_1, ↓bI_ok, if_true, if_false, ne_eq, not_true_eq_false, not_false_eq_true, nI_m1, nI_1ne, nI_0eq, bI_eq0, bI_ne0, Bool.false_eq_true, c_inK, c_inN, c_inB, iw_nI, decide_true, decide_false, Nat.add_sub_cancel, nI_ge0, nI_lt0, nm_lt, nm_ge, bI_T, bI_F, Nat.one_ne_zero, pk_sub, eB]
  have sc := hB.1.sc
  have iW : ∀ {d nx : Nat} {Q : z_Q} {x : Int32}, XC (d + 1) m_X8_isWord [.ref 32, .int x] (GH B P dy) nx Q = Q (some (.int (bI (iw x (s.1 32 1) = true)))) (GH B P dy) nx := c_isWord hB
  have m0 : (nI 0 - nI 1 : Int32) = -1 := by decide
  unfold s_copy at hQ
  by_cases hf : iw f (s.1 32 1) = true
  · by_cases ht : iw t (s.1 32 1) = true
    · rw [if_pos ⟨hf, ht⟩] at hQ
      obtain ⟨u, hu, rfl⟩ := iw_ex hf
      obtain ⟨v, hv, rfl⟩ := iw_ex ht
      rw [nI_toN (by omega), nI_toN (by omega)] at hQ
      have r38 := hB.1.r38 u
      have b38 := hB.1.b38 u
      have t38 := hB.1.r38 v
      have c38 := hB.1.b38 v
      by_cases z : s.1 38 u = 0
      · rw [if_pos (Or.inl z)] at hQ
        rw [z, m0] at r38
        simp (disch := omega) only [i_X8_copy_5, i_X8_copy_6, i_X8_copy_7, i_X8_copy_10, i_X8_copy_13, i_X8_copy_14, i_X8_copy_15, i_X8_copy_18, i_X8_copy_21, i_X8_copy_23, i_X8_copy_24, i_X8_copy_25, i_X8_copy_28, i_X8_copy_29, i_X8_copy_30, i_X8_copy_42, i_X8_copy_44, gh_o32, gh_r38, gh_r39, gh_w38, gh_w39, gh_u32, gp_32_0, gf_32_1, gf_32_7, gf_32_8, z_o_i, z_ai_i, z_si_i, z_ab_b, z_ab_z, z_sb_b, z_sb_z, z_al_i, z_al_b, z_pu_s, z_pu_n, nI_toN, z_inN, true_and, and_true, nI_add, pk_mul, vu_eq, vu_ne, nI_leI, nI_ltI, nI_eqI, nI_eq0, ↓ok_0, ↓ok_1, ↓bI_ok, if_true, if_false, ne_eq, not_true_eq_false, not_false_eq_true, nI_m1, nI_1ne, nI_0eq, bI_eq0, bI_ne0, Bool.false_eq_true, c_inK, c_inN, c_inB, iw_nI, decide_true, decide_false, Nat.add_sub_cancel, nI_ge0, nI_lt0, nm_lt, nm_ge, bI_T, bI_F, Nat.one_ne_zero, pk_sub, iW, hu, hv, r38]
        exact hQ B hB fB
      · by_cases y : s.1 38 v = 0
        · rw [if_pos (Or.inr y)] at hQ
          rw [pk_sub (by omega)] at r38
          rw [y, m0] at t38
          simp (disch := omega) only [i_X8_copy_5, i_X8_copy_6, i_X8_copy_7, i_X8_copy_10, i_X8_copy_13, i_X8_copy_14, i_X8_copy_15, i_X8_copy_18, i_X8_copy_21, i_X8_copy_23, i_X8_copy_24, i_X8_copy_25, i_X8_copy_28, i_X8_copy_29, i_X8_copy_30, i_X8_copy_33, i_X8_copy_34, i_X8_copy_37, i_X8_copy_38, i_X8_copy_39, i_X8_copy_42, i_X8_copy_44, gh_o32, gh_r38, gh_r39, gh_w38, gh_w39, gh_u32, gp_32_0, gf_32_1, gf_32_7, gf_32_8, z_o_i, z_ai_i, z_si_i, z_ab_b, z_ab_z, z_sb_b, z_sb_z, z_al_i, z_al_b, z_pu_s, z_pu_n, nI_toN, z_inN, true_and, and_true, nI_add, pk_mul, vu_eq, vu_ne, nI_leI, nI_ltI, nI_eqI, nI_eq0, ↓ok_0, ↓ok_1, ↓bI_ok, if_true, if_false, ne_eq, not_true_eq_false, not_false_eq_true, nI_m1, nI_1ne, nI_0eq, bI_eq0, bI_ne0, Bool.false_eq_true, c_inK, c_inN, c_inB, iw_nI, decide_true, decide_false, Nat.add_sub_cancel, nI_ge0, nI_lt0, nm_lt, nm_ge, bI_T, bI_F, Nat.one_ne_zero, pk_sub, iW, hu, hv, r38, t38]
          exact hQ B hB fB
        · rw [if_neg (fun q => q.elim z y)] at hQ
          rw [pk_sub (by omega)] at r38 t38
          by_cases hm : iw m (s.1 38 u) = true
          · obtain ⟨k, hk, rfl⟩ := iw_ex hm
            rw [nI_toN (by omega)] at hQ
            have k1 : ¬ s.1 38 u - 1 < k := by omega
            by_cases hp : iw p (s.1 38 v - k) = true
            · rw [if_pos ⟨hm, hp⟩] at hQ
              obtain ⟨q, hq, rfl⟩ := iw_ex hp
              rw [nI_toN (by omega)] at hQ
              have q1 : q ≤ s.1 38 v - 1 - k := by omega
              simp (disch := omega) only [i_X8_copy_5, i_X8_copy_6, i_X8_copy_7, i_X8_copy_10, i_X8_copy_13, i_X8_copy_14, i_X8_copy_15, i_X8_copy_18, i_X8_copy_21, i_X8_copy_23, i_X8_copy_24, i_X8_copy_25, i_X8_copy_28, i_X8_copy_29, i_X8_copy_30, i_X8_copy_33, i_X8_copy_34, i_X8_copy_37, i_X8_copy_38, i_X8_copy_39, i_X8_copy_45, i_X8_copy_47, i_X8_copy_50, i_X8_copy_52, i_X8_copy_53, i_X8_copy_56, i_X8_copy_57, i_X8_copy_58, i_X8_copy_61, i_X8_copy_62, i_X8_copy_65, i_X8_copy_66, i_X8_copy_67, i_X8_copy_70, i_X8_copy_71, i_X8_copy_72, i_X8_copy_74, i_X8_copy_75, i_X8_copy_81, i_X8_copy_83, gh_o32, gh_r38, gh_r39, gh_w38, gh_w39, gh_u32, gp_32_0, gf_32_1, gf_32_7, gf_32_8, z_o_i, z_ai_i, z_si_i, z_ab_b, z_ab_z, z_sb_b, z_sb_z, z_al_i, z_al_b, z_pu_s, z_pu_n, nI_toN, z_inN, true_and, and_true, nI_add, pk_mul, vu_eq, vu_ne, nI_leI, nI_ltI, nI_eqI, nI_eq0, ↓ok_0, ↓ok_1, ↓bI_ok, if_true, if_false, ne_eq, not_true_eq_false, not_false_eq_true, nI_m1, nI_1ne, nI_0eq, bI_eq0, bI_ne0, Bool.false_eq_true, c_inK, c_inN, c_inB, iw_nI, decide_true, decide_false, Nat.add_sub_cancel, nI_ge0, nI_lt0, nm_lt, nm_ge, bI_T, bI_F, Nat.one_ne_zero, pk_sub, iW, hu, hv, r38, t38, k1, q1]
              rw [i_X8_copy_84, i_X8_copy_85]
              have e1 : va_up B 39 (cpD s.2 (8 * v + q) (8 * u) k k) = B := by
                apply vu_self
                rw [hB.2.1]
                funext i
                exact if_neg (by omega)
              rw [← e1]
              have e2 : cpD s.2 (8 * v + q) (8 * u) 0 k = pt s.2 (fun i => s.2 (8 * u + i)) (8 * v + q) k := rfl
              refine l_copy (by omega) (by omega) (by omega) (hQ _ ⟨hB.1.u39, by rw [vu_eq, e2], ?_⟩ (fB.up (by omega))) k (by omega)
              obtain ⟨h1, h2, h3, h4, h5⟩ := hB.2.2
              refine ⟨h1, h2, h3, h4, fun i => ?_⟩
              show -128 ≤ (pt s.2 (fun i => s.2 (8 * u + i)) (8 * v + q) k i).toInt ∧ (pt s.2 (fun i => s.2 (8 * u + i)) (8 * v + q) k i).toInt ≤ 127
              unfold pt
              by_cases e : 8 * v + q ≤ i ∧ i < 8 * v + q + k
              · rw [if_pos e]; exact h5 _
              · rw [if_neg e]; exact h5 i
            · rw [if_neg (fun q => hp q.2)] at hQ
              by_cases p0 : p < 0
              · simp (disch := omega) only [i_X8_copy_5, i_X8_copy_6, i_X8_copy_7, i_X8_copy_10, i_X8_copy_13, i_X8_copy_14, i_X8_copy_15, i_X8_copy_18, i_X8_copy_21, i_X8_copy_23, i_X8_copy_24, i_X8_copy_25, i_X8_copy_28, i_X8_copy_29, i_X8_copy_30, i_X8_copy_33, i_X8_copy_34, i_X8_copy_37, i_X8_copy_38, i_X8_copy_39, i_X8_copy_45, i_X8_copy_47, i_X8_copy_50, i_X8_copy_52, i_X8_copy_53, i_X8_copy_56, i_X8_copy_57, i_X8_copy_58, i_X8_copy_61, i_X8_copy_62, i_X8_copy_78, i_X8_copy_80, gh_o32, gh_r38, gh_r39, gh_w38, gh_w39, gh_u32, gp_32_0, gf_32_1, gf_32_7, gf_32_8, z_o_i, z_ai_i, z_si_i, z_ab_b, z_ab_z, z_sb_b, z_sb_z, z_al_i, z_al_b, z_pu_s, z_pu_n, nI_toN, z_inN, true_and, and_true, nI_add, pk_mul, vu_eq, vu_ne, nI_leI, nI_ltI, nI_eqI, nI_eq0, ↓ok_0, ↓ok_1, ↓bI_ok, if_true, if_false, ne_eq, not_true_eq_false, not_false_eq_true, nI_m1, nI_1ne, nI_0eq, bI_eq0, bI_ne0, Bool.false_eq_true, c_inK, c_inN, c_inB, iw_nI, decide_true, decide_false, Nat.add_sub_cancel, nI_ge0, nI_lt0, nm_lt, nm_ge, bI_T, bI_F, Nat.one_ne_zero, pk_sub, iW, hu, hv, r38, t38, k1, p0]
                exact hQ B hB fB
              · have kv : ¬ p ≤ nI (s.1 38 v - 1) - nI k := by
                  intro q
                  apply hp
                  simp only [iw, decide_eq_true_eq]
                  rw [Int32.le_iff_toInt_le, pk_sub_toInt (by omega) (by omega)] at q
                  rw [Int32.lt_iff_toInt_lt] at p0
                  have e : (0 : Int32).toInt = 0 := by decide
                  omega
                simp (disch := omega) only [i_X8_copy_5, i_X8_copy_6, i_X8_copy_7, i_X8_copy_10, i_X8_copy_13, i_X8_copy_14, i_X8_copy_15, i_X8_copy_18, i_X8_copy_21, i_X8_copy_23, i_X8_copy_24, i_X8_copy_25, i_X8_copy_28, i_X8_copy_29, i_X8_copy_30, i_X8_copy_33, i_X8_copy_34, i_X8_copy_37, i_X8_copy_38, i_X8_copy_39, i_X8_copy_45, i_X8_copy_47, i_X8_copy_50, i_X8_copy_52, i_X8_copy_53, i_X8_copy_56, i_X8_copy_57, i_X8_copy_58, i_X8_copy_61, i_X8_copy_62, i_X8_copy_65, i_X8_copy_66, i_X8_copy_67, i_X8_copy_70, i_X8_copy_71, i_X8_copy_72, gh_o32, gh_r38, gh_r39, gh_w38, gh_w39, gh_u32, gp_32_0, gf_32_1, gf_32_7, gf_32_8, z_o_i, z_ai_i, z_si_i, z_ab_b, z_ab_z, z_sb_b, z_sb_z, z_al_i, z_al_b, z_pu_s, z_pu_n, nI_toN, z_inN, true_and, and_true, nI_add, pk_mul, vu_eq, vu_ne, nI_leI, nI_ltI, nI_eqI, nI_eq0, ↓ok_0, ↓ok_1, ↓bI_ok, if_true, if_false, ne_eq, not_true_eq_false, not_false_eq_true, nI_m1, nI_1ne, nI_0eq, bI_eq0, bI_ne0, Bool.false_eq_true, c_inK, c_inN, c_inB, iw_nI, decide_true, decide_false, Nat.add_sub_cancel, nI_ge0, nI_lt0, nm_lt, nm_ge, bI_T, bI_F, Nat.one_ne_zero, pk_sub, iW, hu, hv, r38, t38, k1, p0]
                rw [i_X8_copy_74, i_X8_copy_75, if_neg kv, i_X8_copy_78, i_X8_copy_80]
                exact hQ B hB fB
          · rw [if_neg (fun q => hm q.1)] at hQ
            by_cases p0 : m < 0
            · simp (disch := omega) only [i_X8_copy_5, i_X8_copy_6, i_X8_copy_7, i_X8_copy_10, i_X8_copy_13, i_X8_copy_14, i_X8_copy_15, i_X8_copy_18, i_X8_copy_21, i_X8_copy_23, i_X8_copy_24, i_X8_copy_25, i_X8_copy_28, i_X8_copy_29, i_X8_copy_30, i_X8_copy_33, i_X8_copy_34, i_X8_copy_37, i_X8_copy_38, i_X8_copy_39, i_X8_copy_45, i_X8_copy_47, i_X8_copy_78, i_X8_copy_80, gh_o32, gh_r38, gh_r39, gh_w38, gh_w39, gh_u32, gp_32_0, gf_32_1, gf_32_7, gf_32_8, z_o_i, z_ai_i, z_si_i, z_ab_b, z_ab_z, z_sb_b, z_sb_z, z_al_i, z_al_b, z_pu_s, z_pu_n, nI_toN, z_inN, true_and, and_true, nI_add, pk_mul, vu_eq, vu_ne, nI_leI, nI_ltI, nI_eqI, nI_eq0, ↓ok_0, ↓ok_1, ↓bI_ok, if_true, if_false, ne_eq, not_true_eq_false, not_false_eq_true, nI_m1, nI_1ne, nI_0eq, bI_eq0, bI_ne0, Bool.false_eq_true, c_inK, c_inN, c_inB, iw_nI, decide_true, decide_false, Nat.add_sub_cancel, nI_ge0, nI_lt0, nm_lt, nm_ge, bI_T, bI_F, Nat.one_ne_zero, pk_sub, iW, hu, hv, r38, t38, p0]
              exact hQ B hB fB
            · have kv : nI (s.1 38 u - 1) < m := by
                rw [iw_ge (by omega)] at hm
                rw [Int32.lt_iff_toInt_lt, nI_toInt (by omega)]
                have := Classical.byContradiction (fun q : ¬ nI (s.1 38 u) ≤ m => hm ⟨p0, q⟩)
                rw [Int32.le_iff_toInt_le, nI_toInt (by omega)] at this
                omega
              simp (disch := omega) only [i_X8_copy_5, i_X8_copy_6, i_X8_copy_7, i_X8_copy_10, i_X8_copy_13, i_X8_copy_14, i_X8_copy_15, i_X8_copy_18, i_X8_copy_21, i_X8_copy_23, i_X8_copy_24, i_X8_copy_25, i_X8_copy_28, i_X8_copy_29, i_X8_copy_30, i_X8_copy_33, i_X8_copy_34, i_X8_copy_37, i_X8_copy_38, i_X8_copy_39, i_X8_copy_45, i_X8_copy_47, i_X8_copy_50, i_X8_copy_52, i_X8_copy_53, i_X8_copy_56, i_X8_copy_57, i_X8_copy_58, i_X8_copy_78, i_X8_copy_80, gh_o32, gh_r38, gh_r39, gh_w38, gh_w39, gh_u32, gp_32_0, gf_32_1, gf_32_7, gf_32_8, z_o_i, z_ai_i, z_si_i, z_ab_b, z_ab_z, z_sb_b, z_sb_z, z_al_i, z_al_b, z_pu_s, z_pu_n, nI_toN, z_inN, true_and, and_true, nI_add, pk_mul, vu_eq, vu_ne, nI_leI, nI_ltI, nI_eqI, nI_eq0, ↓ok_0, ↓ok_1, ↓bI_ok, if_true, if_false, ne_eq, not_true_eq_false, not_false_eq_true, nI_m1, nI_1ne, nI_0eq, bI_eq0, bI_ne0, Bool.false_eq_true, c_inK, c_inN, c_inB, iw_nI, decide_true, decide_false, Nat.add_sub_cancel, nI_ge0, nI_lt0, nm_lt, nm_ge, bI_T, bI_F, Nat.one_ne_zero, pk_sub, iW, hu, hv, r38, t38, p0, kv]
              exact hQ B hB fB
    · rw [if_neg (fun q => ht q.2)] at hQ
      simp (disch := omega) only [i_X8_copy_5, i_X8_copy_6, i_X8_copy_7, i_X8_copy_10, i_X8_copy_13, i_X8_copy_14, i_X8_copy_15, i_X8_copy_18, i_X8_copy_21, i_X8_copy_23, gh_o32, gh_r38, gh_r39, gh_w38, gh_w39, gh_u32, gp_32_0, gf_32_1, gf_32_7, gf_32_8, z_o_i, z_ai_i, z_si_i, z_ab_b, z_ab_z, z_sb_b, z_sb_z, z_al_i, z_al_b, z_pu_s, z_pu_n, nI_toN, z_inN, true_and, and_true, nI_add, pk_mul, vu_eq, vu_ne, nI_leI, nI_ltI, nI_eqI, nI_eq0, ↓ok_0, ↓ok_1, ↓bI_ok, if_true, if_false, ne_eq, not_true_eq_false, not_false_eq_true, nI_m1, nI_1ne, nI_0eq, bI_eq0, bI_ne0, Bool.false_eq_true, c_inK, c_inN, c_inB, iw_nI, decide_true, decide_false, Nat.add_sub_cancel, nI_ge0, nI_lt0, nm_lt, nm_ge, bI_T, bI_F, Nat.one_ne_zero, pk_sub, iW, hf, ht]
      exact hQ B hB fB
  · rw [if_neg (fun q => hf q.1)] at hQ
    simp (disch := omega) only [i_X8_copy_5, i_X8_copy_6, i_X8_copy_7, i_X8_copy_10, i_X8_copy_21, i_X8_copy_23, gh_o32, gh_r38, gh_r39, gh_w38, gh_w39, gh_u32, gp_32_0, gf_32_1, gf_32_7, gf_32_8, z_o_i, z_ai_i, z_si_i, z_ab_b, z_ab_z, z_sb_b, z_sb_z, z_al_i, z_al_b, z_pu_s, z_pu_n, nI_toN, z_inN, true_and, and_true, nI_add, pk_mul, vu_eq, vu_ne, nI_leI, nI_ltI, nI_eqI, nI_eq0, ↓ok_0, ↓ok_1, ↓bI_ok, if_true, if_false, ne_eq, not_true_eq_false, not_false_eq_true, nI_m1, nI_1ne, nI_0eq, bI_eq0, bI_ne0, Bool.false_eq_true, c_inK, c_inN, c_inB, iw_nI, decide_true, decide_false, Nat.add_sub_cancel, nI_ge0, nI_lt0, nm_lt, nm_ge, bI_T, bI_F, Nat.one_ne_zero, pk_sub, iW, hf]
    exact hQ B hB fB
end MPub2
