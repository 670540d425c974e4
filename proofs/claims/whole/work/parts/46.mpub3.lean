/-! THE MODEL'S CALLS: rhyme, how, cost, told -/
section MPub3
variable {s : z_S} {A : Nat → Nat → Int32} {P : Nat → Nat → Nat} {dy : z_H} {d nx bc bs : Nat} {Q : z_Q}
def ask (s : z_S) (w u k : Int32) : Bool := iw w (s.1 32 1) && (iw u (s.1 32 1) && iw k 7)
theorem c_isAsked {w u k : Int32} (hB : Mo s A) : XC (d + 2) m_X8_isAsked [.ref 32, .int w, .int u, .int k] (GH A P dy) nx Q = Q (some (.int (bI (ask s w u k = true)))) (GH A P dy) nx := by
  show X (d + 2) m_X8_isAsked 0 [some (.ref 32), some (.int w), some (.int u), some (.int k)] [] (GH A P dy) nx 0 0 Q = _
  have iW : ∀ {d nx : Nat} {Q : z_Q} {x : Int32}, XC (d + 1) m_X8_isWord [.ref 32, .int x] (GH A P dy) nx Q = Q (some (.int (bI (iw x (s.1 32 1) = true)))) (GH A P dy) nx := c_isWord hB
  by_cases hw : iw w (s.1 32 1) = true
  · by_cases hu : iw u (s.1 32 1) = true
    · by_cases hk : iw k 7 = true
      · rw [bI_t (c := ask s w u k = true) (by simp [ask, hw, hu, hk])]
        simp (disch := omega) only [i_X8_isAsked_0, i_X8_isAsked_1, i_X8_isAsked_2, i_X8_isAsked_5, i_X8_isAsked_8, i_X8_isAsked_9, i_X8_isAsked_10, i_X8_isAsked_13, i_X8_isAsked_16, i_X8_isAsked_17, i_X8_isAsked_18, i_X8_isAsked_19, i_X8_isAsked_22, i_X8_isAsked_25, i_X8_isAsked_28, i_X8_isAsked_29, i_X8_isAsked_32, i_X8_isAsked_33, gh_o32, gh_r34, gh_r47, gh_r48, gh_r49, gh_r50, gh_u32, gp_32_0, gf_32_1, gf_32_3, gf_32_21, gf_32_22, gf_32_23, gf_32_24, z_o_i, z_ai_i, z_si_i, z_ab_b, z_ab_z, z_sb_b, z_sb_z, z_al_i, z_al_b, z_pu_s, z_pu_n, nI_toN, z_inN, true_and, and_true, nI_add, pk_mul, vu_eq, vu_ne, nI_leI, nI_ltI, nI_eqI, nI_eq0, ↓ok_0, ↓ok_1, ↓bI_ok, if_true, if_false, ne_eq, not_true_eq_false, not_false_eq_true, nI_m1, nI_1ne, nI_0eq, bI_eq0, bI_ne0, Bool.false_eq_true, c_isVowel, c_inK, c_inN, iw_nI, decide_true, decide_false, Nat.add_sub_cancel, nI_ge0, nI_lt0, nm_lt, nm_ge, bI_T, bI_F, Nat.one_ne_zero, Nat.zero_ne_one, iW, hw, hu, hk]
      · rw [bI_f (c := ask s w u k = true) (by simp [ask, hw, hu, hk])]
        simp (disch := omega) only [i_X8_isAsked_0, i_X8_isAsked_1, i_X8_isAsked_2, i_X8_isAsked_5, i_X8_isAsked_8, i_X8_isAsked_9, i_X8_isAsked_10, i_X8_isAsked_13, i_X8_isAsked_16, i_X8_isAsked_17, i_X8_isAsked_18, i_X8_isAsked_19, i_X8_isAsked_22, i_X8_isAsked_25, i_X8_isAsked_28, i_X8_isAsked_29, i_X8_isAsked_32, i_X8_isAsked_33, gh_o32, gh_r34, gh_r47, gh_r48, gh_r49, gh_r50, gh_u32, gp_32_0, gf_32_1, gf_32_3, gf_32_21, gf_32_22, gf_32_23, gf_32_24, z_o_i, z_ai_i, z_si_i, z_ab_b, z_ab_z, z_sb_b, z_sb_z, z_al_i, z_al_b, z_pu_s, z_pu_n, nI_toN, z_inN, true_and, and_true, nI_add, pk_mul, vu_eq, vu_ne, nI_leI, nI_ltI, nI_eqI, nI_eq0, ↓ok_0, ↓ok_1, ↓bI_ok, if_true, if_false, ne_eq, not_true_eq_false, not_false_eq_true, nI_m1, nI_1ne, nI_0eq, bI_eq0, bI_ne0, Bool.false_eq_true, c_isVowel, c_inK, c_inN, iw_nI, decide_true, decide_false, Nat.add_sub_cancel, nI_ge0, nI_lt0, nm_lt, nm_ge, bI_T, bI_F, Nat.one_ne_zero, Nat.zero_ne_one, iW, hw, hu, hk]
    · rw [bI_f (c := ask s w u k = true) (by simp [ask, hw, hu])]
      simp (disch := omega) only [i_X8_isAsked_0, i_X8_isAsked_1, i_X8_isAsked_2, i_X8_isAsked_5, i_X8_isAsked_8, i_X8_isAsked_9, i_X8_isAsked_10, i_X8_isAsked_13, i_X8_isAsked_16, i_X8_isAsked_17, i_X8_isAsked_18, i_X8_isAsked_19, i_X8_isAsked_22, i_X8_isAsked_25, i_X8_isAsked_28, i_X8_isAsked_29, i_X8_isAsked_32, i_X8_isAsked_33, gh_o32, gh_r34, gh_r47, gh_r48, gh_r49, gh_r50, gh_u32, gp_32_0, gf_32_1, gf_32_3, gf_32_21, gf_32_22, gf_32_23, gf_32_24, z_o_i, z_ai_i, z_si_i, z_ab_b, z_ab_z, z_sb_b, z_sb_z, z_al_i, z_al_b, z_pu_s, z_pu_n, nI_toN, z_inN, true_and, and_true, nI_add, pk_mul, vu_eq, vu_ne, nI_leI, nI_ltI, nI_eqI, nI_eq0, ↓ok_0, ↓ok_1, ↓bI_ok, if_true, if_false, ne_eq, not_true_eq_false, not_false_eq_true, nI_m1, nI_1ne, nI_0eq, bI_eq0, bI_ne0, Bool.false_eq_true, c_isVowel, c_inK, c_inN, iw_nI, decide_true, decide_false, Nat.add_sub_cancel, nI_ge0, nI_lt0, nm_lt, nm_ge, bI_T, bI_F, Nat.one_ne_zero, Nat.zero_ne_one, iW, hw, hu]
  · rw [bI_f (c := ask s w u k = true) (by simp [ask, hw])]
    simp (disch := omega) only [i_X8_isAsked_0, i_X8_isAsked_1, i_X8_isAsked_2, i_X8_isAsked_5, i_X8_isAsked_8, i_X8_isAsked_9, i_X8_isAsked_10, i_X8_isAsked_13, i_X8_isAsked_16, i_X8_isAsked_17, i_X8_isAsked_18, i_X8_isAsked_19, i_X8_isAsked_22, i_X8_isAsked_25, i_X8_isAsked_28, i_X8_isAsked_29, i_X8_isAsked_32, i_X8_isAsked_33, gh_o32, gh_r34, gh_r47, gh_r48, gh_r49, gh_r50, gh_u32, gp_32_0, gf_32_1, gf_32_3, gf_32_21, gf_32_22, gf_32_23, gf_32_24, z_o_i, z_ai_i, z_si_i, z_ab_b, z_ab_z, z_sb_b, z_sb_z, z_al_i, z_al_b, z_pu_s, z_pu_n, nI_toN, z_inN, true_and, and_true, nI_add, pk_mul, vu_eq, vu_ne, nI_leI, nI_ltI, nI_eqI, nI_eq0, ↓ok_0, ↓ok_1, ↓bI_ok, if_true, if_false, ne_eq, not_true_eq_false, not_false_eq_true, nI_m1, nI_1ne, nI_0eq, bI_eq0, bI_ne0, Bool.false_eq_true, c_isVowel, c_inK, c_inN, iw_nI, decide_true, decide_false, Nat.add_sub_cancel, nI_ge0, nI_lt0, nm_lt, nm_ge, bI_T, bI_F, Nat.one_ne_zero, Nat.zero_ne_one, iW, hw]
def s_how (s : z_S) (w u k : Int32) : Int32 := if ask s w u k = true then oI (hwq s.1 s.2 w.toNatClampNeg u.toNatClampNeg k.toNatClampNeg) else -3
def s_rhyme (s : z_S) (w u k : Int32) : Int32 := if ask s w u k = true then (if hwq s.1 s.2 w.toNatClampNeg u.toNatClampNeg k.toNatClampNeg = none then nI 0 else nI 1) else -3
theorem ask_ex {w u k : Int32} (h : ask s w u k = true) : ∃ a b c, w = nI a ∧ u = nI b ∧ k = nI c ∧ a < s.1 32 1 ∧ b < s.1 32 1 ∧ c < 7 := by
  simp only [ask, Bool.and_eq_true] at h
  obtain ⟨a, h1, e1⟩ := iw_ex h.1
  obtain ⟨b, h2, e2⟩ := iw_ex h.2.1
  obtain ⟨c, h3, e3⟩ := iw_ex h.2.2
  exact ⟨a, b, c, e1, e2, e3, h1, h2, h3⟩
theorem m_how {w u k : Int32} (hM : Mo s A) (hQ : ∀ B, Mo s B → Fk A B → Q (some (.int (s_how s w u k))) (GH B P dy) nx) : XC (d + 5) m_X8_how [.ref 32, .int w, .int u, .int k] (GH A P dy) nx Q := by
  show X (d + 5) m_X8_how 0 [some (.ref 32), some (.int w), some (.int u), some (.int k)] [] (GH A P dy) nx 0 0 Q
  obtain ⟨B, eB, hB, fB⟩ := t0_ex hM
  simp (disch := omega) only [i_X8_how_0, i_X8_how_1, i_X8_how_2, gh_o32, gh_r34, gh_r47, gh_r48, gh_r49, gh_r50, gh_u32, gp_32_0, gf_32_1, gf_32_3, gf_32_21, gf_32_22, gf_32_23, gf_32_24, z_o_i, z_ai_i, z_si_i, z_ab_b, z_ab_z, z_sb_b, z_sb_z, z_al_i, z_al_b, z_pu_s, z_pu_n, nI_toN, z_inN, true_and, and_true, nI_add, pk_mul, vu_eq, vu_ne, nI_leI, nI_ltI, nI_eqI, nI_eq0, ↓ok_0, ↓ok_1, ↓bI_ok, if_true, if_false, ne_eq, not_true_eq_false, not_false_eq_true, nI_m1, nI_1ne, nI_0eq, bI_eq0, bI_ne0, Bool.false_eq_true, c_isVowel, c_inK, c_inN, iw_nI, decide_true, decide_false, Nat.add_sub_cancel, nI_ge0, nI_lt0, nm_lt, nm_ge, bI_T, bI_F, Nat.one_ne_zero, Nat.zero_ne_one, eB]
  have iA : ∀ {d nx : Nat} {Q : z_Q}, XC (d + 2) m_X8_isAsked [.ref 32, .int w, .int u, .int k] (GH B P dy) nx Q = Q (some (.int (bI (ask s w u k = true)))) (GH B P dy) nx := c_isAsked hB
  have sc := hB.1.sc
  unfold s_how at hQ
  by_cases h : ask s w u k = true
  · rw [if_pos h] at hQ
    simp (disch := omega) only [i_X8_how_5, i_X8_how_6, i_X8_how_7, i_X8_how_8, i_X8_how_9, i_X8_how_12, i_X8_how_15, i_X8_how_16, i_X8_how_17, i_X8_how_18, i_X8_how_19, gh_o32, gh_r34, gh_r47, gh_r48, gh_r49, gh_r50, gh_u32, gp_32_0, gf_32_1, gf_32_3, gf_32_21, gf_32_22, gf_32_23, gf_32_24, z_o_i, z_ai_i, z_si_i, z_ab_b, z_ab_z, z_sb_b, z_sb_z, z_al_i, z_al_b, z_pu_s, z_pu_n, nI_toN, z_inN, true_and, and_true, nI_add, pk_mul, vu_eq, vu_ne, nI_leI, nI_ltI, nI_eqI, nI_eq0, ↓ok_0, ↓ok_1, ↓bI_ok, if_true, if_false, ne_eq, not_true_eq_false, not_false_eq_true, nI_m1, nI_1ne, nI_0eq, bI_eq0, bI_ne0, Bool.false_eq_true, c_isVowel, c_inK, c_inN, iw_nI, decide_true, decide_false, Nat.add_sub_cancel, nI_ge0, nI_lt0, nm_lt, nm_ge, bI_T, bI_F, Nat.one_ne_zero, Nat.zero_ne_one, iA, h]
    obtain ⟨a, b, c, rfl, rfl, rfl, h1, h2, h3⟩ := ask_ex h
    rw [nI_toN (by omega), nI_toN (by omega), nI_toN (by omega)] at hQ
    refine c_howOf hB.1 hB.2.2.1 h1 h2 (by omega) (fun C hC => ?_)
    simp (disch := omega) only [i_X8_how_22, i_X8_how_27, gh_o32, gh_r34, gh_r47, gh_r48, gh_r49, gh_r50, gh_u32, gp_32_0, gf_32_1, gf_32_3, gf_32_21, gf_32_22, gf_32_23, gf_32_24, z_o_i, z_ai_i, z_si_i, z_ab_b, z_ab_z, z_sb_b, z_sb_z, z_al_i, z_al_b, z_pu_s, z_pu_n, nI_toN, z_inN, true_and, and_true, nI_add, pk_mul, vu_eq, vu_ne, nI_leI, nI_ltI, nI_eqI, nI_eq0, ↓ok_0, ↓ok_1, ↓bI_ok, if_true, if_false, ne_eq, not_true_eq_false, not_false_eq_true, nI_m1, nI_1ne, nI_0eq, bI_eq0, bI_ne0, Bool.false_eq_true, c_isVowel, c_inK, c_inN, iw_nI, decide_true, decide_false, Nat.add_sub_cancel, nI_ge0, nI_lt0, nm_lt, nm_ge, bI_T, bI_F, Nat.one_ne_zero, Nat.zero_ne_one]
    rw [hB.2.1]
    exact hQ C (hC.mo hB) (fB.trans hC.fk)
  · rw [if_neg h] at hQ
    simp (disch := omega) only [i_X8_how_5, i_X8_how_6, i_X8_how_7, i_X8_how_8, i_X8_how_9, i_X8_how_12, i_X8_how_25, i_X8_how_27, gh_o32, gh_r34, gh_r47, gh_r48, gh_r49, gh_r50, gh_u32, gp_32_0, gf_32_1, gf_32_3, gf_32_21, gf_32_22, gf_32_23, gf_32_24, z_o_i, z_ai_i, z_si_i, z_ab_b, z_ab_z, z_sb_b, z_sb_z, z_al_i, z_al_b, z_pu_s, z_pu_n, nI_toN, z_inN, true_and, and_true, nI_add, pk_mul, vu_eq, vu_ne, nI_leI, nI_ltI, nI_eqI, nI_eq0, ↓ok_0, ↓ok_1, ↓bI_ok, if_true, if_false, ne_eq, not_true_eq_false, not_false_eq_true, nI_m1, nI_1ne, nI_0eq, bI_eq0, bI_ne0, Bool.false_eq_true, c_isVowel, c_inK, c_inN, iw_nI, decide_true, decide_false, Nat.add_sub_cancel, nI_ge0, nI_lt0, nm_lt, nm_ge, bI_T, bI_F, Nat.one_ne_zero, Nat.zero_ne_one, iA, h]
    exact hQ B hB fB
theorem m_rhyme {w u k : Int32} (hM : Mo s A) (hQ : ∀ B, Mo s B → Fk A B → Q (some (.int (s_rhyme s w u k))) (GH B P dy) nx) : XC (d + 5) m_X8_rhyme [.ref 32, .int w, .int u, .int k] (GH A P dy) nx Q := by
  show X (d + 5) m_X8_rhyme 0 [some (.ref 32), some (.int w), some (.int u), some (.int k)] [] (GH A P dy) nx 0 0 Q
  obtain ⟨B, eB, hB, fB⟩ := t0_ex hM
  simp (disch := omega) only [i_X8_rhyme_0, i_X8_rhyme_1, i_X8_rhyme_2, gh_o32, gh_r34, gh_r47, gh_r48, gh_r49, gh_r50, gh_u32, gp_32_0, gf_32_1, gf_32_3, gf_32_21, gf_32_22, gf_32_23, gf_32_24, z_o_i, z_ai_i, z_si_i, z_ab_b, z_ab_z, z_sb_b, z_sb_z, z_al_i, z_al_b, z_pu_s, z_pu_n, nI_toN, z_inN, true_and, and_true, nI_add, pk_mul, vu_eq, vu_ne, nI_leI, nI_ltI, nI_eqI, nI_eq0, ↓ok_0, ↓ok_1, ↓bI_ok, if_true, if_false, ne_eq, not_true_eq_false, not_false_eq_true, nI_m1, nI_1ne, nI_0eq, bI_eq0, bI_ne0, Bool.false_eq_true, c_isVowel, c_inK, c_inN, iw_nI, decide_true, decide_false, Nat.add_sub_cancel, nI_ge0, nI_lt0, nm_lt, nm_ge, bI_T, bI_F, Nat.one_ne_zero, Nat.zero_ne_one, eB]
  have iA : ∀ {d nx : Nat} {Q : z_Q}, XC (d + 2) m_X8_isAsked [.ref 32, .int w, .int u, .int k] (GH B P dy) nx Q = Q (some (.int (bI (ask s w u k = true)))) (GH B P dy) nx := c_isAsked hB
  have sc := hB.1.sc
  unfold s_rhyme at hQ
  by_cases h : ask s w u k = true
  · rw [if_pos h] at hQ
    simp (disch := omega) only [i_X8_rhyme_5, i_X8_rhyme_6, i_X8_rhyme_7, i_X8_rhyme_8, i_X8_rhyme_9, i_X8_rhyme_12, i_X8_rhyme_20, i_X8_rhyme_21, i_X8_rhyme_22, i_X8_rhyme_23, i_X8_rhyme_24, gh_o32, gh_r34, gh_r47, gh_r48, gh_r49, gh_r50, gh_u32, gp_32_0, gf_32_1, gf_32_3, gf_32_21, gf_32_22, gf_32_23, gf_32_24, z_o_i, z_ai_i, z_si_i, z_ab_b, z_ab_z, z_sb_b, z_sb_z, z_al_i, z_al_b, z_pu_s, z_pu_n, nI_toN, z_inN, true_and, and_true, nI_add, pk_mul, vu_eq, vu_ne, nI_leI, nI_ltI, nI_eqI, nI_eq0, ↓ok_0, ↓ok_1, ↓bI_ok, if_true, if_false, ne_eq, not_true_eq_false, not_false_eq_true, nI_m1, nI_1ne, nI_0eq, bI_eq0, bI_ne0, Bool.false_eq_true, c_isVowel, c_inK, c_inN, iw_nI, decide_true, decide_false, Nat.add_sub_cancel, nI_ge0, nI_lt0, nm_lt, nm_ge, bI_T, bI_F, Nat.one_ne_zero, Nat.zero_ne_one, iA, h]
    obtain ⟨a, b, c, rfl, rfl, rfl, h1, h2, h3⟩ := ask_ex h
    rw [nI_toN (by omega), nI_toN (by omega), nI_toN (by omega)] at hQ
    refine c_howOf hB.1 hB.2.2.1 h1 h2 (by omega) (fun C hC => ?_)
    have om : (oI (hwq s.1 (B 39) a b c) = -1) = (hwq s.1 (B 39) a b c = none) := oI_m1 (fun y hy => hwq_lt (fun i => hB.1.b34 i) hy)
    have q := hQ C (hC.mo hB) (fB.trans hC.fk)
    rw [← hB.2.1] at q
    by_cases z : hwq s.1 (B 39) a b c = none
    · rw [if_pos z] at q
      simp (disch := omega) only [i_X8_rhyme_27, i_X8_rhyme_28, i_X8_rhyme_31, i_X8_rhyme_32, i_X8_rhyme_35, i_X8_rhyme_36, gh_o32, gh_r34, gh_r47, gh_r48, gh_r49, gh_r50, gh_u32, gp_32_0, gf_32_1, gf_32_3, gf_32_21, gf_32_22, gf_32_23, gf_32_24, z_o_i, z_ai_i, z_si_i, z_ab_b, z_ab_z, z_sb_b, z_sb_z, z_al_i, z_al_b, z_pu_s, z_pu_n, nI_toN, z_inN, true_and, and_true, nI_add, pk_mul, vu_eq, vu_ne, nI_leI, nI_ltI, nI_eqI, nI_eq0, ↓ok_0, ↓ok_1, ↓bI_ok, if_true, if_false, ne_eq, not_true_eq_false, not_false_eq_true, nI_m1, nI_1ne, nI_0eq, bI_eq0, bI_ne0, Bool.false_eq_true, c_isVowel, c_inK, c_inN, iw_nI, decide_true, decide_false, Nat.add_sub_cancel, nI_ge0, nI_lt0, nm_lt, nm_ge, bI_T, bI_F, Nat.one_ne_zero, Nat.zero_ne_one, om, z]
      exact q
    · rw [if_neg z] at q
      simp (disch := omega) only [i_X8_rhyme_27, i_X8_rhyme_28, i_X8_rhyme_31, i_X8_rhyme_32, i_X8_rhyme_35, i_X8_rhyme_36, gh_o32, gh_r34, gh_r47, gh_r48, gh_r49, gh_r50, gh_u32, gp_32_0, gf_32_1, gf_32_3, gf_32_21, gf_32_22, gf_32_23, gf_32_24, z_o_i, z_ai_i, z_si_i, z_ab_b, z_ab_z, z_sb_b, z_sb_z, z_al_i, z_al_b, z_pu_s, z_pu_n, nI_toN, z_inN, true_and, and_true, nI_add, pk_mul, vu_eq, vu_ne, nI_leI, nI_ltI, nI_eqI, nI_eq0, ↓ok_0, ↓ok_1, ↓bI_ok, if_true, if_false, ne_eq, not_true_eq_false, not_false_eq_true, nI_m1, nI_1ne, nI_0eq, bI_eq0, bI_ne0, Bool.false_eq_true, c_isVowel, c_inK, c_inN, iw_nI, decide_true, decide_false, Nat.add_sub_cancel, nI_ge0, nI_lt0, nm_lt, nm_ge, bI_T, bI_F, Nat.one_ne_zero, Nat.zero_ne_one, om, z]
      exact q
  · rw [if_neg h] at hQ
    simp (disch := omega) only [i_X8_rhyme_5, i_X8_rhyme_6, i_X8_rhyme_7, i_X8_rhyme_8, i_X8_rhyme_9, i_X8_rhyme_12, i_X8_rhyme_15, i_X8_rhyme_17, i_X8_rhyme_36, gh_o32, gh_r34, gh_r47, gh_r48, gh_r49, gh_r50, gh_u32, gp_32_0, gf_32_1, gf_32_3, gf_32_21, gf_32_22, gf_32_23, gf_32_24, z_o_i, z_ai_i, z_si_i, z_ab_b, z_ab_z, z_sb_b, z_sb_z, z_al_i, z_al_b, z_pu_s, z_pu_n, nI_toN, z_inN, true_and, and_true, nI_add, pk_mul, vu_eq, vu_ne, nI_leI, nI_ltI, nI_eqI, nI_eq0, ↓ok_0, ↓ok_1, ↓bI_ok, if_true, if_false, ne_eq, not_true_eq_false, not_false_eq_true, nI_m1, nI_1ne, nI_0eq, bI_eq0, bI_ne0, Bool.false_eq_true, c_isVowel, c_inK, c_inN, iw_nI, decide_true, decide_false, Nat.add_sub_cancel, nI_ge0, nI_lt0, nm_lt, nm_ge, bI_T, bI_F, Nat.one_ne_zero, Nat.zero_ne_one, iA, h]
    exact hQ B hB fB
def s_cost (s : z_S) (w u : Int32) : Int32 := if iw w (s.1 32 1) = true ∧ iw u (s.1 32 1) = true then oI (lcq s.1 w.toNatClampNeg u.toNatClampNeg) else -3
theorem m_cost {w u : Int32} (hM : Mo s A) (hQ : ∀ B, Mo s B → Fk A B → Q (some (.int (s_cost s w u))) (GH B P dy) nx) : XC (d + 4) m_X8_cost [.ref 32, .int w, .int u] (GH A P dy) nx Q := by
  show X (d + 4) m_X8_cost 0 [some (.ref 32), some (.int w), some (.int u)] [] (GH A P dy) nx 0 0 Q
  obtain ⟨B, eB, hB, fB⟩ := t0_ex hM
  simp (disch := omega) only [i_X8_cost_0, i_X8_cost_1, i_X8_cost_2, gh_o32, gh_r34, gh_r47, gh_r48, gh_r49, gh_r50, gh_u32, gp_32_0, gf_32_1, gf_32_3, gf_32_21, gf_32_22, gf_32_23, gf_32_24, z_o_i, z_ai_i, z_si_i, z_ab_b, z_ab_z, z_sb_b, z_sb_z, z_al_i, z_al_b, z_pu_s, z_pu_n, nI_toN, z_inN, true_and, and_true, nI_add, pk_mul, vu_eq, vu_ne, nI_leI, nI_ltI, nI_eqI, nI_eq0, ↓ok_0, ↓ok_1, ↓bI_ok, if_true, if_false, ne_eq, not_true_eq_false, not_false_eq_true, nI_m1, nI_1ne, nI_0eq, bI_eq0, bI_ne0, Bool.false_eq_true, c_isVowel, c_inK, c_inN, iw_nI, decide_true, decide_false, Nat.add_sub_cancel, nI_ge0, nI_lt0, nm_lt, nm_ge, bI_T, bI_F, Nat.one_ne_zero, Nat.zero_ne_one, eB]
  have iW : ∀ {d nx : Nat} {Q : z_Q} {x : Int32}, XC (d + 1) m_X8_isWord [.ref 32, .int x] (GH B P dy) nx Q = Q (some (.int (bI (iw x (s.1 32 1) = true)))) (GH B P dy) nx := c_isWord hB
  have sc := hB.1.sc
  unfold s_cost at hQ
  by_cases hw : iw w (s.1 32 1) = true
  · by_cases hu : iw u (s.1 32 1) = true
    · rw [if_pos ⟨hw, hu⟩] at hQ
      simp (disch := omega) only [i_X8_cost_5, i_X8_cost_6, i_X8_cost_7, i_X8_cost_10, i_X8_cost_13, i_X8_cost_14, i_X8_cost_15, i_X8_cost_18, i_X8_cost_21, i_X8_cost_22, i_X8_cost_23, i_X8_cost_24, gh_o32, gh_r34, gh_r47, gh_r48, gh_r49, gh_r50, gh_u32, gp_32_0, gf_32_1, gf_32_3, gf_32_21, gf_32_22, gf_32_23, gf_32_24, z_o_i, z_ai_i, z_si_i, z_ab_b, z_ab_z, z_sb_b, z_sb_z, z_al_i, z_al_b, z_pu_s, z_pu_n, nI_toN, z_inN, true_and, and_true, nI_add, pk_mul, vu_eq, vu_ne, nI_leI, nI_ltI, nI_eqI, nI_eq0, ↓ok_0, ↓ok_1, ↓bI_ok, if_true, if_false, ne_eq, not_true_eq_false, not_false_eq_true, nI_m1, nI_1ne, nI_0eq, bI_eq0, bI_ne0, Bool.false_eq_true, c_isVowel, c_inK, c_inN, iw_nI, decide_true, decide_false, Nat.add_sub_cancel, nI_ge0, nI_lt0, nm_lt, nm_ge, bI_T, bI_F, Nat.one_ne_zero, Nat.zero_ne_one, iW, hw, hu]
      obtain ⟨a, h1, rfl⟩ := iw_ex hw
      obtain ⟨b, h2, rfl⟩ := iw_ex hu
      rw [nI_toN (by omega), nI_toN (by omega)] at hQ
      refine c_leastCost hB.1 hB.2.2.1 h1 h2 (fun C hC => ?_)
      simp (disch := omega) only [i_X8_cost_27, i_X8_cost_32, gh_o32, gh_r34, gh_r47, gh_r48, gh_r49, gh_r50, gh_u32, gp_32_0, gf_32_1, gf_32_3, gf_32_21, gf_32_22, gf_32_23, gf_32_24, z_o_i, z_ai_i, z_si_i, z_ab_b, z_ab_z, z_sb_b, z_sb_z, z_al_i, z_al_b, z_pu_s, z_pu_n, nI_toN, z_inN, true_and, and_true, nI_add, pk_mul, vu_eq, vu_ne, nI_leI, nI_ltI, nI_eqI, nI_eq0, ↓ok_0, ↓ok_1, ↓bI_ok, if_true, if_false, ne_eq, not_true_eq_false, not_false_eq_true, nI_m1, nI_1ne, nI_0eq, bI_eq0, bI_ne0, Bool.false_eq_true, c_isVowel, c_inK, c_inN, iw_nI, decide_true, decide_false, Nat.add_sub_cancel, nI_ge0, nI_lt0, nm_lt, nm_ge, bI_T, bI_F, Nat.one_ne_zero, Nat.zero_ne_one]
      exact hQ C (hC.mo hB) (fB.trans hC.fk)
    · rw [if_neg (fun q => hu q.2)] at hQ
      simp (disch := omega) only [i_X8_cost_5, i_X8_cost_6, i_X8_cost_7, i_X8_cost_10, i_X8_cost_13, i_X8_cost_14, i_X8_cost_15, i_X8_cost_18, i_X8_cost_30, i_X8_cost_32, gh_o32, gh_r34, gh_r47, gh_r48, gh_r49, gh_r50, gh_u32, gp_32_0, gf_32_1, gf_32_3, gf_32_21, gf_32_22, gf_32_23, gf_32_24, z_o_i, z_ai_i, z_si_i, z_ab_b, z_ab_z, z_sb_b, z_sb_z, z_al_i, z_al_b, z_pu_s, z_pu_n, nI_toN, z_inN, true_and, and_true, nI_add, pk_mul, vu_eq, vu_ne, nI_leI, nI_ltI, nI_eqI, nI_eq0, ↓ok_0, ↓ok_1, ↓bI_ok, if_true, if_false, ne_eq, not_true_eq_false, not_false_eq_true, nI_m1, nI_1ne, nI_0eq, bI_eq0, bI_ne0, Bool.false_eq_true, c_isVowel, c_inK, c_inN, iw_nI, decide_true, decide_false, Nat.add_sub_cancel, nI_ge0, nI_lt0, nm_lt, nm_ge, bI_T, bI_F, Nat.one_ne_zero, Nat.zero_ne_one, iW, hw, hu]
      exact hQ B hB fB
  · rw [if_neg (fun q => hw q.1)] at hQ
    simp (disch := omega) only [i_X8_cost_5, i_X8_cost_6, i_X8_cost_7, i_X8_cost_10, i_X8_cost_30, i_X8_cost_32, gh_o32, gh_r34, gh_r47, gh_r48, gh_r49, gh_r50, gh_u32, gp_32_0, gf_32_1, gf_32_3, gf_32_21, gf_32_22, gf_32_23, gf_32_24, z_o_i, z_ai_i, z_si_i, z_ab_b, z_ab_z, z_sb_b, z_sb_z, z_al_i, z_al_b, z_pu_s, z_pu_n, nI_toN, z_inN, true_and, and_true, nI_add, pk_mul, vu_eq, vu_ne, nI_leI, nI_ltI, nI_eqI, nI_eq0, ↓ok_0, ↓ok_1, ↓bI_ok, if_true, if_false, ne_eq, not_true_eq_false, not_false_eq_true, nI_m1, nI_1ne, nI_0eq, bI_eq0, bI_ne0, Bool.false_eq_true, c_isVowel, c_inK, c_inN, iw_nI, decide_true, decide_false, Nat.add_sub_cancel, nI_ge0, nI_lt0, nm_lt, nm_ge, bI_T, bI_F, Nat.one_ne_zero, Nat.zero_ne_one, iW, hw]
    exact hQ B hB fB
/-- how many vowels -/
def cv (f : Nat → Nat) : Nat → Nat
  | 0 => 0
  | n + 1 => cv f n + if f n < 10 then 1 else 0
theorem cv_le {f : Nat → Nat} : ∀ n, cv f n ≤ n := by
  intro n
  induction n with
  | zero => exact Nat.le_refl _
  | succ n ih => rw [cv]; split <;> omega
def tdq (a : Nat → Nat → Nat) (t k : Nat) : Int32 := if k = 0 then nI (a 35 t) else if k = 1 then nI (cv (hs a t) (a 35 t)) else if k = 2 then nI (tl a t) else if k = 3 then nI (ss a t (tl a t)) else if k - 4 < a 35 t then nI (hs a t (k - 4)) else -13
def s_told (s : z_S) (w p k : Int32) : Int32 := if iw w (s.1 32 1) = true ∧ iw p (s.1 34 w.toNatClampNeg) = true ∧ iw k 16 = true then tdq s.1 (3 * w.toNatClampNeg + p.toNatClampNeg) k.toNatClampNeg else -3
theorem l_told {x1 x2 x3 : Option Value} {n : Nat} {f : Nat → Nat} (hn : n ≤ 12) (h49 : A 49 0 = nI n) (hf : ∀ i, i < n → A 47 i = nI (f i)) (bf : ∀ i, f i < 40) (hQ : X (d + 2) m_X8_told 102 [some (.ref 32), x1, x2, x3, some (.int (nI (cv f n))), some (.int (nI n))] [] (GH A P dy) nx bc bs Q) : ∀ (m i : Nat), i + m = n → X (d + 2) m_X8_told 62 [some (.ref 32), x1, x2, x3, some (.int (nI (cv f i))), some (.int (nI i))] [] (GH A P dy) nx bc bs Q := by
  intro m
  induction m with
  | zero =>
    intro i hi
    have e : i = n := by omega
    subst e
    simp (disch := omega) only [i_X8_told_62, i_X8_told_64, i_X8_told_65, i_X8_told_68, i_X8_told_69, i_X8_told_70, gh_o32, gh_r34, gh_r47, gh_r48, gh_r49, gh_r50, gh_u32, gp_32_0, gf_32_1, gf_32_3, gf_32_21, gf_32_22, gf_32_23, gf_32_24, z_o_i, z_ai_i, z_si_i, z_ab_b, z_ab_z, z_sb_b, z_sb_z, z_al_i, z_al_b, z_pu_s, z_pu_n, nI_toN, z_inN, true_and, and_true, nI_add, pk_mul, vu_eq, vu_ne, nI_leI, nI_ltI, nI_eqI, nI_eq0, ↓ok_0, ↓ok_1, ↓bI_ok, if_true, if_false, ne_eq, not_true_eq_false, not_false_eq_true, nI_m1, nI_1ne, nI_0eq, bI_eq0, bI_ne0, Bool.false_eq_true, c_isVowel, c_inK, c_inN, iw_nI, decide_true, decide_false, Nat.add_sub_cancel, nI_ge0, nI_lt0, nm_lt, nm_ge, bI_T, bI_F, Nat.one_ne_zero, Nat.zero_ne_one, h49, Nat.le_refl]
    exact hQ
  | succ m ih =>
    intro i hi
    have le : ¬ n ≤ i := by omega
    have q := ih (i + 1) (by omega)
    rw [cv] at q
    have f1 := hf i (by omega)
    have b1 := bf i
    rw [i_X8_told_62]
    by_cases v : f i < 10
    · rw [if_pos v] at q
      simp (disch := omega) only [i_X8_told_64, i_X8_told_65, i_X8_told_68, i_X8_told_69, i_X8_told_70, i_X8_told_73, i_X8_told_75, i_X8_told_76, i_X8_told_79, i_X8_told_81, i_X8_told_82, i_X8_told_85, i_X8_told_88, i_X8_told_89, i_X8_told_92, i_X8_told_93, i_X8_told_94, i_X8_told_96, i_X8_told_99, gh_o32, gh_r34, gh_r47, gh_r48, gh_r49, gh_r50, gh_u32, gp_32_0, gf_32_1, gf_32_3, gf_32_21, gf_32_22, gf_32_23, gf_32_24, z_o_i, z_ai_i, z_si_i, z_ab_b, z_ab_z, z_sb_b, z_sb_z, z_al_i, z_al_b, z_pu_s, z_pu_n, nI_toN, z_inN, true_and, and_true, nI_add, pk_mul, vu_eq, vu_ne, nI_leI, nI_ltI, nI_eqI, nI_eq0, ↓ok_0, ↓ok_1, ↓bI_ok, if_true, if_false, ne_eq, not_true_eq_false, not_false_eq_true, nI_m1, nI_1ne, nI_0eq, bI_eq0, bI_ne0, Bool.false_eq_true, c_isVowel, c_inK, c_inN, iw_nI, decide_true, decide_false, Nat.add_sub_cancel, nI_ge0, nI_lt0, nm_lt, nm_ge, bI_T, bI_F, Nat.one_ne_zero, Nat.zero_ne_one, h49, le, f1, v]
      exact q
    · rw [if_neg v] at q
      simp (disch := omega) only [i_X8_told_64, i_X8_told_65, i_X8_told_68, i_X8_told_69, i_X8_told_70, i_X8_told_73, i_X8_told_75, i_X8_told_76, i_X8_told_79, i_X8_told_81, i_X8_told_82, i_X8_told_85, i_X8_told_88, i_X8_told_89, i_X8_told_92, i_X8_told_93, i_X8_told_94, i_X8_told_96, i_X8_told_99, gh_o32, gh_r34, gh_r47, gh_r48, gh_r49, gh_r50, gh_u32, gp_32_0, gf_32_1, gf_32_3, gf_32_21, gf_32_22, gf_32_23, gf_32_24, z_o_i, z_ai_i, z_si_i, z_ab_b, z_ab_z, z_sb_b, z_sb_z, z_al_i, z_al_b, z_pu_s, z_pu_n, nI_toN, z_inN, true_and, and_true, nI_add, pk_mul, vu_eq, vu_ne, nI_leI, nI_ltI, nI_eqI, nI_eq0, ↓ok_0, ↓ok_1, ↓bI_ok, if_true, if_false, ne_eq, not_true_eq_false, not_false_eq_true, nI_m1, nI_1ne, nI_0eq, bI_eq0, bI_ne0, Bool.false_eq_true, c_isVowel, c_inK, c_inN, iw_nI, decide_true, decide_false, Nat.add_sub_cancel, nI_ge0, nI_lt0, nm_lt, nm_ge, bI_T, bI_F, Nat.one_ne_zero, Nat.zero_ne_one, h49, le, f1, v]
      exact q
theorem m_told {w p k : Int32} (hM : Mo s A) (hQ : ∀ B, Mo s B → Fk A B → Q (some (.int (s_told s w p k))) (GH B P dy) nx) : XC (d + 3) m_X8_told [.ref 32, .int w, .int p, .int k] (GH A P dy) nx Q := by
  show X (d + 3) m_X8_told 0 [some (.ref 32), some (.int w), some (.int p), some (.int k), none, none] [] (GH A P dy) nx 0 0 Q
  obtain ⟨B, eB, hB, fB⟩ := t0_ex hM
  simp (disch := omega) only [i_X8_told_0, i_X8_told_1, i_X8_told_2, gh_o32, gh_r34, gh_r47, gh_r48, gh_r49, gh_r50, gh_u32, gp_32_0, gf_32_1, gf_32_3, gf_32_21, gf_32_22, gf_32_23, gf_32_24, z_o_i, z_ai_i, z_si_i, z_ab_b, z_ab_z, z_sb_b, z_sb_z, z_al_i, z_al_b, z_pu_s, z_pu_n, nI_toN, z_inN, true_and, and_true, nI_add, pk_mul, vu_eq, vu_ne, nI_leI, nI_ltI, nI_eqI, nI_eq0, ↓ok_0, ↓ok_1, ↓bI_ok, if_true, if_false, ne_eq, not_true_eq_false, not_false_eq_true, nI_m1, nI_1ne, nI_0eq, bI_eq0, bI_ne0, Bool.false_eq_true, c_isVowel, c_inK, c_inN, iw_nI, decide_true, decide_false, Nat.add_sub_cancel, nI_ge0, nI_lt0, nm_lt, nm_ge, bI_T, bI_F, Nat.one_ne_zero, Nat.zero_ne_one, eB]
  have iW : ∀ {d nx : Nat} {Q : z_Q} {x : Int32}, XC (d + 1) m_X8_isWord [.ref 32, .int x] (GH B P dy) nx Q = Q (some (.int (bI (iw x (s.1 32 1) = true)))) (GH B P dy) nx := c_isWord hB
  have sc := hB.1.sc
  unfold s_told at hQ
  by_cases hw : iw w (s.1 32 1) = true
  · obtain ⟨a, h1, rfl⟩ := iw_ex hw
    rw [nI_toN (by omega)] at hQ
    have r34 := hB.1.r34 a
    have b34 := hB.1.b34 a
    by_cases hp : iw p (s.1 34 a) = true
    · by_cases hk : iw k 16 = true
      · rw [if_pos ⟨hw, hp, hk⟩] at hQ
        obtain ⟨b, h2, rfl⟩ := iw_ex hp
        obtain ⟨c, h3, rfl⟩ := iw_ex hk
        rw [nI_toN (by omega), nI_toN (by omega)] at hQ
        simp (disch := omega) only [i_X8_told_5, i_X8_told_6, i_X8_told_7, i_X8_told_10, i_X8_told_13, i_X8_told_14, i_X8_told_15, i_X8_told_16, i_X8_told_17, i_X8_told_20, i_X8_told_21, i_X8_told_22, i_X8_told_23, i_X8_told_24, i_X8_told_25, i_X8_told_28, i_X8_told_31, i_X8_told_32, i_X8_told_33, i_X8_told_34, i_X8_told_37, i_X8_told_40, i_X8_told_46, i_X8_told_47, i_X8_told_48, i_X8_told_49, i_X8_told_50, i_X8_told_51, i_X8_told_52, i_X8_told_53, gh_o32, gh_r34, gh_r47, gh_r48, gh_r49, gh_r50, gh_u32, gp_32_0, gf_32_1, gf_32_3, gf_32_21, gf_32_22, gf_32_23, gf_32_24, z_o_i, z_ai_i, z_si_i, z_ab_b, z_ab_z, z_sb_b, z_sb_z, z_al_i, z_al_b, z_pu_s, z_pu_n, nI_toN, z_inN, true_and, and_true, nI_add, pk_mul, vu_eq, vu_ne, nI_leI, nI_ltI, nI_eqI, nI_eq0, ↓ok_0, ↓ok_1, ↓bI_ok, if_true, if_false, ne_eq, not_true_eq_false, not_false_eq_true, nI_m1, nI_1ne, nI_0eq, bI_eq0, bI_ne0, Bool.false_eq_true, c_isVowel, c_inK, c_inN, iw_nI, decide_true, decide_false, Nat.add_sub_cancel, nI_ge0, nI_lt0, nm_lt, nm_ge, bI_T, bI_F, Nat.one_ne_zero, Nat.zero_ne_one, iW, h1, h2, h3, r34]
        refine c_lay hB.1 (by omega) (by omega) (fun C hC rC lC => ?_)
        simp (disch := omega) only [i_X8_told_56, i_X8_told_57, i_X8_told_59, i_X8_told_60, gh_o32, gh_r34, gh_r47, gh_r48, gh_r49, gh_r50, gh_u32, gp_32_0, gf_32_1, gf_32_3, gf_32_21, gf_32_22, gf_32_23, gf_32_24, z_o_i, z_ai_i, z_si_i, z_ab_b, z_ab_z, z_sb_b, z_sb_z, z_al_i, z_al_b, z_pu_s, z_pu_n, nI_toN, z_inN, true_and, and_true, nI_add, pk_mul, vu_eq, vu_ne, nI_leI, nI_ltI, nI_eqI, nI_eq0, ↓ok_0, ↓ok_1, ↓bI_ok, if_true, if_false, ne_eq, not_true_eq_false, not_false_eq_true, nI_m1, nI_1ne, nI_0eq, bI_eq0, bI_ne0, Bool.false_eq_true, c_isVowel, c_inK, c_inN, iw_nI, decide_true, decide_false, Nat.add_sub_cancel, nI_ge0, nI_lt0, nm_lt, nm_ge, bI_T, bI_F, Nat.one_ne_zero, Nat.zero_ne_one]
        have q := hQ C ((Fr.lay lC).mo hB) (fB.trans (Fr.lay lC).fk)
        have g := hB.2.2.1.2 a b h1 h2
        have gt := gd_tl g hB.2.2.1.1 (fun i => hB.1.b36 i)
        obtain ⟨r1, r2, r3, r4⟩ := rC
        rw [gt.1] at r4
        have r4' : C 50 0 = nI (tl s.1 (3 * a + b)) := r4
        have b35 := hB.1.b35 (3 * a + b)
        have gt2 := gt.2.1
        have r2' : ∀ i, i < s.1 35 (3 * a + b) → C 47 i = nI (hs s.1 (3 * a + b) i) := fun i hi => by have := r2 i hi; rw [Nat.mul_zero, Nat.zero_add] at this; exact this
        have r3' : C 48 (tl s.1 (3 * a + b)) = nI (ss s.1 (3 * a + b) (tl s.1 (3 * a + b))) := by have := r3 _ gt2; rw [Nat.mul_zero, Nat.zero_add] at this; exact this
        refine l_told (f := hs s.1 (3 * a + b)) b35 r1 r2' (fun i => hB.1.b40 _) ?_ (s.1 35 (3 * a + b)) 0 (by omega)
        rw [tdq] at q
        by_cases c0 : c = 0
        · rw [if_pos c0] at q
          subst c0
          simp (disch := omega) only [i_X8_told_102, i_X8_told_103_0, i_X8_told_103_1, i_X8_told_103_2, i_X8_told_103_3, i_X8_told_132, i_X8_told_133, i_X8_told_136, i_X8_told_137, i_X8_told_138, gh_o32, gh_r34, gh_r47, gh_r48, gh_r49, gh_r50, gh_u32, gp_32_0, gf_32_1, gf_32_3, gf_32_21, gf_32_22, gf_32_23, gf_32_24, z_o_i, z_ai_i, z_si_i, z_ab_b, z_ab_z, z_sb_b, z_sb_z, z_al_i, z_al_b, z_pu_s, z_pu_n, nI_toN, z_inN, true_and, and_true, nI_add, pk_mul, vu_eq, vu_ne, nI_leI, nI_ltI, nI_eqI, nI_eq0, ↓ok_0, ↓ok_1, ↓bI_ok, if_true, if_false, ne_eq, not_true_eq_false, not_false_eq_true, nI_m1, nI_1ne, nI_0eq, bI_eq0, bI_ne0, Bool.false_eq_true, c_isVowel, c_inK, c_inN, iw_nI, decide_true, decide_false, Nat.add_sub_cancel, nI_ge0, nI_lt0, nm_lt, nm_ge, bI_T, bI_F, Nat.one_ne_zero, Nat.zero_ne_one, r1]
          exact q
        · rw [if_neg c0] at q
          by_cases c1 : c = 1
          · rw [if_pos c1] at q
            subst c1
            simp (disch := omega) only [i_X8_told_102, i_X8_told_103_0, i_X8_told_103_1, i_X8_told_103_2, i_X8_told_103_3, i_X8_told_139, i_X8_told_141, gh_o32, gh_r34, gh_r47, gh_r48, gh_r49, gh_r50, gh_u32, gp_32_0, gf_32_1, gf_32_3, gf_32_21, gf_32_22, gf_32_23, gf_32_24, z_o_i, z_ai_i, z_si_i, z_ab_b, z_ab_z, z_sb_b, z_sb_z, z_al_i, z_al_b, z_pu_s, z_pu_n, nI_toN, z_inN, true_and, and_true, nI_add, pk_mul, vu_eq, vu_ne, nI_leI, nI_ltI, nI_eqI, nI_eq0, ↓ok_0, ↓ok_1, ↓bI_ok, if_true, if_false, ne_eq, not_true_eq_false, not_false_eq_true, nI_m1, nI_1ne, nI_0eq, bI_eq0, bI_ne0, Bool.false_eq_true, c_isVowel, c_inK, c_inN, iw_nI, decide_true, decide_false, Nat.add_sub_cancel, nI_ge0, nI_lt0, nm_lt, nm_ge, bI_T, bI_F, Nat.one_ne_zero, Nat.zero_ne_one, r1]
            exact q
          · rw [if_neg c1] at q
            by_cases c2 : c = 2
            · rw [if_pos c2] at q
              subst c2
              simp (disch := omega) only [i_X8_told_102, i_X8_told_103_0, i_X8_told_103_1, i_X8_told_103_2, i_X8_told_103_3, i_X8_told_142, i_X8_told_143, i_X8_told_146, i_X8_told_147, i_X8_told_148, gh_o32, gh_r34, gh_r47, gh_r48, gh_r49, gh_r50, gh_u32, gp_32_0, gf_32_1, gf_32_3, gf_32_21, gf_32_22, gf_32_23, gf_32_24, z_o_i, z_ai_i, z_si_i, z_ab_b, z_ab_z, z_sb_b, z_sb_z, z_al_i, z_al_b, z_pu_s, z_pu_n, nI_toN, z_inN, true_and, and_true, nI_add, pk_mul, vu_eq, vu_ne, nI_leI, nI_ltI, nI_eqI, nI_eq0, ↓ok_0, ↓ok_1, ↓bI_ok, if_true, if_false, ne_eq, not_true_eq_false, not_false_eq_true, nI_m1, nI_1ne, nI_0eq, bI_eq0, bI_ne0, Bool.false_eq_true, c_isVowel, c_inK, c_inN, iw_nI, decide_true, decide_false, Nat.add_sub_cancel, nI_ge0, nI_lt0, nm_lt, nm_ge, bI_T, bI_F, Nat.one_ne_zero, Nat.zero_ne_one, r4']
              exact q
            · rw [if_neg c2] at q
              by_cases c3 : c = 3
              · rw [if_pos c3] at q
                subst c3
                simp (disch := omega) only [i_X8_told_102, i_X8_told_103_0, i_X8_told_103_1, i_X8_told_103_2, i_X8_told_103_3, i_X8_told_149, i_X8_told_150, i_X8_told_153, i_X8_told_154, i_X8_told_157, i_X8_told_158, i_X8_told_159, i_X8_told_160, gh_o32, gh_r34, gh_r47, gh_r48, gh_r49, gh_r50, gh_u32, gp_32_0, gf_32_1, gf_32_3, gf_32_21, gf_32_22, gf_32_23, gf_32_24, z_o_i, z_ai_i, z_si_i, z_ab_b, z_ab_z, z_sb_b, z_sb_z, z_al_i, z_al_b, z_pu_s, z_pu_n, nI_toN, z_inN, true_and, and_true, nI_add, pk_mul, vu_eq, vu_ne, nI_leI, nI_ltI, nI_eqI, nI_eq0, ↓ok_0, ↓ok_1, ↓bI_ok, if_true, if_false, ne_eq, not_true_eq_false, not_false_eq_true, nI_m1, nI_1ne, nI_0eq, bI_eq0, bI_ne0, Bool.false_eq_true, c_isVowel, c_inK, c_inN, iw_nI, decide_true, decide_false, Nat.add_sub_cancel, nI_ge0, nI_lt0, nm_lt, nm_ge, bI_T, bI_F, Nat.one_ne_zero, Nat.zero_ne_one, r4', r3']
                exact q
              · rw [if_neg c3] at q
                rw [i_X8_told_102, i_X8_told_103_out (by rw [nI_toInt (by omega)]; omega)]
                by_cases l : c - 4 < s.1 35 (3 * a + b)
                · rw [if_pos l] at q
                  have l' : ¬ s.1 35 (3 * a + b) ≤ c - 4 := by omega
                  have r5 := r2' _ l
                  simp (disch := omega) only [i_X8_told_161, i_X8_told_162, i_X8_told_163, i_X8_told_164, i_X8_told_165, i_X8_told_168, i_X8_told_169, i_X8_told_170, i_X8_told_173, i_X8_told_174, i_X8_told_177, i_X8_told_178, i_X8_told_179, i_X8_told_180, i_X8_told_181, i_X8_told_184, i_X8_told_186, gh_o32, gh_r34, gh_r47, gh_r48, gh_r49, gh_r50, gh_u32, gp_32_0, gf_32_1, gf_32_3, gf_32_21, gf_32_22, gf_32_23, gf_32_24, z_o_i, z_ai_i, z_si_i, z_ab_b, z_ab_z, z_sb_b, z_sb_z, z_al_i, z_al_b, z_pu_s, z_pu_n, nI_toN, z_inN, true_and, and_true, nI_add, pk_mul, vu_eq, vu_ne, nI_leI, nI_ltI, nI_eqI, nI_eq0, ↓ok_0, ↓ok_1, ↓bI_ok, if_true, if_false, ne_eq, not_true_eq_false, not_false_eq_true, nI_m1, nI_1ne, nI_0eq, bI_eq0, bI_ne0, Bool.false_eq_true, c_isVowel, c_inK, c_inN, iw_nI, decide_true, decide_false, Nat.add_sub_cancel, nI_ge0, nI_lt0, nm_lt, nm_ge, bI_T, bI_F, Nat.one_ne_zero, Nat.zero_ne_one, pk_sub, r1, l', r5]
                  exact q
                · rw [if_neg l] at q
                  have l' : s.1 35 (3 * a + b) ≤ c - 4 := by omega
                  simp (disch := omega) only [i_X8_told_161, i_X8_told_162, i_X8_told_163, i_X8_told_164, i_X8_told_165, i_X8_told_168, i_X8_told_169, i_X8_told_170, i_X8_told_184, i_X8_told_186, gh_o32, gh_r34, gh_r47, gh_r48, gh_r49, gh_r50, gh_u32, gp_32_0, gf_32_1, gf_32_3, gf_32_21, gf_32_22, gf_32_23, gf_32_24, z_o_i, z_ai_i, z_si_i, z_ab_b, z_ab_z, z_sb_b, z_sb_z, z_al_i, z_al_b, z_pu_s, z_pu_n, nI_toN, z_inN, true_and, and_true, nI_add, pk_mul, vu_eq, vu_ne, nI_leI, nI_ltI, nI_eqI, nI_eq0, ↓ok_0, ↓ok_1, ↓bI_ok, if_true, if_false, ne_eq, not_true_eq_false, not_false_eq_true, nI_m1, nI_1ne, nI_0eq, bI_eq0, bI_ne0, Bool.false_eq_true, c_isVowel, c_inK, c_inN, iw_nI, decide_true, decide_false, Nat.add_sub_cancel, nI_ge0, nI_lt0, nm_lt, nm_ge, bI_T, bI_F, Nat.one_ne_zero, Nat.zero_ne_one, pk_sub, r1, l']
                  exact q
      · rw [if_neg (fun q => hk q.2.2)] at hQ
        simp (disch := omega) only [i_X8_told_5, i_X8_told_6, i_X8_told_7, i_X8_told_10, i_X8_told_13, i_X8_told_14, i_X8_told_15, i_X8_told_16, i_X8_told_17, i_X8_told_20, i_X8_told_21, i_X8_told_22, i_X8_told_23, i_X8_told_24, i_X8_told_25, i_X8_told_28, i_X8_told_31, i_X8_told_32, i_X8_told_33, i_X8_told_34, i_X8_told_37, i_X8_told_40, i_X8_told_43, i_X8_told_45, gh_o32, gh_r34, gh_r47, gh_r48, gh_r49, gh_r50, gh_u32, gp_32_0, gf_32_1, gf_32_3, gf_32_21, gf_32_22, gf_32_23, gf_32_24, z_o_i, z_ai_i, z_si_i, z_ab_b, z_ab_z, z_sb_b, z_sb_z, z_al_i, z_al_b, z_pu_s, z_pu_n, nI_toN, z_inN, true_and, and_true, nI_add, pk_mul, vu_eq, vu_ne, nI_leI, nI_ltI, nI_eqI, nI_eq0, ↓ok_0, ↓ok_1, ↓bI_ok, if_true, if_false, ne_eq, not_true_eq_false, not_false_eq_true, nI_m1, nI_1ne, nI_0eq, bI_eq0, bI_ne0, Bool.false_eq_true, c_isVowel, c_inK, c_inN, iw_nI, decide_true, decide_false, Nat.add_sub_cancel, nI_ge0, nI_lt0, nm_lt, nm_ge, bI_T, bI_F, Nat.one_ne_zero, Nat.zero_ne_one, iW, h1, hp, hk, r34]
        exact hQ B hB fB
    · rw [if_neg (fun q => hp q.2.1)] at hQ
      simp (disch := omega) only [i_X8_told_5, i_X8_told_6, i_X8_told_7, i_X8_told_10, i_X8_told_13, i_X8_told_14, i_X8_told_15, i_X8_told_16, i_X8_told_17, i_X8_told_20, i_X8_told_21, i_X8_told_22, i_X8_told_23, i_X8_told_24, i_X8_told_25, i_X8_told_28, i_X8_told_43, i_X8_told_45, gh_o32, gh_r34, gh_r47, gh_r48, gh_r49, gh_r50, gh_u32, gp_32_0, gf_32_1, gf_32_3, gf_32_21, gf_32_22, gf_32_23, gf_32_24, z_o_i, z_ai_i, z_si_i, z_ab_b, z_ab_z, z_sb_b, z_sb_z, z_al_i, z_al_b, z_pu_s, z_pu_n, nI_toN, z_inN, true_and, and_true, nI_add, pk_mul, vu_eq, vu_ne, nI_leI, nI_ltI, nI_eqI, nI_eq0, ↓ok_0, ↓ok_1, ↓bI_ok, if_true, if_false, ne_eq, not_true_eq_false, not_false_eq_true, nI_m1, nI_1ne, nI_0eq, bI_eq0, bI_ne0, Bool.false_eq_true, c_isVowel, c_inK, c_inN, iw_nI, decide_true, decide_false, Nat.add_sub_cancel, nI_ge0, nI_lt0, nm_lt, nm_ge, bI_T, bI_F, Nat.one_ne_zero, Nat.zero_ne_one, iW, h1, hp, r34]
      exact hQ B hB fB
  · rw [if_neg (fun q => hw q.1)] at hQ
    simp (disch := omega) only [i_X8_told_5, i_X8_told_6, i_X8_told_7, i_X8_told_10, i_X8_told_43, i_X8_told_45, gh_o32, gh_r34, gh_r47, gh_r48, gh_r49, gh_r50, gh_u32, gp_32_0, gf_32_1, gf_32_3, gf_32_21, gf_32_22, gf_32_23, gf_32_24, z_o_i, z_ai_i, z_si_i, z_ab_b, z_ab_z, z_sb_b, z_sb_z, z_al_i, z_al_b, z_pu_s, z_pu_n, nI_toN, z_inN, true_and, and_true, nI_add, pk_mul, vu_eq, vu_ne, nI_leI, nI_ltI, nI_eqI, nI_eq0, ↓ok_0, ↓ok_1, ↓bI_ok, if_true, if_false, ne_eq, not_true_eq_false, not_false_eq_true, nI_m1, nI_1ne, nI_0eq, bI_eq0, bI_ne0, Bool.false_eq_true, c_isVowel, c_inK, c_inN, iw_nI, decide_true, decide_false, Nat.add_sub_cancel, nI_ge0, nI_lt0, nm_lt, nm_ge, bI_T, bI_F, Nat.one_ne_zero, Nat.zero_ne_one, iW, hw]
    exact hQ B hB fB
end MPub3
