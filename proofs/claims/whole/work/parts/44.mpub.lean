/-! THE MODEL'S CALLS: word, near, speech, spell, writing, copy -/
section MPub
variable {s : z_S} {A : Nat → Nat → Int32} {P : Nat → Nat → Nat} {dy : z_H} {d nx bc bs : Nat} {Q : z_Q}
theorem c_isWord {x : Int32} (hM : Mo s A) : XC (d + 1) m_X8_isWord [.ref 32, .int x] (GH A P dy) nx Q = Q (some (.int (bI (iw x (s.1 32 1) = true)))) (GH A P dy) nx := by
  show X (d + 1) m_X8_isWord 0 [some (.ref 32), some (.int x)] [] (GH A P dy) nx 0 0 Q = _
  have sc := hM.1.sc
  have r1 := hM.1.q1
  simp (disch := omega) only [i_X8_isWord_0, i_X8_isWord_1, i_X8_isWord_2, i_X8_isWord_3, i_X8_isWord_4, i_X8_isWord_7, i_X8_isWord_8, i_X8_isWord_9, i_X8_isWord_10, i_X8_isWord_13, gh_o32, gf_32_1, z_o_i, z_ai_i, z_si_i, z_ab_b, z_ab_z, z_sb_b, z_sb_z, z_al_i, z_al_b, z_pu_s, z_pu_n, nI_toN, z_inN, true_and, and_true, nI_add, pk_mul, vu_eq, vu_ne, r1, c_inN, ↓bI_ok]
def nW (a : Nat → Nat → Nat) (h : Nat) : Nat → Nat → Nat := va_up (va_up (va_up (va_up a 33 (va_up (a 33) (a 32 1) h)) 34 (va_up (a 34) (a 32 1) 0)) 38 (va_up (a 38) (a 32 1) 0)) 32 (va_up (a 32) 1 (a 32 1 + 1))
def s_word (s : z_S) (x : Int32) : Int32 × z_S := if iw x 6 = true then (if s.1 32 1 = 24 then (-5, s) else (nI (s.1 32 1), (nW s.1 x.toNatClampNeg, s.2))) else (-3, s)
theorem iw_word {s : z_S} {h : Nat} (hI : Iw s) : Iw (nW s.1 h, s.2) := by
  obtain ⟨⟨h1, h2⟩, h3, h4, h5, h6⟩ := hI
  refine ⟨⟨h1, fun w k hw hk => ?_⟩, fun l hl => ⟨(h3 l hl).1, fun i hi => ?_⟩, h4, h5, h6⟩
  · have hk' : k < va_up (s.1 34) (s.1 32 1) 0 w := hk
    have hw' : w < s.1 32 1 + 1 := hw
    rw [vu_if] at hk'
    by_cases e : w = s.1 32 1
    · rw [if_pos e] at hk'; omega
    · rw [if_neg e] at hk'; exact h2 w k (by omega) hk'
  · have := (h3 l hl).2 i hi
    exact Nat.lt_succ_of_lt this
theorem m_word {x : Int32} (hM : Mo s A) (hQ : ∀ B, Mo (s_word s x).2 B → Fk A B → Q (some (.int (s_word s x).1)) (GH B P dy) nx) : XC (d + 1) m_X8_word [.ref 32, .int x] (GH A P dy) nx Q := by
  show X (d + 1) m_X8_word 0 [some (.ref 32), some (.int x)] [] (GH A P dy) nx 0 0 Q
  obtain ⟨B, eB, hB, fB⟩ := t0_ex hM
  simp (disch := omega) only [i_X8_word_0, i_X8_word_1, i_X8_word_2, gh_o32, gh_r33, gh_r34, gh_r38, gh_r39, gh_r40, gh_w33, gh_w34, gh_w38, gh_w39, gh_w40, gh_u32, gp_32_0, gp_32_1, gp_32_10, gf_32_1, gf_32_2, gf_32_3, gf_32_7, gf_32_8, gf_32_9, gf_32_10, z_o_i, z_ai_i, z_si_i, z_ab_b, z_ab_z, z_sb_b, z_sb_z, z_al_i, z_al_b, z_pu_s, z_pu_n, nI_toN, z_inN, true_and, and_true, nI_add, pk_mul, vu_eq, vu_ne, nI_leI, nI_ltI, nI_eqI, nI_eq0, ↓ok_0, ↓ok_1, ↓bI_ok, if_true, if_false, ne_eq, not_true_eq_false, not_false_eq_true, nI_m1, nI_1ne, nI_0eq, bI_eq0, bI_ne0, Bool.false_eq_true, pk_sub, c_isVowel, c_inK, c_inN, iw_nI, decide_true, decide_false, Nat.add_sub_cancel, eB]
  have sc := hB.1.sc
  have r1 := hB.1.q1
  unfold s_word at hQ
  by_cases hx : iw x 6 = true
  · rw [if_pos hx] at hQ
    by_cases w24 : s.1 32 1 = 24
    · rw [if_pos w24] at hQ
      simp (disch := omega) only [i_X8_word_5, i_X8_word_6, i_X8_word_7, i_X8_word_8, i_X8_word_11, i_X8_word_14, i_X8_word_17, i_X8_word_19, i_X8_word_20, i_X8_word_21, i_X8_word_24, i_X8_word_26, i_X8_word_29, i_X8_word_31, gh_o32, gh_r33, gh_r34, gh_r38, gh_r39, gh_r40, gh_w33, gh_w34, gh_w38, gh_w39, gh_w40, gh_u32, gp_32_0, gp_32_1, gp_32_10, gf_32_1, gf_32_2, gf_32_3, gf_32_7, gf_32_8, gf_32_9, gf_32_10, z_o_i, z_ai_i, z_si_i, z_ab_b, z_ab_z, z_sb_b, z_sb_z, z_al_i, z_al_b, z_pu_s, z_pu_n, nI_toN, z_inN, true_and, and_true, nI_add, pk_mul, vu_eq, vu_ne, nI_leI, nI_ltI, nI_eqI, nI_eq0, ↓ok_0, ↓ok_1, ↓bI_ok, if_true, if_false, ne_eq, not_true_eq_false, not_false_eq_true, nI_m1, nI_1ne, nI_0eq, bI_eq0, bI_ne0, Bool.false_eq_true, pk_sub, c_isVowel, c_inK, c_inN, iw_nI, decide_true, decide_false, Nat.add_sub_cancel, r1, hx, w24]
      exact hQ B hB fB
    · rw [if_neg w24] at hQ
      obtain ⟨h, hh, rfl⟩ := iw_ex hx
      rw [nI_toN (by omega)] at hQ
      simp (disch := omega) only [i_X8_word_5, i_X8_word_6, i_X8_word_7, i_X8_word_8, i_X8_word_11, i_X8_word_14, i_X8_word_17, i_X8_word_19, i_X8_word_20, i_X8_word_21, i_X8_word_24, i_X8_word_26, i_X8_word_32, i_X8_word_33, i_X8_word_36, i_X8_word_37, i_X8_word_40, i_X8_word_41, i_X8_word_42, i_X8_word_43, i_X8_word_46, i_X8_word_47, i_X8_word_50, i_X8_word_51, i_X8_word_52, i_X8_word_53, i_X8_word_56, i_X8_word_57, i_X8_word_60, i_X8_word_61, i_X8_word_62, i_X8_word_63, i_X8_word_64, i_X8_word_67, i_X8_word_68, i_X8_word_69, i_X8_word_72, i_X8_word_73, i_X8_word_76, i_X8_word_77, i_X8_word_78, gh_o32, gh_r33, gh_r34, gh_r38, gh_r39, gh_r40, gh_w33, gh_w34, gh_w38, gh_w39, gh_w40, gh_u32, gp_32_0, gp_32_1, gp_32_10, gf_32_1, gf_32_2, gf_32_3, gf_32_7, gf_32_8, gf_32_9, gf_32_10, z_o_i, z_ai_i, z_si_i, z_ab_b, z_ab_z, z_sb_b, z_sb_z, z_al_i, z_al_b, z_pu_s, z_pu_n, nI_toN, z_inN, true_and, and_true, nI_add, pk_mul, vu_eq, vu_ne, nI_leI, nI_ltI, nI_eqI, nI_eq0, ↓ok_0, ↓ok_1, ↓bI_ok, if_true, if_false, ne_eq, not_true_eq_false, not_false_eq_true, nI_m1, nI_1ne, nI_0eq, bI_eq0, bI_ne0, Bool.false_eq_true, pk_sub, c_isVowel, c_inK, c_inN, iw_nI, decide_true, decide_false, Nat.add_sub_cancel, r1, hh, w24]
      refine hQ _ ⟨?_, hB.2.1, iw_word hB.2.2⟩ ((((fB.up (by omega)).up (by omega)).up (by omega)).up (by omega))
      have m0 : (-1 : Int32) = nI 0 - nI 1 := by decide
      exact (((hB.1.u33 (g := va_up (s.1 33) (s.1 32 1) h) (vs_rn hB.1.r33 rfl) (vs_le hB.1.b33 (by omega))).u34 (g := va_up (s.1 34) (s.1 32 1) 0) (vs_rn hB.1.r34 rfl) (vs_le hB.1.b34 (by omega))).u38 (g := va_up (s.1 38) (s.1 32 1) 0) (vs_rm hB.1.r38 m0) (vs_le hB.1.b38 (by omega))).f1 (v := s.1 32 1 + 1) (by omega)
  · rw [if_neg hx] at hQ
    simp (disch := omega) only [i_X8_word_5, i_X8_word_6, i_X8_word_7, i_X8_word_8, i_X8_word_11, i_X8_word_14, i_X8_word_17, i_X8_word_19, gh_o32, gh_r33, gh_r34, gh_r38, gh_r39, gh_r40, gh_w33, gh_w34, gh_w38, gh_w39, gh_w40, gh_u32, gp_32_0, gp_32_1, gp_32_10, gf_32_1, gf_32_2, gf_32_3, gf_32_7, gf_32_8, gf_32_9, gf_32_10, z_o_i, z_ai_i, z_si_i, z_ab_b, z_ab_z, z_sb_b, z_sb_z, z_al_i, z_al_b, z_pu_s, z_pu_n, nI_toN, z_inN, true_and, and_true, nI_add, pk_mul, vu_eq, vu_ne, nI_leI, nI_ltI, nI_eqI, nI_eq0, ↓ok_0, ↓ok_1, ↓bI_ok, if_true, if_false, ne_eq, not_true_eq_false, not_false_eq_true, nI_m1, nI_1ne, nI_0eq, bI_eq0, bI_ne0, Bool.false_eq_true, pk_sub, c_isVowel, c_inK, c_inN, iw_nI, decide_true, decide_false, Nat.add_sub_cancel, r1, hx]
    exact hQ B hB fB
def s_near (s : z_S) (x : Int32) : Int32 × z_S := if iw x 101 = true then (nI (s.1 32 10), (va_up s.1 32 (va_up (s.1 32) 10 x.toNatClampNeg), s.2)) else (-3, s)
theorem m_near {x : Int32} (hM : Mo s A) (hQ : ∀ B, Mo (s_near s x).2 B → Fk A B → Q (some (.int (s_near s x).1)) (GH B P dy) nx) : XC (d + 1) m_X8_near [.ref 32, .int x] (GH A P dy) nx Q := by
  show X (d + 1) m_X8_near 0 [some (.ref 32), some (.int x), none] [] (GH A P dy) nx 0 0 Q
  obtain ⟨B, eB, hB, fB⟩ := t0_ex hM
  simp (disch := omega) only [i_X8_near_0, i_X8_near_1, i_X8_near_2, gh_o32, gh_r33, gh_r34, gh_r38, gh_r39, gh_r40, gh_w33, gh_w34, gh_w38, gh_w39, gh_w40, gh_u32, gp_32_0, gp_32_1, gp_32_10, gf_32_1, gf_32_2, gf_32_3, gf_32_7, gf_32_8, gf_32_9, gf_32_10, z_o_i, z_ai_i, z_si_i, z_ab_b, z_ab_z, z_sb_b, z_sb_z, z_al_i, z_al_b, z_pu_s, z_pu_n, nI_toN, z_inN, true_and, and_true, nI_add, pk_mul, vu_eq, vu_ne, nI_leI, nI_ltI, nI_eqI, nI_eq0, ↓ok_0, ↓ok_1, ↓bI_ok, if_true, if_false, ne_eq, not_true_eq_false, not_false_eq_true, nI_m1, nI_1ne, nI_0eq, bI_eq0, bI_ne0, Bool.false_eq_true, pk_sub, c_isVowel, c_inK, c_inN, iw_nI, decide_true, decide_false, Nat.add_sub_cancel, eB]
  have sc := hB.1.sc
  have r1 := hB.1.q10
  unfold s_near at hQ
  by_cases hx : iw x 101 = true
  · rw [if_pos hx] at hQ
    obtain ⟨h, hh, rfl⟩ := iw_ex hx
    rw [nI_toN (by omega)] at hQ
    simp (disch := omega) only [i_X8_near_5, i_X8_near_6, i_X8_near_7, i_X8_near_8, i_X8_near_11, i_X8_near_14, i_X8_near_20, i_X8_near_21, i_X8_near_24, i_X8_near_25, i_X8_near_26, i_X8_near_27, i_X8_near_30, i_X8_near_31, gh_o32, gh_r33, gh_r34, gh_r38, gh_r39, gh_r40, gh_w33, gh_w34, gh_w38, gh_w39, gh_w40, gh_u32, gp_32_0, gp_32_1, gp_32_10, gf_32_1, gf_32_2, gf_32_3, gf_32_7, gf_32_8, gf_32_9, gf_32_10, z_o_i, z_ai_i, z_si_i, z_ab_b, z_ab_z, z_sb_b, z_sb_z, z_al_i, z_al_b, z_pu_s, z_pu_n, nI_toN, z_inN, true_and, and_true, nI_add, pk_mul, vu_eq, vu_ne, nI_leI, nI_ltI, nI_eqI, nI_eq0, ↓ok_0, ↓ok_1, ↓bI_ok, if_true, if_false, ne_eq, not_true_eq_false, not_false_eq_true, nI_m1, nI_1ne, nI_0eq, bI_eq0, bI_ne0, Bool.false_eq_true, pk_sub, c_isVowel, c_inK, c_inN, iw_nI, decide_true, decide_false, Nat.add_sub_cancel, r1, hh]
    exact hQ _ ⟨hB.1.f10 (by omega), hB.2.1, hB.2.2⟩ (fB.up (by omega))
  · rw [if_neg hx] at hQ
    simp (disch := omega) only [i_X8_near_5, i_X8_near_6, i_X8_near_7, i_X8_near_8, i_X8_near_11, i_X8_near_14, i_X8_near_17, i_X8_near_19, gh_o32, gh_r33, gh_r34, gh_r38, gh_r39, gh_r40, gh_w33, gh_w34, gh_w38, gh_w39, gh_w40, gh_u32, gp_32_0, gp_32_1, gp_32_10, gf_32_1, gf_32_2, gf_32_3, gf_32_7, gf_32_8, gf_32_9, gf_32_10, z_o_i, z_ai_i, z_si_i, z_ab_b, z_ab_z, z_sb_b, z_sb_z, z_al_i, z_al_b, z_pu_s, z_pu_n, nI_toN, z_inN, true_and, and_true, nI_add, pk_mul, vu_eq, vu_ne, nI_leI, nI_ltI, nI_eqI, nI_eq0, ↓ok_0, ↓ok_1, ↓bI_ok, if_true, if_false, ne_eq, not_true_eq_false, not_false_eq_true, nI_m1, nI_1ne, nI_0eq, bI_eq0, bI_ne0, Bool.false_eq_true, pk_sub, c_isVowel, c_inK, c_inN, iw_nI, decide_true, decide_false, Nat.add_sub_cancel, r1, hx]
    exact hQ B hB fB
def s_speech (s : z_S) (x y : Int32) : Int32 × z_S := if iw x 40 = true ∧ iw y 40 = true ∧ (x.toNatClampNeg < 10 ↔ y.toNatClampNeg < 10) then (nI (s.1 40 x.toNatClampNeg), (va_up s.1 40 (va_up (s.1 40) x.toNatClampNeg y.toNatClampNeg), s.2)) else (-3, s)
theorem bI_eqI {c e : Prop} [Decidable c] [Decidable e] : (bI c = bI e) = (c ↔ e) := by
  by_cases h : c <;> by_cases g : e <;> simp [bI, h, g] <;> decide
theorem m_speech {x y : Int32} (hM : Mo s A) (hQ : ∀ B, Mo (s_speech s x y).2 B → Fk A B → Q (some (.int (s_speech s x y).1)) (GH B P dy) nx) : XC (d + 1) m_X8_speech [.ref 32, .int x, .int y] (GH A P dy) nx Q := by
  show X (d + 1) m_X8_speech 0 [some (.ref 32), some (.int x), some (.int y), none] [] (GH A P dy) nx 0 0 Q
  obtain ⟨B, eB, hB, fB⟩ := t0_ex hM
  simp (disch := omega) only [i_X8_speech_0, i_X8_speech_1, i_X8_speech_2, gh_o32, gh_r33, gh_r34, gh_r38, gh_r39, gh_r40, gh_w33, gh_w34, gh_w38, gh_w39, gh_w40, gh_u32, gp_32_0, gp_32_1, gp_32_10, gf_32_1, gf_32_2, gf_32_3, gf_32_7, gf_32_8, gf_32_9, gf_32_10, z_o_i, z_ai_i, z_si_i, z_ab_b, z_ab_z, z_sb_b, z_sb_z, z_al_i, z_al_b, z_pu_s, z_pu_n, nI_toN, z_inN, true_and, and_true, nI_add, pk_mul, vu_eq, vu_ne, nI_leI, nI_ltI, nI_eqI, nI_eq0, ↓ok_0, ↓ok_1, ↓bI_ok, if_true, if_false, ne_eq, not_true_eq_false, not_false_eq_true, nI_m1, nI_1ne, nI_0eq, bI_eq0, bI_ne0, Bool.false_eq_true, pk_sub, c_isVowel, c_inK, c_inN, iw_nI, decide_true, decide_false, Nat.add_sub_cancel, eB]
  have sc := hB.1.sc
  unfold s_speech at hQ
  by_cases hx : iw x 40 = true
  · by_cases hy : iw y 40 = true
    · obtain ⟨u, hu, rfl⟩ := iw_ex hx
      obtain ⟨v, hv, rfl⟩ := iw_ex hy
      rw [nI_toN (by omega), nI_toN (by omega)] at hQ
      have r1 := hB.1.r40 u
      by_cases c : (u < 10 ↔ v < 10)
      · rw [if_pos ⟨hx, hy, c⟩] at hQ
        simp (disch := omega) only [i_X8_speech_5, i_X8_speech_6, i_X8_speech_7, i_X8_speech_8, i_X8_speech_11, i_X8_speech_14, i_X8_speech_17, i_X8_speech_18, i_X8_speech_19, i_X8_speech_20, i_X8_speech_23, i_X8_speech_26, i_X8_speech_29, i_X8_speech_30, i_X8_speech_33, i_X8_speech_34, i_X8_speech_37, i_X8_speech_43, i_X8_speech_44, i_X8_speech_47, i_X8_speech_48, i_X8_speech_49, i_X8_speech_50, i_X8_speech_51, i_X8_speech_54, i_X8_speech_55, i_X8_speech_56, i_X8_speech_57, i_X8_speech_58, gh_o32, gh_r33, gh_r34, gh_r38, gh_r39, gh_r40, gh_w33, gh_w34, gh_w38, gh_w39, gh_w40, gh_u32, gp_32_0, gp_32_1, gp_32_10, gf_32_1, gf_32_2, gf_32_3, gf_32_7, gf_32_8, gf_32_9, gf_32_10, z_o_i, z_ai_i, z_si_i, z_ab_b, z_ab_z, z_sb_b, z_sb_z, z_al_i, z_al_b, z_pu_s, z_pu_n, nI_toN, z_inN, true_and, and_true, nI_add, pk_mul, vu_eq, vu_ne, nI_leI, nI_ltI, nI_eqI, nI_eq0, ↓ok_0, ↓ok_1, ↓bI_ok, if_true, if_false, ne_eq, not_true_eq_false, not_false_eq_true, nI_m1, nI_1ne, nI_0eq, bI_eq0, bI_ne0, Bool.false_eq_true, pk_sub, c_isVowel, c_inK, c_inN, iw_nI, decide_true, decide_false, Nat.add_sub_cancel, r1, hu, hv, bI_eqI, c]
        refine hQ _ ⟨hB.1.u40 (vs_rn hB.1.r40 rfl) (vs_lt hB.1.b40 hv), hB.2.1, ?_⟩ (fB.up (by omega))
        obtain ⟨⟨h1, h2⟩, h3⟩ := hB.2.2
        refine ⟨⟨fun z hz => ?_, h2⟩, h3⟩
        show va_up (s.1 40) u v z < 10 ↔ z < 10
        rw [vu_if]
        by_cases e : z = u
        · rw [if_pos e, e]; exact c.symm
        · rw [if_neg e]; exact h1 z hz
      · rw [if_neg (fun q => c q.2.2)] at hQ
        simp (disch := omega) only [i_X8_speech_5, i_X8_speech_6, i_X8_speech_7, i_X8_speech_8, i_X8_speech_11, i_X8_speech_14, i_X8_speech_17, i_X8_speech_18, i_X8_speech_19, i_X8_speech_20, i_X8_speech_23, i_X8_speech_26, i_X8_speech_29, i_X8_speech_30, i_X8_speech_33, i_X8_speech_34, i_X8_speech_37, i_X8_speech_40, i_X8_speech_42, gh_o32, gh_r33, gh_r34, gh_r38, gh_r39, gh_r40, gh_w33, gh_w34, gh_w38, gh_w39, gh_w40, gh_u32, gp_32_0, gp_32_1, gp_32_10, gf_32_1, gf_32_2, gf_32_3, gf_32_7, gf_32_8, gf_32_9, gf_32_10, z_o_i, z_ai_i, z_si_i, z_ab_b, z_ab_z, z_sb_b, z_sb_z, z_al_i, z_al_b, z_pu_s, z_pu_n, nI_toN, z_inN, true_and, and_true, nI_add, pk_mul, vu_eq, vu_ne, nI_leI, nI_ltI, nI_eqI, nI_eq0, ↓ok_0, ↓ok_1, ↓bI_ok, if_true, if_false, ne_eq, not_true_eq_false, not_false_eq_true, nI_m1, nI_1ne, nI_0eq, bI_eq0, bI_ne0, Bool.false_eq_true, pk_sub, c_isVowel, c_inK, c_inN, iw_nI, decide_true, decide_false, Nat.add_sub_cancel, hu, hv, bI_eqI, c]
        exact hQ B hB fB
    · rw [if_neg (fun q => hy q.2.1)] at hQ
      simp (disch := omega) only [i_X8_speech_5, i_X8_speech_6, i_X8_speech_7, i_X8_speech_8, i_X8_speech_11, i_X8_speech_14, i_X8_speech_17, i_X8_speech_18, i_X8_speech_19, i_X8_speech_20, i_X8_speech_23, i_X8_speech_26, i_X8_speech_40, i_X8_speech_42, gh_o32, gh_r33, gh_r34, gh_r38, gh_r39, gh_r40, gh_w33, gh_w34, gh_w38, gh_w39, gh_w40, gh_u32, gp_32_0, gp_32_1, gp_32_10, gf_32_1, gf_32_2, gf_32_3, gf_32_7, gf_32_8, gf_32_9, gf_32_10, z_o_i, z_ai_i, z_si_i, z_ab_b, z_ab_z, z_sb_b, z_sb_z, z_al_i, z_al_b, z_pu_s, z_pu_n, nI_toN, z_inN, true_and, and_true, nI_add, pk_mul, vu_eq, vu_ne, nI_leI, nI_ltI, nI_eqI, nI_eq0, ↓ok_0, ↓ok_1, ↓bI_ok, if_true, if_false, ne_eq, not_true_eq_false, not_false_eq_true, nI_m1, nI_1ne, nI_0eq, bI_eq0, bI_ne0, Bool.false_eq_true, pk_sub, c_isVowel, c_inK, c_inN, iw_nI, decide_true, decide_false, Nat.add_sub_cancel, hx, hy]
      exact hQ B hB fB
  · rw [if_neg (fun q => hx q.1)] at hQ
    simp (disch := omega) only [i_X8_speech_5, i_X8_speech_6, i_X8_speech_7, i_X8_speech_8, i_X8_speech_11, i_X8_speech_14, i_X8_speech_40, i_X8_speech_42, gh_o32, gh_r33, gh_r34, gh_r38, gh_r39, gh_r40, gh_w33, gh_w34, gh_w38, gh_w39, gh_w40, gh_u32, gp_32_0, gp_32_1, gp_32_10, gf_32_1, gf_32_2, gf_32_3, gf_32_7, gf_32_8, gf_32_9, gf_32_10, z_o_i, z_ai_i, z_si_i, z_ab_b, z_ab_z, z_sb_b, z_sb_z, z_al_i, z_al_b, z_pu_s, z_pu_n, nI_toN, z_inN, true_and, and_true, nI_add, pk_mul, vu_eq, vu_ne, nI_leI, nI_ltI, nI_eqI, nI_eq0, ↓ok_0, ↓ok_1, ↓bI_ok, if_true, if_false, ne_eq, not_true_eq_false, not_false_eq_true, nI_m1, nI_1ne, nI_0eq, bI_eq0, bI_ne0, Bool.false_eq_true, pk_sub, c_isVowel, c_inK, c_inN, iw_nI, decide_true, decide_false, Nat.add_sub_cancel, hx]
    exact hQ B hB fB
end MPub
