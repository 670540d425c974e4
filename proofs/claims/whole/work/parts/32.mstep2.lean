/-! THE MODEL: step -/
def ag (m st : Nat) : Bool := decide (m = 2 ∨ st = 1 ∨ st = 2 * m)
def s1q (mk : Nat → Nat) (marks st u n c : Nat) (s : Nat → Nat × Nat) : Nat → Nat × Nat := if u < marks ∧ ag (mk u) st = true then tu s (8 * (u + 1) + 1) n c else s
def s2q (mk : Nat → Nat) (marks st u n c : Nat) (s : Nat → Nat × Nat) : Nat → Nat × Nat := if mk u = 0 ∧ st = 2 ∧ u + 1 < marks ∧ mk (u + 1) = 1 then tu s (8 * (u + 1) + 5) n (c + 3) else s
def s3q (st k n c : Nat) (s : Nat → Nat × Nat) : Nat → Nat × Nat := if st = 0 ∧ k % 2 = 1 then tu s k n (c + 2) else s
def s4q (marks st u n c : Nat) (s : Nat → Nat × Nat) : Nat → Nat × Nat := if st = 0 ∧ u = marks then tu s (8 * u + 3) n (c + 1) else s
def stq (mk : Nat → Nat) (marks st k n c : Nat) (s : Nat → Nat × Nat) : Nat → Nat × Nat :=
  if k / 2 % 2 = 1 then s else if k / 4 % 2 = 1 then (if st = 0 then tu s (8 * (k / 8 + 1) + 1) n c else s)
  else s4q marks st (k / 8) n c (s3q st k n c (s2q mk marks st (k / 8) n c (s1q mk marks st (k / 8) n c s)))
/-- what step reads -/
def Sc (mk : Nat → Nat) (marks k n c : Nat) (A : Nat → Nat → Int32) : Prop := A 32 11 = nI marks ∧ (∀ j, j < 12 → A 41 j = nI (mk j)) ∧ A 54 k = nI n ∧ A 55 k = nI c
theorem Sc.fs {mk : Nat → Nat} {marks k n c : Nat} {A C : Nat → Nat → Int32} (h : Sc mk marks k n c A) (f : Fs A C) : Sc mk marks k n c C := by
  obtain ⟨h1, h2, h3, h4⟩ := h
  refine ⟨?_, fun j hj => ?_, ?_, ?_⟩
  · rw [f 32 (by omega) (by omega)]; exact h1
  · rw [f 41 (by omega) (by omega)]; exact h2 j hj
  · rw [f 54 (by omega) (by omega)]; exact h3
  · rw [f 55 (by omega) (by omega)]; exact h4
section MStep2
variable {a : Nat → Nat → Nat} {A : Nat → Nat → Int32} {P : Nat → Nat → Nat} {dy : z_H} {d nx bc bs : Nat} {Q : z_Q} {mk : Nat → Nat} {marks k n c st B : Nat} {s : Nat → Nat × Nat} {x4 : Option Value}
theorem s_st4 (hS : Sc mk marks k n c A) (hm : marks ≤ 12) (hk : k < 112) (hst : st ≤ 2) (hn : 0 < n ∧ n ≤ 1000000) (hc : c + 3 ≤ B) (hB : B ≤ 2000) (hr : Rs 1000000000 B 112 s (A 60) (A 61)) (hQ : ∀ C, Fs A C → Rs 1000000000 B 112 (s4q marks st (k / 8) n c s) (C 60) (C 61) → Q none (GH C P dy) nx) : X (d + 1) m_X8_step 200 [some (.ref 32), some (.int (nI k)), some (.int (nI st)), some (.int (nI (k / 8))), x4] [] (GH A P dy) nx bc bs Q := by
  obtain ⟨h1, h2, h3, h4⟩ := hS
  have q := hQ
  unfold s4q at q
  by_cases e0 : st = 0
  · by_cases e1 : k / 8 = marks
    · rw [if_pos ⟨e0, e1⟩] at q
      simp (disch := omega) only [i_X8_step_200, i_X8_step_201, i_X8_step_204, i_X8_step_205, i_X8_step_206, i_X8_step_209, i_X8_step_212, i_X8_step_213, i_X8_step_215, i_X8_step_216, i_X8_step_217, i_X8_step_218, i_X8_step_219, i_X8_step_220, i_X8_step_223, i_X8_step_224, i_X8_step_225, i_X8_step_226, i_X8_step_229, i_X8_step_230, i_X8_step_231, i_X8_step_232, i_X8_step_233, gh_o32, gh_r41, gh_r54, gh_r55, gh_r60, gh_r61, gh_w60, gh_w61, gf_32_11, gf_32_12, gf_32_28, gf_32_29, gf_32_34, gf_32_35, z_o_i, z_ai_i, z_si_i, z_ab_b, z_ab_z, z_sb_b, z_sb_z, z_al_i, z_al_b, z_pu_s, z_pu_n, nI_toN, z_inN, true_and, and_true, nI_add, pk_mul, vu_eq, vu_ne, nI_leI, nI_ltI, nI_eqI, nI_eq0, ↓ok_0, ↓ok_1, bI_eq0, bI_ne0, ↓bI_ok, Nat.one_ne_zero, c_isVowel, if_true, if_false, ne_eq, not_true_eq_false, not_false_eq_true, nI_1ne, nI_0eq, nI_le0, pk_sub, bI_T, bI_F, Nat.zero_ne_one, Bool.false_eq_true, h1, h3, h4, e0, e1]
      refine c_come (by omega) hn (by omega) hB hr (fun C hC hr' => ?_)
      simp (disch := omega) only [i_X8_step_236, gh_o32, gh_r41, gh_r54, gh_r55, gh_r60, gh_r61, gh_w60, gh_w61, gf_32_11, gf_32_12, gf_32_28, gf_32_29, gf_32_34, gf_32_35, z_o_i, z_ai_i, z_si_i, z_ab_b, z_ab_z, z_sb_b, z_sb_z, z_al_i, z_al_b, z_pu_s, z_pu_n, nI_toN, z_inN, true_and, and_true, nI_add, pk_mul, vu_eq, vu_ne, nI_leI, nI_ltI, nI_eqI, nI_eq0, ↓ok_0, ↓ok_1, bI_eq0, bI_ne0, ↓bI_ok, Nat.one_ne_zero, c_isVowel, if_true, if_false, ne_eq, not_true_eq_false, not_false_eq_true, nI_1ne, nI_0eq, nI_le0, pk_sub, bI_T, bI_F, Nat.zero_ne_one, Bool.false_eq_true]
      rw [e1] at q
      exact q C hC hr'
    · rw [if_neg (fun z => e1 z.2)] at q
      simp (disch := omega) only [i_X8_step_200, i_X8_step_201, i_X8_step_204, i_X8_step_205, i_X8_step_206, i_X8_step_209, i_X8_step_236, gh_o32, gh_r41, gh_r54, gh_r55, gh_r60, gh_r61, gh_w60, gh_w61, gf_32_11, gf_32_12, gf_32_28, gf_32_29, gf_32_34, gf_32_35, z_o_i, z_ai_i, z_si_i, z_ab_b, z_ab_z, z_sb_b, z_sb_z, z_al_i, z_al_b, z_pu_s, z_pu_n, nI_toN, z_inN, true_and, and_true, nI_add, pk_mul, vu_eq, vu_ne, nI_leI, nI_ltI, nI_eqI, nI_eq0, ↓ok_0, ↓ok_1, bI_eq0, bI_ne0, ↓bI_ok, Nat.one_ne_zero, c_isVowel, if_true, if_false, ne_eq, not_true_eq_false, not_false_eq_true, nI_1ne, nI_0eq, nI_le0, pk_sub, bI_T, bI_F, Nat.zero_ne_one, Bool.false_eq_true, h1, e0, e1]
      exact q A Fs.refl hr
  · rw [if_neg (fun z => e0 z.1)] at q
    simp (disch := omega) only [i_X8_step_200, i_X8_step_201, i_X8_step_236, gh_o32, gh_r41, gh_r54, gh_r55, gh_r60, gh_r61, gh_w60, gh_w61, gf_32_11, gf_32_12, gf_32_28, gf_32_29, gf_32_34, gf_32_35, z_o_i, z_ai_i, z_si_i, z_ab_b, z_ab_z, z_sb_b, z_sb_z, z_al_i, z_al_b, z_pu_s, z_pu_n, nI_toN, z_inN, true_and, and_true, nI_add, pk_mul, vu_eq, vu_ne, nI_leI, nI_ltI, nI_eqI, nI_eq0, ↓ok_0, ↓ok_1, bI_eq0, bI_ne0, ↓bI_ok, Nat.one_ne_zero, c_isVowel, if_true, if_false, ne_eq, not_true_eq_false, not_false_eq_true, nI_1ne, nI_0eq, nI_le0, pk_sub, bI_T, bI_F, Nat.zero_ne_one, Bool.false_eq_true, e0]
    exact q A Fs.refl hr
theorem s_st3 (hS : Sc mk marks k n c A) (hk : k < 112) (hst : st ≤ 2) (hn : 0 < n ∧ n ≤ 1000000) (hc : c + 3 ≤ B) (hB : B ≤ 2000) (hr : Rs 1000000000 B 112 s (A 60) (A 61)) (hQ : ∀ C, Fs A C → Rs 1000000000 B 112 (s3q st k n c s) (C 60) (C 61) → X (d + 1) m_X8_step 200 [some (.ref 32), some (.int (nI k)), some (.int (nI st)), some (.int (nI (k / 8))), x4] [] (GH C P dy) nx bc bs Q) : X (d + 1) m_X8_step 170 [some (.ref 32), some (.int (nI k)), some (.int (nI st)), some (.int (nI (k / 8))), x4] [] (GH A P dy) nx bc bs Q := by
  obtain ⟨h1, h2, h3, h4⟩ := hS
  have q := hQ
  unfold s3q at q
  by_cases e0 : st = 0
  · by_cases e1 : k % 2 = 1
    · rw [if_pos ⟨e0, e1⟩] at q
      simp (disch := omega) only [i_X8_step_170, i_X8_step_171, i_X8_step_174, i_X8_step_175, i_X8_step_176, i_X8_step_177, i_X8_step_178, i_X8_step_181, i_X8_step_182, i_X8_step_183, i_X8_step_184, i_X8_step_187, i_X8_step_188, i_X8_step_189, i_X8_step_190, i_X8_step_193, i_X8_step_194, i_X8_step_195, i_X8_step_196, i_X8_step_197, gh_o32, gh_r41, gh_r54, gh_r55, gh_r60, gh_r61, gh_w60, gh_w61, gf_32_11, gf_32_12, gf_32_28, gf_32_29, gf_32_34, gf_32_35, z_o_i, z_ai_i, z_si_i, z_ab_b, z_ab_z, z_sb_b, z_sb_z, z_al_i, z_al_b, z_pu_s, z_pu_n, nI_toN, z_inN, true_and, and_true, nI_add, pk_mul, vu_eq, vu_ne, nI_leI, nI_ltI, nI_eqI, nI_eq0, ↓ok_0, ↓ok_1, bI_eq0, bI_ne0, ↓bI_ok, Nat.one_ne_zero, c_isVowel, if_true, if_false, ne_eq, not_true_eq_false, not_false_eq_true, nI_1ne, nI_0eq, nI_le0, pk_sub, bI_T, bI_F, Nat.zero_ne_one, Bool.false_eq_true, h1, h3, h4, e0, an1, e1]
      refine c_come (by omega) hn (by omega) hB hr (fun C hC hr' => ?_)
      simp (disch := omega) only [gh_o32, gh_r41, gh_r54, gh_r55, gh_r60, gh_r61, gh_w60, gh_w61, gf_32_11, gf_32_12, gf_32_28, gf_32_29, gf_32_34, gf_32_35, z_o_i, z_ai_i, z_si_i, z_ab_b, z_ab_z, z_sb_b, z_sb_z, z_al_i, z_al_b, z_pu_s, z_pu_n, nI_toN, z_inN, true_and, and_true, nI_add, pk_mul, vu_eq, vu_ne, nI_leI, nI_ltI, nI_eqI, nI_eq0, ↓ok_0, ↓ok_1, bI_eq0, bI_ne0, ↓bI_ok, Nat.one_ne_zero, c_isVowel, if_true, if_false, ne_eq, not_true_eq_false, not_false_eq_true, nI_1ne, nI_0eq, nI_le0, pk_sub, bI_T, bI_F, Nat.zero_ne_one, Bool.false_eq_true]
      rw [e0] at q
      exact q C hC hr'
    · rw [if_neg (fun z => e1 z.2)] at q
      simp (disch := omega) only [i_X8_step_170, i_X8_step_171, i_X8_step_174, i_X8_step_175, i_X8_step_176, i_X8_step_177, i_X8_step_178, gh_o32, gh_r41, gh_r54, gh_r55, gh_r60, gh_r61, gh_w60, gh_w61, gf_32_11, gf_32_12, gf_32_28, gf_32_29, gf_32_34, gf_32_35, z_o_i, z_ai_i, z_si_i, z_ab_b, z_ab_z, z_sb_b, z_sb_z, z_al_i, z_al_b, z_pu_s, z_pu_n, nI_toN, z_inN, true_and, and_true, nI_add, pk_mul, vu_eq, vu_ne, nI_leI, nI_ltI, nI_eqI, nI_eq0, ↓ok_0, ↓ok_1, bI_eq0, bI_ne0, ↓bI_ok, Nat.one_ne_zero, c_isVowel, if_true, if_false, ne_eq, not_true_eq_false, not_false_eq_true, nI_1ne, nI_0eq, nI_le0, pk_sub, bI_T, bI_F, Nat.zero_ne_one, Bool.false_eq_true, h1, e0, an1, e1]
      rw [e0] at q
      exact q A Fs.refl hr
  · rw [if_neg (fun z => e0 z.1)] at q
    simp (disch := omega) only [i_X8_step_170, i_X8_step_171, gh_o32, gh_r41, gh_r54, gh_r55, gh_r60, gh_r61, gh_w60, gh_w61, gf_32_11, gf_32_12, gf_32_28, gf_32_29, gf_32_34, gf_32_35, z_o_i, z_ai_i, z_si_i, z_ab_b, z_ab_z, z_sb_b, z_sb_z, z_al_i, z_al_b, z_pu_s, z_pu_n, nI_toN, z_inN, true_and, and_true, nI_add, pk_mul, vu_eq, vu_ne, nI_leI, nI_ltI, nI_eqI, nI_eq0, ↓ok_0, ↓ok_1, bI_eq0, bI_ne0, ↓bI_ok, Nat.one_ne_zero, c_isVowel, if_true, if_false, ne_eq, not_true_eq_false, not_false_eq_true, nI_1ne, nI_0eq, nI_le0, pk_sub, bI_T, bI_F, Nat.zero_ne_one, Bool.false_eq_true, e0]
    exact q A Fs.refl hr
theorem s_st2 (hS : Sc mk marks k n c A) (hm : marks ≤ 12) (bm : ∀ j, mk j ≤ 2) (hu : k / 8 < marks) (hk : k < 112) (hst : st ≤ 2) (hn : 0 < n ∧ n ≤ 1000000) (hc : c + 3 ≤ B) (hB : B ≤ 2000) (hr : Rs 1000000000 B 112 s (A 60) (A 61)) (hQ : ∀ C, Fs A C → Rs 1000000000 B 112 (s2q mk marks st (k / 8) n c s) (C 60) (C 61) → X (d + 1) m_X8_step 170 [some (.ref 32), some (.int (nI k)), some (.int (nI st)), some (.int (nI (k / 8))), some (.int (nI (mk (k / 8))))] [] (GH C P dy) nx bc bs Q) : X (d + 1) m_X8_step 112 [some (.ref 32), some (.int (nI k)), some (.int (nI st)), some (.int (nI (k / 8))), some (.int (nI (mk (k / 8))))] [] (GH A P dy) nx bc bs Q := by
  obtain ⟨h1, h2, h3, h4⟩ := hS
  have q := hQ
  unfold s2q at q
  have b0 := bm (k / 8)
  have b1 := bm (k / 8 + 1)
  by_cases e0 : mk (k / 8) = 0
  · by_cases e1 : st = 2
    · by_cases e2 : k / 8 + 1 < marks
      · have e2' : ¬ marks ≤ k / 8 + 1 := by omega
        have h41 := h2 (k / 8 + 1) (by omega)
        by_cases e3 : mk (k / 8 + 1) = 1
        · rw [if_pos ⟨e0, e1, e2, e3⟩] at q
          simp (disch := omega) only [i_X8_step_112, i_X8_step_114, i_X8_step_117, i_X8_step_118, i_X8_step_119, i_X8_step_122, i_X8_step_123, i_X8_step_124, i_X8_step_125, i_X8_step_126, i_X8_step_129, i_X8_step_132, i_X8_step_133, i_X8_step_136, i_X8_step_137, i_X8_step_138, i_X8_step_139, i_X8_step_140, i_X8_step_141, i_X8_step_144, i_X8_step_145, i_X8_step_147, i_X8_step_148, i_X8_step_149, i_X8_step_150, i_X8_step_151, i_X8_step_152, i_X8_step_153, i_X8_step_154, i_X8_step_157, i_X8_step_158, i_X8_step_159, i_X8_step_160, i_X8_step_163, i_X8_step_164, i_X8_step_165, i_X8_step_166, i_X8_step_167, gh_o32, gh_r41, gh_r54, gh_r55, gh_r60, gh_r61, gh_w60, gh_w61, gf_32_11, gf_32_12, gf_32_28, gf_32_29, gf_32_34, gf_32_35, z_o_i, z_ai_i, z_si_i, z_ab_b, z_ab_z, z_sb_b, z_sb_z, z_al_i, z_al_b, z_pu_s, z_pu_n, nI_toN, z_inN, true_and, and_true, nI_add, pk_mul, vu_eq, vu_ne, nI_leI, nI_ltI, nI_eqI, nI_eq0, ↓ok_0, ↓ok_1, bI_eq0, bI_ne0, ↓bI_ok, Nat.one_ne_zero, c_isVowel, if_true, if_false, ne_eq, not_true_eq_false, not_false_eq_true, nI_1ne, nI_0eq, nI_le0, pk_sub, bI_T, bI_F, Nat.zero_ne_one, Bool.false_eq_true, h1, h3, h4, h41, e0, e1, e2', e3]
          refine c_come (by omega) hn (by omega) hB hr (fun C hC hr' => ?_)
          simp (disch := omega) only [gh_o32, gh_r41, gh_r54, gh_r55, gh_r60, gh_r61, gh_w60, gh_w61, gf_32_11, gf_32_12, gf_32_28, gf_32_29, gf_32_34, gf_32_35, z_o_i, z_ai_i, z_si_i, z_ab_b, z_ab_z, z_sb_b, z_sb_z, z_al_i, z_al_b, z_pu_s, z_pu_n, nI_toN, z_inN, true_and, and_true, nI_add, pk_mul, vu_eq, vu_ne, nI_leI, nI_ltI, nI_eqI, nI_eq0, ↓ok_0, ↓ok_1, bI_eq0, bI_ne0, ↓bI_ok, Nat.one_ne_zero, c_isVowel, if_true, if_false, ne_eq, not_true_eq_false, not_false_eq_true, nI_1ne, nI_0eq, nI_le0, pk_sub, bI_T, bI_F, Nat.zero_ne_one, Bool.false_eq_true]
          rw [e0, e1] at q
          exact q C hC hr'
        · rw [if_neg (fun z => e3 z.2.2.2)] at q
          simp (disch := omega) only [i_X8_step_112, i_X8_step_114, i_X8_step_117, i_X8_step_118, i_X8_step_119, i_X8_step_122, i_X8_step_123, i_X8_step_124, i_X8_step_125, i_X8_step_126, i_X8_step_129, i_X8_step_132, i_X8_step_133, i_X8_step_136, i_X8_step_137, i_X8_step_138, i_X8_step_139, i_X8_step_140, i_X8_step_141, gh_o32, gh_r41, gh_r54, gh_r55, gh_r60, gh_r61, gh_w60, gh_w61, gf_32_11, gf_32_12, gf_32_28, gf_32_29, gf_32_34, gf_32_35, z_o_i, z_ai_i, z_si_i, z_ab_b, z_ab_z, z_sb_b, z_sb_z, z_al_i, z_al_b, z_pu_s, z_pu_n, nI_toN, z_inN, true_and, and_true, nI_add, pk_mul, vu_eq, vu_ne, nI_leI, nI_ltI, nI_eqI, nI_eq0, ↓ok_0, ↓ok_1, bI_eq0, bI_ne0, ↓bI_ok, Nat.one_ne_zero, c_isVowel, if_true, if_false, ne_eq, not_true_eq_false, not_false_eq_true, nI_1ne, nI_0eq, nI_le0, pk_sub, bI_T, bI_F, Nat.zero_ne_one, Bool.false_eq_true, h1, h3, h4, h41, e0, e1, e2', e3]
          rw [e0, e1] at q
          exact q A Fs.refl hr
      · have e2' : marks ≤ k / 8 + 1 := by omega
        rw [if_neg (fun z => e2 z.2.2.1)] at q
        simp (disch := omega) only [i_X8_step_112, i_X8_step_114, i_X8_step_117, i_X8_step_118, i_X8_step_119, i_X8_step_122, i_X8_step_123, i_X8_step_124, i_X8_step_125, i_X8_step_126, i_X8_step_129, gh_o32, gh_r41, gh_r54, gh_r55, gh_r60, gh_r61, gh_w60, gh_w61, gf_32_11, gf_32_12, gf_32_28, gf_32_29, gf_32_34, gf_32_35, z_o_i, z_ai_i, z_si_i, z_ab_b, z_ab_z, z_sb_b, z_sb_z, z_al_i, z_al_b, z_pu_s, z_pu_n, nI_toN, z_inN, true_and, and_true, nI_add, pk_mul, vu_eq, vu_ne, nI_leI, nI_ltI, nI_eqI, nI_eq0, ↓ok_0, ↓ok_1, bI_eq0, bI_ne0, ↓bI_ok, Nat.one_ne_zero, c_isVowel, if_true, if_false, ne_eq, not_true_eq_false, not_false_eq_true, nI_1ne, nI_0eq, nI_le0, pk_sub, bI_T, bI_F, Nat.zero_ne_one, Bool.false_eq_true, h1, e0, e1, e2']
        rw [e0, e1] at q
        exact q A Fs.refl hr
    · rw [if_neg (fun z => e1 z.2.1)] at q
      simp (disch := omega) only [i_X8_step_112, i_X8_step_114, i_X8_step_117, i_X8_step_118, i_X8_step_119, gh_o32, gh_r41, gh_r54, gh_r55, gh_r60, gh_r61, gh_w60, gh_w61, gf_32_11, gf_32_12, gf_32_28, gf_32_29, gf_32_34, gf_32_35, z_o_i, z_ai_i, z_si_i, z_ab_b, z_ab_z, z_sb_b, z_sb_z, z_al_i, z_al_b, z_pu_s, z_pu_n, nI_toN, z_inN, true_and, and_true, nI_add, pk_mul, vu_eq, vu_ne, nI_leI, nI_ltI, nI_eqI, nI_eq0, ↓ok_0, ↓ok_1, bI_eq0, bI_ne0, ↓bI_ok, Nat.one_ne_zero, c_isVowel, if_true, if_false, ne_eq, not_true_eq_false, not_false_eq_true, nI_1ne, nI_0eq, nI_le0, pk_sub, bI_T, bI_F, Nat.zero_ne_one, Bool.false_eq_true, h1, e0, e1]
      rw [e0] at q
      exact q A Fs.refl hr
  · rw [if_neg (fun z => e0 z.1)] at q
    simp (disch := omega) only [i_X8_step_112, i_X8_step_114, gh_o32, gh_r41, gh_r54, gh_r55, gh_r60, gh_r61, gh_w60, gh_w61, gf_32_11, gf_32_12, gf_32_28, gf_32_29, gf_32_34, gf_32_35, z_o_i, z_ai_i, z_si_i, z_ab_b, z_ab_z, z_sb_b, z_sb_z, z_al_i, z_al_b, z_pu_s, z_pu_n, nI_toN, z_inN, true_and, and_true, nI_add, pk_mul, vu_eq, vu_ne, nI_leI, nI_ltI, nI_eqI, nI_eq0, ↓ok_0, ↓ok_1, bI_eq0, bI_ne0, ↓bI_ok, Nat.one_ne_zero, c_isVowel, if_true, if_false, ne_eq, not_true_eq_false, not_false_eq_true, nI_1ne, nI_0eq, nI_le0, pk_sub, bI_T, bI_F, Nat.zero_ne_one, Bool.false_eq_true, h1, e0]
    exact q A Fs.refl hr
theorem s_st1 (hS : Sc mk marks k n c A) (hm : marks ≤ 12) (bm : ∀ j, mk j ≤ 2) (hu : k / 8 < marks) (hk : k < 112) (hst : st ≤ 2) (hn : 0 < n ∧ n ≤ 1000000) (hc : c + 3 ≤ B) (hB : B ≤ 2000) (hr : Rs 1000000000 B 112 s (A 60) (A 61)) (hQ : ∀ C, Fs A C → Rs 1000000000 B 112 (s1q mk marks st (k / 8) n c s) (C 60) (C 61) → X (d + 1) m_X8_step 112 [some (.ref 32), some (.int (nI k)), some (.int (nI st)), some (.int (nI (k / 8))), some (.int (nI (mk (k / 8))))] [] (GH C P dy) nx bc bs Q) : X (d + 1) m_X8_step 53 [some (.ref 32), some (.int (nI k)), some (.int (nI st)), some (.int (nI (k / 8))), x4] [] (GH A P dy) nx bc bs Q := by
  obtain ⟨h1, h2, h3, h4⟩ := hS
  have q := hQ
  unfold s1q at q
  have b0 := bm (k / 8)
  have h41 := h2 (k / 8) (by omega)
  have le : ¬ marks ≤ k / 8 := by omega
  have go : ∀ (g : ag (mk (k / 8)) st = true), X (d + 1) m_X8_step 88 [some (.ref 32), some (.int (nI k)), some (.int (nI st)), some (.int (nI (k / 8))), some (.int (nI (mk (k / 8))))] [] (GH A P dy) nx bc bs Q := by
    intro g
    rw [if_pos ⟨hu, g⟩] at q
    simp (disch := omega) only [i_X8_step_88, i_X8_step_89, i_X8_step_91, i_X8_step_92, i_X8_step_93, i_X8_step_94, i_X8_step_95, i_X8_step_96, i_X8_step_97, i_X8_step_98, i_X8_step_101, i_X8_step_102, i_X8_step_103, i_X8_step_104, i_X8_step_107, i_X8_step_108, i_X8_step_109, gh_o32, gh_r41, gh_r54, gh_r55, gh_r60, gh_r61, gh_w60, gh_w61, gf_32_11, gf_32_12, gf_32_28, gf_32_29, gf_32_34, gf_32_35, z_o_i, z_ai_i, z_si_i, z_ab_b, z_ab_z, z_sb_b, z_sb_z, z_al_i, z_al_b, z_pu_s, z_pu_n, nI_toN, z_inN, true_and, and_true, nI_add, pk_mul, vu_eq, vu_ne, nI_leI, nI_ltI, nI_eqI, nI_eq0, ↓ok_0, ↓ok_1, bI_eq0, bI_ne0, ↓bI_ok, Nat.one_ne_zero, c_isVowel, if_true, if_false, ne_eq, not_true_eq_false, not_false_eq_true, nI_1ne, nI_0eq, nI_le0, pk_sub, bI_T, bI_F, Nat.zero_ne_one, Bool.false_eq_true, h1, h3, h4]
    refine c_come (by omega) hn (by omega) hB hr (fun C hC hr' => ?_)
    simp (disch := omega) only [gh_o32, gh_r41, gh_r54, gh_r55, gh_r60, gh_r61, gh_w60, gh_w61, gf_32_11, gf_32_12, gf_32_28, gf_32_29, gf_32_34, gf_32_35, z_o_i, z_ai_i, z_si_i, z_ab_b, z_ab_z, z_sb_b, z_sb_z, z_al_i, z_al_b, z_pu_s, z_pu_n, nI_toN, z_inN, true_and, and_true, nI_add, pk_mul, vu_eq, vu_ne, nI_leI, nI_ltI, nI_eqI, nI_eq0, ↓ok_0, ↓ok_1, bI_eq0, bI_ne0, ↓bI_ok, Nat.one_ne_zero, c_isVowel, if_true, if_false, ne_eq, not_true_eq_false, not_false_eq_true, nI_1ne, nI_0eq, nI_le0, pk_sub, bI_T, bI_F, Nat.zero_ne_one, Bool.false_eq_true]
    exact q C hC hr'
  by_cases e0 : mk (k / 8) = 2
  · have g := go (by simp only [ag, decide_eq_true_eq]; exact Or.inl e0)
    rw [e0] at h41 g
    simp (disch := omega) only [i_X8_step_53, i_X8_step_54, i_X8_step_55, i_X8_step_58, i_X8_step_61, i_X8_step_62, i_X8_step_65, i_X8_step_66, i_X8_step_67, i_X8_step_69, i_X8_step_71, i_X8_step_72, gh_o32, gh_r41, gh_r54, gh_r55, gh_r60, gh_r61, gh_w60, gh_w61, gf_32_11, gf_32_12, gf_32_28, gf_32_29, gf_32_34, gf_32_35, z_o_i, z_ai_i, z_si_i, z_ab_b, z_ab_z, z_sb_b, z_sb_z, z_al_i, z_al_b, z_pu_s, z_pu_n, nI_toN, z_inN, true_and, and_true, nI_add, pk_mul, vu_eq, vu_ne, nI_leI, nI_ltI, nI_eqI, nI_eq0, ↓ok_0, ↓ok_1, bI_eq0, bI_ne0, ↓bI_ok, Nat.one_ne_zero, c_isVowel, if_true, if_false, ne_eq, not_true_eq_false, not_false_eq_true, nI_1ne, nI_0eq, nI_le0, pk_sub, bI_T, bI_F, Nat.zero_ne_one, Bool.false_eq_true, h1, h41, le]
    exact g
  · by_cases e1 : st = 1
    · have g := go (by simp only [ag, decide_eq_true_eq]; exact Or.inr (Or.inl e1))
      rw [e1] at g
      simp (disch := omega) only [i_X8_step_53, i_X8_step_54, i_X8_step_55, i_X8_step_58, i_X8_step_61, i_X8_step_62, i_X8_step_65, i_X8_step_66, i_X8_step_67, i_X8_step_69, i_X8_step_71, i_X8_step_72, i_X8_step_75, i_X8_step_76, i_X8_step_77, gh_o32, gh_r41, gh_r54, gh_r55, gh_r60, gh_r61, gh_w60, gh_w61, gf_32_11, gf_32_12, gf_32_28, gf_32_29, gf_32_34, gf_32_35, z_o_i, z_ai_i, z_si_i, z_ab_b, z_ab_z, z_sb_b, z_sb_z, z_al_i, z_al_b, z_pu_s, z_pu_n, nI_toN, z_inN, true_and, and_true, nI_add, pk_mul, vu_eq, vu_ne, nI_leI, nI_ltI, nI_eqI, nI_eq0, ↓ok_0, ↓ok_1, bI_eq0, bI_ne0, ↓bI_ok, Nat.one_ne_zero, c_isVowel, if_true, if_false, ne_eq, not_true_eq_false, not_false_eq_true, nI_1ne, nI_0eq, nI_le0, pk_sub, bI_T, bI_F, Nat.zero_ne_one, Bool.false_eq_true, h1, h41, le, e0, e1]
      exact g
    · by_cases e2 : st = 2 * mk (k / 8)
      · have g := go (by simp only [ag, decide_eq_true_eq]; exact Or.inr (Or.inr e2))
        have e2' : (nI st = nI (2 * mk (k / 8))) = True := by rw [nI_eqI (by omega) (by omega)]; simp only [eq_iff_iff, iff_true]; exact e2
        simp (disch := omega) only [i_X8_step_53, i_X8_step_54, i_X8_step_55, i_X8_step_58, i_X8_step_61, i_X8_step_62, i_X8_step_65, i_X8_step_66, i_X8_step_67, i_X8_step_69, i_X8_step_71, i_X8_step_72, i_X8_step_75, i_X8_step_76, i_X8_step_77, i_X8_step_80, i_X8_step_81, i_X8_step_82, i_X8_step_84, i_X8_step_85, z_o_i, z_ai_i, z_si_i, z_ab_b, z_ab_z, z_sb_b, z_sb_z, z_al_i, z_al_b, z_pu_s, z_pu_n, nI_toN, z_inN, true_and, and_true, nI_add, pk_mul, vu_eq, vu_ne, gh_o32, gh_r41, gf_32_11, gf_32_12, nI_leI, ne_eq, if_false, if_true, not_true_eq_false, h1, h41, le, e2']
        rw [if_neg (by rw [nI_eqI (by omega) (by omega)]; exact e0), if_neg (by rw [nI_eqI (by omega) (by omega)]; exact e1)]
        exact g
      · rw [if_neg (fun z => by have := z.2; simp only [ag, decide_eq_true_eq] at this; omega)] at q
        simp (disch := omega) only [i_X8_step_53, i_X8_step_54, i_X8_step_55, i_X8_step_58, i_X8_step_61, i_X8_step_62, i_X8_step_65, i_X8_step_66, i_X8_step_67, i_X8_step_69, i_X8_step_71, i_X8_step_72, i_X8_step_75, i_X8_step_76, i_X8_step_77, i_X8_step_80, i_X8_step_81, i_X8_step_82, i_X8_step_84, i_X8_step_85, gh_o32, gh_r41, gh_r54, gh_r55, gh_r60, gh_r61, gh_w60, gh_w61, gf_32_11, gf_32_12, gf_32_28, gf_32_29, gf_32_34, gf_32_35, z_o_i, z_ai_i, z_si_i, z_ab_b, z_ab_z, z_sb_b, z_sb_z, z_al_i, z_al_b, z_pu_s, z_pu_n, nI_toN, z_inN, true_and, and_true, nI_add, pk_mul, vu_eq, vu_ne, nI_leI, nI_ltI, nI_eqI, nI_eq0, ↓ok_0, ↓ok_1, bI_eq0, bI_ne0, ↓bI_ok, Nat.one_ne_zero, c_isVowel, if_true, if_false, ne_eq, not_true_eq_false, not_false_eq_true, nI_1ne, nI_0eq, nI_le0, pk_sub, bI_T, bI_F, Nat.zero_ne_one, Bool.false_eq_true, h1, h41, le, e0, e1, e2]
        exact q A Fs.refl hr
theorem c_step (hS : Sc mk marks k n c A) (hm : marks ≤ 12) (bm : ∀ j, mk j ≤ 2) (hk : k < 112) (ht : k / 4 % 2 = 1 → k / 8 ≤ 12) (hst : st ≤ 2) (hn : 0 < n ∧ n ≤ 1000000) (hc : c + 3 ≤ B) (hB : B ≤ 2000) (hr : Rs 1000000000 B 112 s (A 60) (A 61)) (hQ : ∀ C, Fs A C → Rs 1000000000 B 112 (stq mk marks st k n c s) (C 60) (C 61) → Q none (GH C P dy) nx) : XC (d + 1) m_X8_step [.ref 32, .int (nI k), .int (nI st)] (GH A P dy) nx Q := by
  show X (d + 1) m_X8_step 0 [some (.ref 32), some (.int (nI k)), some (.int (nI st)), none, none] [] (GH A P dy) nx 0 0 Q
  have e8 : ¬ (nI 8 : Int32) = 0 := by decide
  have q := hQ
  unfold stq at q
  have hS' := hS
  obtain ⟨h1, h2, h3, h4⟩ := hS'
  by_cases e0 : k / 2 % 2 = 1
  · rw [if_pos e0] at q
    simp (disch := omega) only [i_X8_step_0, i_X8_step_1, i_X8_step_3, i_X8_step_4, i_X8_step_5, i_X8_step_6, i_X8_step_7, i_X8_step_8, i_X8_step_9, i_X8_step_10, i_X8_step_11, i_X8_step_14, gh_o32, gh_r41, gh_r54, gh_r55, gh_r60, gh_r61, gh_w60, gh_w61, gf_32_11, gf_32_12, gf_32_28, gf_32_29, gf_32_34, gf_32_35, z_o_i, z_ai_i, z_si_i, z_ab_b, z_ab_z, z_sb_b, z_sb_z, z_al_i, z_al_b, z_pu_s, z_pu_n, nI_toN, z_inN, true_and, and_true, nI_add, pk_mul, vu_eq, vu_ne, nI_leI, nI_ltI, nI_eqI, nI_eq0, ↓ok_0, ↓ok_1, bI_eq0, bI_ne0, ↓bI_ok, Nat.one_ne_zero, c_isVowel, if_true, if_false, ne_eq, not_true_eq_false, not_false_eq_true, nI_1ne, nI_0eq, nI_le0, pk_sub, bI_T, bI_F, Nat.zero_ne_one, Bool.false_eq_true, pk_div, e8, sh1, an1, e0]
    exact q A Fs.refl hr
  · rw [if_neg e0] at q
    by_cases e1 : k / 4 % 2 = 1
    · rw [if_pos e1] at q
      have := ht e1
      by_cases e2 : st = 0
      · rw [if_pos e2] at q
        simp (disch := omega) only [i_X8_step_0, i_X8_step_1, i_X8_step_3, i_X8_step_4, i_X8_step_5, i_X8_step_6, i_X8_step_7, i_X8_step_8, i_X8_step_9, i_X8_step_10, i_X8_step_11, i_X8_step_15, i_X8_step_16, i_X8_step_17, i_X8_step_18, i_X8_step_19, i_X8_step_20, i_X8_step_21, i_X8_step_24, i_X8_step_25, i_X8_step_28, i_X8_step_29, i_X8_step_31, i_X8_step_32, i_X8_step_33, i_X8_step_34, i_X8_step_35, i_X8_step_36, i_X8_step_37, i_X8_step_38, i_X8_step_41, i_X8_step_42, i_X8_step_43, i_X8_step_44, i_X8_step_47, i_X8_step_48, i_X8_step_49, gh_o32, gh_r41, gh_r54, gh_r55, gh_r60, gh_r61, gh_w60, gh_w61, gf_32_11, gf_32_12, gf_32_28, gf_32_29, gf_32_34, gf_32_35, z_o_i, z_ai_i, z_si_i, z_ab_b, z_ab_z, z_sb_b, z_sb_z, z_al_i, z_al_b, z_pu_s, z_pu_n, nI_toN, z_inN, true_and, and_true, nI_add, pk_mul, vu_eq, vu_ne, nI_leI, nI_ltI, nI_eqI, nI_eq0, ↓ok_0, ↓ok_1, bI_eq0, bI_ne0, ↓bI_ok, Nat.one_ne_zero, c_isVowel, if_true, if_false, ne_eq, not_true_eq_false, not_false_eq_true, nI_1ne, nI_0eq, nI_le0, pk_sub, bI_T, bI_F, Nat.zero_ne_one, Bool.false_eq_true, pk_div, e8, sh1, sh2, an1, e0, e1, e2, h3, h4]
        refine c_come (by omega) hn (by omega) hB hr (fun C hC hr' => ?_)
        simp (disch := omega) only [i_X8_step_52, gh_o32, gh_r41, gh_r54, gh_r55, gh_r60, gh_r61, gh_w60, gh_w61, gf_32_11, gf_32_12, gf_32_28, gf_32_29, gf_32_34, gf_32_35, z_o_i, z_ai_i, z_si_i, z_ab_b, z_ab_z, z_sb_b, z_sb_z, z_al_i, z_al_b, z_pu_s, z_pu_n, nI_toN, z_inN, true_and, and_true, nI_add, pk_mul, vu_eq, vu_ne, nI_leI, nI_ltI, nI_eqI, nI_eq0, ↓ok_0, ↓ok_1, bI_eq0, bI_ne0, ↓bI_ok, Nat.one_ne_zero, c_isVowel, if_true, if_false, ne_eq, not_true_eq_false, not_false_eq_true, nI_1ne, nI_0eq, nI_le0, pk_sub, bI_T, bI_F, Nat.zero_ne_one, Bool.false_eq_true]
        exact q C hC hr'
      · rw [if_neg e2] at q
        simp (disch := omega) only [i_X8_step_0, i_X8_step_1, i_X8_step_3, i_X8_step_4, i_X8_step_5, i_X8_step_6, i_X8_step_7, i_X8_step_8, i_X8_step_9, i_X8_step_10, i_X8_step_11, i_X8_step_15, i_X8_step_16, i_X8_step_17, i_X8_step_18, i_X8_step_19, i_X8_step_20, i_X8_step_21, i_X8_step_24, i_X8_step_25, i_X8_step_52, gh_o32, gh_r41, gh_r54, gh_r55, gh_r60, gh_r61, gh_w60, gh_w61, gf_32_11, gf_32_12, gf_32_28, gf_32_29, gf_32_34, gf_32_35, z_o_i, z_ai_i, z_si_i, z_ab_b, z_ab_z, z_sb_b, z_sb_z, z_al_i, z_al_b, z_pu_s, z_pu_n, nI_toN, z_inN, true_and, and_true, nI_add, pk_mul, vu_eq, vu_ne, nI_leI, nI_ltI, nI_eqI, nI_eq0, ↓ok_0, ↓ok_1, bI_eq0, bI_ne0, ↓bI_ok, Nat.one_ne_zero, c_isVowel, if_true, if_false, ne_eq, not_true_eq_false, not_false_eq_true, nI_1ne, nI_0eq, nI_le0, pk_sub, bI_T, bI_F, Nat.zero_ne_one, Bool.false_eq_true, pk_div, e8, sh1, sh2, an1, e0, e1, e2]
        exact q A Fs.refl hr
    · rw [if_neg e1] at q
      simp (disch := omega) only [i_X8_step_0, i_X8_step_1, i_X8_step_3, i_X8_step_4, i_X8_step_5, i_X8_step_6, i_X8_step_7, i_X8_step_8, i_X8_step_9, i_X8_step_10, i_X8_step_11, i_X8_step_15, i_X8_step_16, i_X8_step_17, i_X8_step_18, i_X8_step_19, i_X8_step_20, i_X8_step_21, gh_o32, gh_r41, gh_r54, gh_r55, gh_r60, gh_r61, gh_w60, gh_w61, gf_32_11, gf_32_12, gf_32_28, gf_32_29, gf_32_34, gf_32_35, z_o_i, z_ai_i, z_si_i, z_ab_b, z_ab_z, z_sb_b, z_sb_z, z_al_i, z_al_b, z_pu_s, z_pu_n, nI_toN, z_inN, true_and, and_true, nI_add, pk_mul, vu_eq, vu_ne, nI_leI, nI_ltI, nI_eqI, nI_eq0, ↓ok_0, ↓ok_1, bI_eq0, bI_ne0, ↓bI_ok, Nat.one_ne_zero, c_isVowel, if_true, if_false, ne_eq, not_true_eq_false, not_false_eq_true, nI_1ne, nI_0eq, nI_le0, pk_sub, bI_T, bI_F, Nat.zero_ne_one, Bool.false_eq_true, pk_div, e8, sh1, sh2, an1, e0, e1]
      by_cases hu : k / 8 < marks
      · refine s_st1 hS hm bm hu hk hst hn hc hB hr (fun C hC rC => ?_)
        refine s_st2 (hS.fs hC) hm bm hu hk hst hn hc hB rC (fun D hD rD => ?_)
        have hCD := hC.trans hD
        refine s_st3 (hS.fs hCD) hk hst hn hc hB rD (fun E hE rE => ?_)
        have hCE := hCD.trans hE
        exact s_st4 (hS.fs hCE) hm hk hst hn hc hB rE (fun F hF rF => q F (hCE.trans hF) rF)
      · have le : marks ≤ k / 8 := by omega
        have z1 : s1q mk marks st (k / 8) n c s = s := if_neg (fun z => hu z.1)
        have z2 : s2q mk marks st (k / 8) n c s = s := if_neg (fun z => by have := z.2.2.1; omega)
        rw [z1, z2] at q
        simp (disch := omega) only [i_X8_step_53, i_X8_step_54, i_X8_step_55, i_X8_step_58, gh_o32, gh_r41, gh_r54, gh_r55, gh_r60, gh_r61, gh_w60, gh_w61, gf_32_11, gf_32_12, gf_32_28, gf_32_29, gf_32_34, gf_32_35, z_o_i, z_ai_i, z_si_i, z_ab_b, z_ab_z, z_sb_b, z_sb_z, z_al_i, z_al_b, z_pu_s, z_pu_n, nI_toN, z_inN, true_and, and_true, nI_add, pk_mul, vu_eq, vu_ne, nI_leI, nI_ltI, nI_eqI, nI_eq0, ↓ok_0, ↓ok_1, bI_eq0, bI_ne0, ↓bI_ok, Nat.one_ne_zero, c_isVowel, if_true, if_false, ne_eq, not_true_eq_false, not_false_eq_true, nI_1ne, nI_0eq, nI_le0, pk_sub, bI_T, bI_F, Nat.zero_ne_one, Bool.false_eq_true, h1, le]
        refine s_st3 hS hk hst hn hc hB hr (fun E hE rE => ?_)
        exact s_st4 (hS.fs hE) hm hk hst hn hc hB rE (fun F hF rF => q F (hE.trans hF) rF)
end MStep2
