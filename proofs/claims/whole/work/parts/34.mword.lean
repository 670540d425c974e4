/-! THE MODEL: wordComes, its small loops -/
/-- turned feet wait below the last place -/
def Okt (s : Nat → Nat × Nat) : Prop := ∀ k, ¬ (s k).1 = 0 → k / 4 % 2 = 1 → k / 8 ≤ 12
theorem Okt_tu {s : Nat → Nat × Nat} {t n c : Nat} (h : Okt s) (ht : t / 4 % 2 = 1 → t / 8 ≤ 12) : Okt (tu s t n c) := by
  intro k hk h4
  rw [tu, vu_if] at hk
  by_cases e : k = t
  · subst e; exact ht h4
  · rw [if_neg e] at hk; exact h k hk h4
theorem Okt_stq {mk : Nat → Nat} {marks st k n c : Nat} {s : Nat → Nat × Nat} (hm : marks ≤ 12) (h : Okt s) : Okt (stq mk marks st k n c s) := by
  unfold stq
  by_cases e0 : k / 2 % 2 = 1
  · rw [if_pos e0]; exact h
  · rw [if_neg e0]
    by_cases e1 : k / 4 % 2 = 1
    · rw [if_pos e1]
      by_cases e2 : st = 0
      · rw [if_pos e2]; exact Okt_tu h (by omega)
      · rw [if_neg e2]; exact h
    · rw [if_neg e1]
      have h1 : Okt (s1q mk marks st (k / 8) n c s) := by
        unfold s1q
        by_cases e : k / 8 < marks ∧ ag (mk (k / 8)) st = true
        · rw [if_pos e]; exact Okt_tu h (by omega)
        · rw [if_neg e]; exact h
      have h2 : Okt (s2q mk marks st (k / 8) n c (s1q mk marks st (k / 8) n c s)) := by
        rw [s2q]
        by_cases e : mk (k / 8) = 0 ∧ st = 2 ∧ k / 8 + 1 < marks ∧ mk (k / 8 + 1) = 1
        · rw [if_pos e]
          have := e.2.2.1
          exact Okt_tu h1 (by omega)
        · rw [if_neg e]; exact h1
      have h3 : Okt (s3q st k n c (s2q mk marks st (k / 8) n c (s1q mk marks st (k / 8) n c s))) := by
        rw [s3q]
        by_cases e : st = 0 ∧ k % 2 = 1
        · rw [if_pos e]; exact Okt_tu h2 (fun q => absurd q e1)
        · rw [if_neg e]; exact h2
      rw [s4q]
      by_cases e : st = 0 ∧ k / 8 = marks
      · rw [if_pos e]; exact Okt_tu h3 (by omega)
      · rw [if_neg e]; exact h3
theorem Okt_0 : Okt (fun _ => (0, 0)) := fun _ h => absurd rfl h
theorem Okt_syq {mk : Nat → Nat} {marks st : Nat} {s : Nat → Nat × Nat} (hm : marks ≤ 12) : Okt (syq mk marks st s) := by
  have : ∀ m, Okt (syF mk marks st s m) := by
    intro m
    induction m with
    | zero => exact Okt_0
    | succ m ih =>
      rw [syF]
      by_cases e : (s m).1 = 0
      · rw [if_pos e]; exact ih
      · rw [if_neg e]; exact Okt_stq hm ih
  exact this 112
/-- the states after m sounds of a saying -/
def wsF (a : Nat → Nat → Nat) (t : Nat) (s : Nat → Nat × Nat) : Nat → Nat → Nat × Nat
  | 0 => s
  | i + 1 => if a 36 (12 * t + i) < 10 then syq (a 41) (a 32 11) (a 37 (12 * t + i)) (wsF a t s i) else wsF a t s i
theorem Okt_wsF {a : Nat → Nat → Nat} {t : Nat} {s : Nat → Nat × Nat} (hm : a 32 11 ≤ 12) (h : Okt s) : ∀ m, Okt (wsF a t s m) := by
  intro m
  induction m with
  | zero => exact h
  | succ m ih =>
    rw [wsF]
    by_cases e : a 36 (12 * t + m) < 10
    · rw [if_pos e]; exact Okt_syq hm
    · rw [if_neg e]; exact ih
def Fb (A B : Nat → Nat → Int32) : Prop := ∀ k, (k < 56 ∨ 59 < k) → B k = A k
section MWord
variable {a : Nat → Nat → Nat} {A : Nat → Nat → Int32} {P : Nat → Nat → Nat} {dy : z_H} {d nx bc bs : Nat} {Q : z_Q} {B : Nat} {s : Nat → Nat × Nat} {x1 x2 x4 : Option Value}
theorem l_wc1 {x3 : Option Value} (hN : ∀ C, Fb A C → (∀ j, j < 112 → C 58 j = A 54 j ∧ C 59 j = A 55 j ∧ C 56 j = nI 0 ∧ C 57 j = nI 1000000000) → X (d + 3) m_X8_wordComes 53 [some (.ref 32), x1, some (.int (nI 112)), x3, x4] [] (GH C P dy) nx bc bs Q) : ∀ (m i : Nat) (C : Nat → Nat → Int32), i + m = 112 → Fb A C → (∀ j, j < i → C 58 j = A 54 j ∧ C 59 j = A 55 j ∧ C 56 j = nI 0 ∧ C 57 j = nI 1000000000) → X (d + 3) m_X8_wordComes 2 [some (.ref 32), x1, some (.int (nI i)), x3, x4] [] (GH C P dy) nx bc bs Q := by
  intro m
  induction m with
  | zero =>
    intro i C hi hF h
    have e : i = 112 := by omega
    subst e
    simp (disch := omega) only [i_X8_wordComes_2, i_X8_wordComes_3, i_X8_wordComes_5, gh_o32, gh_r34, gh_r35, gh_r36, gh_r37, gh_r54, gh_r55, gh_r56, gh_r57, gh_r58, gh_r59, gh_w54, gh_w55, gh_w56, gh_w57, gh_w58, gh_w59, gf_32_3, gf_32_4, gf_32_5, gf_32_6, gf_32_28, gf_32_29, gf_32_30, gf_32_31, gf_32_32, gf_32_33, z_o_i, z_ai_i, z_si_i, z_ab_b, z_ab_z, z_sb_b, z_sb_z, z_al_i, z_al_b, z_pu_s, z_pu_n, nI_toN, z_inN, true_and, and_true, nI_add, pk_mul, vu_eq, vu_ne, nI_leI, nI_ltI, nI_eqI, nI_eq0, ↓ok_0, ↓ok_1, bI_eq0, bI_ne0, ↓bI_ok, Nat.one_ne_zero, c_isVowel, if_true, if_false, ne_eq, not_true_eq_false, not_false_eq_true, nI_1ne, nI_0eq, nI_le0, pk_sub, bI_T, bI_F, Nat.zero_ne_one, Bool.false_eq_true, Nat.le_refl]
    exact hN C hF h
  | succ m ih =>
    intro i C hi hF h
    have le : ¬ 112 ≤ i := by omega
    rw [i_X8_wordComes_2]
    simp (disch := omega) only [i_X8_wordComes_3, i_X8_wordComes_5, i_X8_wordComes_8, i_X8_wordComes_9, i_X8_wordComes_12, i_X8_wordComes_13, i_X8_wordComes_14, i_X8_wordComes_17, i_X8_wordComes_18, i_X8_wordComes_19, i_X8_wordComes_20, i_X8_wordComes_21, i_X8_wordComes_24, i_X8_wordComes_25, i_X8_wordComes_26, i_X8_wordComes_29, i_X8_wordComes_30, i_X8_wordComes_31, i_X8_wordComes_32, i_X8_wordComes_33, i_X8_wordComes_36, i_X8_wordComes_37, i_X8_wordComes_38, i_X8_wordComes_39, i_X8_wordComes_40, i_X8_wordComes_43, i_X8_wordComes_44, i_X8_wordComes_46, i_X8_wordComes_47, i_X8_wordComes_50, gh_o32, gh_r34, gh_r35, gh_r36, gh_r37, gh_r54, gh_r55, gh_r56, gh_r57, gh_r58, gh_r59, gh_w54, gh_w55, gh_w56, gh_w57, gh_w58, gh_w59, gf_32_3, gf_32_4, gf_32_5, gf_32_6, gf_32_28, gf_32_29, gf_32_30, gf_32_31, gf_32_32, gf_32_33, z_o_i, z_ai_i, z_si_i, z_ab_b, z_ab_z, z_sb_b, z_sb_z, z_al_i, z_al_b, z_pu_s, z_pu_n, nI_toN, z_inN, true_and, and_true, nI_add, pk_mul, vu_eq, vu_ne, nI_leI, nI_ltI, nI_eqI, nI_eq0, ↓ok_0, ↓ok_1, bI_eq0, bI_ne0, ↓bI_ok, Nat.one_ne_zero, c_isVowel, if_true, if_false, ne_eq, not_true_eq_false, not_false_eq_true, nI_1ne, nI_0eq, nI_le0, pk_sub, bI_T, bI_F, Nat.zero_ne_one, Bool.false_eq_true, le]
    have f0 := hF 54 (by omega)
    have f1 := hF 55 (by omega)
    refine ih (i + 1) _ (by omega) (fun k hk => by rw [vu_ne (by omega), vu_ne (by omega), vu_ne (by omega), vu_ne (by omega)]; exact hF k hk) (fun j hj => ?_)
    simp (disch := omega) only [vu_eq, vu_ne]
    simp only [vu_if]
    by_cases e : j = i
    · simp only [e, if_true, f0, f1, and_self]
    · simp only [e, if_false]; exact h j (by omega)
theorem l_wc3 {x2 : Option Value} (hN : ∀ C, Fm A C → (∀ j, j < 112 → C 54 j = A 58 j ∧ C 55 j = A 59 j) → X (d + 3) m_X8_wordComes 109 [some (.ref 32), x1, x2, some (.int (nI 112)), x4] [] (GH C P dy) nx bc bs Q) : ∀ (m i : Nat) (C : Nat → Nat → Int32), i + m = 112 → Fm A C → (∀ j, j < i → C 54 j = A 58 j ∧ C 55 j = A 59 j) → X (d + 3) m_X8_wordComes 73 [some (.ref 32), x1, x2, some (.int (nI i)), x4] [] (GH C P dy) nx bc bs Q := by
  intro m
  induction m with
  | zero =>
    intro i C hi hF h
    have e : i = 112 := by omega
    subst e
    simp (disch := omega) only [i_X8_wordComes_73, i_X8_wordComes_74, i_X8_wordComes_76, gh_o32, gh_r34, gh_r35, gh_r36, gh_r37, gh_r54, gh_r55, gh_r56, gh_r57, gh_r58, gh_r59, gh_w54, gh_w55, gh_w56, gh_w57, gh_w58, gh_w59, gf_32_3, gf_32_4, gf_32_5, gf_32_6, gf_32_28, gf_32_29, gf_32_30, gf_32_31, gf_32_32, gf_32_33, z_o_i, z_ai_i, z_si_i, z_ab_b, z_ab_z, z_sb_b, z_sb_z, z_al_i, z_al_b, z_pu_s, z_pu_n, nI_toN, z_inN, true_and, and_true, nI_add, pk_mul, vu_eq, vu_ne, nI_leI, nI_ltI, nI_eqI, nI_eq0, ↓ok_0, ↓ok_1, bI_eq0, bI_ne0, ↓bI_ok, Nat.one_ne_zero, c_isVowel, if_true, if_false, ne_eq, not_true_eq_false, not_false_eq_true, nI_1ne, nI_0eq, nI_le0, pk_sub, bI_T, bI_F, Nat.zero_ne_one, Bool.false_eq_true, Nat.le_refl]
    exact hN C hF h
  | succ m ih =>
    intro i C hi hF h
    have le : ¬ 112 ≤ i := by omega
    rw [i_X8_wordComes_73]
    simp (disch := omega) only [i_X8_wordComes_74, i_X8_wordComes_76, i_X8_wordComes_79, i_X8_wordComes_80, i_X8_wordComes_83, i_X8_wordComes_84, i_X8_wordComes_85, i_X8_wordComes_88, i_X8_wordComes_89, i_X8_wordComes_90, i_X8_wordComes_91, i_X8_wordComes_92, i_X8_wordComes_95, i_X8_wordComes_96, i_X8_wordComes_97, i_X8_wordComes_100, i_X8_wordComes_101, i_X8_wordComes_102, i_X8_wordComes_103, i_X8_wordComes_106, gh_o32, gh_r34, gh_r35, gh_r36, gh_r37, gh_r54, gh_r55, gh_r56, gh_r57, gh_r58, gh_r59, gh_w54, gh_w55, gh_w56, gh_w57, gh_w58, gh_w59, gf_32_3, gf_32_4, gf_32_5, gf_32_6, gf_32_28, gf_32_29, gf_32_30, gf_32_31, gf_32_32, gf_32_33, z_o_i, z_ai_i, z_si_i, z_ab_b, z_ab_z, z_sb_b, z_sb_z, z_al_i, z_al_b, z_pu_s, z_pu_n, nI_toN, z_inN, true_and, and_true, nI_add, pk_mul, vu_eq, vu_ne, nI_leI, nI_ltI, nI_eqI, nI_eq0, ↓ok_0, ↓ok_1, bI_eq0, bI_ne0, ↓bI_ok, Nat.one_ne_zero, c_isVowel, if_true, if_false, ne_eq, not_true_eq_false, not_false_eq_true, nI_1ne, nI_0eq, nI_le0, pk_sub, bI_T, bI_F, Nat.zero_ne_one, Bool.false_eq_true, le]
    have f0 := hF 58 (by omega) (by omega)
    have f1 := hF 59 (by omega) (by omega)
    refine ih (i + 1) _ (by omega) (fun k h1 h2 => by rw [vu_ne h2, vu_ne h1]; exact hF k h1 h2) (fun j hj => ?_)
    simp (disch := omega) only [vu_eq, vu_ne]
    simp only [vu_if]
    by_cases e : j = i
    · simp only [e, if_true, f0, f1, and_self]
    · simp only [e, if_false]; exact h j (by omega)
theorem l_wc6 {x3 : Option Value} (hN : ∀ C, Fm A C → (∀ j, j < 112 → C 54 j = A 56 j ∧ C 55 j = A 57 j) → Q none (GH C P dy) nx) : ∀ (m i : Nat) (C : Nat → Nat → Int32), i + m = 112 → Fm A C → (∀ j, j < i → C 54 j = A 56 j ∧ C 55 j = A 57 j) → X (d + 3) m_X8_wordComes 252 [some (.ref 32), x1, some (.int (nI i)), x3, x4] [] (GH C P dy) nx bc bs Q := by
  intro m
  induction m with
  | zero =>
    intro i C hi hF h
    have e : i = 112 := by omega
    subst e
    simp (disch := omega) only [i_X8_wordComes_252, i_X8_wordComes_253, i_X8_wordComes_255, i_X8_wordComes_288, gh_o32, gh_r34, gh_r35, gh_r36, gh_r37, gh_r54, gh_r55, gh_r56, gh_r57, gh_r58, gh_r59, gh_w54, gh_w55, gh_w56, gh_w57, gh_w58, gh_w59, gf_32_3, gf_32_4, gf_32_5, gf_32_6, gf_32_28, gf_32_29, gf_32_30, gf_32_31, gf_32_32, gf_32_33, z_o_i, z_ai_i, z_si_i, z_ab_b, z_ab_z, z_sb_b, z_sb_z, z_al_i, z_al_b, z_pu_s, z_pu_n, nI_toN, z_inN, true_and, and_true, nI_add, pk_mul, vu_eq, vu_ne, nI_leI, nI_ltI, nI_eqI, nI_eq0, ↓ok_0, ↓ok_1, bI_eq0, bI_ne0, ↓bI_ok, Nat.one_ne_zero, c_isVowel, if_true, if_false, ne_eq, not_true_eq_false, not_false_eq_true, nI_1ne, nI_0eq, nI_le0, pk_sub, bI_T, bI_F, Nat.zero_ne_one, Bool.false_eq_true, Nat.le_refl]
    exact hN C hF h
  | succ m ih =>
    intro i C hi hF h
    have le : ¬ 112 ≤ i := by omega
    rw [i_X8_wordComes_252]
    simp (disch := omega) only [i_X8_wordComes_253, i_X8_wordComes_255, i_X8_wordComes_258, i_X8_wordComes_259, i_X8_wordComes_262, i_X8_wordComes_263, i_X8_wordComes_264, i_X8_wordComes_267, i_X8_wordComes_268, i_X8_wordComes_269, i_X8_wordComes_270, i_X8_wordComes_271, i_X8_wordComes_274, i_X8_wordComes_275, i_X8_wordComes_276, i_X8_wordComes_279, i_X8_wordComes_280, i_X8_wordComes_281, i_X8_wordComes_282, i_X8_wordComes_285, gh_o32, gh_r34, gh_r35, gh_r36, gh_r37, gh_r54, gh_r55, gh_r56, gh_r57, gh_r58, gh_r59, gh_w54, gh_w55, gh_w56, gh_w57, gh_w58, gh_w59, gf_32_3, gf_32_4, gf_32_5, gf_32_6, gf_32_28, gf_32_29, gf_32_30, gf_32_31, gf_32_32, gf_32_33, z_o_i, z_ai_i, z_si_i, z_ab_b, z_ab_z, z_sb_b, z_sb_z, z_al_i, z_al_b, z_pu_s, z_pu_n, nI_toN, z_inN, true_and, and_true, nI_add, pk_mul, vu_eq, vu_ne, nI_leI, nI_ltI, nI_eqI, nI_eq0, ↓ok_0, ↓ok_1, bI_eq0, bI_ne0, ↓bI_ok, Nat.one_ne_zero, c_isVowel, if_true, if_false, ne_eq, not_true_eq_false, not_false_eq_true, nI_1ne, nI_0eq, nI_le0, pk_sub, bI_T, bI_F, Nat.zero_ne_one, Bool.false_eq_true, le]
    have f0 := hF 56 (by omega) (by omega)
    have f1 := hF 57 (by omega) (by omega)
    refine ih (i + 1) _ (by omega) (fun k h1 h2 => by rw [vu_ne h2, vu_ne h1]; exact hF k h1 h2) (fun j hj => ?_)
    simp (disch := omega) only [vu_eq, vu_ne]
    simp only [vu_if]
    by_cases e : j = i
    · simp only [e, if_true, f0, f1, and_self]
    · simp only [e, if_false]; exact h j (by omega)
theorem l_wc4 {t : Nat} (hR : Rp a A) (ht : t < 72) (hB : B ≤ 1800) (hO : Okt s) (hN : ∀ C, F4 A C → Rs 1000000000 (B + 3 * a 35 t) 112 (wsF a t s (a 35 t)) (C 54) (C 55) → X (d + 3) m_X8_wordComes 159 [some (.ref 32), x1, some (.int (nI t)), some (.int (nI (a 35 t))), x4] [] (GH C P dy) nx bc bs Q) : ∀ (m i : Nat) (C : Nat → Nat → Int32), i + m = a 35 t → F4 A C → Rs 1000000000 (B + 3 * i) 112 (wsF a t s i) (C 54) (C 55) → X (d + 3) m_X8_wordComes 111 [some (.ref 32), x1, some (.int (nI t)), some (.int (nI i)), x4] [] (GH C P dy) nx bc bs Q := by
  have hb := hR.2.2.1
  have hsc := hR.2.2.2
  have b35 := (hb t).2.2.1
  intro m
  induction m with
  | zero =>
    intro i C hi hF h
    have e : i = a 35 t := by omega
    subst e
    have r35 : C 35 t = nI (a 35 t) := by rw [hF 35 (by omega) (by omega) (by omega) (by omega)]; exact hR.1.2.2.1 t
    simp (disch := omega) only [i_X8_wordComes_111, i_X8_wordComes_112, i_X8_wordComes_113, i_X8_wordComes_116, i_X8_wordComes_117, i_X8_wordComes_118, gh_o32, gh_r34, gh_r35, gh_r36, gh_r37, gh_r54, gh_r55, gh_r56, gh_r57, gh_r58, gh_r59, gh_w54, gh_w55, gh_w56, gh_w57, gh_w58, gh_w59, gf_32_3, gf_32_4, gf_32_5, gf_32_6, gf_32_28, gf_32_29, gf_32_30, gf_32_31, gf_32_32, gf_32_33, z_o_i, z_ai_i, z_si_i, z_ab_b, z_ab_z, z_sb_b, z_sb_z, z_al_i, z_al_b, z_pu_s, z_pu_n, nI_toN, z_inN, true_and, and_true, nI_add, pk_mul, vu_eq, vu_ne, nI_leI, nI_ltI, nI_eqI, nI_eq0, ↓ok_0, ↓ok_1, bI_eq0, bI_ne0, ↓bI_ok, Nat.one_ne_zero, c_isVowel, if_true, if_false, ne_eq, not_true_eq_false, not_false_eq_true, nI_1ne, nI_0eq, nI_le0, pk_sub, bI_T, bI_F, Nat.zero_ne_one, Bool.false_eq_true, r35, Nat.le_refl]
    exact hN C hF h
  | succ m ih =>
    intro i C hi hF h
    have le : ¬ a 35 t ≤ i := by omega
    have r35 : C 35 t = nI (a 35 t) := by rw [hF 35 (by omega) (by omega) (by omega) (by omega)]; exact hR.1.2.2.1 t
    have r36 : C 36 (12 * t + i) = nI (a 36 (12 * t + i)) := by rw [hF 36 (by omega) (by omega) (by omega) (by omega)]; exact hR.1.2.2.2.1 _
    have r37 : C 37 (12 * t + i) = nI (a 37 (12 * t + i)) := by rw [hF 37 (by omega) (by omega) (by omega) (by omega)]; exact hR.1.2.2.2.2.1 _
    have b36 := (hb (12 * t + i)).2.2.2.1
    have b37 := (hb (12 * t + i)).2.2.2.2.1
    rw [i_X8_wordComes_111]
    by_cases v : a 36 (12 * t + i) < 10
    · simp (disch := omega) only [i_X8_wordComes_112, i_X8_wordComes_113, i_X8_wordComes_116, i_X8_wordComes_117, i_X8_wordComes_118, i_X8_wordComes_121, i_X8_wordComes_122, i_X8_wordComes_125, i_X8_wordComes_127, i_X8_wordComes_128, i_X8_wordComes_129, i_X8_wordComes_130, i_X8_wordComes_131, i_X8_wordComes_132, i_X8_wordComes_135, i_X8_wordComes_138, i_X8_wordComes_139, i_X8_wordComes_140, i_X8_wordComes_143, i_X8_wordComes_145, i_X8_wordComes_146, i_X8_wordComes_147, i_X8_wordComes_148, i_X8_wordComes_149, i_X8_wordComes_150, gh_o32, gh_r34, gh_r35, gh_r36, gh_r37, gh_r54, gh_r55, gh_r56, gh_r57, gh_r58, gh_r59, gh_w54, gh_w55, gh_w56, gh_w57, gh_w58, gh_w59, gf_32_3, gf_32_4, gf_32_5, gf_32_6, gf_32_28, gf_32_29, gf_32_30, gf_32_31, gf_32_32, gf_32_33, z_o_i, z_ai_i, z_si_i, z_ab_b, z_ab_z, z_sb_b, z_sb_z, z_al_i, z_al_b, z_pu_s, z_pu_n, nI_toN, z_inN, true_and, and_true, nI_add, pk_mul, vu_eq, vu_ne, nI_leI, nI_ltI, nI_eqI, nI_eq0, ↓ok_0, ↓ok_1, bI_eq0, bI_ne0, ↓bI_ok, Nat.one_ne_zero, c_isVowel, if_true, if_false, ne_eq, not_true_eq_false, not_false_eq_true, nI_1ne, nI_0eq, nI_le0, pk_sub, bI_T, bI_F, Nat.zero_ne_one, Bool.false_eq_true, r35, r36, r37, le, v]
      refine c_syllable (mk := a 41) (marks := a 32 11) (s := wsF a t s i) (B := B + 3 * i) hsc.2.2.2.1 (fun j => (hb j).2.2.2.2.2.2.1) (by rw [hF 32 (by omega) (by omega) (by omega) (by omega)]; exact hR.2.1.2.2.1) (fun j _ => by rw [hF 41 (by omega) (by omega) (by omega) (by omega)]; exact hR.1.2.2.2.2.2.2.1 j) (Okt_wsF hsc.2.2.2.1 hO i) b37 (by omega) h (fun D hD rD => ?_)
      simp (disch := omega) only [i_X8_wordComes_153, i_X8_wordComes_156, gh_o32, gh_r34, gh_r35, gh_r36, gh_r37, gh_r54, gh_r55, gh_r56, gh_r57, gh_r58, gh_r59, gh_w54, gh_w55, gh_w56, gh_w57, gh_w58, gh_w59, gf_32_3, gf_32_4, gf_32_5, gf_32_6, gf_32_28, gf_32_29, gf_32_30, gf_32_31, gf_32_32, gf_32_33, z_o_i, z_ai_i, z_si_i, z_ab_b, z_ab_z, z_sb_b, z_sb_z, z_al_i, z_al_b, z_pu_s, z_pu_n, nI_toN, z_inN, true_and, and_true, nI_add, pk_mul, vu_eq, vu_ne, nI_leI, nI_ltI, nI_eqI, nI_eq0, ↓ok_0, ↓ok_1, bI_eq0, bI_ne0, ↓bI_ok, Nat.one_ne_zero, c_isVowel, if_true, if_false, ne_eq, not_true_eq_false, not_false_eq_true, nI_1ne, nI_0eq, nI_le0, pk_sub, bI_T, bI_F, Nat.zero_ne_one, Bool.false_eq_true]
      refine ih (i + 1) D (by omega) (hF.trans hD) ?_
      rw [wsF, if_pos v]
      exact rD
    · simp (disch := omega) only [i_X8_wordComes_112, i_X8_wordComes_113, i_X8_wordComes_116, i_X8_wordComes_117, i_X8_wordComes_118, i_X8_wordComes_121, i_X8_wordComes_122, i_X8_wordComes_125, i_X8_wordComes_127, i_X8_wordComes_128, i_X8_wordComes_129, i_X8_wordComes_130, i_X8_wordComes_131, i_X8_wordComes_132, i_X8_wordComes_135, i_X8_wordComes_153, i_X8_wordComes_156, gh_o32, gh_r34, gh_r35, gh_r36, gh_r37, gh_r54, gh_r55, gh_r56, gh_r57, gh_r58, gh_r59, gh_w54, gh_w55, gh_w56, gh_w57, gh_w58, gh_w59, gf_32_3, gf_32_4, gf_32_5, gf_32_6, gf_32_28, gf_32_29, gf_32_30, gf_32_31, gf_32_32, gf_32_33, z_o_i, z_ai_i, z_si_i, z_ab_b, z_ab_z, z_sb_b, z_sb_z, z_al_i, z_al_b, z_pu_s, z_pu_n, nI_toN, z_inN, true_and, and_true, nI_add, pk_mul, vu_eq, vu_ne, nI_leI, nI_ltI, nI_eqI, nI_eq0, ↓ok_0, ↓ok_1, bI_eq0, bI_ne0, ↓bI_ok, Nat.one_ne_zero, c_isVowel, if_true, if_false, ne_eq, not_true_eq_false, not_false_eq_true, nI_1ne, nI_0eq, nI_le0, pk_sub, bI_T, bI_F, Nat.zero_ne_one, Bool.false_eq_true, r35, r36, le, v]
      refine ih (i + 1) C (by omega) hF ?_
      rw [wsF, if_neg v]
      exact h.up (by omega)
end MWord
