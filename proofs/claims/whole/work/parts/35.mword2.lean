/-! THE MODEL: wordComes -/
def jn (S x : Nat → Nat × Nat) (i : Nat) : Nat → Nat × Nat := fun k => if k < i then tk (S k) (x k).1 (x k).2 else S k
/-- the states after a word, of q sayings of it -/
def woF (a : Nat → Nat → Nat) (w : Nat) (s : Nat → Nat × Nat) : Nat → Nat → Nat × Nat
  | 0 => fun _ => (0, 0)
  | q + 1 => jn (woF a w s q) (wsF a (3 * w + q) s (a 35 (3 * w + q))) 112
def woq (a : Nat → Nat → Nat) (w : Nat) (s : Nat → Nat × Nat) : Nat → Nat × Nat := woF a w s (a 34 w)
def Fj (A B : Nat → Nat → Int32) : Prop := ∀ k, k ≠ 56 → k ≠ 57 → B k = A k
def Fw (A B : Nat → Nat → Int32) : Prop := ∀ k, (k < 54 ∨ 61 < k) → B k = A k
theorem Fw.refl {A : Nat → Nat → Int32} : Fw A A := fun _ _ => rfl
theorem Fw.trans {A B C : Nat → Nat → Int32} (h : Fw A B) (g : Fw B C) : Fw A C := fun k hk => (g k hk).trans (h k hk)
theorem Fw.rp {a : Nat → Nat → Nat} {A B : Nat → Nat → Int32} (h : Fw A B) (hR : Rp a A) : Rp a B := hR.of (fun k hk => ⟨fun _ j _ _ => by rw [h k (by omega)], fun _ => h k (by omega)⟩)
theorem Okt_jn {S x : Nat → Nat × Nat} {i : Nat} (h : Okt S) (g : Okt x) : Okt (jn S x i) := by
  intro k hk h4
  by_cases z : (S k).1 = 0
  · by_cases y : (x k).1 = 0
    · exfalso
      apply hk
      simp only [jn]
      by_cases e : k < i
      · rw [if_pos e, tk, if_pos y]; exact z
      · rw [if_neg e]; exact z
    · exact g k y h4
  · exact h k z h4
section MWord2
variable {a : Nat → Nat → Nat} {A : Nat → Nat → Int32} {P : Nat → Nat → Nat} {dy : z_H} {d nx bc bs : Nat} {Q : z_Q} {B : Nat} {s S x : Nat → Nat × Nat} {x1 x2 : Option Value}
theorem lo_le {y : Nat × Nat} (h : y.2 ≤ 2000) : lo 1000000000 y ≤ 1000000000 := by
  unfold lo
  by_cases z : y.1 = 0
  · rw [if_pos z]; omega
  · rw [if_neg z]; omega
theorem l_wc5 (hB : B ≤ 2000) (hx : Rs 1000000000 B 112 x (A 54) (A 55)) (hN : ∀ C y4, Fj A C → Rs 1000000000 B 112 (jn S x 112) (C 56) (C 57) → X (d + 3) m_X8_wordComes 244 [some (.ref 32), x1, x2, some (.int (nI 112)), y4] [] (GH C P dy) nx bc bs Q) : ∀ (m i : Nat) (C : Nat → Nat → Int32) (x4 : Option Value), i + m = 112 → Fj A C → Rs 1000000000 B 112 (jn S x i) (C 56) (C 57) → X (d + 3) m_X8_wordComes 161 [some (.ref 32), x1, x2, some (.int (nI i)), x4] [] (GH C P dy) nx bc bs Q := by
  intro m
  induction m with
  | zero =>
    intro i C x4 hi hF h
    have e : i = 112 := by omega
    subst e
    simp (disch := omega) only [i_X8_wordComes_161, i_X8_wordComes_162, i_X8_wordComes_164, gh_o32, gh_r34, gh_r35, gh_r36, gh_r37, gh_r54, gh_r55, gh_r56, gh_r57, gh_r58, gh_r59, gh_w54, gh_w55, gh_w56, gh_w57, gh_w58, gh_w59, gf_32_3, gf_32_4, gf_32_5, gf_32_6, gf_32_28, gf_32_29, gf_32_30, gf_32_31, gf_32_32, gf_32_33, z_o_i, z_ai_i, z_si_i, z_ab_b, z_ab_z, z_sb_b, z_sb_z, z_al_i, z_al_b, z_pu_s, z_pu_n, nI_toN, z_inN, true_and, and_true, nI_add, pk_mul, vu_eq, vu_ne, nI_leI, nI_ltI, nI_eqI, nI_eq0, ↓ok_0, ↓ok_1, bI_eq0, bI_ne0, ↓bI_ok, Nat.one_ne_zero, c_isVowel, if_true, if_false, ne_eq, not_true_eq_false, not_false_eq_true, nI_1ne, nI_0eq, nI_le0, pk_sub, bI_T, bI_F, Nat.zero_ne_one, Bool.false_eq_true, Nat.le_refl]
    exact hN C _ hF h
  | succ m ih =>
    intro i C x4 hi hF h
    have le : ¬ 112 ≤ i := by omega
    obtain ⟨q1, q2⟩ := h.1 i (by omega)
    have ji : jn S x i i = S i := if_neg (by omega)
    rw [ji] at q1 q2
    have hb := h.2 i
    rw [ji] at hb
    obtain ⟨b1, b2⟩ := hb
    obtain ⟨r1, r2⟩ := hx.1 i (by omega)
    obtain ⟨c1, c2⟩ := hx.2 i
    rw [← hF 54 (by omega) (by omega)] at r1
    rw [← hF 55 (by omega) (by omega)] at r2
    have l1 := lo_le (y := S i) (by omega)
    have l2 := lo_le (y := x i) (by omega)
    have key : ∀ (v l : Nat) (y4 : Option Value), v = (tk (S i) (x i).1 (x i).2).1 → l = lo 1000000000 (tk (S i) (x i).1 (x i).2) → X (d + 3) m_X8_wordComes 161 [some (.ref 32), x1, x2, some (.int (nI (i + 1))), y4] [] (GH (va_up (va_up C 56 (va_up (C 56) i (nI v))) 57 (va_up (C 57) i (nI l))) P dy) nx bc bs Q := by
      intro v l y4 hv hl
      refine ih (i + 1) _ y4 (by omega) (fun j j0 j1 => by rw [vu_ne j1, vu_ne j0]; exact hF j j0 j1) ⟨fun j hj => ?_, fun j => ?_⟩
      · simp (disch := omega) only [vu_eq, vu_ne]
        simp only [vu_if]
        by_cases e : j = i
        · subst e
          have jj : jn S x (j + 1) j = tk (S j) (x j).1 (x j).2 := if_pos (by omega)
          simp only [if_true, jj, hv, hl, and_self]
        · have jj : jn S x (i + 1) j = jn S x i j := by
            simp only [jn]
            by_cases z : j < i
            · rw [if_pos z, if_pos (by omega)]
            · rw [if_neg z, if_neg (by omega)]
          simp only [e, if_false, jj]
          exact h.1 j hj
      · by_cases e : j = i
        · subst e
          have jj : jn S x (j + 1) j = tk (S j) (x j).1 (x j).2 := if_pos (by omega)
          rw [jj]
          exact tk_b ⟨b1, b2⟩ c2
        · have jj : jn S x (i + 1) j = jn S x i j := by
            simp only [jn]
            by_cases z : j < i
            · rw [if_pos z, if_pos (by omega)]
            · rw [if_neg z, if_neg (by omega)]
          rw [jj]
          exact h.2 j
    have tv : (tk (S i) (x i).1 (x i).2).1 = min ((S i).1 + (x i).1) 1000000 := by
      unfold tk
      by_cases z : (x i).1 = 0
      · rw [if_pos z]; omega
      · rw [if_neg z]
    have tl1 : lo 1000000000 (S i) ≤ lo 1000000000 (x i) → lo 1000000000 (S i) = lo 1000000000 (tk (S i) (x i).1 (x i).2) := by
      intro q
      by_cases z : (x i).1 = 0
      · rw [tk, if_pos z]
      · rw [lo_pos z] at q
        have y : ¬ (S i).1 = 0 := by intro y; rw [lo, if_pos y] at q; omega
        rw [lo_pos y] at q
        rw [lo_pos y, lo_pos (by rw [tv]; omega), tk, if_neg z]
        simp only [y, if_false]
        omega
    have tl2 : ¬ lo 1000000000 (S i) ≤ lo 1000000000 (x i) → lo 1000000000 (x i) = lo 1000000000 (tk (S i) (x i).1 (x i).2) := by
      intro q
      by_cases z : (x i).1 = 0
      · rw [show lo 1000000000 (x i) = 1000000000 from if_pos z] at q; omega
      · rw [lo_pos z] at q ⊢
        rw [lo_pos (by rw [tv]; omega), tk, if_neg z]
        by_cases y : (S i).1 = 0
        · simp only [y, if_true]
        · rw [lo_pos y] at q
          simp only [y, if_false]
          omega
    have e1 : ∀ M : Nat → Int32, va_up C 56 M 55 = C 55 := fun M => rfl
    have e2 : ∀ M : Nat → Int32, va_up C 56 M 57 = C 57 := fun M => rfl
    rw [i_X8_wordComes_161]
    by_cases cv : (S i).1 + (x i).1 ≤ 1000000
    · by_cases cl : lo 1000000000 (S i) ≤ lo 1000000000 (x i)
      · simp (disch := omega) only [i_X8_wordComes_162, i_X8_wordComes_164, i_X8_wordComes_167, i_X8_wordComes_168, i_X8_wordComes_171, i_X8_wordComes_172, i_X8_wordComes_173, i_X8_wordComes_174, i_X8_wordComes_177, i_X8_wordComes_178, i_X8_wordComes_179, i_X8_wordComes_180, i_X8_wordComes_182, i_X8_wordComes_183, i_X8_wordComes_186, i_X8_wordComes_187, i_X8_wordComes_189, i_X8_wordComes_191, i_X8_wordComes_194, i_X8_wordComes_196, i_X8_wordComes_199, i_X8_wordComes_201, i_X8_wordComes_202, i_X8_wordComes_203, i_X8_wordComes_206, i_X8_wordComes_207, i_X8_wordComes_208, i_X8_wordComes_211, i_X8_wordComes_212, i_X8_wordComes_213, i_X8_wordComes_214, i_X8_wordComes_217, i_X8_wordComes_218, i_X8_wordComes_219, i_X8_wordComes_222, i_X8_wordComes_223, i_X8_wordComes_226, i_X8_wordComes_227, i_X8_wordComes_228, i_X8_wordComes_231, i_X8_wordComes_232, i_X8_wordComes_235, i_X8_wordComes_236, i_X8_wordComes_237, i_X8_wordComes_238, i_X8_wordComes_241, gh_o32, gh_r34, gh_r35, gh_r36, gh_r37, gh_r54, gh_r55, gh_r56, gh_r57, gh_r58, gh_r59, gh_w54, gh_w55, gh_w56, gh_w57, gh_w58, gh_w59, gf_32_3, gf_32_4, gf_32_5, gf_32_6, gf_32_28, gf_32_29, gf_32_30, gf_32_31, gf_32_32, gf_32_33, z_o_i, z_ai_i, z_si_i, z_ab_b, z_ab_z, z_sb_b, z_sb_z, z_al_i, z_al_b, z_pu_s, z_pu_n, nI_toN, z_inN, true_and, and_true, nI_add, pk_mul, vu_eq, vu_ne, nI_leI, nI_ltI, nI_eqI, nI_eq0, ↓ok_0, ↓ok_1, bI_eq0, bI_ne0, ↓bI_ok, Nat.one_ne_zero, c_isVowel, if_true, if_false, ne_eq, not_true_eq_false, not_false_eq_true, nI_1ne, nI_0eq, nI_le0, pk_sub, bI_T, bI_F, Nat.zero_ne_one, Bool.false_eq_true, le, q1, q2, r1, r2, cv, cl, e1, e2]
        exact key _ _ _ (by rw [tv]; omega) (tl1 cl)
      · simp (disch := omega) only [i_X8_wordComes_162, i_X8_wordComes_164, i_X8_wordComes_167, i_X8_wordComes_168, i_X8_wordComes_171, i_X8_wordComes_172, i_X8_wordComes_173, i_X8_wordComes_174, i_X8_wordComes_177, i_X8_wordComes_178, i_X8_wordComes_179, i_X8_wordComes_180, i_X8_wordComes_182, i_X8_wordComes_183, i_X8_wordComes_186, i_X8_wordComes_187, i_X8_wordComes_189, i_X8_wordComes_191, i_X8_wordComes_194, i_X8_wordComes_196, i_X8_wordComes_199, i_X8_wordComes_201, i_X8_wordComes_202, i_X8_wordComes_203, i_X8_wordComes_206, i_X8_wordComes_207, i_X8_wordComes_208, i_X8_wordComes_211, i_X8_wordComes_212, i_X8_wordComes_213, i_X8_wordComes_214, i_X8_wordComes_217, i_X8_wordComes_218, i_X8_wordComes_219, i_X8_wordComes_222, i_X8_wordComes_223, i_X8_wordComes_226, i_X8_wordComes_227, i_X8_wordComes_228, i_X8_wordComes_231, i_X8_wordComes_232, i_X8_wordComes_235, i_X8_wordComes_236, i_X8_wordComes_237, i_X8_wordComes_238, i_X8_wordComes_241, gh_o32, gh_r34, gh_r35, gh_r36, gh_r37, gh_r54, gh_r55, gh_r56, gh_r57, gh_r58, gh_r59, gh_w54, gh_w55, gh_w56, gh_w57, gh_w58, gh_w59, gf_32_3, gf_32_4, gf_32_5, gf_32_6, gf_32_28, gf_32_29, gf_32_30, gf_32_31, gf_32_32, gf_32_33, z_o_i, z_ai_i, z_si_i, z_ab_b, z_ab_z, z_sb_b, z_sb_z, z_al_i, z_al_b, z_pu_s, z_pu_n, nI_toN, z_inN, true_and, and_true, nI_add, pk_mul, vu_eq, vu_ne, nI_leI, nI_ltI, nI_eqI, nI_eq0, ↓ok_0, ↓ok_1, bI_eq0, bI_ne0, ↓bI_ok, Nat.one_ne_zero, c_isVowel, if_true, if_false, ne_eq, not_true_eq_false, not_false_eq_true, nI_1ne, nI_0eq, nI_le0, pk_sub, bI_T, bI_F, Nat.zero_ne_one, Bool.false_eq_true, le, q1, q2, r1, r2, cv, cl, e1, e2]
        exact key _ _ _ (by rw [tv]; omega) (tl2 cl)
    · by_cases cl : lo 1000000000 (S i) ≤ lo 1000000000 (x i)
      · simp (disch := omega) only [i_X8_wordComes_162, i_X8_wordComes_164, i_X8_wordComes_167, i_X8_wordComes_168, i_X8_wordComes_171, i_X8_wordComes_172, i_X8_wordComes_173, i_X8_wordComes_174, i_X8_wordComes_177, i_X8_wordComes_178, i_X8_wordComes_179, i_X8_wordComes_180, i_X8_wordComes_182, i_X8_wordComes_183, i_X8_wordComes_186, i_X8_wordComes_187, i_X8_wordComes_189, i_X8_wordComes_191, i_X8_wordComes_194, i_X8_wordComes_196, i_X8_wordComes_199, i_X8_wordComes_201, i_X8_wordComes_202, i_X8_wordComes_203, i_X8_wordComes_206, i_X8_wordComes_207, i_X8_wordComes_208, i_X8_wordComes_211, i_X8_wordComes_212, i_X8_wordComes_213, i_X8_wordComes_214, i_X8_wordComes_217, i_X8_wordComes_218, i_X8_wordComes_219, i_X8_wordComes_222, i_X8_wordComes_223, i_X8_wordComes_226, i_X8_wordComes_227, i_X8_wordComes_228, i_X8_wordComes_231, i_X8_wordComes_232, i_X8_wordComes_235, i_X8_wordComes_236, i_X8_wordComes_237, i_X8_wordComes_238, i_X8_wordComes_241, gh_o32, gh_r34, gh_r35, gh_r36, gh_r37, gh_r54, gh_r55, gh_r56, gh_r57, gh_r58, gh_r59, gh_w54, gh_w55, gh_w56, gh_w57, gh_w58, gh_w59, gf_32_3, gf_32_4, gf_32_5, gf_32_6, gf_32_28, gf_32_29, gf_32_30, gf_32_31, gf_32_32, gf_32_33, z_o_i, z_ai_i, z_si_i, z_ab_b, z_ab_z, z_sb_b, z_sb_z, z_al_i, z_al_b, z_pu_s, z_pu_n, nI_toN, z_inN, true_and, and_true, nI_add, pk_mul, vu_eq, vu_ne, nI_leI, nI_ltI, nI_eqI, nI_eq0, ↓ok_0, ↓ok_1, bI_eq0, bI_ne0, ↓bI_ok, Nat.one_ne_zero, c_isVowel, if_true, if_false, ne_eq, not_true_eq_false, not_false_eq_true, nI_1ne, nI_0eq, nI_le0, pk_sub, bI_T, bI_F, Nat.zero_ne_one, Bool.false_eq_true, le, q1, q2, r1, r2, cv, cl, e1, e2]
        exact key _ _ _ (by rw [tv]; omega) (tl1 cl)
      · simp (disch := omega) only [i_X8_wordComes_162, i_X8_wordComes_164, i_X8_wordComes_167, i_X8_wordComes_168, i_X8_wordComes_171, i_X8_wordComes_172, i_X8_wordComes_173, i_X8_wordComes_174, i_X8_wordComes_177, i_X8_wordComes_178, i_X8_wordComes_179, i_X8_wordComes_180, i_X8_wordComes_182, i_X8_wordComes_183, i_X8_wordComes_186, i_X8_wordComes_187, i_X8_wordComes_189, i_X8_wordComes_191, i_X8_wordComes_194, i_X8_wordComes_196, i_X8_wordComes_199, i_X8_wordComes_201, i_X8_wordComes_202, i_X8_wordComes_203, i_X8_wordComes_206, i_X8_wordComes_207, i_X8_wordComes_208, i_X8_wordComes_211, i_X8_wordComes_212, i_X8_wordComes_213, i_X8_wordComes_214, i_X8_wordComes_217, i_X8_wordComes_218, i_X8_wordComes_219, i_X8_wordComes_222, i_X8_wordComes_223, i_X8_wordComes_226, i_X8_wordComes_227, i_X8_wordComes_228, i_X8_wordComes_231, i_X8_wordComes_232, i_X8_wordComes_235, i_X8_wordComes_236, i_X8_wordComes_237, i_X8_wordComes_238, i_X8_wordComes_241, gh_o32, gh_r34, gh_r35, gh_r36, gh_r37, gh_r54, gh_r55, gh_r56, gh_r57, gh_r58, gh_r59, gh_w54, gh_w55, gh_w56, gh_w57, gh_w58, gh_w59, gf_32_3, gf_32_4, gf_32_5, gf_32_6, gf_32_28, gf_32_29, gf_32_30, gf_32_31, gf_32_32, gf_32_33, z_o_i, z_ai_i, z_si_i, z_ab_b, z_ab_z, z_sb_b, z_sb_z, z_al_i, z_al_b, z_pu_s, z_pu_n, nI_toN, z_inN, true_and, and_true, nI_add, pk_mul, vu_eq, vu_ne, nI_leI, nI_ltI, nI_eqI, nI_eq0, ↓ok_0, ↓ok_1, bI_eq0, bI_ne0, ↓bI_ok, Nat.one_ne_zero, c_isVowel, if_true, if_false, ne_eq, not_true_eq_false, not_false_eq_true, nI_1ne, nI_0eq, nI_le0, pk_sub, bI_T, bI_F, Nat.zero_ne_one, Bool.false_eq_true, le, q1, q2, r1, r2, cv, cl, e1, e2]
        exact key _ _ _ (by rw [tv]; omega) (tl2 cl)
theorem l_wc2 {w : Nat} (hR : Rp a A) (hw : w < 24) (hB : B ≤ 1700) (hO : Okt s) (hQ : ∀ C, Fw A C → Rs 1000000000 (B + 36) 112 (woq a w s) (C 54) (C 55) → Q none (GH C P dy) nx) : ∀ (m q : Nat) (C : Nat → Nat → Int32) (x3 x4 : Option Value), q + m = a 34 w → Fw A C → Rs 1000000000 B 112 s (C 58) (C 59) → Rs 1000000000 (B + 36) 112 (woF a w s q) (C 56) (C 57) → X (d + 3) m_X8_wordComes 57 [some (.ref 32), some (.int (nI w)), some (.int (nI (3 * w + q))), x3, x4] [] (GH C P dy) nx bc bs Q := by
  have hb := hR.2.2.1
  have b34 := (hb w).2.1
  intro m
  induction m with
  | zero =>
    intro q C x3 x4 hq hF hs hS
    have e : q = a 34 w := by omega
    subst e
    have r34 : C 34 w = nI (a 34 w) := (hF.rp hR).1.2.1 w
    simp (disch := omega) only [i_X8_wordComes_57, i_X8_wordComes_58, i_X8_wordComes_59, i_X8_wordComes_60, i_X8_wordComes_61, i_X8_wordComes_62, i_X8_wordComes_65, i_X8_wordComes_66, i_X8_wordComes_67, i_X8_wordComes_68, i_X8_wordComes_250, i_X8_wordComes_251, gh_o32, gh_r34, gh_r35, gh_r36, gh_r37, gh_r54, gh_r55, gh_r56, gh_r57, gh_r58, gh_r59, gh_w54, gh_w55, gh_w56, gh_w57, gh_w58, gh_w59, gf_32_3, gf_32_4, gf_32_5, gf_32_6, gf_32_28, gf_32_29, gf_32_30, gf_32_31, gf_32_32, gf_32_33, z_o_i, z_ai_i, z_si_i, z_ab_b, z_ab_z, z_sb_b, z_sb_z, z_al_i, z_al_b, z_pu_s, z_pu_n, nI_toN, z_inN, true_and, and_true, nI_add, pk_mul, vu_eq, vu_ne, nI_leI, nI_ltI, nI_eqI, nI_eq0, ↓ok_0, ↓ok_1, bI_eq0, bI_ne0, ↓bI_ok, Nat.one_ne_zero, c_isVowel, if_true, if_false, ne_eq, not_true_eq_false, not_false_eq_true, nI_1ne, nI_0eq, nI_le0, pk_sub, bI_T, bI_F, Nat.zero_ne_one, Bool.false_eq_true, r34, Nat.le_refl]
    refine l_wc6 (A := C) (fun D hD h => ?_) 112 0 C (by omega) (fun _ _ _ => rfl) (fun j hj => absurd hj (by omega))
    refine hQ D (hF.trans (fun k hk => hD k (by omega) (by omega))) ⟨fun k hk => ?_, hS.2⟩
    rw [(h k hk).1, (h k hk).2]
    exact hS.1 k hk
  | succ m ih =>
    intro q C x3 x4 hq hF hs hS
    have r34 : C 34 w = nI (a 34 w) := (hF.rp hR).1.2.1 w
    have le : ¬ 3 * w + a 34 w ≤ 3 * w + q := by omega
    have b35 := (hb (3 * w + q)).2.2.1
    rw [i_X8_wordComes_57]
    simp (disch := omega) only [i_X8_wordComes_58, i_X8_wordComes_59, i_X8_wordComes_60, i_X8_wordComes_61, i_X8_wordComes_62, i_X8_wordComes_65, i_X8_wordComes_66, i_X8_wordComes_67, i_X8_wordComes_68, i_X8_wordComes_71, i_X8_wordComes_72, gh_o32, gh_r34, gh_r35, gh_r36, gh_r37, gh_r54, gh_r55, gh_r56, gh_r57, gh_r58, gh_r59, gh_w54, gh_w55, gh_w56, gh_w57, gh_w58, gh_w59, gf_32_3, gf_32_4, gf_32_5, gf_32_6, gf_32_28, gf_32_29, gf_32_30, gf_32_31, gf_32_32, gf_32_33, z_o_i, z_ai_i, z_si_i, z_ab_b, z_ab_z, z_sb_b, z_sb_z, z_al_i, z_al_b, z_pu_s, z_pu_n, nI_toN, z_inN, true_and, and_true, nI_add, pk_mul, vu_eq, vu_ne, nI_leI, nI_ltI, nI_eqI, nI_eq0, ↓ok_0, ↓ok_1, bI_eq0, bI_ne0, ↓bI_ok, Nat.one_ne_zero, c_isVowel, if_true, if_false, ne_eq, not_true_eq_false, not_false_eq_true, nI_1ne, nI_0eq, nI_le0, pk_sub, bI_T, bI_F, Nat.zero_ne_one, Bool.false_eq_true, r34, le]
    refine l_wc3 (A := C) (fun D hD h => ?_) 112 0 C (by omega) (fun _ _ _ => rfl) (fun j hj => absurd hj (by omega))
    simp (disch := omega) only [i_X8_wordComes_109, i_X8_wordComes_110, gh_o32, gh_r34, gh_r35, gh_r36, gh_r37, gh_r54, gh_r55, gh_r56, gh_r57, gh_r58, gh_r59, gh_w54, gh_w55, gh_w56, gh_w57, gh_w58, gh_w59, gf_32_3, gf_32_4, gf_32_5, gf_32_6, gf_32_28, gf_32_29, gf_32_30, gf_32_31, gf_32_32, gf_32_33, z_o_i, z_ai_i, z_si_i, z_ab_b, z_ab_z, z_sb_b, z_sb_z, z_al_i, z_al_b, z_pu_s, z_pu_n, nI_toN, z_inN, true_and, and_true, nI_add, pk_mul, vu_eq, vu_ne, nI_leI, nI_ltI, nI_eqI, nI_eq0, ↓ok_0, ↓ok_1, bI_eq0, bI_ne0, ↓bI_ok, Nat.one_ne_zero, c_isVowel, if_true, if_false, ne_eq, not_true_eq_false, not_false_eq_true, nI_1ne, nI_0eq, nI_le0, pk_sub, bI_T, bI_F, Nat.zero_ne_one, Bool.false_eq_true]
    have hFD : Fw A D := hF.trans (fun k hk => hD k (by omega) (by omega))
    refine l_wc4 (A := D) (B := B) (s := s) (hFD.rp hR) (by omega) (by omega) hO (fun E hE rE => ?_) (a 35 (3 * w + q)) 0 D (by omega) F4.refl ⟨fun k hk => ?_, hs.2⟩
    · simp (disch := omega) only [i_X8_wordComes_159, i_X8_wordComes_160, gh_o32, gh_r34, gh_r35, gh_r36, gh_r37, gh_r54, gh_r55, gh_r56, gh_r57, gh_r58, gh_r59, gh_w54, gh_w55, gh_w56, gh_w57, gh_w58, gh_w59, gf_32_3, gf_32_4, gf_32_5, gf_32_6, gf_32_28, gf_32_29, gf_32_30, gf_32_31, gf_32_32, gf_32_33, z_o_i, z_ai_i, z_si_i, z_ab_b, z_ab_z, z_sb_b, z_sb_z, z_al_i, z_al_b, z_pu_s, z_pu_n, nI_toN, z_inN, true_and, and_true, nI_add, pk_mul, vu_eq, vu_ne, nI_leI, nI_ltI, nI_eqI, nI_eq0, ↓ok_0, ↓ok_1, bI_eq0, bI_ne0, ↓bI_ok, Nat.one_ne_zero, c_isVowel, if_true, if_false, ne_eq, not_true_eq_false, not_false_eq_true, nI_1ne, nI_0eq, nI_le0, pk_sub, bI_T, bI_F, Nat.zero_ne_one, Bool.false_eq_true]
      have hFE : Fw A E := hFD.trans (fun k hk => hE k (by omega) (by omega) (by omega) (by omega))
      have g56 : E 56 = C 56 := by rw [hE 56 (by omega) (by omega) (by omega) (by omega), hD 56 (by omega) (by omega)]
      have g57 : E 57 = C 57 := by rw [hE 57 (by omega) (by omega) (by omega) (by omega), hD 57 (by omega) (by omega)]
      have g58 : E 58 = C 58 := by rw [hE 58 (by omega) (by omega) (by omega) (by omega), hD 58 (by omega) (by omega)]
      have g59 : E 59 = C 59 := by rw [hE 59 (by omega) (by omega) (by omega) (by omega), hD 59 (by omega) (by omega)]
      refine l_wc5 (A := E) (B := B + 36) (S := woF a w s q) (x := wsF a (3 * w + q) s (a 35 (3 * w + q))) (by omega) (rE.up (by omega)) (fun G y4 hG rG => ?_) 112 0 E _ (by omega) (fun _ _ _ => rfl) ?_
      · simp (disch := omega) only [i_X8_wordComes_244, i_X8_wordComes_247, gh_o32, gh_r34, gh_r35, gh_r36, gh_r37, gh_r54, gh_r55, gh_r56, gh_r57, gh_r58, gh_r59, gh_w54, gh_w55, gh_w56, gh_w57, gh_w58, gh_w59, gf_32_3, gf_32_4, gf_32_5, gf_32_6, gf_32_28, gf_32_29, gf_32_30, gf_32_31, gf_32_32, gf_32_33, z_o_i, z_ai_i, z_si_i, z_ab_b, z_ab_z, z_sb_b, z_sb_z, z_al_i, z_al_b, z_pu_s, z_pu_n, nI_toN, z_inN, true_and, and_true, nI_add, pk_mul, vu_eq, vu_ne, nI_leI, nI_ltI, nI_eqI, nI_eq0, ↓ok_0, ↓ok_1, bI_eq0, bI_ne0, ↓bI_ok, Nat.one_ne_zero, c_isVowel, if_true, if_false, ne_eq, not_true_eq_false, not_false_eq_true, nI_1ne, nI_0eq, nI_le0, pk_sub, bI_T, bI_F, Nat.zero_ne_one, Bool.false_eq_true]
        have := ih (q + 1) G (some (.int (nI 112))) y4 (by omega) (hFE.trans (fun k hk => hG k (by omega) (by omega))) (by rw [hG 58 (by omega) (by omega), hG 59 (by omega) (by omega), g58, g59]; exact hs) rG
        rw [← Nat.add_assoc] at this
        exact this
      · rw [g56, g57]
        have jj : jn (woF a w s q) (wsF a (3 * w + q) s (a 35 (3 * w + q))) 0 = woF a w s q := by
          funext k
          exact if_neg (by omega)
        rw [jj]
        exact hS
    · rw [(h k hk).1, (h k hk).2]
      exact hs.1 k hk
theorem c_wordComes {w : Nat} (hR : Rp a A) (hw : w < 24) (hB : B ≤ 1700) (hO : Okt s) (hs : Rs 1000000000 B 112 s (A 54) (A 55)) (hQ : ∀ C, Fw A C → Rs 1000000000 (B + 36) 112 (woq a w s) (C 54) (C 55) → Q none (GH C P dy) nx) : XC (d + 3) m_X8_wordComes [.ref 32, .int (nI w)] (GH A P dy) nx Q := by
  show X (d + 3) m_X8_wordComes 0 [some (.ref 32), some (.int (nI w)), none, none, none] [] (GH A P dy) nx 0 0 Q
  rw [i_X8_wordComes_0, i_X8_wordComes_1]
  refine l_wc1 (A := A) (fun C hC h => ?_) 112 0 A (by omega) (fun _ _ => rfl) (fun j hj => absurd hj (by omega))
  simp (disch := omega) only [i_X8_wordComes_53, i_X8_wordComes_54, i_X8_wordComes_55, i_X8_wordComes_56, gh_o32, gh_r34, gh_r35, gh_r36, gh_r37, gh_r54, gh_r55, gh_r56, gh_r57, gh_r58, gh_r59, gh_w54, gh_w55, gh_w56, gh_w57, gh_w58, gh_w59, gf_32_3, gf_32_4, gf_32_5, gf_32_6, gf_32_28, gf_32_29, gf_32_30, gf_32_31, gf_32_32, gf_32_33, z_o_i, z_ai_i, z_si_i, z_ab_b, z_ab_z, z_sb_b, z_sb_z, z_al_i, z_al_b, z_pu_s, z_pu_n, nI_toN, z_inN, true_and, and_true, nI_add, pk_mul, vu_eq, vu_ne, nI_leI, nI_ltI, nI_eqI, nI_eq0, ↓ok_0, ↓ok_1, bI_eq0, bI_ne0, ↓bI_ok, Nat.one_ne_zero, c_isVowel, if_true, if_false, ne_eq, not_true_eq_false, not_false_eq_true, nI_1ne, nI_0eq, nI_le0, pk_sub, bI_T, bI_F, Nat.zero_ne_one, Bool.false_eq_true]
  have hFC : Fw A C := fun k hk => hC k (by omega)
  have := l_wc2 (d := d) (bc := 0) (bs := 0) (A := A) (B := B) (s := s) hR hw hB hO hQ (a 34 w) 0 C none none (by omega) hFC ⟨fun k hk => by rw [(h k hk).1, (h k hk).2.1]; exact hs.1 k hk, hs.2⟩ ⟨fun k hk => ⟨(h k hk).2.2.1, (h k hk).2.2.2⟩, fun k => ⟨Nat.zero_le _, Nat.zero_le _⟩⟩
  exact this
end MWord2
