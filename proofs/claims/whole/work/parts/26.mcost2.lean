/-! THE MODEL: the cost of two tails, its table -/
def Tb (f g : Nat → Nat) (T : Nat → Int32) (m i j : Nat) : Prop := ∀ i' j', j' ≤ m → (i' < i ∨ i' = i ∧ j' < j) → T (26 * i' + j') = nI (dC f g i' j')
theorem Tb_step {f g : Nat → Nat} {T : Nat → Int32} {m i j v : Nat} (h : Tb f g T m i j) (hm : m ≤ 24) (hj : j ≤ m) (hv : v = dC f g i j) : Tb f g (va_up T (26 * i + j) (nI v)) m i (j + 1) := by
  intro i' j' hj' hc
  rw [vu_if]
  by_cases e : 26 * i' + j' = 26 * i + j
  · have e1 : i' = i := by omega
    have e2 : j' = j := by omega
    rw [if_pos e, e1, e2, hv]
  · rw [if_neg e]
    exact h i' j' hj' (by
      rcases hc with c | ⟨c1, c2⟩
      · exact Or.inl c
      · refine Or.inr ⟨c1, ?_⟩
        subst c1
        omega)
theorem Tb_next {f g : Nat → Nat} {T : Nat → Int32} {m i : Nat} (h : Tb f g T m i (m + 1)) : Tb f g T m (i + 1) 0 := by
  intro i' j' hj' hc
  refine h i' j' hj' ?_
  omega
section MCost2
variable {a : Nat → Nat → Nat} {A : Nat → Nat → Int32} {P : Nat → Nat → Nat} {dy : z_H} {d nx bc bs : Nat} {Q : z_Q} {n0 t0 n1 t1 : Nat} {f0 f1 : Nat → Nat}
theorem l_ctI {i m : Nat} {x1 : Option Value} (hW : Rw2 A n0 t0 f0 n1 t1 f1) (hi : i ≤ n0 - t0) (hm : m = n1 - t1) (hN : ∀ (T : Nat → Int32) (x5 x6 x7 : Option Value), Tb (fun i => f0 (t0 + i)) (fun j => f1 (t1 + j)) T m (i + 1) 0 → X (d + 2) m_X8_costOfTails 30 [some (.ref 32), x1, some (.int (nI m)), some (.int (nI (i + 1))), some (.int (nI (m + 1))), x5, x6, x7] [] (GH (va_up A 51 T) P dy) nx bc bs Q) : ∀ (k j : Nat) (T : Nat → Int32) (x5 x6 x7 : Option Value), j + k = m + 1 → Tb (fun i => f0 (t0 + i)) (fun j => f1 (t1 + j)) T m i j → X (d + 2) m_X8_costOfTails 38 [some (.ref 32), x1, some (.int (nI m)), some (.int (nI i)), some (.int (nI j)), x5, x6, x7] [] (GH (va_up A 51 T) P dy) nx bc bs Q := by
  obtain ⟨⟨h1, h2, h3, h4⟩, ⟨b1, b2, b3, b4⟩, hf, hg, bf, bg⟩ := hW
  intro k
  induction k with
  | zero =>
    intro j T x5 x6 x7 hj hT
    have e : j = m + 1 := by omega
    subst e
    have lt : m < m + 1 := by omega
    simp (disch := omega) only [i_X8_costOfTails_38, i_X8_costOfTails_40, i_X8_costOfTails_41, i_X8_costOfTails_301, i_X8_costOfTails_304, gh_o32, gh_r47, gh_r49, gh_r50, gh_r51, gh_w51, gf_32_21, gf_32_23, gf_32_24, gf_32_25, z_o_i, z_ai_i, z_si_i, z_ab_b, z_ab_z, z_sb_b, z_sb_z, z_al_i, z_al_b, z_pu_s, z_pu_n, nI_toN, z_inN, true_and, and_true, nI_add, pk_mul, vu_eq, vu_ne, nI_leI, nI_ltI, nI_eqI, nI_eq0, ↓ok_0, ↓ok_1, bI_eq0, bI_ne0, ↓bI_ok, Nat.one_ne_zero, c_isVowel, if_true, if_false, ne_eq, not_true_eq_false, not_false_eq_true, nI_1ne, nI_0eq, nI_le0, pk_sub, bI_T, bI_F, Nat.zero_ne_one, Bool.false_eq_true, lt]
    exact hN T x5 x6 x7 (Tb_next hT)
  | succ k ih =>
    intro j T x5 x6 x7 hj hT
    have lt : ¬ m < j := by omega
    rw [i_X8_costOfTails_38]
    simp (disch := omega) only [i_X8_costOfTails_40, i_X8_costOfTails_41, gh_o32, gh_r47, gh_r49, gh_r50, gh_r51, gh_w51, gf_32_21, gf_32_23, gf_32_24, gf_32_25, z_o_i, z_ai_i, z_si_i, z_ab_b, z_ab_z, z_sb_b, z_sb_z, z_al_i, z_al_b, z_pu_s, z_pu_n, nI_toN, z_inN, true_and, and_true, nI_add, pk_mul, vu_eq, vu_ne, nI_leI, nI_ltI, nI_eqI, nI_eq0, ↓ok_0, ↓ok_1, bI_eq0, bI_ne0, ↓bI_ok, Nat.one_ne_zero, c_isVowel, if_true, if_false, ne_eq, not_true_eq_false, not_false_eq_true, nI_1ne, nI_0eq, nI_le0, pk_sub, bI_T, bI_F, Nat.zero_ne_one, Bool.false_eq_true, lt]
    have go : ∀ (v : Nat) (y5 y6 y7 : Option Value), v = dC (fun i => f0 (t0 + i)) (fun j => f1 (t1 + j)) i j → X (d + 2) m_X8_costOfTails 281 [some (.ref 32), x1, some (.int (nI m)), some (.int (nI i)), some (.int (nI j)), some (.int (nI v)), y6, y7] [] (GH (va_up A 51 T) P dy) nx bc bs Q := by
      intro v y5 y6 y7 hv
      rw [s_ctD (by omega) (by omega), vu_vu, vu_eq]
      exact ih (j + 1) _ _ _ _ (by omega) (Tb_step hT (by omega) (by omega) hv)
    have p3 : va_up A 51 T 50 0 = nI t0 := h3
    have p4 : va_up A 51 T 50 1 = nI t1 := h4
    cases i with
    | zero =>
      cases j with
      | zero =>
        rw [s_ctA00]
        exact go 0 none _ _ rfl
      | succ j =>
        have q := hT 0 j (by omega) (Or.inr ⟨rfl, by omega⟩)
        have bd := dC_le (fun i => f0 (t0 + i)) (fun j => f1 (t1 + j)) 0 j
        have b8 := c1_le (f1 (t1 + j))
        rw [s_ctA0 (by omega), s_ctB (t1 := t1) (y := f1 (t1 + j)) (p := dC (fun i => f0 (t0 + i)) (fun j => f1 (t1 + j)) 0 j) (by omega) (by omega) p4 (by omega) (by rw [show 24 + t1 + (j + 1) - 1 = 24 + (t1 + j) by omega]; exact hg _ (by omega)) (bg _) (by rw [show 26 * 0 + (j + 1) - 1 = 26 * 0 + j by omega, vu_eq]; exact q) (by omega) (by omega), s_ctC0, Nat.min_eq_left (by omega)]
        exact go _ none _ _ rfl
    | succ i =>
      cases j with
      | zero =>
        have q := hT i 0 (by omega) (Or.inl (by omega))
        have bd := dC_le (fun i => f0 (t0 + i)) (fun j => f1 (t1 + j)) i 0
        rw [s_ctA (t0 := t0) (x := f0 (t0 + i)) (p := dC (fun i => f0 (t0 + i)) (fun j => f1 (t1 + j)) i 0) (by omega) (by omega) p3 (by omega) (by rw [show t0 + (i + 1) - 1 = t0 + i by omega]; exact hf _ (by omega)) (bf _) (by rw [show i + 1 - 1 = i by omega, vu_eq]; exact q) (by omega), s_ctB0 (by omega)]
        exact go _ none _ _ rfl
      | succ j =>
        have q1 := hT i (j + 1) (by omega) (Or.inl (by omega))
        have q2 := hT (i + 1) j (by omega) (Or.inr ⟨rfl, by omega⟩)
        have q3 := hT i j (by omega) (Or.inl (by omega))
        have d1 := dC_le (fun i => f0 (t0 + i)) (fun j => f1 (t1 + j)) i (j + 1)
        have d2 := dC_le (fun i => f0 (t0 + i)) (fun j => f1 (t1 + j)) (i + 1) j
        have d3 := dC_le (fun i => f0 (t0 + i)) (fun j => f1 (t1 + j)) i j
        have b8 := c1_le (f0 (t0 + i))
        have r0 : va_up A 51 T 47 (t0 + (i + 1) - 1) = nI (f0 (t0 + i)) := by rw [show t0 + (i + 1) - 1 = t0 + i by omega]; exact hf _ (by omega)
        have r1 : va_up A 51 T 47 (24 + t1 + (j + 1) - 1) = nI (f1 (t1 + j)) := by rw [show 24 + t1 + (j + 1) - 1 = 24 + (t1 + j) by omega]; exact hg _ (by omega)
        rw [s_ctA (t0 := t0) (x := f0 (t0 + i)) (p := dC (fun i => f0 (t0 + i)) (fun j => f1 (t1 + j)) i (j + 1)) (by omega) (by omega) p3 (by omega) r0 (bf _) (by rw [show i + 1 - 1 = i by omega, vu_eq]; exact q1) (by omega)]
        rw [s_ctB (t1 := t1) (y := f1 (t1 + j)) (p := dC (fun i => f0 (t0 + i)) (fun j => f1 (t1 + j)) (i + 1) j) (by omega) (by omega) p4 (by omega) r1 (bg _) (by rw [show 26 * (i + 1) + (j + 1) - 1 = 26 * (i + 1) + j by omega, vu_eq]; exact q2) (by omega) (by omega)]
        obtain ⟨y6, y7, hC⟩ := s_ctC (d := d) (nx := nx) (bc := bc) (bs := bs) (Q := Q) (P := P) (dy := dy) (x1 := x1) (x2 := some (.int (nI m))) (x6 := some (.int (nI (f1 (t1 + j))))) (x7 := some (.int (nI (dC (fun i => f0 (t0 + i)) (fun j => f1 (t1 + j)) (i + 1) j + c1 (f1 (t1 + j)))))) (A := va_up A 51 T) (i := i + 1) (j := j + 1) (x := f0 (t0 + i)) (y := f1 (t1 + j)) (p := dC (fun i => f0 (t0 + i)) (fun j => f1 (t1 + j)) i j) (b := min (dC (fun i => f0 (t0 + i)) (fun j => f1 (t1 + j)) (i + 1) j + c1 (f1 (t1 + j))) (dC (fun i => f0 (t0 + i)) (fun j => f1 (t1 + j)) i (j + 1) + c1 (f0 (t0 + i)))) (by omega) (by omega) p3 p4 (by omega) (by omega) r0 (bf _) r1 (bg _) (by rw [show 26 * (i + 1 - 1) + (j + 1) - 1 = 26 * i + j by omega, vu_eq]; exact q3) (by omega) (by omega)
        rw [hC]
        exact go _ none _ _ rfl
theorem l_ctO {n m : Nat} (hW : Rw2 A n0 t0 f0 n1 t1 f1) (hn : n = n0 - t0) (hm : m = n1 - t1) (hQ : ∀ T : Nat → Int32, Q (some (.int (nI (dC (fun i => f0 (t0 + i)) (fun j => f1 (t1 + j)) n m)))) (GH (va_up A 51 T) P dy) nx) : ∀ (k i : Nat) (T : Nat → Int32) (x4 x5 x6 x7 : Option Value), i + k = n + 1 → Tb (fun i => f0 (t0 + i)) (fun j => f1 (t1 + j)) T m i 0 → X (d + 2) m_X8_costOfTails 30 [some (.ref 32), some (.int (nI n)), some (.int (nI m)), some (.int (nI i)), x4, x5, x6, x7] [] (GH (va_up A 51 T) P dy) nx bc bs Q := by
  have hW' := hW
  obtain ⟨⟨h1, h2, h3, h4⟩, ⟨b1, b2, b3, b4⟩, hf, hg, bf, bg⟩ := hW
  intro k
  induction k with
  | zero =>
    intro i T x4 x5 x6 x7 hi hT
    have e : i = n + 1 := by omega
    subst e
    have lt : n < n + 1 := by omega
    have q := hT n m (by omega) (Or.inl lt)
    simp (disch := omega) only [i_X8_costOfTails_30, i_X8_costOfTails_31, i_X8_costOfTails_32, i_X8_costOfTails_307, i_X8_costOfTails_308, i_X8_costOfTails_311, i_X8_costOfTails_313, i_X8_costOfTails_314, i_X8_costOfTails_315, i_X8_costOfTails_316, i_X8_costOfTails_317, i_X8_costOfTails_318, gh_o32, gh_r47, gh_r49, gh_r50, gh_r51, gh_w51, gf_32_21, gf_32_23, gf_32_24, gf_32_25, z_o_i, z_ai_i, z_si_i, z_ab_b, z_ab_z, z_sb_b, z_sb_z, z_al_i, z_al_b, z_pu_s, z_pu_n, nI_toN, z_inN, true_and, and_true, nI_add, pk_mul, vu_eq, vu_ne, nI_leI, nI_ltI, nI_eqI, nI_eq0, ↓ok_0, ↓ok_1, bI_eq0, bI_ne0, ↓bI_ok, Nat.one_ne_zero, c_isVowel, if_true, if_false, ne_eq, not_true_eq_false, not_false_eq_true, nI_1ne, nI_0eq, nI_le0, pk_sub, bI_T, bI_F, Nat.zero_ne_one, Bool.false_eq_true, lt, q]
    exact hQ T
  | succ k ih =>
    intro i T x4 x5 x6 x7 hi hT
    have lt : ¬ n < i := by omega
    rw [i_X8_costOfTails_30]
    simp (disch := omega) only [i_X8_costOfTails_31, i_X8_costOfTails_32, i_X8_costOfTails_35, i_X8_costOfTails_36, gh_o32, gh_r47, gh_r49, gh_r50, gh_r51, gh_w51, gf_32_21, gf_32_23, gf_32_24, gf_32_25, z_o_i, z_ai_i, z_si_i, z_ab_b, z_ab_z, z_sb_b, z_sb_z, z_al_i, z_al_b, z_pu_s, z_pu_n, nI_toN, z_inN, true_and, and_true, nI_add, pk_mul, vu_eq, vu_ne, nI_leI, nI_ltI, nI_eqI, nI_eq0, ↓ok_0, ↓ok_1, bI_eq0, bI_ne0, ↓bI_ok, Nat.one_ne_zero, c_isVowel, if_true, if_false, ne_eq, not_true_eq_false, not_false_eq_true, nI_1ne, nI_0eq, nI_le0, pk_sub, bI_T, bI_F, Nat.zero_ne_one, Bool.false_eq_true, lt]
    exact l_ctI hW' (by omega) hm (fun T y5 y6 y7 hT => ih (i + 1) T _ y5 y6 y7 (by omega) hT) (m + 1) 0 T x5 x6 x7 (by omega) hT
theorem c_costOfTails (hW : Rw2 A n0 t0 f0 n1 t1 f1) (hQ : ∀ T : Nat → Int32, Q (some (.int (nI (dC (fun i => f0 (t0 + i)) (fun j => f1 (t1 + j)) (n0 - t0) (n1 - t1))))) (GH (va_up A 51 T) P dy) nx) : XC (d + 2) m_X8_costOfTails [.ref 32] (GH A P dy) nx Q := by
  show X (d + 2) m_X8_costOfTails 0 [some (.ref 32), none, none, none, none, none, none, none] [] (GH A P dy) nx 0 0 Q
  have hW' := hW
  obtain ⟨⟨h1, h2, h3, h4⟩, ⟨b1, b2, b3, b4⟩, hf, hg, bf, bg⟩ := hW
  simp (disch := omega) only [i_X8_costOfTails_0, i_X8_costOfTails_1, i_X8_costOfTails_4, i_X8_costOfTails_5, i_X8_costOfTails_6, i_X8_costOfTails_7, i_X8_costOfTails_10, i_X8_costOfTails_11, i_X8_costOfTails_12, i_X8_costOfTails_13, i_X8_costOfTails_14, i_X8_costOfTails_15, i_X8_costOfTails_18, i_X8_costOfTails_19, i_X8_costOfTails_20, i_X8_costOfTails_21, i_X8_costOfTails_24, i_X8_costOfTails_25, i_X8_costOfTails_26, i_X8_costOfTails_27, i_X8_costOfTails_28, i_X8_costOfTails_29, gh_o32, gh_r47, gh_r49, gh_r50, gh_r51, gh_w51, gf_32_21, gf_32_23, gf_32_24, gf_32_25, z_o_i, z_ai_i, z_si_i, z_ab_b, z_ab_z, z_sb_b, z_sb_z, z_al_i, z_al_b, z_pu_s, z_pu_n, nI_toN, z_inN, true_and, and_true, nI_add, pk_mul, vu_eq, vu_ne, nI_leI, nI_ltI, nI_eqI, nI_eq0, ↓ok_0, ↓ok_1, bI_eq0, bI_ne0, ↓bI_ok, Nat.one_ne_zero, c_isVowel, if_true, if_false, ne_eq, not_true_eq_false, not_false_eq_true, nI_1ne, nI_0eq, nI_le0, pk_sub, bI_T, bI_F, Nat.zero_ne_one, Bool.false_eq_true, h1, h2, h3, h4]
  have hh := l_ctO (d := d) (bc := 0) (bs := 0) hW' rfl rfl hQ (n0 - t0 + 1) 0 (A 51) none none none none (by omega) (fun i' j' _ c => by omega)
  rw [vu_self rfl] at hh
  exact hh
end MCost2
