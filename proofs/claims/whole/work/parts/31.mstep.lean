/-! THE MODEL: come, step -/
/-- one more way of a cost to a state -/
def tk (x : Nat × Nat) (n c : Nat) : Nat × Nat := if n = 0 then x else (min (x.1 + n) 1000000, if x.1 = 0 then c else min c x.2)
def tu (s : Nat → Nat × Nat) (k n c : Nat) : Nat → Nat × Nat := va_up s k (tk (s k) n c)
def lo (F : Nat) (x : Nat × Nat) : Nat := if x.1 = 0 then F else x.2
/-- two rows are a state -/
def Rs (F B n : Nat) (s : Nat → Nat × Nat) (M L : Nat → Int32) : Prop := (∀ k, k < n → M k = nI (s k).1 ∧ L k = nI (lo F (s k))) ∧ ∀ k, (s k).1 ≤ 1000000 ∧ (s k).2 ≤ B
/-- only the rows of the next state may differ -/
def Fs (A B : Nat → Nat → Int32) : Prop := ∀ k, k ≠ 60 → k ≠ 61 → B k = A k
theorem Fs.refl {A : Nat → Nat → Int32} : Fs A A := fun _ _ _ => rfl
theorem Fs.trans {A B C : Nat → Nat → Int32} (h : Fs A B) (g : Fs B C) : Fs A C := fun k h1 h2 => (g k h1 h2).trans (h k h1 h2)
theorem tk_b {x : Nat × Nat} {n c B : Nat} (h : x.1 ≤ 1000000 ∧ x.2 ≤ B) (hc : c ≤ B) : (tk x n c).1 ≤ 1000000 ∧ (tk x n c).2 ≤ B := by
  unfold tk
  by_cases e : n = 0
  · rw [if_pos e]; exact h
  · rw [if_neg e]
    refine ⟨Nat.min_le_right _ _, ?_⟩
    by_cases z : x.1 = 0
    · simp only [z, if_true]; exact hc
    · simp only [z, if_false]; omega
theorem sh1 {k : Nat} (h : k < 2147483648) : nI k >>> (nI 1 &&& 31) = nI (k / 2) := pk_shrN h (nI 1 &&& 31) 1 (by decide)
theorem sh2 {k : Nat} (h : k < 2147483648) : nI k >>> (nI 2 &&& 31) = nI (k / 4) := pk_shrN h (nI 2 &&& 31) 2 (by decide)
theorem an1 {k : Nat} (h : k < 2147483648) : nI k &&& nI 1 = nI (k % 2) := pk_andN (by omega) 1 (by decide)
section MStep
variable {a : Nat → Nat → Nat} {A : Nat → Nat → Int32} {P : Nat → Nat → Nat} {dy : z_H} {d nx bc bs : Nat} {Q : z_Q}
theorem c_come {s : Nat → Nat × Nat} {k n c B : Nat} (hk : k < 112) (hn : 0 < n ∧ n ≤ 1000000) (hc : c ≤ B) (hB : B ≤ 2000) (hr : Rs 1000000000 B 112 s (A 60) (A 61)) (hQ : ∀ C, Fs A C → Rs 1000000000 B 112 (tu s k n c) (C 60) (C 61) → Q none (GH C P dy) nx) : XC d m_X8_come [.ref 32, .int (nI k), .int (nI n), .int (nI c)] (GH A P dy) nx Q := by
  show X d m_X8_come 0 [some (.ref 32), some (.int (nI k)), some (.int (nI n)), some (.int (nI c)), none] [] (GH A P dy) nx 0 0 Q
  obtain ⟨h1, h2⟩ := hr
  obtain ⟨q1, q2⟩ := h1 k hk
  obtain ⟨b1, b2⟩ := h2 k
  have bl : lo 1000000000 (s k) ≤ 1000000000 := by
    unfold lo
    by_cases z : (s k).1 = 0
    · rw [if_pos z]; omega
    · rw [if_neg z]; omega
  have key : ∀ v l : Nat, v = (tk (s k) n c).1 → l = lo 1000000000 (tk (s k) n c) → Q none (GH (va_up (va_up A 60 (va_up (A 60) k (nI v))) 61 (va_up (A 61) k (nI l))) P dy) nx := by
    intro v l hv hl
    refine hQ _ (fun j j0 j1 => by rw [vu_ne j1, vu_ne j0]) ⟨fun j hj => ?_, fun j => ?_⟩
    · rw [vu_eq, vu_ne (by omega), vu_eq, tu, vu_if, vu_if, vu_if]
      by_cases e : j = k
      · rw [if_pos e, if_pos e, if_pos e, hv, hl]; exact ⟨rfl, rfl⟩
      · rw [if_neg e, if_neg e, if_neg e]; exact h1 j hj
    · rw [tu, vu_if]
      by_cases e : j = k
      · rw [if_pos e]; exact tk_b (h2 k) hc
      · rw [if_neg e]; exact h2 j
  have n0 : ¬ n = 0 := by omega
  have e1 : va_up A 60 (va_up (A 60) k (nI (min ((s k).1 + n) 1000000))) 61 = A 61 := rfl
  by_cases le : (s k).1 + n ≤ 1000000
  · have m1 : min ((s k).1 + n) 1000000 = (s k).1 + n := by omega
    rw [m1] at e1
    by_cases lt : lo 1000000000 (s k) ≤ c
    · have z : ¬ (s k).1 = 0 := by intro z; simp only [lo, z, if_true] at lt; omega
      simp (disch := omega) only [i_X8_come_0, i_X8_come_1, i_X8_come_4, i_X8_come_5, i_X8_come_6, i_X8_come_7, i_X8_come_8, i_X8_come_10, i_X8_come_11, i_X8_come_14, i_X8_come_15, i_X8_come_17, i_X8_come_19, i_X8_come_22, i_X8_come_24, i_X8_come_27, i_X8_come_29, i_X8_come_30, i_X8_come_31, i_X8_come_34, i_X8_come_35, i_X8_come_36, i_X8_come_37, i_X8_come_40, i_X8_come_41, i_X8_come_42, i_X8_come_45, i_X8_come_46, i_X8_come_49, i_X8_come_50, i_X8_come_53, i_X8_come_54, i_X8_come_55, i_X8_come_56, gh_o32, gh_r41, gh_r54, gh_r55, gh_r60, gh_r61, gh_w60, gh_w61, gf_32_11, gf_32_12, gf_32_28, gf_32_29, gf_32_34, gf_32_35, z_o_i, z_ai_i, z_si_i, z_ab_b, z_ab_z, z_sb_b, z_sb_z, z_al_i, z_al_b, z_pu_s, z_pu_n, nI_toN, z_inN, true_and, and_true, nI_add, pk_mul, vu_eq, vu_ne, nI_leI, nI_ltI, nI_eqI, nI_eq0, ↓ok_0, ↓ok_1, bI_eq0, bI_ne0, ↓bI_ok, Nat.one_ne_zero, c_isVowel, if_true, if_false, ne_eq, not_true_eq_false, not_false_eq_true, nI_1ne, nI_0eq, nI_le0, pk_sub, bI_T, bI_F, Nat.zero_ne_one, Bool.false_eq_true, q1, q2, le, lt, e1]
      refine key _ _ (by simp only [tk, n0, if_false]; omega) ?_
      simp only [lo, z, if_false] at lt
      simp only [lo, tk, n0, if_false, z]
      rw [if_neg (by omega)]
      omega
    · simp (disch := omega) only [i_X8_come_0, i_X8_come_1, i_X8_come_4, i_X8_come_5, i_X8_come_6, i_X8_come_7, i_X8_come_8, i_X8_come_10, i_X8_come_11, i_X8_come_14, i_X8_come_15, i_X8_come_17, i_X8_come_19, i_X8_come_22, i_X8_come_24, i_X8_come_27, i_X8_come_29, i_X8_come_30, i_X8_come_31, i_X8_come_34, i_X8_come_35, i_X8_come_36, i_X8_come_37, i_X8_come_40, i_X8_come_41, i_X8_come_42, i_X8_come_45, i_X8_come_46, i_X8_come_49, i_X8_come_50, i_X8_come_53, i_X8_come_54, i_X8_come_55, i_X8_come_56, gh_o32, gh_r41, gh_r54, gh_r55, gh_r60, gh_r61, gh_w60, gh_w61, gf_32_11, gf_32_12, gf_32_28, gf_32_29, gf_32_34, gf_32_35, z_o_i, z_ai_i, z_si_i, z_ab_b, z_ab_z, z_sb_b, z_sb_z, z_al_i, z_al_b, z_pu_s, z_pu_n, nI_toN, z_inN, true_and, and_true, nI_add, pk_mul, vu_eq, vu_ne, nI_leI, nI_ltI, nI_eqI, nI_eq0, ↓ok_0, ↓ok_1, bI_eq0, bI_ne0, ↓bI_ok, Nat.one_ne_zero, c_isVowel, if_true, if_false, ne_eq, not_true_eq_false, not_false_eq_true, nI_1ne, nI_0eq, nI_le0, pk_sub, bI_T, bI_F, Nat.zero_ne_one, Bool.false_eq_true, q1, q2, le, lt, e1]
      refine key _ _ (by simp only [tk, n0, if_false]; omega) ?_
      by_cases z : (s k).1 = 0
      · simp only [lo, tk, n0, if_false, z, if_true]
        rw [if_neg (by omega)]
      · simp only [lo, z, if_false] at lt
        simp only [lo, tk, n0, if_false, z]
        rw [if_neg (by omega)]
        omega
  · have m1 : min ((s k).1 + n) 1000000 = 1000000 := by omega
    rw [m1] at e1
    have z : ¬ (s k).1 = 0 := by omega
    by_cases lt : lo 1000000000 (s k) ≤ c
    · simp (disch := omega) only [i_X8_come_0, i_X8_come_1, i_X8_come_4, i_X8_come_5, i_X8_come_6, i_X8_come_7, i_X8_come_8, i_X8_come_10, i_X8_come_11, i_X8_come_14, i_X8_come_15, i_X8_come_17, i_X8_come_19, i_X8_come_22, i_X8_come_24, i_X8_come_27, i_X8_come_29, i_X8_come_30, i_X8_come_31, i_X8_come_34, i_X8_come_35, i_X8_come_36, i_X8_come_37, i_X8_come_40, i_X8_come_41, i_X8_come_42, i_X8_come_45, i_X8_come_46, i_X8_come_49, i_X8_come_50, i_X8_come_53, i_X8_come_54, i_X8_come_55, i_X8_come_56, gh_o32, gh_r41, gh_r54, gh_r55, gh_r60, gh_r61, gh_w60, gh_w61, gf_32_11, gf_32_12, gf_32_28, gf_32_29, gf_32_34, gf_32_35, z_o_i, z_ai_i, z_si_i, z_ab_b, z_ab_z, z_sb_b, z_sb_z, z_al_i, z_al_b, z_pu_s, z_pu_n, nI_toN, z_inN, true_and, and_true, nI_add, pk_mul, vu_eq, vu_ne, nI_leI, nI_ltI, nI_eqI, nI_eq0, ↓ok_0, ↓ok_1, bI_eq0, bI_ne0, ↓bI_ok, Nat.one_ne_zero, c_isVowel, if_true, if_false, ne_eq, not_true_eq_false, not_false_eq_true, nI_1ne, nI_0eq, nI_le0, pk_sub, bI_T, bI_F, Nat.zero_ne_one, Bool.false_eq_true, q1, q2, le, lt, e1]
      refine key _ _ (by simp only [tk, n0, if_false]; omega) ?_
      simp only [lo, z, if_false] at lt
      simp only [lo, tk, n0, if_false, z]
      rw [if_neg (by omega)]
      omega
    · simp (disch := omega) only [i_X8_come_0, i_X8_come_1, i_X8_come_4, i_X8_come_5, i_X8_come_6, i_X8_come_7, i_X8_come_8, i_X8_come_10, i_X8_come_11, i_X8_come_14, i_X8_come_15, i_X8_come_17, i_X8_come_19, i_X8_come_22, i_X8_come_24, i_X8_come_27, i_X8_come_29, i_X8_come_30, i_X8_come_31, i_X8_come_34, i_X8_come_35, i_X8_come_36, i_X8_come_37, i_X8_come_40, i_X8_come_41, i_X8_come_42, i_X8_come_45, i_X8_come_46, i_X8_come_49, i_X8_come_50, i_X8_come_53, i_X8_come_54, i_X8_come_55, i_X8_come_56, gh_o32, gh_r41, gh_r54, gh_r55, gh_r60, gh_r61, gh_w60, gh_w61, gf_32_11, gf_32_12, gf_32_28, gf_32_29, gf_32_34, gf_32_35, z_o_i, z_ai_i, z_si_i, z_ab_b, z_ab_z, z_sb_b, z_sb_z, z_al_i, z_al_b, z_pu_s, z_pu_n, nI_toN, z_inN, true_and, and_true, nI_add, pk_mul, vu_eq, vu_ne, nI_leI, nI_ltI, nI_eqI, nI_eq0, ↓ok_0, ↓ok_1, bI_eq0, bI_ne0, ↓bI_ok, Nat.one_ne_zero, c_isVowel, if_true, if_false, ne_eq, not_true_eq_false, not_false_eq_true, nI_1ne, nI_0eq, nI_le0, pk_sub, bI_T, bI_F, Nat.zero_ne_one, Bool.false_eq_true, q1, q2, le, lt, e1]
      refine key _ _ (by simp only [tk, n0, if_false]; omega) ?_
      simp only [lo, z, if_false] at lt
      simp only [lo, tk, n0, if_false, z]
      rw [if_neg (by omega)]
      omega
end MStep
