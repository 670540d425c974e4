/-! THE MODEL: syllable -/
def syF (mk : Nat → Nat) (marks st : Nat) (s : Nat → Nat × Nat) : Nat → Nat → Nat × Nat
  | 0 => fun _ => (0, 0)
  | k + 1 => if (s k).1 = 0 then syF mk marks st s k else stq mk marks st k (s k).1 (s k).2 (syF mk marks st s k)
/-- the states after one more syllable -/
def syq (mk : Nat → Nat) (marks st : Nat) (s : Nat → Nat × Nat) : Nat → Nat × Nat := syF mk marks st s 112
/-- only rows 54 and 55 may differ; only 54, 55, 60 and 61 -/
def Fm (A B : Nat → Nat → Int32) : Prop := ∀ k, k ≠ 54 → k ≠ 55 → B k = A k
def F4 (A B : Nat → Nat → Int32) : Prop := ∀ k, k ≠ 54 → k ≠ 55 → k ≠ 60 → k ≠ 61 → B k = A k
theorem F4.refl {A : Nat → Nat → Int32} : F4 A A := fun _ _ _ _ _ => rfl
theorem F4.trans {A B C : Nat → Nat → Int32} (h : F4 A B) (g : F4 B C) : F4 A C := fun k h1 h2 h3 h4 => (g k h1 h2 h3 h4).trans (h k h1 h2 h3 h4)
theorem Fs.f4 {A B : Nat → Nat → Int32} (h : Fs A B) : F4 A B := fun k _ _ h3 h4 => h k h3 h4
theorem Fm.f4 {A B : Nat → Nat → Int32} (h : Fm A B) : F4 A B := fun k h1 h2 _ _ => h k h1 h2
theorem lo_pos {F : Nat} {x : Nat × Nat} (h : ¬ x.1 = 0) : lo F x = x.2 := if_neg h
theorem Rs.up {F B C n : Nat} {s : Nat → Nat × Nat} {M L : Nat → Int32} (h : Rs F B n s M L) (hB : B ≤ C) : Rs F C n s M L := ⟨h.1, fun k => ⟨(h.2 k).1, Nat.le_trans (h.2 k).2 hB⟩⟩
section MSyl
variable {a : Nat → Nat → Nat} {A : Nat → Nat → Int32} {P : Nat → Nat → Nat} {dy : z_H} {d nx bc bs : Nat} {Q : z_Q} {mk : Nat → Nat} {marks st B : Nat} {s : Nat → Nat × Nat}
theorem l_sy1 {x1 : Option Value} (hN : ∀ C, Fs A C → (∀ j, j < 112 → C 60 j = nI 0 ∧ C 61 j = nI 1000000000) → X (d + 2) m_X8_syllable 31 [some (.ref 32), x1, some (.int (nI 0))] [] (GH C P dy) nx bc bs Q) : ∀ (m i : Nat) (C : Nat → Nat → Int32), i + m = 112 → Fs A C → (∀ j, j < i → C 60 j = nI 0 ∧ C 61 j = nI 1000000000) → X (d + 2) m_X8_syllable 2 [some (.ref 32), x1, some (.int (nI i))] [] (GH C P dy) nx bc bs Q := by
  intro m
  induction m with
  | zero =>
    intro i C hi hF h
    have le : 112 ≤ i := by omega
    simp (disch := omega) only [i_X8_syllable_2, i_X8_syllable_3, i_X8_syllable_5, i_X8_syllable_29, i_X8_syllable_30, gh_o32, gh_r41, gh_r54, gh_r55, gh_r60, gh_r61, gh_w60, gh_w61, gh_w54, gh_w55, gf_32_11, gf_32_12, gf_32_28, gf_32_29, gf_32_34, gf_32_35, z_o_i, z_ai_i, z_si_i, z_ab_b, z_ab_z, z_sb_b, z_sb_z, z_al_i, z_al_b, z_pu_s, z_pu_n, nI_toN, z_inN, true_and, and_true, nI_add, pk_mul, vu_eq, vu_ne, nI_leI, nI_ltI, nI_eqI, nI_eq0, ↓ok_0, ↓ok_1, bI_eq0, bI_ne0, ↓bI_ok, Nat.one_ne_zero, c_isVowel, if_true, if_false, ne_eq, not_true_eq_false, not_false_eq_true, nI_1ne, nI_0eq, nI_le0, pk_sub, bI_T, bI_F, Nat.zero_ne_one, Bool.false_eq_true, le]
    exact hN C hF (fun j hj => h j (by omega))
  | succ m ih =>
    intro i C hi hF h
    have le : ¬ 112 ≤ i := by omega
    rw [i_X8_syllable_2]
    simp (disch := omega) only [i_X8_syllable_3, i_X8_syllable_5, i_X8_syllable_8, i_X8_syllable_9, i_X8_syllable_12, i_X8_syllable_13, i_X8_syllable_14, i_X8_syllable_15, i_X8_syllable_16, i_X8_syllable_19, i_X8_syllable_20, i_X8_syllable_22, i_X8_syllable_23, i_X8_syllable_26, gh_o32, gh_r41, gh_r54, gh_r55, gh_r60, gh_r61, gh_w60, gh_w61, gh_w54, gh_w55, gf_32_11, gf_32_12, gf_32_28, gf_32_29, gf_32_34, gf_32_35, z_o_i, z_ai_i, z_si_i, z_ab_b, z_ab_z, z_sb_b, z_sb_z, z_al_i, z_al_b, z_pu_s, z_pu_n, nI_toN, z_inN, true_and, and_true, nI_add, pk_mul, vu_eq, vu_ne, nI_leI, nI_ltI, nI_eqI, nI_eq0, ↓ok_0, ↓ok_1, bI_eq0, bI_ne0, ↓bI_ok, Nat.one_ne_zero, c_isVowel, if_true, if_false, ne_eq, not_true_eq_false, not_false_eq_true, nI_1ne, nI_0eq, nI_le0, pk_sub, bI_T, bI_F, Nat.zero_ne_one, Bool.false_eq_true, le]
    refine ih (i + 1) _ (by omega) (fun k h1 h2 => by rw [vu_ne h2, vu_ne h1]; exact hF k h1 h2) (fun j hj => ?_)
    have e1 : ∀ (M L : Nat → Int32), va_up (va_up C 60 M) 61 L 60 = M := fun M L => by rw [vu_ne (by omega), vu_eq]
    have e2 : ∀ (M L : Nat → Int32), va_up (va_up C 60 M) 61 L 61 = L := fun M L => by rw [vu_eq]
    rw [e1, e2, vu_if, vu_if]
    by_cases e : j = i
    · rw [if_pos e, if_pos e]; exact ⟨rfl, rfl⟩
    · rw [if_neg e, if_neg e]; exact h j (by omega)
theorem l_sy3 {x1 : Option Value} (hN : ∀ C, Fm A C → (∀ j, j < 112 → C 54 j = A 60 j ∧ C 55 j = A 61 j) → Q none (GH C P dy) nx) : ∀ (m i : Nat) (C : Nat → Nat → Int32), i + m = 112 → Fm A C → (∀ j, j < i → C 54 j = A 60 j ∧ C 55 j = A 61 j) → X (d + 2) m_X8_syllable 60 [some (.ref 32), x1, some (.int (nI i))] [] (GH C P dy) nx bc bs Q := by
  intro m
  induction m with
  | zero =>
    intro i C hi hF h
    have le : 112 ≤ i := by omega
    simp (disch := omega) only [i_X8_syllable_60, i_X8_syllable_61, i_X8_syllable_63, i_X8_syllable_96, gh_o32, gh_r41, gh_r54, gh_r55, gh_r60, gh_r61, gh_w60, gh_w61, gh_w54, gh_w55, gf_32_11, gf_32_12, gf_32_28, gf_32_29, gf_32_34, gf_32_35, z_o_i, z_ai_i, z_si_i, z_ab_b, z_ab_z, z_sb_b, z_sb_z, z_al_i, z_al_b, z_pu_s, z_pu_n, nI_toN, z_inN, true_and, and_true, nI_add, pk_mul, vu_eq, vu_ne, nI_leI, nI_ltI, nI_eqI, nI_eq0, ↓ok_0, ↓ok_1, bI_eq0, bI_ne0, ↓bI_ok, Nat.one_ne_zero, c_isVowel, if_true, if_false, ne_eq, not_true_eq_false, not_false_eq_true, nI_1ne, nI_0eq, nI_le0, pk_sub, bI_T, bI_F, Nat.zero_ne_one, Bool.false_eq_true, le]
    exact hN C hF (fun j hj => h j (by omega))
  | succ m ih =>
    intro i C hi hF h
    have le : ¬ 112 ≤ i := by omega
    rw [i_X8_syllable_60]
    simp (disch := omega) only [i_X8_syllable_61, i_X8_syllable_63, i_X8_syllable_66, i_X8_syllable_67, i_X8_syllable_70, i_X8_syllable_71, i_X8_syllable_72, i_X8_syllable_75, i_X8_syllable_76, i_X8_syllable_77, i_X8_syllable_78, i_X8_syllable_79, i_X8_syllable_82, i_X8_syllable_83, i_X8_syllable_84, i_X8_syllable_87, i_X8_syllable_88, i_X8_syllable_89, i_X8_syllable_90, i_X8_syllable_93, gh_o32, gh_r41, gh_r54, gh_r55, gh_r60, gh_r61, gh_w60, gh_w61, gh_w54, gh_w55, gf_32_11, gf_32_12, gf_32_28, gf_32_29, gf_32_34, gf_32_35, z_o_i, z_ai_i, z_si_i, z_ab_b, z_ab_z, z_sb_b, z_sb_z, z_al_i, z_al_b, z_pu_s, z_pu_n, nI_toN, z_inN, true_and, and_true, nI_add, pk_mul, vu_eq, vu_ne, nI_leI, nI_ltI, nI_eqI, nI_eq0, ↓ok_0, ↓ok_1, bI_eq0, bI_ne0, ↓bI_ok, Nat.one_ne_zero, c_isVowel, if_true, if_false, ne_eq, not_true_eq_false, not_false_eq_true, nI_1ne, nI_0eq, nI_le0, pk_sub, bI_T, bI_F, Nat.zero_ne_one, Bool.false_eq_true, le]
    refine ih (i + 1) _ (by omega) (fun k h1 h2 => by rw [vu_ne h2, vu_ne h1]; exact hF k h1 h2) (fun j hj => ?_)
    have e1 : ∀ (M L : Nat → Int32), va_up (va_up C 54 M) 55 L 54 = M := fun M L => by rw [vu_ne (by omega), vu_eq]
    have e2 : ∀ (M L : Nat → Int32), va_up (va_up C 54 M) 55 L 55 = L := fun M L => by rw [vu_eq]
    rw [e1, e2, vu_if, vu_if]
    have f0 := hF 60 (by omega) (by omega)
    have f1 := hF 61 (by omega) (by omega)
    by_cases e : j = i
    · rw [if_pos e, if_pos e, e, f0, f1]; exact ⟨rfl, rfl⟩
    · rw [if_neg e, if_neg e]; exact h j (by omega)
theorem l_sy2 (hm : marks ≤ 12) (bm : ∀ j, mk j ≤ 2) (h11 : A 32 11 = nI marks) (h41 : ∀ j, j < 12 → A 41 j = nI (mk j)) (ht : ∀ k, ¬ (s k).1 = 0 → k / 4 % 2 = 1 → k / 8 ≤ 12) (hst : st ≤ 2) (hB : B ≤ 1900) (hr : Rs 1000000000 B 112 s (A 54) (A 55)) (hQ : ∀ C, F4 A C → Rs 1000000000 (B + 3) 112 (syq mk marks st s) (C 54) (C 55) → Q none (GH C P dy) nx) : ∀ (m i : Nat) (C : Nat → Nat → Int32), i + m = 112 → Fs A C → Rs 1000000000 (B + 3) 112 (syF mk marks st s i) (C 60) (C 61) → X (d + 2) m_X8_syllable 31 [some (.ref 32), some (.int (nI st)), some (.int (nI i))] [] (GH C P dy) nx bc bs Q := by
  intro m
  induction m with
  | zero =>
    intro i C hi hF hC
    have le : 112 ≤ i := by omega
    have e : i = 112 := by omega
    subst e
    simp (disch := omega) only [i_X8_syllable_31, i_X8_syllable_32, i_X8_syllable_34, i_X8_syllable_58, i_X8_syllable_59, gh_o32, gh_r41, gh_r54, gh_r55, gh_r60, gh_r61, gh_w60, gh_w61, gh_w54, gh_w55, gf_32_11, gf_32_12, gf_32_28, gf_32_29, gf_32_34, gf_32_35, z_o_i, z_ai_i, z_si_i, z_ab_b, z_ab_z, z_sb_b, z_sb_z, z_al_i, z_al_b, z_pu_s, z_pu_n, nI_toN, z_inN, true_and, and_true, nI_add, pk_mul, vu_eq, vu_ne, nI_leI, nI_ltI, nI_eqI, nI_eq0, ↓ok_0, ↓ok_1, bI_eq0, bI_ne0, ↓bI_ok, Nat.one_ne_zero, c_isVowel, if_true, if_false, ne_eq, not_true_eq_false, not_false_eq_true, nI_1ne, nI_0eq, nI_le0, pk_sub, bI_T, bI_F, Nat.zero_ne_one, Bool.false_eq_true, le]
    refine l_sy3 (A := C) (fun D hD h => ?_) 112 0 C (by omega) (fun _ _ _ => rfl) (fun j hj => absurd hj (by omega))
    refine hQ D (hF.f4.trans hD.f4) ⟨fun k hk => ?_, hC.2⟩
    rw [(h k hk).1, (h k hk).2]
    exact hC.1 k hk
  | succ m ih =>
    intro i C hi hF hC
    have le : ¬ 112 ≤ i := by omega
    obtain ⟨r1, r2⟩ := hr.1 i (by omega)
    obtain ⟨b1, b2⟩ := hr.2 i
    have f54 : C 54 i = nI (s i).1 := by rw [hF 54 (by omega) (by omega)]; exact r1
    rw [i_X8_syllable_31]
    by_cases z : (s i).1 = 0
    · have z' : (s i).1 ≤ 0 := by omega
      simp (disch := omega) only [i_X8_syllable_32, i_X8_syllable_34, i_X8_syllable_37, i_X8_syllable_38, i_X8_syllable_41, i_X8_syllable_42, i_X8_syllable_43, i_X8_syllable_52, i_X8_syllable_55, gh_o32, gh_r41, gh_r54, gh_r55, gh_r60, gh_r61, gh_w60, gh_w61, gh_w54, gh_w55, gf_32_11, gf_32_12, gf_32_28, gf_32_29, gf_32_34, gf_32_35, z_o_i, z_ai_i, z_si_i, z_ab_b, z_ab_z, z_sb_b, z_sb_z, z_al_i, z_al_b, z_pu_s, z_pu_n, nI_toN, z_inN, true_and, and_true, nI_add, pk_mul, vu_eq, vu_ne, nI_leI, nI_ltI, nI_eqI, nI_eq0, ↓ok_0, ↓ok_1, bI_eq0, bI_ne0, ↓bI_ok, Nat.one_ne_zero, c_isVowel, if_true, if_false, ne_eq, not_true_eq_false, not_false_eq_true, nI_1ne, nI_0eq, nI_le0, pk_sub, bI_T, bI_F, Nat.zero_ne_one, Bool.false_eq_true, le, f54, z']
      refine ih (i + 1) C (by omega) hF ?_
      rw [syF, if_pos z]
      exact hC
    · have z' : ¬ (s i).1 ≤ 0 := by omega
      simp (disch := omega) only [i_X8_syllable_32, i_X8_syllable_34, i_X8_syllable_37, i_X8_syllable_38, i_X8_syllable_41, i_X8_syllable_42, i_X8_syllable_43, i_X8_syllable_46, i_X8_syllable_47, i_X8_syllable_48, i_X8_syllable_49, gh_o32, gh_r41, gh_r54, gh_r55, gh_r60, gh_r61, gh_w60, gh_w61, gh_w54, gh_w55, gf_32_11, gf_32_12, gf_32_28, gf_32_29, gf_32_34, gf_32_35, z_o_i, z_ai_i, z_si_i, z_ab_b, z_ab_z, z_sb_b, z_sb_z, z_al_i, z_al_b, z_pu_s, z_pu_n, nI_toN, z_inN, true_and, and_true, nI_add, pk_mul, vu_eq, vu_ne, nI_leI, nI_ltI, nI_eqI, nI_eq0, ↓ok_0, ↓ok_1, bI_eq0, bI_ne0, ↓bI_ok, Nat.one_ne_zero, c_isVowel, if_true, if_false, ne_eq, not_true_eq_false, not_false_eq_true, nI_1ne, nI_0eq, nI_le0, pk_sub, bI_T, bI_F, Nat.zero_ne_one, Bool.false_eq_true, le, f54, z']
      have f55 : C 55 i = nI (s i).2 := by rw [hF 55 (by omega) (by omega), r2, lo_pos z]
      refine c_step (mk := mk) (marks := marks) (n := (s i).1) (c := (s i).2) (B := B + 3) (s := syF mk marks st s i) ⟨by rw [hF 32 (by omega) (by omega)]; exact h11, fun j hj => by rw [hF 41 (by omega) (by omega)]; exact h41 j hj, f54, f55⟩ hm bm (by omega) (ht i z) hst ⟨by omega, b1⟩ (by omega) (by omega) hC (fun D hD rD => ?_)
      simp (disch := omega) only [i_X8_syllable_52, i_X8_syllable_55, gh_o32, gh_r41, gh_r54, gh_r55, gh_r60, gh_r61, gh_w60, gh_w61, gh_w54, gh_w55, gf_32_11, gf_32_12, gf_32_28, gf_32_29, gf_32_34, gf_32_35, z_o_i, z_ai_i, z_si_i, z_ab_b, z_ab_z, z_sb_b, z_sb_z, z_al_i, z_al_b, z_pu_s, z_pu_n, nI_toN, z_inN, true_and, and_true, nI_add, pk_mul, vu_eq, vu_ne, nI_leI, nI_ltI, nI_eqI, nI_eq0, ↓ok_0, ↓ok_1, bI_eq0, bI_ne0, ↓bI_ok, Nat.one_ne_zero, c_isVowel, if_true, if_false, ne_eq, not_true_eq_false, not_false_eq_true, nI_1ne, nI_0eq, nI_le0, pk_sub, bI_T, bI_F, Nat.zero_ne_one, Bool.false_eq_true]
      refine ih (i + 1) D (by omega) (hF.trans hD) ?_
      rw [syF, if_neg z]
      exact rD
theorem c_syllable (hm : marks ≤ 12) (bm : ∀ j, mk j ≤ 2) (h11 : A 32 11 = nI marks) (h41 : ∀ j, j < 12 → A 41 j = nI (mk j)) (ht : ∀ k, ¬ (s k).1 = 0 → k / 4 % 2 = 1 → k / 8 ≤ 12) (hst : st ≤ 2) (hB : B ≤ 1900) (hr : Rs 1000000000 B 112 s (A 54) (A 55)) (hQ : ∀ C, F4 A C → Rs 1000000000 (B + 3) 112 (syq mk marks st s) (C 54) (C 55) → Q none (GH C P dy) nx) : XC (d + 2) m_X8_syllable [.ref 32, .int (nI st)] (GH A P dy) nx Q := by
  show X (d + 2) m_X8_syllable 0 [some (.ref 32), some (.int (nI st)), none] [] (GH A P dy) nx 0 0 Q
  rw [i_X8_syllable_0, i_X8_syllable_1]
  refine l_sy1 (A := A) (fun C hC h => ?_) 112 0 A (by omega) Fs.refl (fun j hj => absurd hj (by omega))
  refine l_sy2 (mk := mk) (marks := marks) (s := s) (A := C) (B := B) hm bm (by rw [hC 32 (by omega) (by omega)]; exact h11) (fun j hj => by rw [hC 41 (by omega) (by omega)]; exact h41 j hj) ht hst hB (by rw [hC 54 (by omega) (by omega), hC 55 (by omega) (by omega)]; exact hr) (fun D hD rD => hQ D (hC.f4.trans hD) rD) 112 0 C (by omega) Fs.refl ?_
  refine ⟨fun k hk => h k hk, fun k => ⟨Nat.zero_le _, Nat.zero_le _⟩⟩
end MSyl
