/-! THE MODEL: howOf, leastCost -/
/-- only the rows at hand and the table may differ -/
def Fr (A B : Nat → Nat → Int32) : Prop := ∀ k, (k < 47 ∨ 51 < k) → B k = A k
theorem Fr.refl {A : Nat → Nat → Int32} : Fr A A := fun _ _ => rfl
theorem Fr.trans {A B C : Nat → Nat → Int32} (h : Fr A B) (g : Fr B C) : Fr A C := fun k hk => (g k hk).trans (h k hk)
theorem Fr.rp {a : Nat → Nat → Nat} {A B : Nat → Nat → Int32} (h : Fr A B) (hR : Rp a A) : Rp a B := hR.of (fun k hk => ⟨fun _ j _ _ => by rw [h k (Or.inl hk)], fun _ => h k (Or.inl hk)⟩)
theorem Fr.lay {A B : Nat → Nat → Int32} {r : Nat} (h : Lay r A B) : Fr A B := fun k hk => h.1 k (by omega) (by omega) (by omega) (by omega)
theorem Fr.tab {A : Nat → Nat → Int32} {T : Nat → Int32} : Fr A (va_up A 51 T) := fun k hk => vu_ne (by omega)
theorem Row_keep {a : Nat → Nat → Nat} {A B : Nat → Nat → Int32} {s : Nat} (b : a 35 s ≤ 12) (h : Row a A 0 s) (g : Lay 1 A B) : Row a B 0 s := by
  obtain ⟨h1, h2, h3, h4⟩ := h
  obtain ⟨_, g2, g3, g4, g5⟩ := g
  refine ⟨?_, fun i hi => ?_, fun i hi => ?_, ?_⟩
  · rw [← h1]; exact g4
  · rw [← h2 i hi]; exact g2 i (by omega)
  · rw [← h3 i hi]; exact g3 i (by omega)
  · rw [← h4]; exact g5
def Wa (a : Nat → Nat → Nat) : Prop := Sp a ∧ ∀ w k, w < a 32 1 → k < a 34 w → Gd a (3 * w + k)
/-- whether two sayings rhyme -/
def rqs (a : Nat → Nat → Nat) (kind s0 s1 : Nat) : Bool := rq kind (a 32 10) (a 35 s0) (tl a s0) (lvw (hs a s0) (a 35 s0)) (hs a s0) (a 35 s1) (tl a s1) (lvw (hs a s1) (a 35 s1)) (hs a s1)
def cqs (a : Nat → Nat → Nat) (s0 s1 : Nat) : Nat := dC (fun i => hs a s0 (tl a s0 + i)) (fun j => hs a s1 (tl a s1 + j)) (a 35 s0 - tl a s0) (a 35 s1 - tl a s1)
/-- the first place from j on, of m, where P holds -/
def fi (P : Nat → Bool) : Nat → Nat → Option Nat
  | 0, _ => none
  | m + 1, j => if P j = true then some j else fi P m (j + 1)
def fo (P : Nat → Nat → Bool) (n : Nat) : Nat → Nat → Option Nat
  | 0, _ => none
  | m + 1, i => match fi (P i) n 0 with
    | some j => some (3 * i + j)
    | none => fo P n m (i + 1)
def eyq (a : Nat → Nat → Nat) (L : Nat → Int32) (w u : Nat) : Bool := decide (4 ≤ a 38 w ∧ 4 ≤ a 38 u ∧ L (8 * w + (a 38 w - 1) - 1) = L (8 * u + (a 38 u - 1) - 1) ∧ L (8 * w + (a 38 w - 1) - (1 + 1)) = L (8 * u + (a 38 u - 1) - (1 + 1)) ∧ L (8 * w + (a 38 w - 1) - (1 + 1 + 1)) = L (8 * u + (a 38 u - 1) - (1 + 1 + 1)))
def hwq (a : Nat → Nat → Nat) (L : Nat → Int32) (w u kind : Nat) : Option Nat :=
  if w = u then none else if kind = 5 then (if eyq a L w u = true then some 0 else none)
  else fo (fun p q => rqs a kind (3 * w + p) (3 * u + q)) (a 34 u) (a 34 w) 0
section MHow
variable {a : Nat → Nat → Nat} {A : Nat → Nat → Int32} {P : Nat → Nat → Nat} {dy : z_H} {d nx bc bs : Nat} {Q : z_Q}
theorem s_ey1 {w u k : Nat} {bw bu : Nat} (hw : w < 24) (hu : u < 24) (r0 : A 38 w = nI bw) (r1 : A 38 u = nI bu) (h0 : 3 ≤ bw ∧ bw ≤ 8) (h1 : 3 ≤ bu ∧ bu ≤ 8) (hk : 1 ≤ k ∧ k ≤ 3) : X d m_X8_areEyes 27 [some (.ref 32), some (.int (nI w)), some (.int (nI u)), some (.int (nI 1)), some (.int (nI k))] [] (GH A P dy) nx bc bs Q = X d m_X8_areEyes 27 [some (.ref 32), some (.int (nI w)), some (.int (nI u)), some (.int (bI (A 39 (8 * w + bw - k) = A 39 (8 * u + bu - k)))), some (.int (nI (k + 1)))] [] (GH A P dy) nx bc bs Q := by
  have o1 : ¬ 3 < k := by omega
  rw [i_X8_areEyes_27]
  by_cases e1 : A 39 (8 * w + bw - k) = A 39 (8 * u + bu - k)
  · rw [bI_t e1]
    simp (disch := omega) only [i_X8_areEyes_0, i_X8_areEyes_1, i_X8_areEyes_4, i_X8_areEyes_5, i_X8_areEyes_6, i_X8_areEyes_7, i_X8_areEyes_10, i_X8_areEyes_11, i_X8_areEyes_14, i_X8_areEyes_15, i_X8_areEyes_16, i_X8_areEyes_17, i_X8_areEyes_20, i_X8_areEyes_21, i_X8_areEyes_22, i_X8_areEyes_23, i_X8_areEyes_24, i_X8_areEyes_25, i_X8_areEyes_29, i_X8_areEyes_30, i_X8_areEyes_33, i_X8_areEyes_34, i_X8_areEyes_37, i_X8_areEyes_38, i_X8_areEyes_41, i_X8_areEyes_43, i_X8_areEyes_44, i_X8_areEyes_45, i_X8_areEyes_46, i_X8_areEyes_49, i_X8_areEyes_50, i_X8_areEyes_51, i_X8_areEyes_52, i_X8_areEyes_54, i_X8_areEyes_55, i_X8_areEyes_56, i_X8_areEyes_57, i_X8_areEyes_60, i_X8_areEyes_62, i_X8_areEyes_63, i_X8_areEyes_64, i_X8_areEyes_65, i_X8_areEyes_68, i_X8_areEyes_69, i_X8_areEyes_70, i_X8_areEyes_71, i_X8_areEyes_73, i_X8_areEyes_74, i_X8_areEyes_75, i_X8_areEyes_78, i_X8_areEyes_79, i_X8_areEyes_82, i_X8_areEyes_83, i_X8_areEyes_84, i_X8_areEyes_87, i_X8_areEyes_90, i_X8_areEyes_91, gh_o32, gh_r34, gh_r38, gh_r39, gh_r47, gh_r49, gh_r50, gh_r51, gh_w51, gf_32_3, gf_32_7, gf_32_8, gf_32_10, gf_32_21, gf_32_23, gf_32_24, gf_32_25, z_o_i, z_ai_i, z_si_i, z_ab_b, z_ab_z, z_sb_b, z_sb_z, z_al_i, z_al_b, z_pu_s, z_pu_n, nI_toN, z_inN, true_and, and_true, nI_add, pk_mul, vu_eq, vu_ne, nI_leI, nI_ltI, nI_eqI, nI_eq0, ↓ok_0, ↓ok_1, bI_eq0, bI_ne0, ↓bI_ok, Nat.one_ne_zero, c_isVowel, if_true, if_false, ne_eq, not_true_eq_false, not_false_eq_true, nI_1ne, nI_0eq, nI_le0, pk_sub, bI_T, bI_F, Nat.zero_ne_one, Bool.false_eq_true, r0, r1, o1, e1]
  · rw [bI_f e1]
    simp (disch := omega) only [i_X8_areEyes_0, i_X8_areEyes_1, i_X8_areEyes_4, i_X8_areEyes_5, i_X8_areEyes_6, i_X8_areEyes_7, i_X8_areEyes_10, i_X8_areEyes_11, i_X8_areEyes_14, i_X8_areEyes_15, i_X8_areEyes_16, i_X8_areEyes_17, i_X8_areEyes_20, i_X8_areEyes_21, i_X8_areEyes_22, i_X8_areEyes_23, i_X8_areEyes_24, i_X8_areEyes_25, i_X8_areEyes_29, i_X8_areEyes_30, i_X8_areEyes_33, i_X8_areEyes_34, i_X8_areEyes_37, i_X8_areEyes_38, i_X8_areEyes_41, i_X8_areEyes_43, i_X8_areEyes_44, i_X8_areEyes_45, i_X8_areEyes_46, i_X8_areEyes_49, i_X8_areEyes_50, i_X8_areEyes_51, i_X8_areEyes_52, i_X8_areEyes_54, i_X8_areEyes_55, i_X8_areEyes_56, i_X8_areEyes_57, i_X8_areEyes_60, i_X8_areEyes_62, i_X8_areEyes_63, i_X8_areEyes_64, i_X8_areEyes_65, i_X8_areEyes_68, i_X8_areEyes_69, i_X8_areEyes_70, i_X8_areEyes_71, i_X8_areEyes_73, i_X8_areEyes_74, i_X8_areEyes_75, i_X8_areEyes_78, i_X8_areEyes_79, i_X8_areEyes_82, i_X8_areEyes_83, i_X8_areEyes_84, i_X8_areEyes_87, i_X8_areEyes_90, i_X8_areEyes_91, gh_o32, gh_r34, gh_r38, gh_r39, gh_r47, gh_r49, gh_r50, gh_r51, gh_w51, gf_32_3, gf_32_7, gf_32_8, gf_32_10, gf_32_21, gf_32_23, gf_32_24, gf_32_25, z_o_i, z_ai_i, z_si_i, z_ab_b, z_ab_z, z_sb_b, z_sb_z, z_al_i, z_al_b, z_pu_s, z_pu_n, nI_toN, z_inN, true_and, and_true, nI_add, pk_mul, vu_eq, vu_ne, nI_leI, nI_ltI, nI_eqI, nI_eq0, ↓ok_0, ↓ok_1, bI_eq0, bI_ne0, ↓bI_ok, Nat.one_ne_zero, c_isVowel, if_true, if_false, ne_eq, not_true_eq_false, not_false_eq_true, nI_1ne, nI_0eq, nI_le0, pk_sub, bI_T, bI_F, Nat.zero_ne_one, Bool.false_eq_true, r0, r1, o1, e1]
theorem s_ey0 {w u k : Nat} {bw bu : Nat} (hw : w < 24) (hu : u < 24) (r0 : A 38 w = nI bw) (r1 : A 38 u = nI bu) (h0 : 3 ≤ bw ∧ bw ≤ 8) (h1 : 3 ≤ bu ∧ bu ≤ 8) (hk : 1 ≤ k ∧ k ≤ 3) : X d m_X8_areEyes 27 [some (.ref 32), some (.int (nI w)), some (.int (nI u)), some (.int (nI 0)), some (.int (nI k))] [] (GH A P dy) nx bc bs Q = X d m_X8_areEyes 27 [some (.ref 32), some (.int (nI w)), some (.int (nI u)), some (.int (nI 0)), some (.int (nI (k + 1)))] [] (GH A P dy) nx bc bs Q := by
  have o1 : ¬ 3 < k := by omega
  rw [i_X8_areEyes_27]
  simp (disch := omega) only [i_X8_areEyes_0, i_X8_areEyes_1, i_X8_areEyes_4, i_X8_areEyes_5, i_X8_areEyes_6, i_X8_areEyes_7, i_X8_areEyes_10, i_X8_areEyes_11, i_X8_areEyes_14, i_X8_areEyes_15, i_X8_areEyes_16, i_X8_areEyes_17, i_X8_areEyes_20, i_X8_areEyes_21, i_X8_areEyes_22, i_X8_areEyes_23, i_X8_areEyes_24, i_X8_areEyes_25, i_X8_areEyes_29, i_X8_areEyes_30, i_X8_areEyes_33, i_X8_areEyes_34, i_X8_areEyes_37, i_X8_areEyes_38, i_X8_areEyes_41, i_X8_areEyes_43, i_X8_areEyes_44, i_X8_areEyes_45, i_X8_areEyes_46, i_X8_areEyes_49, i_X8_areEyes_50, i_X8_areEyes_51, i_X8_areEyes_52, i_X8_areEyes_54, i_X8_areEyes_55, i_X8_areEyes_56, i_X8_areEyes_57, i_X8_areEyes_60, i_X8_areEyes_62, i_X8_areEyes_63, i_X8_areEyes_64, i_X8_areEyes_65, i_X8_areEyes_68, i_X8_areEyes_69, i_X8_areEyes_70, i_X8_areEyes_71, i_X8_areEyes_73, i_X8_areEyes_74, i_X8_areEyes_75, i_X8_areEyes_78, i_X8_areEyes_79, i_X8_areEyes_82, i_X8_areEyes_83, i_X8_areEyes_84, i_X8_areEyes_87, i_X8_areEyes_90, i_X8_areEyes_91, gh_o32, gh_r34, gh_r38, gh_r39, gh_r47, gh_r49, gh_r50, gh_r51, gh_w51, gf_32_3, gf_32_7, gf_32_8, gf_32_10, gf_32_21, gf_32_23, gf_32_24, gf_32_25, z_o_i, z_ai_i, z_si_i, z_ab_b, z_ab_z, z_sb_b, z_sb_z, z_al_i, z_al_b, z_pu_s, z_pu_n, nI_toN, z_inN, true_and, and_true, nI_add, pk_mul, vu_eq, vu_ne, nI_leI, nI_ltI, nI_eqI, nI_eq0, ↓ok_0, ↓ok_1, bI_eq0, bI_ne0, ↓bI_ok, Nat.one_ne_zero, c_isVowel, if_true, if_false, ne_eq, not_true_eq_false, not_false_eq_true, nI_1ne, nI_0eq, nI_le0, pk_sub, bI_T, bI_F, Nat.zero_ne_one, Bool.false_eq_true, r0, r1, o1]
theorem s_eyE {w u k b : Nat} (hb : b = 0 ∨ b = 1) (hk : 3 < k ∧ k < 9) : X d m_X8_areEyes 27 [some (.ref 32), some (.int (nI w)), some (.int (nI u)), some (.int (nI b)), some (.int (nI k))] [] (GH A P dy) nx bc bs Q = Q (some (.int (nI b))) (GH A P dy) nx := by
  have o1 : 3 < k := hk.1
  rcases hb with rfl | rfl
  · simp (disch := omega) only [i_X8_areEyes_27, i_X8_areEyes_29, i_X8_areEyes_30, i_X8_areEyes_90, i_X8_areEyes_91, gh_o32, gh_r34, gh_r38, gh_r39, gh_r47, gh_r49, gh_r50, gh_r51, gh_w51, gf_32_3, gf_32_7, gf_32_8, gf_32_10, gf_32_21, gf_32_23, gf_32_24, gf_32_25, z_o_i, z_ai_i, z_si_i, z_ab_b, z_ab_z, z_sb_b, z_sb_z, z_al_i, z_al_b, z_pu_s, z_pu_n, nI_toN, z_inN, true_and, and_true, nI_add, pk_mul, vu_eq, vu_ne, nI_leI, nI_ltI, nI_eqI, nI_eq0, ↓ok_0, ↓ok_1, bI_eq0, bI_ne0, ↓bI_ok, Nat.one_ne_zero, c_isVowel, if_true, if_false, ne_eq, not_true_eq_false, not_false_eq_true, nI_1ne, nI_0eq, nI_le0, pk_sub, bI_T, bI_F, Nat.zero_ne_one, Bool.false_eq_true, o1]
  · simp (disch := omega) only [i_X8_areEyes_27, i_X8_areEyes_29, i_X8_areEyes_30, i_X8_areEyes_90, i_X8_areEyes_91, gh_o32, gh_r34, gh_r38, gh_r39, gh_r47, gh_r49, gh_r50, gh_r51, gh_w51, gf_32_3, gf_32_7, gf_32_8, gf_32_10, gf_32_21, gf_32_23, gf_32_24, gf_32_25, z_o_i, z_ai_i, z_si_i, z_ab_b, z_ab_z, z_sb_b, z_sb_z, z_al_i, z_al_b, z_pu_s, z_pu_n, nI_toN, z_inN, true_and, and_true, nI_add, pk_mul, vu_eq, vu_ne, nI_leI, nI_ltI, nI_eqI, nI_eq0, ↓ok_0, ↓ok_1, bI_eq0, bI_ne0, ↓bI_ok, Nat.one_ne_zero, c_isVowel, if_true, if_false, ne_eq, not_true_eq_false, not_false_eq_true, nI_1ne, nI_0eq, nI_le0, pk_sub, bI_T, bI_F, Nat.zero_ne_one, Bool.false_eq_true, o1]
theorem c_areEyes {w u : Nat} (hR : Rp a A) (hw : w < 24) (hu : u < 24) : XC d m_X8_areEyes [.ref 32, .int (nI w), .int (nI u)] (GH A P dy) nx Q = Q (some (.int (bI (eyq a (A 39) w u = true)))) (GH A P dy) nx := by
  show X d m_X8_areEyes 0 [some (.ref 32), some (.int (nI w)), some (.int (nI u)), none, none] [] (GH A P dy) nx 0 0 Q = _
  have hb := hR.2.2.1
  have r0 := hR.1.2.2.2.2.2.2.2.2.2.2.1 w
  have r1 := hR.1.2.2.2.2.2.2.2.2.2.2.1 u
  have b0 := (hb w).2.2.2.2.2.2.2.2.2.2.1
  have b1 := (hb u).2.2.2.2.2.2.2.2.2.2.1
  have m1 : (nI 0 - nI 1 < nI 3) = True := by simp only [eq_iff_iff, iff_true]; decide
  have m2 : (nI 3 ≤ nI 0 - nI 1) = False := by simp only [eq_iff_iff, iff_false]; decide
  by_cases z0 : a 38 w = 0
  · rw [bI_f (by simp only [eyq, decide_eq_true_eq]; omega)]
    rw [z0] at r0
    simp (disch := omega) only [i_X8_areEyes_0, i_X8_areEyes_1, i_X8_areEyes_4, i_X8_areEyes_5, i_X8_areEyes_6, i_X8_areEyes_7, i_X8_areEyes_20, i_X8_areEyes_21, gh_o32, gh_r34, gh_r38, gh_r39, gh_r47, gh_r49, gh_r50, gh_r51, gh_w51, gf_32_3, gf_32_7, gf_32_8, gf_32_10, gf_32_21, gf_32_23, gf_32_24, gf_32_25, z_o_i, z_ai_i, z_si_i, z_ab_b, z_ab_z, z_sb_b, z_sb_z, z_al_i, z_al_b, z_pu_s, z_pu_n, nI_toN, z_inN, true_and, and_true, nI_add, pk_mul, vu_eq, vu_ne, nI_leI, nI_ltI, nI_eqI, nI_eq0, ↓ok_0, ↓ok_1, bI_eq0, bI_ne0, ↓bI_ok, Nat.one_ne_zero, c_isVowel, if_true, if_false, ne_eq, not_true_eq_false, not_false_eq_true, nI_1ne, nI_0eq, nI_le0, pk_sub, bI_T, bI_F, Nat.zero_ne_one, Bool.false_eq_true, r0, m1]
  · have z0' : ¬ a 38 w ≤ 0 := by omega
    rw [pk_sub (by omega)] at r0
    by_cases l0 : a 38 w - 1 < 3
    · rw [bI_f (by simp only [eyq, decide_eq_true_eq]; omega)]
      simp (disch := omega) only [i_X8_areEyes_0, i_X8_areEyes_1, i_X8_areEyes_4, i_X8_areEyes_5, i_X8_areEyes_6, i_X8_areEyes_7, i_X8_areEyes_20, i_X8_areEyes_21, gh_o32, gh_r34, gh_r38, gh_r39, gh_r47, gh_r49, gh_r50, gh_r51, gh_w51, gf_32_3, gf_32_7, gf_32_8, gf_32_10, gf_32_21, gf_32_23, gf_32_24, gf_32_25, z_o_i, z_ai_i, z_si_i, z_ab_b, z_ab_z, z_sb_b, z_sb_z, z_al_i, z_al_b, z_pu_s, z_pu_n, nI_toN, z_inN, true_and, and_true, nI_add, pk_mul, vu_eq, vu_ne, nI_leI, nI_ltI, nI_eqI, nI_eq0, ↓ok_0, ↓ok_1, bI_eq0, bI_ne0, ↓bI_ok, Nat.one_ne_zero, c_isVowel, if_true, if_false, ne_eq, not_true_eq_false, not_false_eq_true, nI_1ne, nI_0eq, nI_le0, pk_sub, bI_T, bI_F, Nat.zero_ne_one, Bool.false_eq_true, r0, l0]
    · by_cases z1 : a 38 u = 0
      · rw [bI_f (by simp only [eyq, decide_eq_true_eq]; omega)]
        rw [z1] at r1
        simp (disch := omega) only [i_X8_areEyes_0, i_X8_areEyes_1, i_X8_areEyes_4, i_X8_areEyes_5, i_X8_areEyes_6, i_X8_areEyes_7, i_X8_areEyes_10, i_X8_areEyes_11, i_X8_areEyes_14, i_X8_areEyes_15, i_X8_areEyes_16, i_X8_areEyes_17, i_X8_areEyes_20, i_X8_areEyes_21, gh_o32, gh_r34, gh_r38, gh_r39, gh_r47, gh_r49, gh_r50, gh_r51, gh_w51, gf_32_3, gf_32_7, gf_32_8, gf_32_10, gf_32_21, gf_32_23, gf_32_24, gf_32_25, z_o_i, z_ai_i, z_si_i, z_ab_b, z_ab_z, z_sb_b, z_sb_z, z_al_i, z_al_b, z_pu_s, z_pu_n, nI_toN, z_inN, true_and, and_true, nI_add, pk_mul, vu_eq, vu_ne, nI_leI, nI_ltI, nI_eqI, nI_eq0, ↓ok_0, ↓ok_1, bI_eq0, bI_ne0, ↓bI_ok, Nat.one_ne_zero, c_isVowel, if_true, if_false, ne_eq, not_true_eq_false, not_false_eq_true, nI_1ne, nI_0eq, nI_le0, pk_sub, bI_T, bI_F, Nat.zero_ne_one, Bool.false_eq_true, r0, r1, l0, m2]
      · rw [pk_sub (by omega)] at r1
        by_cases l1 : 3 ≤ a 38 u - 1
        · have o1 : ¬ 3 < 1 := by omega
          have o2 : ¬ 3 < 1 + 1 := by omega
          have o3 : ¬ 3 < 1 + 1 + 1 := by omega
          have o4 : 3 < 1 + 1 + 1 + 1 := by omega
          have st1 : ∀ {k : Nat}, 1 ≤ k ∧ k ≤ 3 → _ := fun {k} hk => s_ey1 (d := d) (nx := nx) (bc := 0) (bs := 0) (Q := Q) (P := P) (dy := dy) (k := k) hw hu r0 r1 (by omega) (by omega) hk
          have st0 : ∀ {k : Nat}, 1 ≤ k ∧ k ≤ 3 → _ := fun {k} hk => s_ey0 (d := d) (nx := nx) (bc := 0) (bs := 0) (Q := Q) (P := P) (dy := dy) (k := k) hw hu r0 r1 (by omega) (by omega) hk
          simp (disch := omega) only [i_X8_areEyes_0, i_X8_areEyes_1, i_X8_areEyes_4, i_X8_areEyes_5, i_X8_areEyes_6, i_X8_areEyes_7, i_X8_areEyes_10, i_X8_areEyes_11, i_X8_areEyes_14, i_X8_areEyes_15, i_X8_areEyes_16, i_X8_areEyes_17, i_X8_areEyes_22, i_X8_areEyes_23, i_X8_areEyes_24, i_X8_areEyes_25, gh_o32, gh_r34, gh_r38, gh_r39, gh_r47, gh_r49, gh_r50, gh_r51, gh_w51, gf_32_3, gf_32_7, gf_32_8, gf_32_10, gf_32_21, gf_32_23, gf_32_24, gf_32_25, z_o_i, z_ai_i, z_si_i, z_ab_b, z_ab_z, z_sb_b, z_sb_z, z_al_i, z_al_b, z_pu_s, z_pu_n, nI_toN, z_inN, true_and, and_true, nI_add, pk_mul, vu_eq, vu_ne, nI_leI, nI_ltI, nI_eqI, nI_eq0, ↓ok_0, ↓ok_1, bI_eq0, bI_ne0, ↓bI_ok, Nat.one_ne_zero, c_isVowel, if_true, if_false, ne_eq, not_true_eq_false, not_false_eq_true, nI_1ne, nI_0eq, nI_le0, pk_sub, bI_T, bI_F, Nat.zero_ne_one, Bool.false_eq_true, r0, r1, l0, l1]
          rw [st1 (by omega)]
          by_cases e1 : A 39 (8 * w + (a 38 w - 1) - 1) = A 39 (8 * u + (a 38 u - 1) - 1)
          · rw [bI_t e1, st1 (by omega)]
            by_cases e2 : A 39 (8 * w + (a 38 w - 1) - (1 + 1)) = A 39 (8 * u + (a 38 u - 1) - (1 + 1))
            · rw [bI_t e2, st1 (by omega)]
              by_cases e3 : A 39 (8 * w + (a 38 w - 1) - (1 + 1 + 1)) = A 39 (8 * u + (a 38 u - 1) - (1 + 1 + 1))
              · rw [bI_t (c := eyq a (A 39) w u = true) (by simp only [eyq, decide_eq_true_eq]; exact ⟨by omega, by omega, e1, e2, e3⟩), bI_t e3, s_eyE (by omega) (by omega)]
              · rw [bI_f (c := eyq a (A 39) w u = true) (by simp only [eyq, decide_eq_true_eq]; exact fun q => e3 q.2.2.2.2), bI_f e3, s_eyE (by omega) (by omega)]
            · rw [bI_f (c := eyq a (A 39) w u = true) (by simp only [eyq, decide_eq_true_eq]; exact fun q => e2 q.2.2.2.1), bI_f e2, st0 (by omega), s_eyE (by omega) (by omega)]
          · rw [bI_f (c := eyq a (A 39) w u = true) (by simp only [eyq, decide_eq_true_eq]; exact fun q => e1 q.2.2.1), bI_f e1, st0 (by omega), st0 (by omega), s_eyE (by omega) (by omega)]
        · rw [bI_f (by simp only [eyq, decide_eq_true_eq]; omega)]
          simp (disch := omega) only [i_X8_areEyes_0, i_X8_areEyes_1, i_X8_areEyes_4, i_X8_areEyes_5, i_X8_areEyes_6, i_X8_areEyes_7, i_X8_areEyes_10, i_X8_areEyes_11, i_X8_areEyes_14, i_X8_areEyes_15, i_X8_areEyes_16, i_X8_areEyes_17, i_X8_areEyes_20, i_X8_areEyes_21, gh_o32, gh_r34, gh_r38, gh_r39, gh_r47, gh_r49, gh_r50, gh_r51, gh_w51, gf_32_3, gf_32_7, gf_32_8, gf_32_10, gf_32_21, gf_32_23, gf_32_24, gf_32_25, z_o_i, z_ai_i, z_si_i, z_ab_b, z_ab_z, z_sb_b, z_sb_z, z_al_i, z_al_b, z_pu_s, z_pu_n, nI_toN, z_inN, true_and, and_true, nI_add, pk_mul, vu_eq, vu_ne, nI_leI, nI_ltI, nI_eqI, nI_eq0, ↓ok_0, ↓ok_1, bI_eq0, bI_ne0, ↓bI_ok, Nat.one_ne_zero, c_isVowel, if_true, if_false, ne_eq, not_true_eq_false, not_false_eq_true, nI_1ne, nI_0eq, nI_le0, pk_sub, bI_T, bI_F, Nat.zero_ne_one, Bool.false_eq_true, r0, r1, l0, l1]
theorem l_hwI {w u kind i : Nat} {R : Option Nat} (hR : Rp a A) (hW : Wa a) (hw : w < a 32 1) (hu : u < a 32 1) (hk : kind ≤ 6) (hi : i < a 34 w) (hS : ∀ B j, Fr A B → R = some j → Q (some (.int (nI (3 * i + j)))) (GH B P dy) nx) (hN : ∀ B x5, Fr A B → R = none → X (d + 4) m_X8_howOf 30 [some (.ref 32), some (.int (nI w)), some (.int (nI u)), some (.int (nI kind)), some (.int (nI (i + 1))), x5] [] (GH B P dy) nx bc bs Q) : ∀ (m j : Nat) (B : Nat → Nat → Int32), j + m = a 34 u → Fr A B → fi (fun q => rqs a kind (3 * w + i) (3 * u + q)) m j = R → X (d + 4) m_X8_howOf 44 [some (.ref 32), some (.int (nI w)), some (.int (nI u)), some (.int (nI kind)), some (.int (nI i)), some (.int (nI j))] [] (GH B P dy) nx bc bs Q := by
  have hb := hR.2.2.1
  have hsc := hR.2.2.2
  have b34 := (hb w).2.1
  have b34u := (hb u).2.1
  intro m
  induction m with
  | zero =>
    intro j B hj hF hr
    have hRB := hF.rp hR
    have r34 := hRB.1.2.1 u
    have le : a 34 u ≤ j := by omega
    simp (disch := omega) only [i_X8_howOf_44, i_X8_howOf_46, i_X8_howOf_47, i_X8_howOf_50, i_X8_howOf_51, i_X8_howOf_52, i_X8_howOf_99, i_X8_howOf_102, gh_o32, gh_r34, gh_r38, gh_r39, gh_r47, gh_r49, gh_r50, gh_r51, gh_w51, gf_32_3, gf_32_7, gf_32_8, gf_32_10, gf_32_21, gf_32_23, gf_32_24, gf_32_25, z_o_i, z_ai_i, z_si_i, z_ab_b, z_ab_z, z_sb_b, z_sb_z, z_al_i, z_al_b, z_pu_s, z_pu_n, nI_toN, z_inN, true_and, and_true, nI_add, pk_mul, vu_eq, vu_ne, nI_leI, nI_ltI, nI_eqI, nI_eq0, ↓ok_0, ↓ok_1, bI_eq0, bI_ne0, ↓bI_ok, Nat.one_ne_zero, c_isVowel, if_true, if_false, ne_eq, not_true_eq_false, not_false_eq_true, nI_1ne, nI_0eq, nI_le0, pk_sub, bI_T, bI_F, Nat.zero_ne_one, Bool.false_eq_true, r34, le]
    exact hN B _ hF hr.symm
  | succ m ih =>
    intro j B hj hF hr
    have hRB := hF.rp hR
    have r34 := hRB.1.2.1 u
    have le : ¬ a 34 u ≤ j := by omega
    rw [i_X8_howOf_44]
    simp (disch := omega) only [i_X8_howOf_46, i_X8_howOf_47, i_X8_howOf_50, i_X8_howOf_51, i_X8_howOf_52, i_X8_howOf_55, i_X8_howOf_56, i_X8_howOf_57, i_X8_howOf_58, i_X8_howOf_59, i_X8_howOf_60, i_X8_howOf_62, i_X8_howOf_63, gh_o32, gh_r34, gh_r38, gh_r39, gh_r47, gh_r49, gh_r50, gh_r51, gh_w51, gf_32_3, gf_32_7, gf_32_8, gf_32_10, gf_32_21, gf_32_23, gf_32_24, gf_32_25, z_o_i, z_ai_i, z_si_i, z_ab_b, z_ab_z, z_sb_b, z_sb_z, z_al_i, z_al_b, z_pu_s, z_pu_n, nI_toN, z_inN, true_and, and_true, nI_add, pk_mul, vu_eq, vu_ne, nI_leI, nI_ltI, nI_eqI, nI_eq0, ↓ok_0, ↓ok_1, bI_eq0, bI_ne0, ↓bI_ok, Nat.one_ne_zero, c_isVowel, if_true, if_false, ne_eq, not_true_eq_false, not_false_eq_true, nI_1ne, nI_0eq, nI_le0, pk_sub, bI_T, bI_F, Nat.zero_ne_one, Bool.false_eq_true, r34, le]
    refine c_lay hRB (by omega) (by omega) (fun C hC rC lC => ?_)
    simp (disch := omega) only [i_X8_howOf_66, i_X8_howOf_67, i_X8_howOf_68, i_X8_howOf_69, i_X8_howOf_70, i_X8_howOf_71, i_X8_howOf_73, i_X8_howOf_74, gh_o32, gh_r34, gh_r38, gh_r39, gh_r47, gh_r49, gh_r50, gh_r51, gh_w51, gf_32_3, gf_32_7, gf_32_8, gf_32_10, gf_32_21, gf_32_23, gf_32_24, gf_32_25, z_o_i, z_ai_i, z_si_i, z_ab_b, z_ab_z, z_sb_b, z_sb_z, z_al_i, z_al_b, z_pu_s, z_pu_n, nI_toN, z_inN, true_and, and_true, nI_add, pk_mul, vu_eq, vu_ne, nI_leI, nI_ltI, nI_eqI, nI_eq0, ↓ok_0, ↓ok_1, bI_eq0, bI_ne0, ↓bI_ok, Nat.one_ne_zero, c_isVowel, if_true, if_false, ne_eq, not_true_eq_false, not_false_eq_true, nI_1ne, nI_0eq, nI_le0, pk_sub, bI_T, bI_F, Nat.zero_ne_one, Bool.false_eq_true]
    refine c_lay hC (by omega) (by omega) (fun D hD rD lD => ?_)
    simp (disch := omega) only [i_X8_howOf_77, i_X8_howOf_78, i_X8_howOf_79, gh_o32, gh_r34, gh_r38, gh_r39, gh_r47, gh_r49, gh_r50, gh_r51, gh_w51, gf_32_3, gf_32_7, gf_32_8, gf_32_10, gf_32_21, gf_32_23, gf_32_24, gf_32_25, z_o_i, z_ai_i, z_si_i, z_ab_b, z_ab_z, z_sb_b, z_sb_z, z_al_i, z_al_b, z_pu_s, z_pu_n, nI_toN, z_inN, true_and, and_true, nI_add, pk_mul, vu_eq, vu_ne, nI_leI, nI_ltI, nI_eqI, nI_eq0, ↓ok_0, ↓ok_1, bI_eq0, bI_ne0, ↓bI_ok, Nat.one_ne_zero, c_isVowel, if_true, if_false, ne_eq, not_true_eq_false, not_false_eq_true, nI_1ne, nI_0eq, nI_le0, pk_sub, bI_T, bI_F, Nat.zero_ne_one, Bool.false_eq_true]
    have g0 := hW.2 w i hw hi
    have g1 := hW.2 u j hu (by omega)
    have h36 : ∀ i, a 36 i < 40 := fun i => (hb i).2.2.2.1
    refine c_doRhyme (near := a 32 10) (e0 := lvw (hs a (3 * w + i)) (a 35 (3 * w + i))) (e1 := lvw (hs a (3 * u + j)) (a 35 (3 * u + j))) (Rw2_of hD hW.1 (Row_keep (hb _).2.2.1 rC lD) rD g0 g1) (gd_tl g0 hW.1 h36).2.2 (gd_tl g1 hW.1 h36).2.2 (lvw_sp _ (gd_hs g0 hW.1 h36)) (lvw_sp _ (gd_hs g1 hW.1 h36)) hk hD.2.1.2.1 hsc.2.1 (fun T => ?_)
    have hF' : Fr A (va_up D 51 T) := ((hF.trans (Fr.lay lC)).trans (Fr.lay lD)).trans Fr.tab
    rw [fi] at hr
    by_cases c : rqs a kind (3 * w + i) (3 * u + j) = true
    · rw [if_pos c] at hr
      have c' := c
      unfold rqs at c'
      simp (disch := omega) only [i_X8_howOf_82, i_X8_howOf_85, i_X8_howOf_86, i_X8_howOf_88, i_X8_howOf_89, i_X8_howOf_91, i_X8_howOf_92, gh_o32, gh_r34, gh_r38, gh_r39, gh_r47, gh_r49, gh_r50, gh_r51, gh_w51, gf_32_3, gf_32_7, gf_32_8, gf_32_10, gf_32_21, gf_32_23, gf_32_24, gf_32_25, z_o_i, z_ai_i, z_si_i, z_ab_b, z_ab_z, z_sb_b, z_sb_z, z_al_i, z_al_b, z_pu_s, z_pu_n, nI_toN, z_inN, true_and, and_true, nI_add, pk_mul, vu_eq, vu_ne, nI_leI, nI_ltI, nI_eqI, nI_eq0, ↓ok_0, ↓ok_1, bI_eq0, bI_ne0, ↓bI_ok, Nat.one_ne_zero, c_isVowel, if_true, if_false, ne_eq, not_true_eq_false, not_false_eq_true, nI_1ne, nI_0eq, nI_le0, pk_sub, bI_T, bI_F, Nat.zero_ne_one, Bool.false_eq_true, c']
      exact hS _ j hF' hr.symm
    · rw [if_neg c] at hr
      have c' := c
      unfold rqs at c'
      simp (disch := omega) only [i_X8_howOf_82, i_X8_howOf_93, i_X8_howOf_96, gh_o32, gh_r34, gh_r38, gh_r39, gh_r47, gh_r49, gh_r50, gh_r51, gh_w51, gf_32_3, gf_32_7, gf_32_8, gf_32_10, gf_32_21, gf_32_23, gf_32_24, gf_32_25, z_o_i, z_ai_i, z_si_i, z_ab_b, z_ab_z, z_sb_b, z_sb_z, z_al_i, z_al_b, z_pu_s, z_pu_n, nI_toN, z_inN, true_and, and_true, nI_add, pk_mul, vu_eq, vu_ne, nI_leI, nI_ltI, nI_eqI, nI_eq0, ↓ok_0, ↓ok_1, bI_eq0, bI_ne0, ↓bI_ok, Nat.one_ne_zero, c_isVowel, if_true, if_false, ne_eq, not_true_eq_false, not_false_eq_true, nI_1ne, nI_0eq, nI_le0, pk_sub, bI_T, bI_F, Nat.zero_ne_one, Bool.false_eq_true, c']
      exact ih (j + 1) _ (by omega) hF' hr
theorem l_hwO {w u kind : Nat} (hR : Rp a A) (hW : Wa a) (hw : w < a 32 1) (hu : u < a 32 1) (hk : kind ≤ 6) {R : Option Nat} (hQ : ∀ B, Fr A B → Q (some (.int (oI R))) (GH B P dy) nx) : ∀ (m i : Nat) (B : Nat → Nat → Int32) (x5 : Option Value), i + m = a 34 w → Fr A B → fo (fun p q => rqs a kind (3 * w + p) (3 * u + q)) (a 34 u) m i = R → X (d + 4) m_X8_howOf 30 [some (.ref 32), some (.int (nI w)), some (.int (nI u)), some (.int (nI kind)), some (.int (nI i)), x5] [] (GH B P dy) nx bc bs Q := by
  have hb := hR.2.2.1
  have hsc := hR.2.2.2
  have b34 := (hb w).2.1
  intro m
  induction m with
  | zero =>
    intro i B x5 hi hF hr
    have r34 := (hF.rp hR).1.2.1 w
    have le : a 34 w ≤ i := by omega
    simp (disch := omega) only [i_X8_howOf_30, i_X8_howOf_32, i_X8_howOf_33, i_X8_howOf_36, i_X8_howOf_37, i_X8_howOf_38, i_X8_howOf_105, i_X8_howOf_106, gh_o32, gh_r34, gh_r38, gh_r39, gh_r47, gh_r49, gh_r50, gh_r51, gh_w51, gf_32_3, gf_32_7, gf_32_8, gf_32_10, gf_32_21, gf_32_23, gf_32_24, gf_32_25, z_o_i, z_ai_i, z_si_i, z_ab_b, z_ab_z, z_sb_b, z_sb_z, z_al_i, z_al_b, z_pu_s, z_pu_n, nI_toN, z_inN, true_and, and_true, nI_add, pk_mul, vu_eq, vu_ne, nI_leI, nI_ltI, nI_eqI, nI_eq0, ↓ok_0, ↓ok_1, bI_eq0, bI_ne0, ↓bI_ok, Nat.one_ne_zero, c_isVowel, if_true, if_false, ne_eq, not_true_eq_false, not_false_eq_true, nI_1ne, nI_0eq, nI_le0, pk_sub, bI_T, bI_F, Nat.zero_ne_one, Bool.false_eq_true, r34, le]
    have := hQ B hF
    rw [← hr] at this
    exact this
  | succ m ih =>
    intro i B x5 hi hF hr
    have r34 := (hF.rp hR).1.2.1 w
    have le : ¬ a 34 w ≤ i := by omega
    rw [i_X8_howOf_30]
    simp (disch := omega) only [i_X8_howOf_32, i_X8_howOf_33, i_X8_howOf_36, i_X8_howOf_37, i_X8_howOf_38, i_X8_howOf_41, i_X8_howOf_42, gh_o32, gh_r34, gh_r38, gh_r39, gh_r47, gh_r49, gh_r50, gh_r51, gh_w51, gf_32_3, gf_32_7, gf_32_8, gf_32_10, gf_32_21, gf_32_23, gf_32_24, gf_32_25, z_o_i, z_ai_i, z_si_i, z_ab_b, z_ab_z, z_sb_b, z_sb_z, z_al_i, z_al_b, z_pu_s, z_pu_n, nI_toN, z_inN, true_and, and_true, nI_add, pk_mul, vu_eq, vu_ne, nI_leI, nI_ltI, nI_eqI, nI_eq0, ↓ok_0, ↓ok_1, bI_eq0, bI_ne0, ↓bI_ok, Nat.one_ne_zero, c_isVowel, if_true, if_false, ne_eq, not_true_eq_false, not_false_eq_true, nI_1ne, nI_0eq, nI_le0, pk_sub, bI_T, bI_F, Nat.zero_ne_one, Bool.false_eq_true, r34, le]
    rw [fo] at hr
    refine l_hwI (R := fi (fun q => rqs a kind (3 * w + i) (3 * u + q)) (a 34 u) 0) hR hW hw hu hk (by omega) ?_ ?_ (a 34 u) 0 B (by omega) hF rfl
    · intro C j hC e
      have := hQ C hC
      rw [e] at hr
      rw [← hr] at this
      exact this
    · intro C y5 hC e
      rw [e] at hr
      exact ih (i + 1) C y5 (by omega) hC hr
theorem c_howOf {w u kind : Nat} (hR : Rp a A) (hW : Wa a) (hw : w < a 32 1) (hu : u < a 32 1) (hk : kind ≤ 6) (hQ : ∀ B, Fr A B → Q (some (.int (oI (hwq a (A 39) w u kind)))) (GH B P dy) nx) : XC (d + 4) m_X8_howOf [.ref 32, .int (nI w), .int (nI u), .int (nI kind)] (GH A P dy) nx Q := by
  show X (d + 4) m_X8_howOf 0 [some (.ref 32), some (.int (nI w)), some (.int (nI u)), some (.int (nI kind)), none, none] [] (GH A P dy) nx 0 0 Q
  have hsc := hR.2.2.2
  by_cases e : w = u
  · have q := hQ A Fr.refl
    rw [hwq, if_pos e] at q
    simp (disch := omega) only [i_X8_howOf_0, i_X8_howOf_1, i_X8_howOf_2, i_X8_howOf_5, i_X8_howOf_6, gh_o32, gh_r34, gh_r38, gh_r39, gh_r47, gh_r49, gh_r50, gh_r51, gh_w51, gf_32_3, gf_32_7, gf_32_8, gf_32_10, gf_32_21, gf_32_23, gf_32_24, gf_32_25, z_o_i, z_ai_i, z_si_i, z_ab_b, z_ab_z, z_sb_b, z_sb_z, z_al_i, z_al_b, z_pu_s, z_pu_n, nI_toN, z_inN, true_and, and_true, nI_add, pk_mul, vu_eq, vu_ne, nI_leI, nI_ltI, nI_eqI, nI_eq0, ↓ok_0, ↓ok_1, bI_eq0, bI_ne0, ↓bI_ok, Nat.one_ne_zero, c_isVowel, if_true, if_false, ne_eq, not_true_eq_false, not_false_eq_true, nI_1ne, nI_0eq, nI_le0, pk_sub, bI_T, bI_F, Nat.zero_ne_one, Bool.false_eq_true, e]
    exact q
  · by_cases k5 : kind = 5
    · have q := hQ A Fr.refl
      rw [hwq, if_neg e, if_pos k5] at q
      have ey : ∀ {d nx : Nat} {Q : z_Q}, XC d m_X8_areEyes [.ref 32, .int (nI w), .int (nI u)] (GH A P dy) nx Q = Q (some (.int (bI (eyq a (A 39) w u = true)))) (GH A P dy) nx := c_areEyes hR (by omega) (by omega)
      by_cases c : eyq a (A 39) w u = true
      · rw [if_pos c] at q
        simp (disch := omega) only [i_X8_howOf_0, i_X8_howOf_1, i_X8_howOf_2, i_X8_howOf_7, i_X8_howOf_8, i_X8_howOf_9, i_X8_howOf_12, i_X8_howOf_13, i_X8_howOf_14, i_X8_howOf_15, i_X8_howOf_18, i_X8_howOf_21, i_X8_howOf_22, i_X8_howOf_25, i_X8_howOf_26, gh_o32, gh_r34, gh_r38, gh_r39, gh_r47, gh_r49, gh_r50, gh_r51, gh_w51, gf_32_3, gf_32_7, gf_32_8, gf_32_10, gf_32_21, gf_32_23, gf_32_24, gf_32_25, z_o_i, z_ai_i, z_si_i, z_ab_b, z_ab_z, z_sb_b, z_sb_z, z_al_i, z_al_b, z_pu_s, z_pu_n, nI_toN, z_inN, true_and, and_true, nI_add, pk_mul, vu_eq, vu_ne, nI_leI, nI_ltI, nI_eqI, nI_eq0, ↓ok_0, ↓ok_1, bI_eq0, bI_ne0, ↓bI_ok, Nat.one_ne_zero, c_isVowel, if_true, if_false, ne_eq, not_true_eq_false, not_false_eq_true, nI_1ne, nI_0eq, nI_le0, pk_sub, bI_T, bI_F, Nat.zero_ne_one, Bool.false_eq_true, e, k5, ey, c]
        exact q
      · rw [if_neg c] at q
        simp (disch := omega) only [i_X8_howOf_0, i_X8_howOf_1, i_X8_howOf_2, i_X8_howOf_7, i_X8_howOf_8, i_X8_howOf_9, i_X8_howOf_12, i_X8_howOf_13, i_X8_howOf_14, i_X8_howOf_15, i_X8_howOf_18, i_X8_howOf_21, i_X8_howOf_22, i_X8_howOf_25, i_X8_howOf_26, gh_o32, gh_r34, gh_r38, gh_r39, gh_r47, gh_r49, gh_r50, gh_r51, gh_w51, gf_32_3, gf_32_7, gf_32_8, gf_32_10, gf_32_21, gf_32_23, gf_32_24, gf_32_25, z_o_i, z_ai_i, z_si_i, z_ab_b, z_ab_z, z_sb_b, z_sb_z, z_al_i, z_al_b, z_pu_s, z_pu_n, nI_toN, z_inN, true_and, and_true, nI_add, pk_mul, vu_eq, vu_ne, nI_leI, nI_ltI, nI_eqI, nI_eq0, ↓ok_0, ↓ok_1, bI_eq0, bI_ne0, ↓bI_ok, Nat.one_ne_zero, c_isVowel, if_true, if_false, ne_eq, not_true_eq_false, not_false_eq_true, nI_1ne, nI_0eq, nI_le0, pk_sub, bI_T, bI_F, Nat.zero_ne_one, Bool.false_eq_true, e, k5, ey, c]
        exact q
    · simp (disch := omega) only [i_X8_howOf_0, i_X8_howOf_1, i_X8_howOf_2, i_X8_howOf_7, i_X8_howOf_8, i_X8_howOf_9, i_X8_howOf_27, i_X8_howOf_28, gh_o32, gh_r34, gh_r38, gh_r39, gh_r47, gh_r49, gh_r50, gh_r51, gh_w51, gf_32_3, gf_32_7, gf_32_8, gf_32_10, gf_32_21, gf_32_23, gf_32_24, gf_32_25, z_o_i, z_ai_i, z_si_i, z_ab_b, z_ab_z, z_sb_b, z_sb_z, z_al_i, z_al_b, z_pu_s, z_pu_n, nI_toN, z_inN, true_and, and_true, nI_add, pk_mul, vu_eq, vu_ne, nI_leI, nI_ltI, nI_eqI, nI_eq0, ↓ok_0, ↓ok_1, bI_eq0, bI_ne0, ↓bI_ok, Nat.one_ne_zero, c_isVowel, if_true, if_false, ne_eq, not_true_eq_false, not_false_eq_true, nI_1ne, nI_0eq, nI_le0, pk_sub, bI_T, bI_F, Nat.zero_ne_one, Bool.false_eq_true, e, k5]
      refine l_hwO hR hW hw hu hk hQ (a 34 w) 0 A _ (by omega) Fr.refl ?_
      rw [hwq, if_neg e, if_neg k5]
end MHow
