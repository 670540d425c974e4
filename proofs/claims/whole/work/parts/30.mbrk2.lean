/-! THE MODEL: isBroken -/
def hj (f g : Nat → Nat) (n : Nat) : Nat → Nat := fun i => if i < n then f i else g (i - n)
/-- whether some number below n has P -/
def an (P : Nat → Bool) : Nat → Nat → Bool
  | 0, _ => false
  | m + 1, j => P j || an P m (j + 1)
theorem an_iff {P : Nat → Bool} : ∀ (m j : Nat), an P m j = true ↔ ∃ i, j ≤ i ∧ i < j + m ∧ P i = true := by
  intro m
  induction m with
  | zero => intro j; constructor
            · intro h; cases h
            · rintro ⟨i, h1, h2, _⟩; omega
  | succ m ih =>
    intro j
    rw [an, Bool.or_eq_true, ih (j + 1)]
    constructor
    · rintro (h | ⟨i, h1, h2, h3⟩)
      · exact ⟨j, by omega, by omega, h⟩
      · exact ⟨i, by omega, by omega, h3⟩
    · rintro ⟨i, h1, h2, h3⟩
      by_cases e : i = j
      · subst e; exact Or.inl h3
      · exact Or.inr ⟨i, by omega, by omega, h3⟩
/-- the sounds and stresses of two sayings, one behind the other; their tail -/
def jh (a : Nat → Nat → Nat) (s0 s1 : Nat) : Nat → Nat := hj (hs a s0) (hs a s1) (a 35 s0)
def js (a : Nat → Nat → Nat) (s0 s1 : Nat) : Nat → Nat := hj (ss a s0) (fun i => ss a s1 i - 1) (a 35 s0)
def jt (a : Nat → Nat → Nat) (s0 s1 : Nat) : Nat := (bt (jh a s0 s1) (js a s0 s1) (a 35 s0 + a 35 s1)).getD 0
def bkq (a : Nat → Nat → Nat) (sw s0 s1 : Nat) : Bool := taq (a 35 s0 + a 35 s1) (jt a s0 s1) (jh a s0 s1) (a 35 sw) (tl a sw) (hs a sw)
def bk3 (a : Nat → Nat → Nat) (w u v : Nat) : Bool := an (fun p => an (fun q => an (fun r => bkq a (3 * w + p) (3 * u + q) (3 * v + r)) (a 34 v) 0) (a 34 u) 0) (a 34 w) 0
theorem jt_sp {a : Nat → Nat → Nat} {s0 s1 : Nat} (g : Gd a s0) (hp : Sp a) (hb : ∀ i, a 36 i < 40) : bt (jh a s0 s1) (js a s0 s1) (a 35 s0 + a 35 s1) = some (jt a s0 s1) ∧ jt a s0 s1 < a 35 s0 + a 35 s1 := by
  obtain ⟨i, h1, h2⟩ := gd_hs g hp hb
  obtain ⟨b, e⟩ := bt_some (f := jh a s0 s1) (g := js a s0 s1) (a 35 s0 + a 35 s1) ⟨i, by omega, by simp only [jh, hj]; rw [if_pos h1]; exact h2⟩
  have q : jt a s0 s1 = b := by simp only [jt, e, Option.getD_some]
  rw [q]
  exact ⟨e, bt_lt e⟩
section MBr2
variable {a : Nat → Nat → Nat} {A : Nat → Nat → Int32} {P : Nat → Nat → Nat} {dy : z_H} {d nx bc bs : Nat} {Q : z_Q}
theorem s_br {sw s0 s1 : Nat} {w u v i j k : Option Value} (hR : Rp a A) (hp : Sp a) (hr : Row a A 1 sw) (gw : Gd a sw) (g0 : Gd a s0) (h0 : s0 < 72) (h1 : s1 < 72) (e0 : ∃ p q, p < 24 ∧ q < 4 ∧ u = some (.int (nI p)) ∧ j = some (.int (nI q)) ∧ s0 = 3 * p + q) (e1 : ∃ p q, p < 24 ∧ q < 4 ∧ v = some (.int (nI p)) ∧ k = some (.int (nI q)) ∧ s1 = 3 * p + q)
    (hY : bkq a sw s0 s1 = true → ∀ B, Fr A B → Q (some (.int (nI 1))) (GH B P dy) nx) (hN : bkq a sw s0 s1 = false → ∀ B, Fr A B → Row a B 1 sw → X (d + 3) m_X8_isBroken 98 [some (.ref 32), w, u, v, i, j, k] [] (GH B P dy) nx bc bs Q) : X (d + 3) m_X8_isBroken 53 [some (.ref 32), w, u, v, i, j, k] [] (GH A P dy) nx bc bs Q := by
  have hb := hR.2.2.1
  have h36 : ∀ i, a 36 i < 40 := fun i => (hb i).2.2.2.1
  have n0 := (hb s0).2.2.1
  have n1 := (hb s1).2.2.1
  have nw := (hb sw).2.2.1
  obtain ⟨p0, q0, bp0, bq0, rfl, rfl, hs0⟩ := e0
  obtain ⟨p1, q1, bp1, bq1, rfl, rfl, hs1⟩ := e1
  simp (disch := omega) only [i_X8_isBroken_53, i_X8_isBroken_54, i_X8_isBroken_57, i_X8_isBroken_58, i_X8_isBroken_59, i_X8_isBroken_60, i_X8_isBroken_61, i_X8_isBroken_62, i_X8_isBroken_63, i_X8_isBroken_64, i_X8_isBroken_65, i_X8_isBroken_67, i_X8_isBroken_68, i_X8_isBroken_69, gh_o32, gh_r34, gh_r38, gh_r39, gh_r47, gh_r49, gh_r50, gh_r51, gh_w51, gh_w49, gf_32_3, gf_32_7, gf_32_8, gf_32_10, gf_32_21, gf_32_23, gf_32_24, gf_32_25, z_o_i, z_ai_i, z_si_i, z_ab_b, z_ab_z, z_sb_b, z_sb_z, z_al_i, z_al_b, z_pu_s, z_pu_n, nI_toN, z_inN, true_and, and_true, nI_add, pk_mul, vu_eq, vu_ne, nI_leI, nI_ltI, nI_eqI, nI_eq0, ↓ok_0, ↓ok_1, bI_eq0, bI_ne0, ↓bI_ok, Nat.one_ne_zero, c_isVowel, if_true, if_false, ne_eq, not_true_eq_false, not_false_eq_true, nI_1ne, nI_0eq, nI_le0, pk_sub, bI_T, bI_F, Nat.zero_ne_one, Bool.false_eq_true]
  rw [← hs0]
  have hR1 : Rp a (va_up A 49 (va_up (A 49) 0 (nI 0))) := hR.of (fun k hk => ⟨fun e j h0 hj => by subst e; rfl, fun e => vu_ne (by omega)⟩)
  refine c_addSaying (L0 := 0) hR1 (by omega) h0 (by omega) (by omega) (by rw [vu_eq, vu_eq]) ?_
  simp (disch := omega) only [i_X8_isBroken_72, i_X8_isBroken_73, i_X8_isBroken_74, i_X8_isBroken_75, i_X8_isBroken_76, i_X8_isBroken_77, i_X8_isBroken_79, i_X8_isBroken_80, i_X8_isBroken_81, gh_o32, gh_r34, gh_r38, gh_r39, gh_r47, gh_r49, gh_r50, gh_r51, gh_w51, gh_w49, gf_32_3, gf_32_7, gf_32_8, gf_32_10, gf_32_21, gf_32_23, gf_32_24, gf_32_25, z_o_i, z_ai_i, z_si_i, z_ab_b, z_ab_z, z_sb_b, z_sb_z, z_al_i, z_al_b, z_pu_s, z_pu_n, nI_toN, z_inN, true_and, and_true, nI_add, pk_mul, vu_eq, vu_ne, nI_leI, nI_ltI, nI_eqI, nI_eq0, ↓ok_0, ↓ok_1, bI_eq0, bI_ne0, ↓bI_ok, Nat.one_ne_zero, c_isVowel, if_true, if_false, ne_eq, not_true_eq_false, not_false_eq_true, nI_1ne, nI_0eq, nI_le0, pk_sub, bI_T, bI_F, Nat.zero_ne_one, Bool.false_eq_true]
  rw [← hs1]
  have hR2 : Rp a (adS a (va_up A 49 (va_up (A 49) 0 (nI 0))) 0 s0 0 0 (a 35 s0)) := hR.of (fun k hk => ⟨fun e j h0 hj => by subst e; rfl, fun e => by rw [adS_ne (by omega), vu_ne (by omega)]⟩)
  refine c_addSaying (L0 := a 35 s0) hR2 (by omega) h1 (by omega) (by omega) (by rw [adS_49, vu_eq, Nat.zero_add]) ?_
  simp (disch := omega) only [i_X8_isBroken_84, i_X8_isBroken_85, i_X8_isBroken_86, gh_o32, gh_r34, gh_r38, gh_r39, gh_r47, gh_r49, gh_r50, gh_r51, gh_w51, gh_w49, gf_32_3, gf_32_7, gf_32_8, gf_32_10, gf_32_21, gf_32_23, gf_32_24, gf_32_25, z_o_i, z_ai_i, z_si_i, z_ab_b, z_ab_z, z_sb_b, z_sb_z, z_al_i, z_al_b, z_pu_s, z_pu_n, nI_toN, z_inN, true_and, and_true, nI_add, pk_mul, vu_eq, vu_ne, nI_leI, nI_ltI, nI_eqI, nI_eq0, ↓ok_0, ↓ok_1, bI_eq0, bI_ne0, ↓bI_ok, Nat.one_ne_zero, c_isVowel, if_true, if_false, ne_eq, not_true_eq_false, not_false_eq_true, nI_1ne, nI_0eq, nI_le0, pk_sub, bI_T, bI_F, Nat.zero_ne_one, Bool.false_eq_true]
  have f47 : ∀ i, i < a 35 s0 + a 35 s1 → adS a (adS a (va_up A 49 (va_up (A 49) 0 (nI 0))) 0 s0 0 0 (a 35 s0)) 0 s1 1 (a 35 s0) (a 35 s1) 47 (24 * 0 + i) = nI (jh a s0 s1 i) := by
    intro i hi
    rw [adS_47]
    simp only [jh, hj]
    by_cases c : i < a 35 s0
    · rw [pt_out (by omega), adS_47, pt_in (by omega) (by omega), if_pos c]
      simp only [hs]
      congr 5
      omega
    · rw [pt_in (by omega) (by omega), if_neg c, show 24 * 0 + i - (24 * 0 + a 35 s0) = i - a 35 s0 by omega]
      rfl
  have f48 : ∀ i, i < a 35 s0 + a 35 s1 → adS a (adS a (va_up A 49 (va_up (A 49) 0 (nI 0))) 0 s0 0 0 (a 35 s0)) 0 s1 1 (a 35 s0) (a 35 s1) 48 (24 * 0 + i) = nI (js a s0 s1 i) := by
    intro i hi
    rw [adS_48]
    simp only [js, hj]
    by_cases c : i < a 35 s0
    · rw [pt_out (by omega), adS_48, pt_in (by omega) (by omega), if_pos c, show 24 * 0 + i - (24 * 0 + 0) = i by omega]
      rfl
    · rw [pt_in (by omega) (by omega), if_neg c, show 24 * 0 + i - (24 * 0 + a 35 s0) = i - a 35 s0 by omega]
      rfl
  obtain ⟨t1, t2⟩ := jt_sp (s1 := s1) g0 hp h36
  obtain ⟨u1, u2, u3⟩ := gd_tl gw hp h36
  refine c_findTail (n := a 35 s0 + a 35 s1) (f := jh a s0 s1) (g := js a s0 s1) (by omega) (by omega) (by rw [adS_49, vu_eq]) f47 f48 (fun i => ?_) (fun i => ?_) ?_
  · simp only [jh, hj]
    by_cases c : i < a 35 s0
    · rw [if_pos c]; exact (hb _).2.2.2.2.2.1
    · rw [if_neg c]; exact (hb _).2.2.2.2.2.1
  · simp only [js, hj]
    by_cases c : i < a 35 s0
    · rw [if_pos c]; exact (hb _).2.2.2.2.1
    · rw [if_neg c]
      have := (hb (12 * s1 + (i - a 35 s0))).2.2.2.2.1
      simp only [ss]
      omega
  · simp (disch := omega) only [i_X8_isBroken_89, i_X8_isBroken_90, gh_o32, gh_r34, gh_r38, gh_r39, gh_r47, gh_r49, gh_r50, gh_r51, gh_w51, gh_w49, gf_32_3, gf_32_7, gf_32_8, gf_32_10, gf_32_21, gf_32_23, gf_32_24, gf_32_25, z_o_i, z_ai_i, z_si_i, z_ab_b, z_ab_z, z_sb_b, z_sb_z, z_al_i, z_al_b, z_pu_s, z_pu_n, nI_toN, z_inN, true_and, and_true, nI_add, pk_mul, vu_eq, vu_ne, nI_leI, nI_ltI, nI_eqI, nI_eq0, ↓ok_0, ↓ok_1, bI_eq0, bI_ne0, ↓bI_ok, Nat.one_ne_zero, c_isVowel, if_true, if_false, ne_eq, not_true_eq_false, not_false_eq_true, nI_1ne, nI_0eq, nI_le0, pk_sub, bI_T, bI_F, Nat.zero_ne_one, Bool.false_eq_true]
    rw [t1]
    obtain ⟨r1, r2, r3, r4⟩ := hr
    have hW2 : Rw2 (va_up (adS a (adS a (va_up A 49 (va_up (A 49) 0 (nI 0))) 0 s0 0 0 (a 35 s0)) 0 s1 1 (a 35 s0) (a 35 s1)) 50 (va_up (adS a (adS a (va_up A 49 (va_up (A 49) 0 (nI 0))) 0 s0 0 0 (a 35 s0)) 0 s1 1 (a 35 s0) (a 35 s1) 50) 0 (oI (some (jt a s0 s1))))) (a 35 s0 + a 35 s1) (jt a s0 s1) (jh a s0 s1) (a 35 sw) (tl a sw) (hs a sw) := by
      refine ⟨⟨?_, ?_, ?_, ?_⟩, ⟨t2, by omega, u2, by omega⟩, fun i q => ?_, fun i q => ?_, fun i => ?_, fun i => (hb _).2.2.2.2.2.1⟩
      · rw [vu_ne (by omega), adS_49, vu_eq]
      · rw [vu_ne (by omega), adS_49, vu_ne (by omega), adS_49, vu_ne (by omega), vu_eq, vu_ne (by omega)]; exact r1
      · rw [vu_eq, vu_eq]; rfl
      · rw [vu_eq, vu_ne (by omega), adS_ne (by omega), adS_ne (by omega), vu_ne (by omega), r4, u1]; rfl
      · have := f47 i q
        rw [show 24 * 0 + i = i by omega] at this
        rw [vu_ne (by omega)]
        exact this
      · rw [vu_ne (by omega), adS_47, pt_out (by omega), adS_47, pt_out (by omega), vu_ne (by omega)]
        exact r2 i q
      · simp only [jh, hj]
        by_cases c : i < a 35 s0
        · rw [if_pos c]; exact (hb _).2.2.2.2.2.1
        · rw [if_neg c]; exact (hb _).2.2.2.2.2.1
    refine c_areTailsAlike hW2 ?_
    have hF : Fr A (va_up (adS a (adS a (va_up A 49 (va_up (A 49) 0 (nI 0))) 0 s0 0 0 (a 35 s0)) 0 s1 1 (a 35 s0) (a 35 s1)) 50 (va_up (adS a (adS a (va_up A 49 (va_up (A 49) 0 (nI 0))) 0 s0 0 0 (a 35 s0)) 0 s1 1 (a 35 s0) (a 35 s1) 50) 0 (oI (some (jt a s0 s1))))) := fun k hk => by
      rw [vu_ne (by omega), adS_ne (by omega), adS_ne (by omega), vu_ne (by omega)]
    by_cases c : bkq a sw s0 s1 = true
    · have c' := c
      unfold bkq at c'
      simp (disch := omega) only [i_X8_isBroken_93, i_X8_isBroken_96, i_X8_isBroken_97, gh_o32, gh_r34, gh_r38, gh_r39, gh_r47, gh_r49, gh_r50, gh_r51, gh_w51, gh_w49, gf_32_3, gf_32_7, gf_32_8, gf_32_10, gf_32_21, gf_32_23, gf_32_24, gf_32_25, z_o_i, z_ai_i, z_si_i, z_ab_b, z_ab_z, z_sb_b, z_sb_z, z_al_i, z_al_b, z_pu_s, z_pu_n, nI_toN, z_inN, true_and, and_true, nI_add, pk_mul, vu_eq, vu_ne, nI_leI, nI_ltI, nI_eqI, nI_eq0, ↓ok_0, ↓ok_1, bI_eq0, bI_ne0, ↓bI_ok, Nat.one_ne_zero, c_isVowel, if_true, if_false, ne_eq, not_true_eq_false, not_false_eq_true, nI_1ne, nI_0eq, nI_le0, pk_sub, bI_T, bI_F, Nat.zero_ne_one, Bool.false_eq_true, c']
      exact hY c _ hF
    · have c' := c
      unfold bkq at c'
      simp (disch := omega) only [i_X8_isBroken_93, gh_o32, gh_r34, gh_r38, gh_r39, gh_r47, gh_r49, gh_r50, gh_r51, gh_w51, gh_w49, gf_32_3, gf_32_7, gf_32_8, gf_32_10, gf_32_21, gf_32_23, gf_32_24, gf_32_25, z_o_i, z_ai_i, z_si_i, z_ab_b, z_ab_z, z_sb_b, z_sb_z, z_al_i, z_al_b, z_pu_s, z_pu_n, nI_toN, z_inN, true_and, and_true, nI_add, pk_mul, vu_eq, vu_ne, nI_leI, nI_ltI, nI_eqI, nI_eq0, ↓ok_0, ↓ok_1, bI_eq0, bI_ne0, ↓bI_ok, Nat.one_ne_zero, c_isVowel, if_true, if_false, ne_eq, not_true_eq_false, not_false_eq_true, nI_1ne, nI_0eq, nI_le0, pk_sub, bI_T, bI_F, Nat.zero_ne_one, Bool.false_eq_true, c']
      refine hN (by simpa using c) _ hF ⟨?_, fun i q => ?_, fun i q => ?_, ?_⟩
      · exact hW2.1.2.1
      · exact hW2.2.2.2.1 i q
      · rw [vu_ne (by omega), adS_48, pt_out (by omega), adS_48, pt_out (by omega), vu_ne (by omega)]
        exact r3 i q
      · rw [vu_eq, vu_ne (by omega), adS_ne (by omega), adS_ne (by omega), vu_ne (by omega)]
        exact r4
theorem l_brC {w u v p q : Nat} {R : Bool} (hR : Rp a A) (hW : Wa a) (hw : w < a 32 1) (hu : u < a 32 1) (hv : v < a 32 1) (hp : p < a 34 w) (hq : q < a 34 u) (hY : R = true → ∀ B, Fr A B → Q (some (.int (nI 1))) (GH B P dy) nx) (hN : R = false → ∀ B x6, Fr A B → Row a B 1 (3 * w + p) → X (d + 3) m_X8_isBroken 28 [some (.ref 32), some (.int (nI w)), some (.int (nI u)), some (.int (nI v)), some (.int (nI p)), some (.int (nI (q + 1))), x6] [] (GH B P dy) nx bc bs Q) : ∀ (m r : Nat) (B : Nat → Nat → Int32), r + m = a 34 v → Fr A B → Row a B 1 (3 * w + p) → an (fun r => bkq a (3 * w + p) (3 * u + q) (3 * v + r)) m r = R → X (d + 3) m_X8_isBroken 42 [some (.ref 32), some (.int (nI w)), some (.int (nI u)), some (.int (nI v)), some (.int (nI p)), some (.int (nI q)), some (.int (nI r))] [] (GH B P dy) nx bc bs Q := by
  have hb := hR.2.2.1
  have hsc := hR.2.2.2
  have bw := (hb w).2.1
  have bu := (hb u).2.1
  have bv := (hb v).2.1
  intro m
  induction m with
  | zero =>
    intro r B hr hF hrow hR'
    have r34 := (hF.rp hR).1.2.1 v
    have le : a 34 v ≤ r := by omega
    simp (disch := omega) only [i_X8_isBroken_42, i_X8_isBroken_44, i_X8_isBroken_45, i_X8_isBroken_48, i_X8_isBroken_49, i_X8_isBroken_50, i_X8_isBroken_104, i_X8_isBroken_107, gh_o32, gh_r34, gh_r38, gh_r39, gh_r47, gh_r49, gh_r50, gh_r51, gh_w51, gh_w49, gf_32_3, gf_32_7, gf_32_8, gf_32_10, gf_32_21, gf_32_23, gf_32_24, gf_32_25, z_o_i, z_ai_i, z_si_i, z_ab_b, z_ab_z, z_sb_b, z_sb_z, z_al_i, z_al_b, z_pu_s, z_pu_n, nI_toN, z_inN, true_and, and_true, nI_add, pk_mul, vu_eq, vu_ne, nI_leI, nI_ltI, nI_eqI, nI_eq0, ↓ok_0, ↓ok_1, bI_eq0, bI_ne0, ↓bI_ok, Nat.one_ne_zero, c_isVowel, if_true, if_false, ne_eq, not_true_eq_false, not_false_eq_true, nI_1ne, nI_0eq, nI_le0, pk_sub, bI_T, bI_F, Nat.zero_ne_one, Bool.false_eq_true, r34, le]
    exact hN hR'.symm B _ hF hrow
  | succ m ih =>
    intro r B hr hF hrow hR'
    have r34 := (hF.rp hR).1.2.1 v
    have le : ¬ a 34 v ≤ r := by omega
    rw [i_X8_isBroken_42]
    simp (disch := omega) only [i_X8_isBroken_44, i_X8_isBroken_45, i_X8_isBroken_48, i_X8_isBroken_49, i_X8_isBroken_50, gh_o32, gh_r34, gh_r38, gh_r39, gh_r47, gh_r49, gh_r50, gh_r51, gh_w51, gh_w49, gf_32_3, gf_32_7, gf_32_8, gf_32_10, gf_32_21, gf_32_23, gf_32_24, gf_32_25, z_o_i, z_ai_i, z_si_i, z_ab_b, z_ab_z, z_sb_b, z_sb_z, z_al_i, z_al_b, z_pu_s, z_pu_n, nI_toN, z_inN, true_and, and_true, nI_add, pk_mul, vu_eq, vu_ne, nI_leI, nI_ltI, nI_eqI, nI_eq0, ↓ok_0, ↓ok_1, bI_eq0, bI_ne0, ↓bI_ok, Nat.one_ne_zero, c_isVowel, if_true, if_false, ne_eq, not_true_eq_false, not_false_eq_true, nI_1ne, nI_0eq, nI_le0, pk_sub, bI_T, bI_F, Nat.zero_ne_one, Bool.false_eq_true, r34, le]
    rw [an] at hR'
    refine s_br (sw := 3 * w + p) (s0 := 3 * u + q) (s1 := 3 * v + r) (hF.rp hR) hW.1 hrow (hW.2 w p hw hp) (hW.2 u q hu hq) (by omega) (by omega) ⟨u, q, by omega, by omega, rfl, rfl, rfl⟩ ⟨v, r, by omega, by omega, rfl, rfl, rfl⟩ ?_ ?_
    · intro c C hC
      exact hY (by rw [← hR', c]; rfl) C (hF.trans hC)
    · intro c C hC hrow'
      rw [c, Bool.false_or] at hR'
      simp (disch := omega) only [i_X8_isBroken_98, i_X8_isBroken_101, gh_o32, gh_r34, gh_r38, gh_r39, gh_r47, gh_r49, gh_r50, gh_r51, gh_w51, gh_w49, gf_32_3, gf_32_7, gf_32_8, gf_32_10, gf_32_21, gf_32_23, gf_32_24, gf_32_25, z_o_i, z_ai_i, z_si_i, z_ab_b, z_ab_z, z_sb_b, z_sb_z, z_al_i, z_al_b, z_pu_s, z_pu_n, nI_toN, z_inN, true_and, and_true, nI_add, pk_mul, vu_eq, vu_ne, nI_leI, nI_ltI, nI_eqI, nI_eq0, ↓ok_0, ↓ok_1, bI_eq0, bI_ne0, ↓bI_ok, Nat.one_ne_zero, c_isVowel, if_true, if_false, ne_eq, not_true_eq_false, not_false_eq_true, nI_1ne, nI_0eq, nI_le0, pk_sub, bI_T, bI_F, Nat.zero_ne_one, Bool.false_eq_true]
      exact ih (r + 1) C (by omega) (hF.trans hC) hrow' hR'
theorem l_brB {w u v p : Nat} {R : Bool} (hR : Rp a A) (hW : Wa a) (hw : w < a 32 1) (hu : u < a 32 1) (hv : v < a 32 1) (hp : p < a 34 w) (hY : R = true → ∀ B, Fr A B → Q (some (.int (nI 1))) (GH B P dy) nx) (hN : R = false → ∀ B x5 x6, Fr A B → X (d + 3) m_X8_isBroken 3 [some (.ref 32), some (.int (nI w)), some (.int (nI u)), some (.int (nI v)), some (.int (nI (p + 1))), x5, x6] [] (GH B P dy) nx bc bs Q) : ∀ (m q : Nat) (B : Nat → Nat → Int32) (x6 : Option Value), q + m = a 34 u → Fr A B → Row a B 1 (3 * w + p) → an (fun q => an (fun r => bkq a (3 * w + p) (3 * u + q) (3 * v + r)) (a 34 v) 0) m q = R → X (d + 3) m_X8_isBroken 28 [some (.ref 32), some (.int (nI w)), some (.int (nI u)), some (.int (nI v)), some (.int (nI p)), some (.int (nI q)), x6] [] (GH B P dy) nx bc bs Q := by
  have hb := hR.2.2.1
  have hsc := hR.2.2.2
  have bw := (hb w).2.1
  have bu := (hb u).2.1
  intro m
  induction m with
  | zero =>
    intro q B x6 hq hF hrow hR'
    have r34 := (hF.rp hR).1.2.1 u
    have le : a 34 u ≤ q := by omega
    simp (disch := omega) only [i_X8_isBroken_28, i_X8_isBroken_30, i_X8_isBroken_31, i_X8_isBroken_34, i_X8_isBroken_35, i_X8_isBroken_36, i_X8_isBroken_110, i_X8_isBroken_113, gh_o32, gh_r34, gh_r38, gh_r39, gh_r47, gh_r49, gh_r50, gh_r51, gh_w51, gh_w49, gf_32_3, gf_32_7, gf_32_8, gf_32_10, gf_32_21, gf_32_23, gf_32_24, gf_32_25, z_o_i, z_ai_i, z_si_i, z_ab_b, z_ab_z, z_sb_b, z_sb_z, z_al_i, z_al_b, z_pu_s, z_pu_n, nI_toN, z_inN, true_and, and_true, nI_add, pk_mul, vu_eq, vu_ne, nI_leI, nI_ltI, nI_eqI, nI_eq0, ↓ok_0, ↓ok_1, bI_eq0, bI_ne0, ↓bI_ok, Nat.one_ne_zero, c_isVowel, if_true, if_false, ne_eq, not_true_eq_false, not_false_eq_true, nI_1ne, nI_0eq, nI_le0, pk_sub, bI_T, bI_F, Nat.zero_ne_one, Bool.false_eq_true, r34, le]
    exact hN hR'.symm B _ _ hF
  | succ m ih =>
    intro q B x6 hq hF hrow hR'
    have r34 := (hF.rp hR).1.2.1 u
    have le : ¬ a 34 u ≤ q := by omega
    rw [i_X8_isBroken_28]
    simp (disch := omega) only [i_X8_isBroken_30, i_X8_isBroken_31, i_X8_isBroken_34, i_X8_isBroken_35, i_X8_isBroken_36, i_X8_isBroken_39, i_X8_isBroken_40, gh_o32, gh_r34, gh_r38, gh_r39, gh_r47, gh_r49, gh_r50, gh_r51, gh_w51, gh_w49, gf_32_3, gf_32_7, gf_32_8, gf_32_10, gf_32_21, gf_32_23, gf_32_24, gf_32_25, z_o_i, z_ai_i, z_si_i, z_ab_b, z_ab_z, z_sb_b, z_sb_z, z_al_i, z_al_b, z_pu_s, z_pu_n, nI_toN, z_inN, true_and, and_true, nI_add, pk_mul, vu_eq, vu_ne, nI_leI, nI_ltI, nI_eqI, nI_eq0, ↓ok_0, ↓ok_1, bI_eq0, bI_ne0, ↓bI_ok, Nat.one_ne_zero, c_isVowel, if_true, if_false, ne_eq, not_true_eq_false, not_false_eq_true, nI_1ne, nI_0eq, nI_le0, pk_sub, bI_T, bI_F, Nat.zero_ne_one, Bool.false_eq_true, r34, le]
    rw [an] at hR'
    refine l_brC (R := an (fun r => bkq a (3 * w + p) (3 * u + q) (3 * v + r)) (a 34 v) 0) hR hW hw hu hv hp (by omega) ?_ ?_ (a 34 v) 0 B (by omega) hF hrow rfl
    · intro c C hC
      exact hY (by rw [← hR', c]; rfl) C hC
    · intro c C y6 hC hrow'
      rw [c, Bool.false_or] at hR'
      exact ih (q + 1) C y6 (by omega) hC hrow' hR'
theorem l_brA {w u v : Nat} {R : Bool} (hR : Rp a A) (hW : Wa a) (hw : w < a 32 1) (hu : u < a 32 1) (hv : v < a 32 1) (hQ : ∀ B, Fr A B → Q (some (.int (bI (R = true)))) (GH B P dy) nx) : ∀ (m p : Nat) (B : Nat → Nat → Int32) (x5 x6 : Option Value), p + m = a 34 w → Fr A B → an (fun p => an (fun q => an (fun r => bkq a (3 * w + p) (3 * u + q) (3 * v + r)) (a 34 v) 0) (a 34 u) 0) m p = R → X (d + 3) m_X8_isBroken 3 [some (.ref 32), some (.int (nI w)), some (.int (nI u)), some (.int (nI v)), some (.int (nI p)), x5, x6] [] (GH B P dy) nx bc bs Q := by
  have hb := hR.2.2.1
  have hsc := hR.2.2.2
  have bw := (hb w).2.1
  intro m
  induction m with
  | zero =>
    intro p B x5 x6 hp hF hR'
    have r34 := (hF.rp hR).1.2.1 w
    have le : a 34 w ≤ p := by omega
    simp (disch := omega) only [i_X8_isBroken_3, i_X8_isBroken_5, i_X8_isBroken_6, i_X8_isBroken_9, i_X8_isBroken_10, i_X8_isBroken_11, i_X8_isBroken_116, i_X8_isBroken_117, gh_o32, gh_r34, gh_r38, gh_r39, gh_r47, gh_r49, gh_r50, gh_r51, gh_w51, gh_w49, gf_32_3, gf_32_7, gf_32_8, gf_32_10, gf_32_21, gf_32_23, gf_32_24, gf_32_25, z_o_i, z_ai_i, z_si_i, z_ab_b, z_ab_z, z_sb_b, z_sb_z, z_al_i, z_al_b, z_pu_s, z_pu_n, nI_toN, z_inN, true_and, and_true, nI_add, pk_mul, vu_eq, vu_ne, nI_leI, nI_ltI, nI_eqI, nI_eq0, ↓ok_0, ↓ok_1, bI_eq0, bI_ne0, ↓bI_ok, Nat.one_ne_zero, c_isVowel, if_true, if_false, ne_eq, not_true_eq_false, not_false_eq_true, nI_1ne, nI_0eq, nI_le0, pk_sub, bI_T, bI_F, Nat.zero_ne_one, Bool.false_eq_true, r34, le]
    have q := hQ B hF
    rw [bI_f (by rw [← hR']; exact Bool.false_ne_true)] at q
    exact q
  | succ m ih =>
    intro p B x5 x6 hp hF hR'
    have hRB := hF.rp hR
    have r34 := hRB.1.2.1 w
    have le : ¬ a 34 w ≤ p := by omega
    rw [i_X8_isBroken_3]
    simp (disch := omega) only [i_X8_isBroken_5, i_X8_isBroken_6, i_X8_isBroken_9, i_X8_isBroken_10, i_X8_isBroken_11, i_X8_isBroken_14, i_X8_isBroken_15, i_X8_isBroken_16, i_X8_isBroken_17, i_X8_isBroken_18, i_X8_isBroken_19, i_X8_isBroken_21, i_X8_isBroken_22, gh_o32, gh_r34, gh_r38, gh_r39, gh_r47, gh_r49, gh_r50, gh_r51, gh_w51, gh_w49, gf_32_3, gf_32_7, gf_32_8, gf_32_10, gf_32_21, gf_32_23, gf_32_24, gf_32_25, z_o_i, z_ai_i, z_si_i, z_ab_b, z_ab_z, z_sb_b, z_sb_z, z_al_i, z_al_b, z_pu_s, z_pu_n, nI_toN, z_inN, true_and, and_true, nI_add, pk_mul, vu_eq, vu_ne, nI_leI, nI_ltI, nI_eqI, nI_eq0, ↓ok_0, ↓ok_1, bI_eq0, bI_ne0, ↓bI_ok, Nat.one_ne_zero, c_isVowel, if_true, if_false, ne_eq, not_true_eq_false, not_false_eq_true, nI_1ne, nI_0eq, nI_le0, pk_sub, bI_T, bI_F, Nat.zero_ne_one, Bool.false_eq_true, r34, le]
    refine c_lay hRB (by omega) (by omega) (fun C hC rC lC => ?_)
    simp (disch := omega) only [i_X8_isBroken_25, i_X8_isBroken_26, gh_o32, gh_r34, gh_r38, gh_r39, gh_r47, gh_r49, gh_r50, gh_r51, gh_w51, gh_w49, gf_32_3, gf_32_7, gf_32_8, gf_32_10, gf_32_21, gf_32_23, gf_32_24, gf_32_25, z_o_i, z_ai_i, z_si_i, z_ab_b, z_ab_z, z_sb_b, z_sb_z, z_al_i, z_al_b, z_pu_s, z_pu_n, nI_toN, z_inN, true_and, and_true, nI_add, pk_mul, vu_eq, vu_ne, nI_leI, nI_ltI, nI_eqI, nI_eq0, ↓ok_0, ↓ok_1, bI_eq0, bI_ne0, ↓bI_ok, Nat.one_ne_zero, c_isVowel, if_true, if_false, ne_eq, not_true_eq_false, not_false_eq_true, nI_1ne, nI_0eq, nI_le0, pk_sub, bI_T, bI_F, Nat.zero_ne_one, Bool.false_eq_true]
    rw [an] at hR'
    refine l_brB (R := an (fun q => an (fun r => bkq a (3 * w + p) (3 * u + q) (3 * v + r)) (a 34 v) 0) (a 34 u) 0) hR hW hw hu hv (by omega) ?_ ?_ (a 34 u) 0 C _ (by omega) (hF.trans (Fr.lay lC)) rC rfl
    · intro c D hD
      have q := hQ D hD
      rw [bI_t (by rw [← hR', c]; rfl)] at q
      exact q
    · intro c D y5 y6 hD
      rw [c, Bool.false_or] at hR'
      exact ih (p + 1) D y5 y6 (by omega) hD hR'
theorem c_isBroken {w u v : Nat} (hR : Rp a A) (hW : Wa a) (hw : w < a 32 1) (hu : u < a 32 1) (hv : v < a 32 1) (hQ : ∀ B, Fr A B → Q (some (.int (bI (bk3 a w u v = true)))) (GH B P dy) nx) : XC (d + 3) m_X8_isBroken [.ref 32, .int (nI w), .int (nI u), .int (nI v)] (GH A P dy) nx Q := by
  show X (d + 3) m_X8_isBroken 0 [some (.ref 32), some (.int (nI w)), some (.int (nI u)), some (.int (nI v)), none, none, none] [] (GH A P dy) nx 0 0 Q
  rw [i_X8_isBroken_0, i_X8_isBroken_1]
  exact l_brA hR hW hw hu hv hQ (a 34 w) 0 A none none (by omega) Fr.refl rfl
end MBr2
