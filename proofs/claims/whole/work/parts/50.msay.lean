/-! THE MODEL'S CALLS: saying -/
/-- the byte told for a sound -/
def byw (f g : Int64) (i : Nat) : Int32 := (((if i < 8 then f else g).toUInt64 >>> ((nI (8 * (i % 8))).toInt64.toUInt64 &&& Int64.toUInt64 63)).toInt64).toInt32 &&& nI 255
def bN (f g : Int64) (i : Nat) : Nat := (byw f g i).toBitVec.toNat
theorem byw_b (f g : Int64) (i : Nat) : bN f g i < 256 := by
  unfold bN byw
  rw [Int32.toBitVec_and, BitVec.toNat_and]
  exact Nat.lt_of_le_of_lt Nat.and_le_right (by decide)
theorem byw_eq (f g : Int64) (i : Nat) : byw f g i = nI (bN f g i) := by
  apply Int32.toBitVec_inj.mp
  unfold bN nI
  rw [Int32.toBitVec_ofNat']
  simp
def isS (b : Nat) : Bool := decide (b < 40 ∨ (b < 120 ∧ b % 40 < 10))
def aS (f g : Int64) : Nat → Bool
  | 0 => true
  | k + 1 => aS f g k && isS (bN f g k)
def aV (f g : Int64) : Nat → Bool
  | 0 => false
  | k + 1 => aV f g k || decide (bN f g k % 40 < 10)
theorem aS_all {f g : Int64} : ∀ n, aS f g n = true → ∀ i, i < n → isS (bN f g i) = true := by
  intro n
  induction n with
  | zero => intro _ i hi; omega
  | succ n ih =>
    intro h i hi
    simp only [aS, Bool.and_eq_true] at h
    by_cases e : i = n
    · rw [e]; exact h.2
    · exact ih h.1 i (by omega)
theorem aV_ex {f g : Int64} : ∀ n, aV f g n = true → ∃ i, i < n ∧ bN f g i % 40 < 10 := by
  intro n
  induction n with
  | zero => intro h; cases h
  | succ n ih =>
    intro h
    simp only [aV, Bool.or_eq_true, decide_eq_true_eq] at h
    rcases h with h | h
    · obtain ⟨i, h1, h2⟩ := ih h; exact ⟨i, by omega, h2⟩
    · exact ⟨n, by omega, h⟩
theorem z_40 : ((40 : Nat) = 0) = False := by simp
theorem md_40 {b : Nat} : b - b / 40 * 40 = b % 40 := by omega
section MSay
variable {s : z_S} {A : Nat → Nat → Int32} {P : Nat → Nat → Nat} {dy : z_H} {d nx bc bs : Nat} {Q : z_Q}
theorem c_byteAt {f g : Int64} {i : Nat} {h : z_H} (hi : i < 12) : XC d m_X8_byteAt [.long f, .long g, .int (nI i)] h nx Q = Q (some (.int (nI (bN f g i)))) h nx := by
  show X d m_X8_byteAt 0 [some (.long f), none, some (.long g), none, some (.int (nI i))] [] h nx 0 0 Q = _
  rw [← byw_eq, byw]
  by_cases c : i < 8
  · have c' : ¬ 8 ≤ i := by omega
    have e : i % 8 = i := by omega
    rw [if_pos c, e]
    simp (disch := omega) only [i_X8_byteAt_0, i_X8_byteAt_2, i_X8_byteAt_4, i_X8_byteAt_7, i_X8_byteAt_8, i_X8_byteAt_10, i_X8_byteAt_12, i_X8_byteAt_13, i_X8_byteAt_14, i_X8_byteAt_17, i_X8_byteAt_18, i_X8_byteAt_20, i_X8_byteAt_22, i_X8_byteAt_24, i_X8_byteAt_25, i_X8_byteAt_26, i_X8_byteAt_27, i_X8_byteAt_28, i_X8_byteAt_31, i_X8_byteAt_32, z_o_i, z_ai_i, z_si_i, z_ab_b, z_ab_z, z_sb_b, z_sb_z, z_al_i, z_al_b, z_pu_s, z_pu_n, nI_toN, z_inN, true_and, and_true, nI_add, pk_mul, vu_eq, vu_ne, nI_leI, c', if_false]
  · have c' : 8 ≤ i := by omega
    have e : i % 8 = i - 8 := by omega
    rw [if_neg c, e]
    simp (disch := omega) only [i_X8_byteAt_0, i_X8_byteAt_2, i_X8_byteAt_4, i_X8_byteAt_7, i_X8_byteAt_8, i_X8_byteAt_10, i_X8_byteAt_12, i_X8_byteAt_13, i_X8_byteAt_14, i_X8_byteAt_17, i_X8_byteAt_18, i_X8_byteAt_20, i_X8_byteAt_22, i_X8_byteAt_24, i_X8_byteAt_25, i_X8_byteAt_26, i_X8_byteAt_27, i_X8_byteAt_28, i_X8_byteAt_31, i_X8_byteAt_32, z_o_i, z_ai_i, z_si_i, z_ab_b, z_ab_z, z_sb_b, z_sb_z, z_al_i, z_al_b, z_pu_s, z_pu_n, nI_toN, z_inN, true_and, and_true, nI_add, pk_mul, vu_eq, vu_ne, nI_leI, c', if_true, pk_sub]
theorem c_isSound {b : Nat} {h : z_H} (hb : b < 256) : XC d m_X8_isSound [.int (nI b)] h nx Q = Q (some (.int (bI (isS b = true)))) h nx := by
  show X d m_X8_isSound 0 [some (.int (nI b))] [] h nx 0 0 Q = _
  by_cases c : b < 40
  · rw [bI_t (by simp [isS, c])]
    simp (disch := omega) only [i_X8_isSound_0, i_X8_isSound_1, i_X8_isSound_3, i_X8_isSound_6, i_X8_isSound_7, i_X8_isSound_9, i_X8_isSound_12, i_X8_isSound_13, i_X8_isSound_15, i_X8_isSound_16, i_X8_isSound_18, i_X8_isSound_21, i_X8_isSound_22, i_X8_isSound_25, i_X8_isSound_26, gh_o32, gh_r34, gh_r35, gh_r36, gh_r37, gh_w34, gh_w35, gh_w36, gh_w37, gh_u32, gp_32_0, gf_32_3, gf_32_4, gf_32_5, gf_32_6, z_o_i, z_ai_i, z_si_i, z_ab_b, z_ab_z, z_sb_b, z_sb_z, z_al_i, z_al_b, z_pu_s, z_pu_n, nI_toN, z_inN, true_and, and_true, nI_add, pk_mul, vu_eq, vu_ne, nI_leI, nI_ltI, nI_eqI, nI_eq0, nI_le0, ↓ok_0, ↓ok_1, ↓bI_ok, if_true, if_false, ne_eq, not_true_eq_false, not_false_eq_true, nI_m1, nI_1ne, nI_0eq, bI_eq0, bI_ne0, Bool.false_eq_true, iw_nI, decide_true, decide_false, nI_ge0, nI_lt0, bI_T, bI_F, Nat.one_ne_zero, Nat.zero_ne_one, pk_div, pk_sub, md_40, z_40, c_isVowel, c]
  · by_cases c1 : 120 ≤ b
    · rw [bI_f (by simp [isS]; omega)]
      simp (disch := omega) only [i_X8_isSound_0, i_X8_isSound_1, i_X8_isSound_3, i_X8_isSound_6, i_X8_isSound_7, i_X8_isSound_9, i_X8_isSound_12, i_X8_isSound_13, i_X8_isSound_15, i_X8_isSound_16, i_X8_isSound_18, i_X8_isSound_21, i_X8_isSound_22, i_X8_isSound_25, i_X8_isSound_26, gh_o32, gh_r34, gh_r35, gh_r36, gh_r37, gh_w34, gh_w35, gh_w36, gh_w37, gh_u32, gp_32_0, gf_32_3, gf_32_4, gf_32_5, gf_32_6, z_o_i, z_ai_i, z_si_i, z_ab_b, z_ab_z, z_sb_b, z_sb_z, z_al_i, z_al_b, z_pu_s, z_pu_n, nI_toN, z_inN, true_and, and_true, nI_add, pk_mul, vu_eq, vu_ne, nI_leI, nI_ltI, nI_eqI, nI_eq0, nI_le0, ↓ok_0, ↓ok_1, ↓bI_ok, if_true, if_false, ne_eq, not_true_eq_false, not_false_eq_true, nI_m1, nI_1ne, nI_0eq, bI_eq0, bI_ne0, Bool.false_eq_true, iw_nI, decide_true, decide_false, nI_ge0, nI_lt0, bI_T, bI_F, Nat.one_ne_zero, Nat.zero_ne_one, pk_div, pk_sub, md_40, z_40, c_isVowel, c, c1]
    · by_cases c2 : 10 ≤ b % 40
      · rw [bI_f (by simp [isS]; omega)]
        simp (disch := omega) only [i_X8_isSound_0, i_X8_isSound_1, i_X8_isSound_3, i_X8_isSound_6, i_X8_isSound_7, i_X8_isSound_9, i_X8_isSound_12, i_X8_isSound_13, i_X8_isSound_15, i_X8_isSound_16, i_X8_isSound_18, i_X8_isSound_21, i_X8_isSound_22, i_X8_isSound_25, i_X8_isSound_26, gh_o32, gh_r34, gh_r35, gh_r36, gh_r37, gh_w34, gh_w35, gh_w36, gh_w37, gh_u32, gp_32_0, gf_32_3, gf_32_4, gf_32_5, gf_32_6, z_o_i, z_ai_i, z_si_i, z_ab_b, z_ab_z, z_sb_b, z_sb_z, z_al_i, z_al_b, z_pu_s, z_pu_n, nI_toN, z_inN, true_and, and_true, nI_add, pk_mul, vu_eq, vu_ne, nI_leI, nI_ltI, nI_eqI, nI_eq0, nI_le0, ↓ok_0, ↓ok_1, ↓bI_ok, if_true, if_false, ne_eq, not_true_eq_false, not_false_eq_true, nI_m1, nI_1ne, nI_0eq, bI_eq0, bI_ne0, Bool.false_eq_true, iw_nI, decide_true, decide_false, nI_ge0, nI_lt0, bI_T, bI_F, Nat.one_ne_zero, Nat.zero_ne_one, pk_div, pk_sub, md_40, z_40, c_isVowel, c, c1, c2]
      · rw [bI_t (by simp [isS]; omega)]
        simp (disch := omega) only [i_X8_isSound_0, i_X8_isSound_1, i_X8_isSound_3, i_X8_isSound_6, i_X8_isSound_7, i_X8_isSound_9, i_X8_isSound_12, i_X8_isSound_13, i_X8_isSound_15, i_X8_isSound_16, i_X8_isSound_18, i_X8_isSound_21, i_X8_isSound_22, i_X8_isSound_25, i_X8_isSound_26, gh_o32, gh_r34, gh_r35, gh_r36, gh_r37, gh_w34, gh_w35, gh_w36, gh_w37, gh_u32, gp_32_0, gf_32_3, gf_32_4, gf_32_5, gf_32_6, z_o_i, z_ai_i, z_si_i, z_ab_b, z_ab_z, z_sb_b, z_sb_z, z_al_i, z_al_b, z_pu_s, z_pu_n, nI_toN, z_inN, true_and, and_true, nI_add, pk_mul, vu_eq, vu_ne, nI_leI, nI_ltI, nI_eqI, nI_eq0, nI_le0, ↓ok_0, ↓ok_1, ↓bI_ok, if_true, if_false, ne_eq, not_true_eq_false, not_false_eq_true, nI_m1, nI_1ne, nI_0eq, bI_eq0, bI_ne0, Bool.false_eq_true, iw_nI, decide_true, decide_false, nI_ge0, nI_lt0, bI_T, bI_F, Nat.one_ne_zero, Nat.zero_ne_one, pk_div, pk_sub, md_40, z_40, c_isVowel, c, c1, c2]
theorem l_say1 {n : Nat} {f g : Int64} {x1 x11 : Option Value} {h : z_H} (hn : n ≤ 12) (hQ : ∀ x10, X (d + 1) m_X8_saying 102 [some (.ref 32), x1, some (.int (nI n)), some (.long f), none, some (.long g), none, some (.int (bI (aS f g n = true))), some (.int (bI (aV f g n = true))), some (.int (nI n)), x10, x11] [] h nx bc bs Q) : ∀ (m k : Nat) (x10 : Option Value), k + m = n → X (d + 1) m_X8_saying 37 [some (.ref 32), x1, some (.int (nI n)), some (.long f), none, some (.long g), none, some (.int (bI (aS f g k = true))), some (.int (bI (aV f g k = true))), some (.int (nI k)), x10, x11] [] h nx bc bs Q := by
  intro m
  induction m with
  | zero =>
    intro k x10 hk
    have e : k = n := by omega
    subst e
    simp (disch := omega) only [i_X8_saying_37, i_X8_saying_39, i_X8_saying_40, gh_o32, gh_r34, gh_r35, gh_r36, gh_r37, gh_w34, gh_w35, gh_w36, gh_w37, gh_u32, gp_32_0, gf_32_3, gf_32_4, gf_32_5, gf_32_6, z_o_i, z_ai_i, z_si_i, z_ab_b, z_ab_z, z_sb_b, z_sb_z, z_al_i, z_al_b, z_pu_s, z_pu_n, nI_toN, z_inN, true_and, and_true, nI_add, pk_mul, vu_eq, vu_ne, nI_leI, nI_ltI, nI_eqI, nI_eq0, nI_le0, ↓ok_0, ↓ok_1, ↓bI_ok, if_true, if_false, ne_eq, not_true_eq_false, not_false_eq_true, nI_m1, nI_1ne, nI_0eq, bI_eq0, bI_ne0, Bool.false_eq_true, iw_nI, decide_true, decide_false, nI_ge0, nI_lt0, bI_T, bI_F, Nat.one_ne_zero, Nat.zero_ne_one, pk_div, pk_sub, md_40, z_40, c_isVowel, Nat.le_refl]
    exact hQ x10
  | succ m ih =>
    intro k x10 hk
    have le : ¬ n ≤ k := by omega
    have bb := byw_b f g k
    have q := ih (k + 1) (some (.int (nI (bN f g k)))) (by omega)
    have eS : (aS f g (k + 1) = true) = (aS f g k = true ∧ isS (bN f g k) = true) := by simp [aS]
    have eV : (aV f g (k + 1) = true) = (aV f g k = true ∨ bN f g k % 40 < 10) := by simp [aV]
    have key : ∀ v w : Int32, v = bI (aS f g (k + 1) = true) → w = bI (aV f g (k + 1) = true) → X (d + 1) m_X8_saying 37 [some (.ref 32), x1, some (.int (nI n)), some (.long f), none, some (.long g), none, some (.int v), some (.int w), some (.int (nI (k + 1))), some (.int (nI (bN f g k))), x11] [] h nx bc bs Q := by
      intro v w hv hw; rw [hv, hw]; exact q
    rw [i_X8_saying_37]
    by_cases c1 : aS f g k = true
    · by_cases c2 : isS (bN f g k) = true
      · have v1 : nI 1 = bI (aS f g (k + 1) = true) := (bI_t (by rw [eS]; exact ⟨c1, c2⟩)).symm
        by_cases c3 : aV f g k = true
        · have v2 : nI 1 = bI (aV f g (k + 1) = true) := (bI_t (by rw [eV]; exact Or.inl c3)).symm
          simp (disch := omega) only [i_X8_saying_39, i_X8_saying_40, i_X8_saying_43, i_X8_saying_44, i_X8_saying_46, i_X8_saying_48, i_X8_saying_51, i_X8_saying_53, i_X8_saying_55, i_X8_saying_58, i_X8_saying_60, i_X8_saying_63, i_X8_saying_66, i_X8_saying_67, i_X8_saying_70, i_X8_saying_71, i_X8_saying_73, i_X8_saying_75, i_X8_saying_78, i_X8_saying_80, i_X8_saying_82, i_X8_saying_83, i_X8_saying_86, i_X8_saying_89, i_X8_saying_90, i_X8_saying_93, i_X8_saying_94, i_X8_saying_96, i_X8_saying_99, gh_o32, gh_r34, gh_r35, gh_r36, gh_r37, gh_w34, gh_w35, gh_w36, gh_w37, gh_u32, gp_32_0, gf_32_3, gf_32_4, gf_32_5, gf_32_6, z_o_i, z_ai_i, z_si_i, z_ab_b, z_ab_z, z_sb_b, z_sb_z, z_al_i, z_al_b, z_pu_s, z_pu_n, nI_toN, z_inN, true_and, and_true, nI_add, pk_mul, vu_eq, vu_ne, nI_leI, nI_ltI, nI_eqI, nI_eq0, nI_le0, ↓ok_0, ↓ok_1, ↓bI_ok, if_true, if_false, ne_eq, not_true_eq_false, not_false_eq_true, nI_m1, nI_1ne, nI_0eq, bI_eq0, bI_ne0, Bool.false_eq_true, iw_nI, decide_true, decide_false, nI_ge0, nI_lt0, bI_T, bI_F, Nat.one_ne_zero, Nat.zero_ne_one, pk_div, pk_sub, md_40, z_40, c_isVowel, c_byteAt, c_isSound, le, c1, c2, c3]
          exact key _ _ v1 v2
        · by_cases c4 : bN f g k % 40 < 10
          · have v2 : nI 1 = bI (aV f g (k + 1) = true) := (bI_t (by rw [eV]; exact Or.inr c4)).symm
            simp (disch := omega) only [i_X8_saying_39, i_X8_saying_40, i_X8_saying_43, i_X8_saying_44, i_X8_saying_46, i_X8_saying_48, i_X8_saying_51, i_X8_saying_53, i_X8_saying_55, i_X8_saying_58, i_X8_saying_60, i_X8_saying_63, i_X8_saying_66, i_X8_saying_67, i_X8_saying_70, i_X8_saying_71, i_X8_saying_73, i_X8_saying_75, i_X8_saying_78, i_X8_saying_80, i_X8_saying_82, i_X8_saying_83, i_X8_saying_86, i_X8_saying_89, i_X8_saying_90, i_X8_saying_93, i_X8_saying_94, i_X8_saying_96, i_X8_saying_99, gh_o32, gh_r34, gh_r35, gh_r36, gh_r37, gh_w34, gh_w35, gh_w36, gh_w37, gh_u32, gp_32_0, gf_32_3, gf_32_4, gf_32_5, gf_32_6, z_o_i, z_ai_i, z_si_i, z_ab_b, z_ab_z, z_sb_b, z_sb_z, z_al_i, z_al_b, z_pu_s, z_pu_n, nI_toN, z_inN, true_and, and_true, nI_add, pk_mul, vu_eq, vu_ne, nI_leI, nI_ltI, nI_eqI, nI_eq0, nI_le0, ↓ok_0, ↓ok_1, ↓bI_ok, if_true, if_false, ne_eq, not_true_eq_false, not_false_eq_true, nI_m1, nI_1ne, nI_0eq, bI_eq0, bI_ne0, Bool.false_eq_true, iw_nI, decide_true, decide_false, nI_ge0, nI_lt0, bI_T, bI_F, Nat.one_ne_zero, Nat.zero_ne_one, pk_div, pk_sub, md_40, z_40, c_isVowel, c_byteAt, c_isSound, le, c1, c2, c3, c4]
            exact key _ _ v1 v2
          · have v2 : nI 0 = bI (aV f g (k + 1) = true) := (bI_f (by rw [eV]; exact fun z => z.elim c3 c4)).symm
            simp (disch := omega) only [i_X8_saying_39, i_X8_saying_40, i_X8_saying_43, i_X8_saying_44, i_X8_saying_46, i_X8_saying_48, i_X8_saying_51, i_X8_saying_53, i_X8_saying_55, i_X8_saying_58, i_X8_saying_60, i_X8_saying_63, i_X8_saying_66, i_X8_saying_67, i_X8_saying_70, i_X8_saying_71, i_X8_saying_73, i_X8_saying_75, i_X8_saying_78, i_X8_saying_80, i_X8_saying_82, i_X8_saying_83, i_X8_saying_86, i_X8_saying_89, i_X8_saying_90, i_X8_saying_93, i_X8_saying_94, i_X8_saying_96, i_X8_saying_99, gh_o32, gh_r34, gh_r35, gh_r36, gh_r37, gh_w34, gh_w35, gh_w36, gh_w37, gh_u32, gp_32_0, gf_32_3, gf_32_4, gf_32_5, gf_32_6, z_o_i, z_ai_i, z_si_i, z_ab_b, z_ab_z, z_sb_b, z_sb_z, z_al_i, z_al_b, z_pu_s, z_pu_n, nI_toN, z_inN, true_and, and_true, nI_add, pk_mul, vu_eq, vu_ne, nI_leI, nI_ltI, nI_eqI, nI_eq0, nI_le0, ↓ok_0, ↓ok_1, ↓bI_ok, if_true, if_false, ne_eq, not_true_eq_false, not_false_eq_true, nI_m1, nI_1ne, nI_0eq, bI_eq0, bI_ne0, Bool.false_eq_true, iw_nI, decide_true, decide_false, nI_ge0, nI_lt0, bI_T, bI_F, Nat.one_ne_zero, Nat.zero_ne_one, pk_div, pk_sub, md_40, z_40, c_isVowel, c_byteAt, c_isSound, le, c1, c2, c3, c4]
            exact key _ _ v1 v2
      · have v1 : nI 0 = bI (aS f g (k + 1) = true) := (bI_f (by rw [eS]; exact fun z => c2 z.2)).symm
        by_cases c3 : aV f g k = true
        · have v2 : nI 1 = bI (aV f g (k + 1) = true) := (bI_t (by rw [eV]; exact Or.inl c3)).symm
          simp (disch := omega) only [i_X8_saying_39, i_X8_saying_40, i_X8_saying_43, i_X8_saying_44, i_X8_saying_46, i_X8_saying_48, i_X8_saying_51, i_X8_saying_53, i_X8_saying_55, i_X8_saying_58, i_X8_saying_60, i_X8_saying_63, i_X8_saying_66, i_X8_saying_67, i_X8_saying_70, i_X8_saying_71, i_X8_saying_73, i_X8_saying_75, i_X8_saying_78, i_X8_saying_80, i_X8_saying_82, i_X8_saying_83, i_X8_saying_86, i_X8_saying_89, i_X8_saying_90, i_X8_saying_93, i_X8_saying_94, i_X8_saying_96, i_X8_saying_99, gh_o32, gh_r34, gh_r35, gh_r36, gh_r37, gh_w34, gh_w35, gh_w36, gh_w37, gh_u32, gp_32_0, gf_32_3, gf_32_4, gf_32_5, gf_32_6, z_o_i, z_ai_i, z_si_i, z_ab_b, z_ab_z, z_sb_b, z_sb_z, z_al_i, z_al_b, z_pu_s, z_pu_n, nI_toN, z_inN, true_and, and_true, nI_add, pk_mul, vu_eq, vu_ne, nI_leI, nI_ltI, nI_eqI, nI_eq0, nI_le0, ↓ok_0, ↓ok_1, ↓bI_ok, if_true, if_false, ne_eq, not_true_eq_false, not_false_eq_true, nI_m1, nI_1ne, nI_0eq, bI_eq0, bI_ne0, Bool.false_eq_true, iw_nI, decide_true, decide_false, nI_ge0, nI_lt0, bI_T, bI_F, Nat.one_ne_zero, Nat.zero_ne_one, pk_div, pk_sub, md_40, z_40, c_isVowel, c_byteAt, c_isSound, le, c1, c2, c3]
          exact key _ _ v1 v2
        · by_cases c4 : bN f g k % 40 < 10
          · have v2 : nI 1 = bI (aV f g (k + 1) = true) := (bI_t (by rw [eV]; exact Or.inr c4)).symm
            simp (disch := omega) only [i_X8_saying_39, i_X8_saying_40, i_X8_saying_43, i_X8_saying_44, i_X8_saying_46, i_X8_saying_48, i_X8_saying_51, i_X8_saying_53, i_X8_saying_55, i_X8_saying_58, i_X8_saying_60, i_X8_saying_63, i_X8_saying_66, i_X8_saying_67, i_X8_saying_70, i_X8_saying_71, i_X8_saying_73, i_X8_saying_75, i_X8_saying_78, i_X8_saying_80, i_X8_saying_82, i_X8_saying_83, i_X8_saying_86, i_X8_saying_89, i_X8_saying_90, i_X8_saying_93, i_X8_saying_94, i_X8_saying_96, i_X8_saying_99, gh_o32, gh_r34, gh_r35, gh_r36, gh_r37, gh_w34, gh_w35, gh_w36, gh_w37, gh_u32, gp_32_0, gf_32_3, gf_32_4, gf_32_5, gf_32_6, z_o_i, z_ai_i, z_si_i, z_ab_b, z_ab_z, z_sb_b, z_sb_z, z_al_i, z_al_b, z_pu_s, z_pu_n, nI_toN, z_inN, true_and, and_true, nI_add, pk_mul, vu_eq, vu_ne, nI_leI, nI_ltI, nI_eqI, nI_eq0, nI_le0, ↓ok_0, ↓ok_1, ↓bI_ok, if_true, if_false, ne_eq, not_true_eq_false, not_false_eq_true, nI_m1, nI_1ne, nI_0eq, bI_eq0, bI_ne0, Bool.false_eq_true, iw_nI, decide_true, decide_false, nI_ge0, nI_lt0, bI_T, bI_F, Nat.one_ne_zero, Nat.zero_ne_one, pk_div, pk_sub, md_40, z_40, c_isVowel, c_byteAt, c_isSound, le, c1, c2, c3, c4]
            exact key _ _ v1 v2
          · have v2 : nI 0 = bI (aV f g (k + 1) = true) := (bI_f (by rw [eV]; exact fun z => z.elim c3 c4)).symm
            simp (disch := omega) only [i_X8_saying_39, i_X8_saying_40, i_X8_saying_43, i_X8_saying_44, i_X8_saying_46, i_X8_saying_48, i_X8_saying_51, i_X8_saying_53, i_X8_saying_55, i_X8_saying_58, i_X8_saying_60, i_X8_saying_63, i_X8_saying_66, i_X8_saying_67, i_X8_saying_70, i_X8_saying_71, i_X8_saying_73, i_X8_saying_75, i_X8_saying_78, i_X8_saying_80, i_X8_saying_82, i_X8_saying_83, i_X8_saying_86, i_X8_saying_89, i_X8_saying_90, i_X8_saying_93, i_X8_saying_94, i_X8_saying_96, i_X8_saying_99, gh_o32, gh_r34, gh_r35, gh_r36, gh_r37, gh_w34, gh_w35, gh_w36, gh_w37, gh_u32, gp_32_0, gf_32_3, gf_32_4, gf_32_5, gf_32_6, z_o_i, z_ai_i, z_si_i, z_ab_b, z_ab_z, z_sb_b, z_sb_z, z_al_i, z_al_b, z_pu_s, z_pu_n, nI_toN, z_inN, true_and, and_true, nI_add, pk_mul, vu_eq, vu_ne, nI_leI, nI_ltI, nI_eqI, nI_eq0, nI_le0, ↓ok_0, ↓ok_1, ↓bI_ok, if_true, if_false, ne_eq, not_true_eq_false, not_false_eq_true, nI_m1, nI_1ne, nI_0eq, bI_eq0, bI_ne0, Bool.false_eq_true, iw_nI, decide_true, decide_false, nI_ge0, nI_lt0, bI_T, bI_F, Nat.one_ne_zero, Nat.zero_ne_one, pk_div, pk_sub, md_40, z_40, c_isVowel, c_byteAt, c_isSound, le, c1, c2, c3, c4]
            exact key _ _ v1 v2
    · have v1 : nI 0 = bI (aS f g (k + 1) = true) := (bI_f (by rw [eS]; exact fun z => c1 z.1)).symm
      by_cases c3 : aV f g k = true
      · have v2 : nI 1 = bI (aV f g (k + 1) = true) := (bI_t (by rw [eV]; exact Or.inl c3)).symm
        simp (disch := omega) only [i_X8_saying_39, i_X8_saying_40, i_X8_saying_43, i_X8_saying_44, i_X8_saying_46, i_X8_saying_48, i_X8_saying_51, i_X8_saying_53, i_X8_saying_55, i_X8_saying_58, i_X8_saying_60, i_X8_saying_63, i_X8_saying_66, i_X8_saying_67, i_X8_saying_70, i_X8_saying_71, i_X8_saying_73, i_X8_saying_75, i_X8_saying_78, i_X8_saying_80, i_X8_saying_82, i_X8_saying_83, i_X8_saying_86, i_X8_saying_89, i_X8_saying_90, i_X8_saying_93, i_X8_saying_94, i_X8_saying_96, i_X8_saying_99, gh_o32, gh_r34, gh_r35, gh_r36, gh_r37, gh_w34, gh_w35, gh_w36, gh_w37, gh_u32, gp_32_0, gf_32_3, gf_32_4, gf_32_5, gf_32_6, z_o_i, z_ai_i, z_si_i, z_ab_b, z_ab_z, z_sb_b, z_sb_z, z_al_i, z_al_b, z_pu_s, z_pu_n, nI_toN, z_inN, true_and, and_true, nI_add, pk_mul, vu_eq, vu_ne, nI_leI, nI_ltI, nI_eqI, nI_eq0, nI_le0, ↓ok_0, ↓ok_1, ↓bI_ok, if_true, if_false, ne_eq, not_true_eq_false, not_false_eq_true, nI_m1, nI_1ne, nI_0eq, bI_eq0, bI_ne0, Bool.false_eq_true, iw_nI, decide_true, decide_false, nI_ge0, nI_lt0, bI_T, bI_F, Nat.one_ne_zero, Nat.zero_ne_one, pk_div, pk_sub, md_40, z_40, c_isVowel, c_byteAt, c_isSound, le, c1, c3]
        exact key _ _ v1 v2
      · by_cases c4 : bN f g k % 40 < 10
        · have v2 : nI 1 = bI (aV f g (k + 1) = true) := (bI_t (by rw [eV]; exact Or.inr c4)).symm
          simp (disch := omega) only [i_X8_saying_39, i_X8_saying_40, i_X8_saying_43, i_X8_saying_44, i_X8_saying_46, i_X8_saying_48, i_X8_saying_51, i_X8_saying_53, i_X8_saying_55, i_X8_saying_58, i_X8_saying_60, i_X8_saying_63, i_X8_saying_66, i_X8_saying_67, i_X8_saying_70, i_X8_saying_71, i_X8_saying_73, i_X8_saying_75, i_X8_saying_78, i_X8_saying_80, i_X8_saying_82, i_X8_saying_83, i_X8_saying_86, i_X8_saying_89, i_X8_saying_90, i_X8_saying_93, i_X8_saying_94, i_X8_saying_96, i_X8_saying_99, gh_o32, gh_r34, gh_r35, gh_r36, gh_r37, gh_w34, gh_w35, gh_w36, gh_w37, gh_u32, gp_32_0, gf_32_3, gf_32_4, gf_32_5, gf_32_6, z_o_i, z_ai_i, z_si_i, z_ab_b, z_ab_z, z_sb_b, z_sb_z, z_al_i, z_al_b, z_pu_s, z_pu_n, nI_toN, z_inN, true_and, and_true, nI_add, pk_mul, vu_eq, vu_ne, nI_leI, nI_ltI, nI_eqI, nI_eq0, nI_le0, ↓ok_0, ↓ok_1, ↓bI_ok, if_true, if_false, ne_eq, not_true_eq_false, not_false_eq_true, nI_m1, nI_1ne, nI_0eq, bI_eq0, bI_ne0, Bool.false_eq_true, iw_nI, decide_true, decide_false, nI_ge0, nI_lt0, bI_T, bI_F, Nat.one_ne_zero, Nat.zero_ne_one, pk_div, pk_sub, md_40, z_40, c_isVowel, c_byteAt, c_isSound, le, c1, c3, c4]
          exact key _ _ v1 v2
        · have v2 : nI 0 = bI (aV f g (k + 1) = true) := (bI_f (by rw [eV]; exact fun z => z.elim c3 c4)).symm
          simp (disch := omega) only [i_X8_saying_39, i_X8_saying_40, i_X8_saying_43, i_X8_saying_44, i_X8_saying_46, i_X8_saying_48, i_X8_saying_51, i_X8_saying_53, i_X8_saying_55, i_X8_saying_58, i_X8_saying_60, i_X8_saying_63, i_X8_saying_66, i_X8_saying_67, i_X8_saying_70, i_X8_saying_71, i_X8_saying_73, i_X8_saying_75, i_X8_saying_78, i_X8_saying_80, i_X8_saying_82, i_X8_saying_83, i_X8_saying_86, i_X8_saying_89, i_X8_saying_90, i_X8_saying_93, i_X8_saying_94, i_X8_saying_96, i_X8_saying_99, gh_o32, gh_r34, gh_r35, gh_r36, gh_r37, gh_w34, gh_w35, gh_w36, gh_w37, gh_u32, gp_32_0, gf_32_3, gf_32_4, gf_32_5, gf_32_6, z_o_i, z_ai_i, z_si_i, z_ab_b, z_ab_z, z_sb_b, z_sb_z, z_al_i, z_al_b, z_pu_s, z_pu_n, nI_toN, z_inN, true_and, and_true, nI_add, pk_mul, vu_eq, vu_ne, nI_leI, nI_ltI, nI_eqI, nI_eq0, nI_le0, ↓ok_0, ↓ok_1, ↓bI_ok, if_true, if_false, ne_eq, not_true_eq_false, not_false_eq_true, nI_m1, nI_1ne, nI_0eq, bI_eq0, bI_ne0, Bool.false_eq_true, iw_nI, decide_true, decide_false, nI_ge0, nI_lt0, bI_T, bI_F, Nat.one_ne_zero, Nat.zero_ne_one, pk_div, pk_sub, md_40, z_40, c_isVowel, c_byteAt, c_isSound, le, c1, c3, c4]
          exact key _ _ v1 v2
theorem l_say2 {n t : Nat} {f g : Int64} {x1 x7 x8 : Option Value} {F G : Nat → Int32} {A : Nat → Nat → Int32} (hn : n ≤ 12) (ht : t < 72) (hQ : ∀ x11, X (d + 1) m_X8_saying 209 [some (.ref 32), x1, some (.int (nI n)), some (.long f), none, some (.long g), none, x7, x8, some (.int (nI t)), some (.int (nI n)), x11] [] (GH (va_up (va_up A 36 (pt F (fun i => nI (bN f g i % 40)) (12 * t) n)) 37 (pt G (fun i => nI (bN f g i / 40)) (12 * t) n)) P dy) nx bc bs Q) : ∀ (m k : Nat) (x11 : Option Value), k + m = n → X (d + 1) m_X8_saying 151 [some (.ref 32), x1, some (.int (nI n)), some (.long f), none, some (.long g), none, x7, x8, some (.int (nI t)), some (.int (nI k)), x11] [] (GH (va_up (va_up A 36 (pt F (fun i => nI (bN f g i % 40)) (12 * t) k)) 37 (pt G (fun i => nI (bN f g i / 40)) (12 * t) k)) P dy) nx bc bs Q := by
  intro m
  induction m with
  | zero =>
    intro k x11 hk
    have e : k = n := by omega
    subst e
    simp (disch := omega) only [i_X8_saying_151, i_X8_saying_153, i_X8_saying_154, gh_o32, gh_r34, gh_r35, gh_r36, gh_r37, gh_w34, gh_w35, gh_w36, gh_w37, gh_u32, gp_32_0, gf_32_3, gf_32_4, gf_32_5, gf_32_6, z_o_i, z_ai_i, z_si_i, z_ab_b, z_ab_z, z_sb_b, z_sb_z, z_al_i, z_al_b, z_pu_s, z_pu_n, nI_toN, z_inN, true_and, and_true, nI_add, pk_mul, vu_eq, vu_ne, nI_leI, nI_ltI, nI_eqI, nI_eq0, nI_le0, ↓ok_0, ↓ok_1, ↓bI_ok, if_true, if_false, ne_eq, not_true_eq_false, not_false_eq_true, nI_m1, nI_1ne, nI_0eq, bI_eq0, bI_ne0, Bool.false_eq_true, iw_nI, decide_true, decide_false, nI_ge0, nI_lt0, bI_T, bI_F, Nat.one_ne_zero, Nat.zero_ne_one, pk_div, pk_sub, md_40, z_40, c_isVowel, Nat.le_refl]
    exact hQ x11
  | succ m ih =>
    intro k x11 hk
    have le : ¬ n ≤ k := by omega
    have bb := byw_b f g k
    have z40 : ¬ (40 : Nat) = 0 := by omega
    have p1 := pt_succ F (fun i => nI (bN f g i % 40)) (12 * t) k (v := nI (bN f g k % 40)) rfl
    have p2 := pt_succ G (fun i => nI (bN f g i / 40)) (12 * t) k (v := nI (bN f g k / 40)) rfl
    rw [i_X8_saying_151]
    simp (disch := omega) only [i_X8_saying_153, i_X8_saying_154, i_X8_saying_157, i_X8_saying_158, i_X8_saying_160, i_X8_saying_162, i_X8_saying_165, i_X8_saying_167, i_X8_saying_168, i_X8_saying_171, i_X8_saying_173, i_X8_saying_175, i_X8_saying_176, i_X8_saying_178, i_X8_saying_179, i_X8_saying_181, i_X8_saying_183, i_X8_saying_184, i_X8_saying_185, i_X8_saying_186, i_X8_saying_189, i_X8_saying_191, i_X8_saying_193, i_X8_saying_194, i_X8_saying_196, i_X8_saying_197, i_X8_saying_199, i_X8_saying_201, i_X8_saying_202, i_X8_saying_203, i_X8_saying_206, gh_o32, gh_r34, gh_r35, gh_r36, gh_r37, gh_w34, gh_w35, gh_w36, gh_w37, gh_u32, gp_32_0, gf_32_3, gf_32_4, gf_32_5, gf_32_6, z_o_i, z_ai_i, z_si_i, z_ab_b, z_ab_z, z_sb_b, z_sb_z, z_al_i, z_al_b, z_pu_s, z_pu_n, nI_toN, z_inN, true_and, and_true, nI_add, pk_mul, vu_eq, vu_ne, nI_leI, nI_ltI, nI_eqI, nI_eq0, nI_le0, ↓ok_0, ↓ok_1, ↓bI_ok, if_true, if_false, ne_eq, not_true_eq_false, not_false_eq_true, nI_m1, nI_1ne, nI_0eq, bI_eq0, bI_ne0, Bool.false_eq_true, iw_nI, decide_true, decide_false, nI_ge0, nI_lt0, bI_T, bI_F, Nat.one_ne_zero, Nat.zero_ne_one, pk_div, pk_sub, md_40, z_40, c_isVowel, c_byteAt, le, z40, p1, p2]
    have q := ih (k + 1) (some (.int (nI (bN f g k)))) (by omega)
    rw [vu_swap (k := 37) (m := 36) (by omega), vu_vu, vu_vu]
    exact q
def nS (a : Nat → Nat → Nat) (w n : Nat) (f g : Int64) : Nat → Nat → Nat := va_up (va_up (va_up (va_up a 35 (va_up (a 35) (3 * w + a 34 w) n)) 36 (pt (a 36) (fun i => bN f g i % 40) (12 * (3 * w + a 34 w)) n)) 37 (pt (a 37) (fun i => bN f g i / 40) (12 * (3 * w + a 34 w)) n)) 34 (va_up (a 34) w (a 34 w + 1))
def s_saying (s : z_S) (w n : Int32) (f g : Int64) : Int32 × z_S :=
  if iw w (s.1 32 1) = true ∧ ir n 1 12 = true ∧ aS f g n.toNatClampNeg = true ∧ aV f g n.toNatClampNeg = true then
    (if s.1 34 w.toNatClampNeg = 3 then (-5, s) else (nI (s.1 34 w.toNatClampNeg), (nS s.1 w.toNatClampNeg n.toNatClampNeg f g, s.2))) else (-3, s)
theorem iw_say {s : z_S} {w n : Nat} {f g : Int64} (hb : ∀ t, s.1 35 t ≤ 12) (h34 : ∀ t, s.1 34 t ≤ 3) (hI : Iw s) (hn : n ≤ 12) (hw : s.1 34 w < 3) (hv : aV f g n = true) : Iw (nS s.1 w n f g, s.2) := by
  obtain ⟨⟨h1, h2⟩, h3, h4, h5, h6⟩ := hI
  refine ⟨⟨h1, fun v k hv' hk => ?_⟩, h3, h4, h5, h6⟩
  have hv2 : v < s.1 32 1 := hv'
  have hk' : k < va_up (s.1 34) w (s.1 34 w + 1) v := hk
  have h3v := h34 v
  show ∃ i, i < va_up (s.1 35) (3 * w + s.1 34 w) n (3 * v + k) ∧ pt (s.1 36) (fun i => bN f g i % 40) (12 * (3 * w + s.1 34 w)) n (12 * (3 * v + k) + i) < 10
  by_cases e : 3 * v + k = 3 * w + s.1 34 w
  · obtain ⟨i, i1, i2⟩ := aV_ex n hv
    refine ⟨i, ?_, ?_⟩
    · rw [e, vu_eq]; exact i1
    · rw [e, pt_in (by omega) (by omega), Nat.add_sub_cancel_left]; exact i2
  · have hk2 : k < s.1 34 v := by
      rw [vu_if] at hk'
      by_cases e2 : v = w
      · rw [if_pos e2] at hk'
        subst e2
        omega
      · rw [if_neg e2] at hk'; exact hk'
    obtain ⟨i, i1, i2⟩ := h2 v k hv2 hk2
    have b := hb (3 * v + k)
    refine ⟨i, ?_, ?_⟩
    · rw [vu_ne e]; exact i1
    · rw [pt_out (by omega)]; exact i2
theorem m_saying {w n : Int32} {f g : Int64} (hM : Mo s A) (hQ : ∀ B, Mo (s_saying s w n f g).2 B → Fk A B → Q (some (.int (s_saying s w n f g).1)) (GH B P dy) nx) : XC (d + 2) m_X8_saying [.ref 32, .int w, .int n, .long f, .long g] (GH A P dy) nx Q := by
  show X (d + 2) m_X8_saying 0 [some (.ref 32), some (.int w), some (.int n), some (.long f), none, some (.long g), none, none, none, none, none, none] [] (GH A P dy) nx 0 0 Q
  obtain ⟨B, eB, hB, fB⟩ := t0_ex hM
  simp (disch := omega) only [i_X8_saying_0, i_X8_saying_1, i_X8_saying_2, gh_o32, gh_r34, gh_r35, gh_r36, gh_r37, gh_w34, gh_w35, gh_w36, gh_w37, gh_u32, gp_32_0, gf_32_3, gf_32_4, gf_32_5, gf_32_6, z_o_i, z_ai_i, z_si_i, z_ab_b, z_ab_z, z_sb_b, z_sb_z, z_al_i, z_al_b, z_pu_s, z_pu_n, nI_toN, z_inN, true_and, and_true, nI_add, pk_mul, vu_eq, vu_ne, nI_leI, nI_ltI, nI_eqI, nI_eq0, nI_le0, ↓ok_0, ↓ok_1, ↓bI_ok, if_true, if_false, ne_eq, not_true_eq_false, not_false_eq_true, nI_m1, nI_1ne, nI_0eq, bI_eq0, bI_ne0, Bool.false_eq_true, iw_nI, decide_true, decide_false, nI_ge0, nI_lt0, bI_T, bI_F, Nat.one_ne_zero, Nat.zero_ne_one, pk_div, pk_sub, md_40, z_40, c_isVowel, eB]
  have iW : ∀ {d nx : Nat} {Q : z_Q} {x : Int32}, XC (d + 1) m_X8_isWord [.ref 32, .int x] (GH B P dy) nx Q = Q (some (.int (bI (iw x (s.1 32 1) = true)))) (GH B P dy) nx := c_isWord hB
  have sc := hB.1.sc
  unfold s_saying at hQ
  by_cases hw : iw w (s.1 32 1) = true
  · by_cases hn : ir n 1 12 = true
    · obtain ⟨u, hu, rfl⟩ := iw_ex hw
      obtain ⟨k, k1, k2, rfl⟩ := ir_ex hn
      rw [nI_toN (by omega), nI_toN (by omega)] at hQ
      simp (disch := omega) only [i_X8_saying_5, i_X8_saying_6, i_X8_saying_7, i_X8_saying_10, i_X8_saying_13, i_X8_saying_14, i_X8_saying_15, i_X8_saying_16, i_X8_saying_19, i_X8_saying_22, i_X8_saying_28, i_X8_saying_29, i_X8_saying_31, i_X8_saying_32, i_X8_saying_34, i_X8_saying_35, gh_o32, gh_r34, gh_r35, gh_r36, gh_r37, gh_w34, gh_w35, gh_w36, gh_w37, gh_u32, gp_32_0, gf_32_3, gf_32_4, gf_32_5, gf_32_6, z_o_i, z_ai_i, z_si_i, z_ab_b, z_ab_z, z_sb_b, z_sb_z, z_al_i, z_al_b, z_pu_s, z_pu_n, nI_toN, z_inN, true_and, and_true, nI_add, pk_mul, vu_eq, vu_ne, nI_leI, nI_ltI, nI_eqI, nI_eq0, nI_le0, ↓ok_0, ↓ok_1, ↓bI_ok, if_true, if_false, ne_eq, not_true_eq_false, not_false_eq_true, nI_m1, nI_1ne, nI_0eq, bI_eq0, bI_ne0, Bool.false_eq_true, iw_nI, decide_true, decide_false, nI_ge0, nI_lt0, bI_T, bI_F, Nat.one_ne_zero, Nat.zero_ne_one, pk_div, pk_sub, md_40, z_40, c_isVowel, iW, c_inL, hu, hn]
      refine l_say1 (n := k) k2 (fun x10 => ?_) k 0 none (by omega)
      have r34 := hB.1.r34 u
      have b34 := hB.1.b34 u
      by_cases cS : aS f g k = true
      · by_cases cV : aV f g k = true
        · rw [if_pos ⟨hw, hn, cS, cV⟩] at hQ
          by_cases f3 : s.1 34 u = 3
          · rw [if_pos f3] at hQ
            simp (disch := omega) only [i_X8_saying_102, i_X8_saying_104, i_X8_saying_107, i_X8_saying_109, i_X8_saying_115, i_X8_saying_116, i_X8_saying_119, i_X8_saying_120, i_X8_saying_121, i_X8_saying_122, i_X8_saying_125, i_X8_saying_127, gh_o32, gh_r34, gh_r35, gh_r36, gh_r37, gh_w34, gh_w35, gh_w36, gh_w37, gh_u32, gp_32_0, gf_32_3, gf_32_4, gf_32_5, gf_32_6, z_o_i, z_ai_i, z_si_i, z_ab_b, z_ab_z, z_sb_b, z_sb_z, z_al_i, z_al_b, z_pu_s, z_pu_n, nI_toN, z_inN, true_and, and_true, nI_add, pk_mul, vu_eq, vu_ne, nI_leI, nI_ltI, nI_eqI, nI_eq0, nI_le0, ↓ok_0, ↓ok_1, ↓bI_ok, if_true, if_false, ne_eq, not_true_eq_false, not_false_eq_true, nI_m1, nI_1ne, nI_0eq, bI_eq0, bI_ne0, Bool.false_eq_true, iw_nI, decide_true, decide_false, nI_ge0, nI_lt0, bI_T, bI_F, Nat.one_ne_zero, Nat.zero_ne_one, pk_div, pk_sub, md_40, z_40, c_isVowel, cS, cV, r34, f3]
            exact hQ B hB fB
          · rw [if_neg f3] at hQ
            simp (disch := omega) only [i_X8_saying_102, i_X8_saying_104, i_X8_saying_107, i_X8_saying_109, i_X8_saying_115, i_X8_saying_116, i_X8_saying_119, i_X8_saying_120, i_X8_saying_121, i_X8_saying_122, i_X8_saying_128, i_X8_saying_129, i_X8_saying_130, i_X8_saying_131, i_X8_saying_132, i_X8_saying_135, i_X8_saying_136, i_X8_saying_137, i_X8_saying_138, i_X8_saying_140, i_X8_saying_141, i_X8_saying_144, i_X8_saying_146, i_X8_saying_147, i_X8_saying_148, i_X8_saying_149, gh_o32, gh_r34, gh_r35, gh_r36, gh_r37, gh_w34, gh_w35, gh_w36, gh_w37, gh_u32, gp_32_0, gf_32_3, gf_32_4, gf_32_5, gf_32_6, z_o_i, z_ai_i, z_si_i, z_ab_b, z_ab_z, z_sb_b, z_sb_z, z_al_i, z_al_b, z_pu_s, z_pu_n, nI_toN, z_inN, true_and, and_true, nI_add, pk_mul, vu_eq, vu_ne, nI_leI, nI_ltI, nI_eqI, nI_eq0, nI_le0, ↓ok_0, ↓ok_1, ↓bI_ok, if_true, if_false, ne_eq, not_true_eq_false, not_false_eq_true, nI_m1, nI_1ne, nI_0eq, bI_eq0, bI_ne0, Bool.false_eq_true, iw_nI, decide_true, decide_false, nI_ge0, nI_lt0, bI_T, bI_F, Nat.one_ne_zero, Nat.zero_ne_one, pk_div, pk_sub, md_40, z_40, c_isVowel, cS, cV, r34, f3]
            have hC : Rp (va_up s.1 35 (va_up (s.1 35) (3 * u + s.1 34 u) k)) (va_up B 35 (va_up (B 35) (3 * u + s.1 34 u) (nI k))) := hB.1.u35 (vs_rn hB.1.r35 rfl) (vs_le hB.1.b35 k2)
            have fC : Fk A (va_up B 35 (va_up (B 35) (3 * u + s.1 34 u) (nI k))) := fB.up (by omega)
            have c39 : va_up B 35 (va_up (B 35) (3 * u + s.1 34 u) (nI k)) 39 = s.2 := hB.2.1
            generalize va_up B 35 (va_up (B 35) (3 * u + s.1 34 u) (nI k)) = C at hC fC c39 ⊢
            have e1 : va_up (va_up C 36 (pt (C 36) (fun i => nI (bN f g i % 40)) (12 * (3 * u + s.1 34 u)) 0)) 37 (pt (C 37) (fun i => nI (bN f g i / 40)) (12 * (3 * u + s.1 34 u)) 0) = C := by
              rw [pt_0, pt_0, vu_self rfl, vu_self rfl]
            rw [← e1]
            have ptR : ∀ {F : Nat → Int32} {G : Nat → Nat} {φ : Nat → Nat}, (∀ i, F i = nI (G i)) → ∀ i, pt F (fun i => nI (φ i)) (12 * (3 * u + s.1 34 u)) k i = nI (pt G φ (12 * (3 * u + s.1 34 u)) k i) := fun {F G φ} h i => by
              unfold pt
              by_cases e : 12 * (3 * u + s.1 34 u) ≤ i ∧ i < 12 * (3 * u + s.1 34 u) + k
              · rw [if_pos e, if_pos e]
              · rw [if_neg e, if_neg e]; exact h i
            refine l_say2 (by omega) (by omega) (fun x11 => ?_) k 0 none (by omega)
            have r34C := hC.r34 u
            have hD : Rp (va_up (va_up (va_up s.1 35 (va_up (s.1 35) (3 * u + s.1 34 u) k)) 36 (pt (s.1 36) (fun i => bN f g i % 40) (12 * (3 * u + s.1 34 u)) k)) 37 (pt (s.1 37) (fun i => bN f g i / 40) (12 * (3 * u + s.1 34 u)) k)) (va_up (va_up C 36 (pt (C 36) (fun i => nI (bN f g i % 40)) (12 * (3 * u + s.1 34 u)) k)) 37 (pt (C 37) (fun i => nI (bN f g i / 40)) (12 * (3 * u + s.1 34 u)) k)) := by
              refine (hC.u36 (ptR hC.r36) (fun i => ?_)).u37 (ptR hC.r37) (fun i => ?_)
              · unfold pt
                by_cases e : 12 * (3 * u + s.1 34 u) ≤ i ∧ i < 12 * (3 * u + s.1 34 u) + k
                · rw [if_pos e]; exact Nat.mod_lt _ (by omega)
                · rw [if_neg e]; exact hC.b36 i
              · unfold pt
                by_cases e : 12 * (3 * u + s.1 34 u) ≤ i ∧ i < 12 * (3 * u + s.1 34 u) + k
                · rw [if_pos e]
                  have := aS_all k cS (i - 12 * (3 * u + s.1 34 u)) (by omega)
                  simp only [isS, decide_eq_true_eq] at this
                  show bN f g (i - 12 * (3 * u + s.1 34 u)) / 40 ≤ 2
                  omega
                · rw [if_neg e]; exact hC.b37 i
            have fD : Fk A (va_up (va_up C 36 (pt (C 36) (fun i => nI (bN f g i % 40)) (12 * (3 * u + s.1 34 u)) k)) 37 (pt (C 37) (fun i => nI (bN f g i / 40)) (12 * (3 * u + s.1 34 u)) k)) := (fC.up (by omega)).up (by omega)
            have d39 : va_up (va_up C 36 (pt (C 36) (fun i => nI (bN f g i % 40)) (12 * (3 * u + s.1 34 u)) k)) 37 (pt (C 37) (fun i => nI (bN f g i / 40)) (12 * (3 * u + s.1 34 u)) k) 39 = s.2 := c39
            generalize va_up (va_up C 36 (pt (C 36) (fun i => nI (bN f g i % 40)) (12 * (3 * u + s.1 34 u)) k)) 37 (pt (C 37) (fun i => nI (bN f g i / 40)) (12 * (3 * u + s.1 34 u)) k) = D at hD fD d39 ⊢
            have r34D : D 34 u = nI (s.1 34 u) := hD.r34 u
            simp (disch := omega) only [i_X8_saying_209, i_X8_saying_210, i_X8_saying_213, i_X8_saying_214, i_X8_saying_215, i_X8_saying_216, i_X8_saying_217, i_X8_saying_218, i_X8_saying_219, i_X8_saying_220, i_X8_saying_223, i_X8_saying_224, i_X8_saying_225, i_X8_saying_226, i_X8_saying_227, gh_o32, gh_r34, gh_r35, gh_r36, gh_r37, gh_w34, gh_w35, gh_w36, gh_w37, gh_u32, gp_32_0, gf_32_3, gf_32_4, gf_32_5, gf_32_6, z_o_i, z_ai_i, z_si_i, z_ab_b, z_ab_z, z_sb_b, z_sb_z, z_al_i, z_al_b, z_pu_s, z_pu_n, nI_toN, z_inN, true_and, and_true, nI_add, pk_mul, vu_eq, vu_ne, nI_leI, nI_ltI, nI_eqI, nI_eq0, nI_le0, ↓ok_0, ↓ok_1, ↓bI_ok, if_true, if_false, ne_eq, not_true_eq_false, not_false_eq_true, nI_m1, nI_1ne, nI_0eq, bI_eq0, bI_ne0, Bool.false_eq_true, iw_nI, decide_true, decide_false, nI_ge0, nI_lt0, bI_T, bI_F, Nat.one_ne_zero, Nat.zero_ne_one, pk_div, pk_sub, md_40, z_40, c_isVowel, r34D, Nat.add_sub_cancel]
            exact hQ _ ⟨hD.u34 (vs_rn hD.r34 rfl) (vs_le hD.b34 (by omega)), d39, iw_say hB.1.b35 hB.1.b34 hB.2.2 k2 (by omega) cV⟩ (fD.up (by omega))
        · rw [if_neg (fun q => cV q.2.2.2)] at hQ
          simp (disch := omega) only [i_X8_saying_102, i_X8_saying_104, i_X8_saying_107, i_X8_saying_109, i_X8_saying_112, i_X8_saying_114, gh_o32, gh_r34, gh_r35, gh_r36, gh_r37, gh_w34, gh_w35, gh_w36, gh_w37, gh_u32, gp_32_0, gf_32_3, gf_32_4, gf_32_5, gf_32_6, z_o_i, z_ai_i, z_si_i, z_ab_b, z_ab_z, z_sb_b, z_sb_z, z_al_i, z_al_b, z_pu_s, z_pu_n, nI_toN, z_inN, true_and, and_true, nI_add, pk_mul, vu_eq, vu_ne, nI_leI, nI_ltI, nI_eqI, nI_eq0, nI_le0, ↓ok_0, ↓ok_1, ↓bI_ok, if_true, if_false, ne_eq, not_true_eq_false, not_false_eq_true, nI_m1, nI_1ne, nI_0eq, bI_eq0, bI_ne0, Bool.false_eq_true, iw_nI, decide_true, decide_false, nI_ge0, nI_lt0, bI_T, bI_F, Nat.one_ne_zero, Nat.zero_ne_one, pk_div, pk_sub, md_40, z_40, c_isVowel, cS, cV]
          exact hQ B hB fB
      · rw [if_neg (fun q => cS q.2.2.1)] at hQ
        simp (disch := omega) only [i_X8_saying_102, i_X8_saying_104, i_X8_saying_112, i_X8_saying_114, gh_o32, gh_r34, gh_r35, gh_r36, gh_r37, gh_w34, gh_w35, gh_w36, gh_w37, gh_u32, gp_32_0, gf_32_3, gf_32_4, gf_32_5, gf_32_6, z_o_i, z_ai_i, z_si_i, z_ab_b, z_ab_z, z_sb_b, z_sb_z, z_al_i, z_al_b, z_pu_s, z_pu_n, nI_toN, z_inN, true_and, and_true, nI_add, pk_mul, vu_eq, vu_ne, nI_leI, nI_ltI, nI_eqI, nI_eq0, nI_le0, ↓ok_0, ↓ok_1, ↓bI_ok, if_true, if_false, ne_eq, not_true_eq_false, not_false_eq_true, nI_m1, nI_1ne, nI_0eq, bI_eq0, bI_ne0, Bool.false_eq_true, iw_nI, decide_true, decide_false, nI_ge0, nI_lt0, bI_T, bI_F, Nat.one_ne_zero, Nat.zero_ne_one, pk_div, pk_sub, md_40, z_40, c_isVowel, cS]
        exact hQ B hB fB
    · rw [if_neg (fun q => hn q.2.1)] at hQ
      simp (disch := omega) only [i_X8_saying_5, i_X8_saying_6, i_X8_saying_7, i_X8_saying_10, i_X8_saying_13, i_X8_saying_14, i_X8_saying_15, i_X8_saying_16, i_X8_saying_19, i_X8_saying_22, i_X8_saying_25, i_X8_saying_27, gh_o32, gh_r34, gh_r35, gh_r36, gh_r37, gh_w34, gh_w35, gh_w36, gh_w37, gh_u32, gp_32_0, gf_32_3, gf_32_4, gf_32_5, gf_32_6, z_o_i, z_ai_i, z_si_i, z_ab_b, z_ab_z, z_sb_b, z_sb_z, z_al_i, z_al_b, z_pu_s, z_pu_n, nI_toN, z_inN, true_and, and_true, nI_add, pk_mul, vu_eq, vu_ne, nI_leI, nI_ltI, nI_eqI, nI_eq0, nI_le0, ↓ok_0, ↓ok_1, ↓bI_ok, if_true, if_false, ne_eq, not_true_eq_false, not_false_eq_true, nI_m1, nI_1ne, nI_0eq, bI_eq0, bI_ne0, Bool.false_eq_true, iw_nI, decide_true, decide_false, nI_ge0, nI_lt0, bI_T, bI_F, Nat.one_ne_zero, Nat.zero_ne_one, pk_div, pk_sub, md_40, z_40, c_isVowel, iW, c_inL, hw, hn]
      exact hQ B hB fB
  · rw [if_neg (fun q => hw q.1)] at hQ
    simp (disch := omega) only [i_X8_saying_5, i_X8_saying_6, i_X8_saying_7, i_X8_saying_10, i_X8_saying_25, i_X8_saying_27, gh_o32, gh_r34, gh_r35, gh_r36, gh_r37, gh_w34, gh_w35, gh_w36, gh_w37, gh_u32, gp_32_0, gf_32_3, gf_32_4, gf_32_5, gf_32_6, z_o_i, z_ai_i, z_si_i, z_ab_b, z_ab_z, z_sb_b, z_sb_z, z_al_i, z_al_b, z_pu_s, z_pu_n, nI_toN, z_inN, true_and, and_true, nI_add, pk_mul, vu_eq, vu_ne, nI_leI, nI_ltI, nI_eqI, nI_eq0, nI_le0, ↓ok_0, ↓ok_1, ↓bI_ok, if_true, if_false, ne_eq, not_true_eq_false, not_false_eq_true, nI_m1, nI_1ne, nI_0eq, bI_eq0, bI_ne0, Bool.false_eq_true, iw_nI, decide_true, decide_false, nI_ge0, nI_lt0, bI_T, bI_F, Nat.one_ne_zero, Nat.zero_ne_one, pk_div, pk_sub, md_40, z_40, c_isVowel, iW, hw]
    exact hQ B hB fB
end MSay
