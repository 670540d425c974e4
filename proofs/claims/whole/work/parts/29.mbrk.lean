/-! THE MODEL: leastCost, isBroken -/
def mn (b : Option Nat) (x : Nat) : Nat := match b with
  | none => x
  | some y => if x < y then x else y
def lcI (c : Nat → Nat) : Nat → Nat → Option Nat → Option Nat
  | 0, _, b => b
  | m + 1, j, b => lcI c m (j + 1) (some (mn b (c j)))
def lcO (c : Nat → Nat → Nat) (n : Nat) : Nat → Nat → Option Nat → Option Nat
  | 0, _, b => b
  | m + 1, i, b => lcO c n m (i + 1) (lcI (c i) n 0 b)
/-- the least cost of two words -/
def lcq (a : Nat → Nat → Nat) (w u : Nat) : Option Nat := lcO (fun p q => cqs a (3 * w + p) (3 * u + q)) (a 34 u) (a 34 w) 0 none
theorem mn_le {b : Option Nat} {x M : Nat} (hb : ∀ y, b = some y → y ≤ M) (hx : x ≤ M) : mn b x ≤ M := by
  cases b with
  | none => exact hx
  | some y =>
    have := hb y rfl
    simp only [mn]
    by_cases h : x < y
    · rw [if_pos h]; exact hx
    · rw [if_neg h]; exact this
theorem lcI_le {c : Nat → Nat} {M : Nat} (hc : ∀ j, c j ≤ M) : ∀ (m j : Nat) (b : Option Nat), (∀ y, b = some y → y ≤ M) → ∀ y, lcI c m j b = some y → y ≤ M := by
  intro m
  induction m with
  | zero => intro j b hb y h; exact hb y h
  | succ m ih => intro j b hb y h; exact ih (j + 1) _ (fun z hz => by cases hz; exact mn_le hb (hc j)) y h
theorem lcO_le {c : Nat → Nat → Nat} {n M : Nat} (hc : ∀ i j, c i j ≤ M) : ∀ (m i : Nat) (b : Option Nat), (∀ y, b = some y → y ≤ M) → ∀ y, lcO c n m i b = some y → y ≤ M := by
  intro m
  induction m with
  | zero => intro i b hb y h; exact hb y h
  | succ m ih => intro i b hb y h; exact ih (i + 1) _ (lcI_le (hc i) n 0 b hb) y h
theorem cqs_le {a : Nat → Nat → Nat} {s0 s1 : Nat} (h : ∀ s, a 35 s ≤ 12) : cqs a s0 s1 ≤ 192 := by
  have := dC_le (fun i => hs a s0 (tl a s0 + i)) (fun j => hs a s1 (tl a s1 + j)) (a 35 s0 - tl a s0) (a 35 s1 - tl a s1)
  have h0 := h s0
  have h1 := h s1
  unfold cqs
  omega
section MBrk
variable {a : Nat → Nat → Nat} {A : Nat → Nat → Int32} {P : Nat → Nat → Nat} {dy : z_H} {d nx bc bs : Nat} {Q : z_Q}
theorem l_lcI {w u i : Nat} {R : Option Nat} (hR : Rp a A) (hW : Wa a) (hw : w < a 32 1) (hu : u < a 32 1) (hi : i < a 34 w) (hN : ∀ B x5 x6, Fr A B → X (d + 3) m_X8_leastCost 5 [some (.ref 32), some (.int (nI w)), some (.int (nI u)), some (.int (oI R)), some (.int (nI (i + 1))), x5, x6] [] (GH B P dy) nx bc bs Q) : ∀ (m j : Nat) (B : Nat → Nat → Int32) (b : Option Nat) (x6 : Option Value), j + m = a 34 u → Fr A B → (∀ y, b = some y → y ≤ 192) → lcI (fun q => cqs a (3 * w + i) (3 * u + q)) m j b = R → X (d + 3) m_X8_leastCost 19 [some (.ref 32), some (.int (nI w)), some (.int (nI u)), some (.int (oI b)), some (.int (nI i)), some (.int (nI j)), x6] [] (GH B P dy) nx bc bs Q := by
  have hb := hR.2.2.1
  have hsc := hR.2.2.2
  have b34 := (hb w).2.1
  have b34u := (hb u).2.1
  intro m
  induction m with
  | zero =>
    intro j B b x6 hj hF hbb hr
    have r34 := (hF.rp hR).1.2.1 u
    have le : a 34 u ≤ j := by omega
    simp (disch := omega) only [i_X8_leastCost_19, i_X8_leastCost_21, i_X8_leastCost_22, i_X8_leastCost_25, i_X8_leastCost_26, i_X8_leastCost_27, i_X8_leastCost_82, i_X8_leastCost_85, gh_o32, gh_r34, gh_r38, gh_r39, gh_r47, gh_r49, gh_r50, gh_r51, gh_w51, gh_w49, gf_32_3, gf_32_7, gf_32_8, gf_32_10, gf_32_21, gf_32_23, gf_32_24, gf_32_25, z_o_i, z_ai_i, z_si_i, z_ab_b, z_ab_z, z_sb_b, z_sb_z, z_al_i, z_al_b, z_pu_s, z_pu_n, nI_toN, z_inN, true_and, and_true, nI_add, pk_mul, vu_eq, vu_ne, nI_leI, nI_ltI, nI_eqI, nI_eq0, ↓ok_0, ↓ok_1, bI_eq0, bI_ne0, ↓bI_ok, Nat.one_ne_zero, c_isVowel, if_true, if_false, ne_eq, not_true_eq_false, not_false_eq_true, nI_1ne, nI_0eq, nI_le0, pk_sub, bI_T, bI_F, Nat.zero_ne_one, Bool.false_eq_true, r34, le]
    have hr' : b = R := hr
    rw [hr']
    exact hN B _ _ hF
  | succ m ih =>
    intro j B b x6 hj hF hbb hr
    have hRB := hF.rp hR
    have r34 := hRB.1.2.1 u
    have le : ¬ a 34 u ≤ j := by omega
    rw [i_X8_leastCost_19]
    simp (disch := omega) only [i_X8_leastCost_21, i_X8_leastCost_22, i_X8_leastCost_25, i_X8_leastCost_26, i_X8_leastCost_27, i_X8_leastCost_30, i_X8_leastCost_31, i_X8_leastCost_32, i_X8_leastCost_33, i_X8_leastCost_34, i_X8_leastCost_35, i_X8_leastCost_37, i_X8_leastCost_38, gh_o32, gh_r34, gh_r38, gh_r39, gh_r47, gh_r49, gh_r50, gh_r51, gh_w51, gh_w49, gf_32_3, gf_32_7, gf_32_8, gf_32_10, gf_32_21, gf_32_23, gf_32_24, gf_32_25, z_o_i, z_ai_i, z_si_i, z_ab_b, z_ab_z, z_sb_b, z_sb_z, z_al_i, z_al_b, z_pu_s, z_pu_n, nI_toN, z_inN, true_and, and_true, nI_add, pk_mul, vu_eq, vu_ne, nI_leI, nI_ltI, nI_eqI, nI_eq0, ↓ok_0, ↓ok_1, bI_eq0, bI_ne0, ↓bI_ok, Nat.one_ne_zero, c_isVowel, if_true, if_false, ne_eq, not_true_eq_false, not_false_eq_true, nI_1ne, nI_0eq, nI_le0, pk_sub, bI_T, bI_F, Nat.zero_ne_one, Bool.false_eq_true, r34, le]
    refine c_lay hRB (by omega) (by omega) (fun C hC rC lC => ?_)
    simp (disch := omega) only [i_X8_leastCost_41, i_X8_leastCost_42, i_X8_leastCost_43, i_X8_leastCost_44, i_X8_leastCost_45, i_X8_leastCost_46, i_X8_leastCost_48, i_X8_leastCost_49, gh_o32, gh_r34, gh_r38, gh_r39, gh_r47, gh_r49, gh_r50, gh_r51, gh_w51, gh_w49, gf_32_3, gf_32_7, gf_32_8, gf_32_10, gf_32_21, gf_32_23, gf_32_24, gf_32_25, z_o_i, z_ai_i, z_si_i, z_ab_b, z_ab_z, z_sb_b, z_sb_z, z_al_i, z_al_b, z_pu_s, z_pu_n, nI_toN, z_inN, true_and, and_true, nI_add, pk_mul, vu_eq, vu_ne, nI_leI, nI_ltI, nI_eqI, nI_eq0, ↓ok_0, ↓ok_1, bI_eq0, bI_ne0, ↓bI_ok, Nat.one_ne_zero, c_isVowel, if_true, if_false, ne_eq, not_true_eq_false, not_false_eq_true, nI_1ne, nI_0eq, nI_le0, pk_sub, bI_T, bI_F, Nat.zero_ne_one, Bool.false_eq_true]
    refine c_lay hC (by omega) (by omega) (fun D hD rD lD => ?_)
    simp (disch := omega) only [i_X8_leastCost_52, i_X8_leastCost_53, gh_o32, gh_r34, gh_r38, gh_r39, gh_r47, gh_r49, gh_r50, gh_r51, gh_w51, gh_w49, gf_32_3, gf_32_7, gf_32_8, gf_32_10, gf_32_21, gf_32_23, gf_32_24, gf_32_25, z_o_i, z_ai_i, z_si_i, z_ab_b, z_ab_z, z_sb_b, z_sb_z, z_al_i, z_al_b, z_pu_s, z_pu_n, nI_toN, z_inN, true_and, and_true, nI_add, pk_mul, vu_eq, vu_ne, nI_leI, nI_ltI, nI_eqI, nI_eq0, ↓ok_0, ↓ok_1, bI_eq0, bI_ne0, ↓bI_ok, Nat.one_ne_zero, c_isVowel, if_true, if_false, ne_eq, not_true_eq_false, not_false_eq_true, nI_1ne, nI_0eq, nI_le0, pk_sub, bI_T, bI_F, Nat.zero_ne_one, Bool.false_eq_true]
    have g0 := hW.2 w i hw hi
    have g1 := hW.2 u j hu (by omega)
    refine c_costOfTails (Rw2_of hD hW.1 (Row_keep (hb _).2.2.1 rC lD) rD g0 g1) (fun T => ?_)
    have hF' : Fr A (va_up D 51 T) := ((hF.trans (Fr.lay lC)).trans (Fr.lay lD)).trans Fr.tab
    have cb : cqs a (3 * w + i) (3 * u + j) ≤ 192 := cqs_le (fun s => (hb s).2.2.1)
    have hn := mn_le hbb cb
    have nxt := fun x6 => ih (j + 1) (va_up D 51 T) (some (mn b (cqs a (3 * w + i) (3 * u + j)))) x6 (by omega) hF' (fun z hz => by cases hz; exact hn) hr
    rw [show dC (fun i_1 => hs a (3 * w + i) (tl a (3 * w + i) + i_1)) (fun j_1 => hs a (3 * u + j) (tl a (3 * u + j) + j_1)) (a 35 (3 * w + i) - tl a (3 * w + i)) (a 35 (3 * u + j) - tl a (3 * u + j)) = cqs a (3 * w + i) (3 * u + j) from rfl]
    cases b with
    | none =>
      have e : oI none = -1 := rfl
      simp (disch := omega) only [i_X8_leastCost_56, i_X8_leastCost_58, i_X8_leastCost_59, i_X8_leastCost_60, i_X8_leastCost_63, i_X8_leastCost_65, i_X8_leastCost_66, i_X8_leastCost_69, i_X8_leastCost_71, i_X8_leastCost_74, i_X8_leastCost_75, i_X8_leastCost_76, i_X8_leastCost_79, gh_o32, gh_r34, gh_r38, gh_r39, gh_r47, gh_r49, gh_r50, gh_r51, gh_w51, gh_w49, gf_32_3, gf_32_7, gf_32_8, gf_32_10, gf_32_21, gf_32_23, gf_32_24, gf_32_25, z_o_i, z_ai_i, z_si_i, z_ab_b, z_ab_z, z_sb_b, z_sb_z, z_al_i, z_al_b, z_pu_s, z_pu_n, nI_toN, z_inN, true_and, and_true, nI_add, pk_mul, vu_eq, vu_ne, nI_leI, nI_ltI, nI_eqI, nI_eq0, ↓ok_0, ↓ok_1, bI_eq0, bI_ne0, ↓bI_ok, Nat.one_ne_zero, c_isVowel, if_true, if_false, ne_eq, not_true_eq_false, not_false_eq_true, nI_1ne, nI_0eq, nI_le0, pk_sub, bI_T, bI_F, Nat.zero_ne_one, Bool.false_eq_true, e]
      exact nxt _
    | some y =>
      have hy := hbb y rfl
      have e : oI (some y) = nI y := rfl
      by_cases c : y ≤ cqs a (3 * w + i) (3 * u + j)
      · simp (disch := omega) only [i_X8_leastCost_56, i_X8_leastCost_58, i_X8_leastCost_59, i_X8_leastCost_60, i_X8_leastCost_63, i_X8_leastCost_65, i_X8_leastCost_66, i_X8_leastCost_69, i_X8_leastCost_71, i_X8_leastCost_74, i_X8_leastCost_75, i_X8_leastCost_76, i_X8_leastCost_79, gh_o32, gh_r34, gh_r38, gh_r39, gh_r47, gh_r49, gh_r50, gh_r51, gh_w51, gh_w49, gf_32_3, gf_32_7, gf_32_8, gf_32_10, gf_32_21, gf_32_23, gf_32_24, gf_32_25, z_o_i, z_ai_i, z_si_i, z_ab_b, z_ab_z, z_sb_b, z_sb_z, z_al_i, z_al_b, z_pu_s, z_pu_n, nI_toN, z_inN, true_and, and_true, nI_add, pk_mul, vu_eq, vu_ne, nI_leI, nI_ltI, nI_eqI, nI_eq0, ↓ok_0, ↓ok_1, bI_eq0, bI_ne0, ↓bI_ok, Nat.one_ne_zero, c_isVowel, if_true, if_false, ne_eq, not_true_eq_false, not_false_eq_true, nI_1ne, nI_0eq, nI_le0, pk_sub, bI_T, bI_F, Nat.zero_ne_one, Bool.false_eq_true, e, nI_m1, c]
        have q := nxt (some (.int (nI (cqs a (3 * w + i) (3 * u + j)))))
        simp only [mn] at q
        rw [if_neg (by omega)] at q
        exact q
      · simp (disch := omega) only [i_X8_leastCost_56, i_X8_leastCost_58, i_X8_leastCost_59, i_X8_leastCost_60, i_X8_leastCost_63, i_X8_leastCost_65, i_X8_leastCost_66, i_X8_leastCost_69, i_X8_leastCost_71, i_X8_leastCost_74, i_X8_leastCost_75, i_X8_leastCost_76, i_X8_leastCost_79, gh_o32, gh_r34, gh_r38, gh_r39, gh_r47, gh_r49, gh_r50, gh_r51, gh_w51, gh_w49, gf_32_3, gf_32_7, gf_32_8, gf_32_10, gf_32_21, gf_32_23, gf_32_24, gf_32_25, z_o_i, z_ai_i, z_si_i, z_ab_b, z_ab_z, z_sb_b, z_sb_z, z_al_i, z_al_b, z_pu_s, z_pu_n, nI_toN, z_inN, true_and, and_true, nI_add, pk_mul, vu_eq, vu_ne, nI_leI, nI_ltI, nI_eqI, nI_eq0, ↓ok_0, ↓ok_1, bI_eq0, bI_ne0, ↓bI_ok, Nat.one_ne_zero, c_isVowel, if_true, if_false, ne_eq, not_true_eq_false, not_false_eq_true, nI_1ne, nI_0eq, nI_le0, pk_sub, bI_T, bI_F, Nat.zero_ne_one, Bool.false_eq_true, e, nI_m1, c]
        have q := nxt (some (.int (nI (cqs a (3 * w + i) (3 * u + j)))))
        simp only [mn] at q
        rw [if_pos (by omega)] at q
        exact q
theorem l_lcO {w u : Nat} (hR : Rp a A) (hW : Wa a) (hw : w < a 32 1) (hu : u < a 32 1) {R : Option Nat} (hQ : ∀ B, Fr A B → Q (some (.int (oI R))) (GH B P dy) nx) : ∀ (m i : Nat) (B : Nat → Nat → Int32) (b : Option Nat) (x5 x6 : Option Value), i + m = a 34 w → Fr A B → (∀ y, b = some y → y ≤ 192) → lcO (fun p q => cqs a (3 * w + p) (3 * u + q)) (a 34 u) m i b = R → X (d + 3) m_X8_leastCost 5 [some (.ref 32), some (.int (nI w)), some (.int (nI u)), some (.int (oI b)), some (.int (nI i)), x5, x6] [] (GH B P dy) nx bc bs Q := by
  have hb := hR.2.2.1
  have hsc := hR.2.2.2
  have b34 := (hb w).2.1
  intro m
  induction m with
  | zero =>
    intro i B b x5 x6 hi hF hbb hr
    have r34 := (hF.rp hR).1.2.1 w
    have le : a 34 w ≤ i := by omega
    simp (disch := omega) only [i_X8_leastCost_5, i_X8_leastCost_7, i_X8_leastCost_8, i_X8_leastCost_11, i_X8_leastCost_12, i_X8_leastCost_13, i_X8_leastCost_88, i_X8_leastCost_89, gh_o32, gh_r34, gh_r38, gh_r39, gh_r47, gh_r49, gh_r50, gh_r51, gh_w51, gh_w49, gf_32_3, gf_32_7, gf_32_8, gf_32_10, gf_32_21, gf_32_23, gf_32_24, gf_32_25, z_o_i, z_ai_i, z_si_i, z_ab_b, z_ab_z, z_sb_b, z_sb_z, z_al_i, z_al_b, z_pu_s, z_pu_n, nI_toN, z_inN, true_and, and_true, nI_add, pk_mul, vu_eq, vu_ne, nI_leI, nI_ltI, nI_eqI, nI_eq0, ↓ok_0, ↓ok_1, bI_eq0, bI_ne0, ↓bI_ok, Nat.one_ne_zero, c_isVowel, if_true, if_false, ne_eq, not_true_eq_false, not_false_eq_true, nI_1ne, nI_0eq, nI_le0, pk_sub, bI_T, bI_F, Nat.zero_ne_one, Bool.false_eq_true, r34, le]
    have hr' : b = R := hr
    rw [hr']
    exact hQ B hF
  | succ m ih =>
    intro i B b x5 x6 hi hF hbb hr
    have r34 := (hF.rp hR).1.2.1 w
    have le : ¬ a 34 w ≤ i := by omega
    rw [i_X8_leastCost_5]
    simp (disch := omega) only [i_X8_leastCost_7, i_X8_leastCost_8, i_X8_leastCost_11, i_X8_leastCost_12, i_X8_leastCost_13, i_X8_leastCost_16, i_X8_leastCost_17, gh_o32, gh_r34, gh_r38, gh_r39, gh_r47, gh_r49, gh_r50, gh_r51, gh_w51, gh_w49, gf_32_3, gf_32_7, gf_32_8, gf_32_10, gf_32_21, gf_32_23, gf_32_24, gf_32_25, z_o_i, z_ai_i, z_si_i, z_ab_b, z_ab_z, z_sb_b, z_sb_z, z_al_i, z_al_b, z_pu_s, z_pu_n, nI_toN, z_inN, true_and, and_true, nI_add, pk_mul, vu_eq, vu_ne, nI_leI, nI_ltI, nI_eqI, nI_eq0, ↓ok_0, ↓ok_1, bI_eq0, bI_ne0, ↓bI_ok, Nat.one_ne_zero, c_isVowel, if_true, if_false, ne_eq, not_true_eq_false, not_false_eq_true, nI_1ne, nI_0eq, nI_le0, pk_sub, bI_T, bI_F, Nat.zero_ne_one, Bool.false_eq_true, r34, le]
    refine l_lcI (R := lcI (fun q => cqs a (3 * w + i) (3 * u + q)) (a 34 u) 0 b) hR hW hw hu (by omega) (fun C y5 y6 hC => ?_) (a 34 u) 0 B b x6 (by omega) hF hbb rfl
    exact ih (i + 1) C _ y5 y6 (by omega) hC (lcI_le (fun q => cqs_le (fun s => (hb s).2.2.1)) _ _ _ hbb) hr
theorem c_leastCost {w u : Nat} (hR : Rp a A) (hW : Wa a) (hw : w < a 32 1) (hu : u < a 32 1) (hQ : ∀ B, Fr A B → Q (some (.int (oI (lcq a w u)))) (GH B P dy) nx) : XC (d + 3) m_X8_leastCost [.ref 32, .int (nI w), .int (nI u)] (GH A P dy) nx Q := by
  show X (d + 3) m_X8_leastCost 0 [some (.ref 32), some (.int (nI w)), some (.int (nI u)), none, none, none, none] [] (GH A P dy) nx 0 0 Q
  rw [i_X8_leastCost_0, i_X8_leastCost_1, i_X8_leastCost_2, i_X8_leastCost_3]
  exact l_lcO hR hW hw hu hQ (a 34 w) 0 A none none none (by omega) Fr.refl (fun y h => by cases h) rfl
end MBrk
