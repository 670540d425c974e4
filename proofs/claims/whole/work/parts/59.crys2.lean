/-! THE CLASS: rhymes, broken, speech, told -/
section CRys
variable {s : z_S} {A : Nat → Nat → Int32} {P : Nat → Nat → Nat} {dy : z_H} {d nx nz bc bs : Nat} {Q : z_Q} {ρ : Nat → Nat} {wd ln : Nat → Nat}
theorem k_size4 (hD : Rd s A P dy nz wd ln) : XC d m_Jx4a65c_size_8abf5 [.ref 4] (GH A P dy) nx Q = Q (some (.int (nI (s.1 32 1)))) (GH A P dy) nx := by
  obtain ⟨ρ, c4, c5, h1, h2, _⟩ := hD
  exact c_size (by rw [gh_l4, h2.1])
theorem k_size5 (hD : Rd s A P dy nz wd ln) : XC d m_Jx4a65c_size_8abf5 [.ref 5] (GH A P dy) nx Q = Q (some (.int (nI (s.1 32 13)))) (GH A P dy) nx := by
  obtain ⟨ρ, c4, c5, h1, h2, _⟩ := hD
  exact c_size (by rw [gh_l5, h2.2])
theorem k_get4 {w : Nat} (hD : Rd s A P dy nz wd ln) (hw : w < s.1 32 1) : XC (d + 2) m_Jx4a65c_get_915e3 [.ref 4, .int (nI w)] (GH A P dy) nx Q = Q (some (.ref (wd w))) (GH A P dy) nx := by
  obtain ⟨ρ, c4, c5, h1, h2, h3, h4, h5, h6⟩ := hD
  obtain ⟨g, g1, g2, g3, g4⟩ := h3.at (A := A) (P := P)
  exact c_get (by rw [gh_l4, h2.1]) g1 hw g2 (by omega) (g4 w hw)
theorem Rd.wq {w : Nat} (hD : Rd s A P dy nz wd ln) (hw : w < s.1 32 1) : ∃ ρ, Wq s dy nz ρ w (wd w) := by
  obtain ⟨ρ, c4, c5, h1, h2, h3, h4, h5, h6⟩ := hD
  exact ⟨ρ, (h5 w hw).wq⟩
/-- all words at once -/
theorem Rd.wqs (hD : Rd s A P dy nz wd ln) : ∃ ρ, ∀ w, w < s.1 32 1 → Wq s dy nz ρ w (wd w) := by
  obtain ⟨ρ, c4, c5, h1, h2, h3, h4, h5, h6⟩ := hD
  exact ⟨ρ, fun w hw => (h5 w hw).wq⟩
theorem l_rbn {w kind i : Nat} {R : Option Nat} (hI : Iv s) (hi : i < 2147483648) (hw : w < s.1 32 1) (hk : kind ≤ 6) (hQ : ∀ B U, Rc s B U → Rd s B U dy nz wd ln → Fz A B → Q (some (.int (oI R))) (GH B U dy) nx) :
    ∀ (m u sn : Nat) (B : Nat → Nat → Int32) (U : Nat → Nat → Nat), u + m = s.1 32 1 → sn ≤ i → sn ≤ u → Rc s B U → Rd s B U dy nz wd ln → Fz A B → nt (fun u => decide (hwq s.1 s.2 w u kind ≠ none)) m u (i - sn) = R → X (d + 5) m_X7_rhymeByNumber 6 [some (.ref 3), some (.int (nI w)), some (.int (nI kind)), some (.int (nI i)), some (.int (nI sn)), some (.int (nI u))] [] (GH B U dy) nx bc bs Q := by
  have sc := hI.sc
  intro m
  induction m with
  | zero =>
    intro u sn B U hu hs hsu hC hD hF hr
    have le : s.1 32 1 ≤ u := by omega
    have kS : ∀ {d nx : Nat} {Q : z_Q}, XC d m_Jx4a65c_size_8abf5 [.ref 4] (GH B U dy) nx Q = _ := k_size4 hD
    have q := hQ B U hC hD hF
    rw [← hr] at q
    simp (disch := omega) only [i_X7_rhymeByNumber_6, i_X7_rhymeByNumber_8, i_X7_rhymeByNumber_9, i_X7_rhymeByNumber_12, i_X7_rhymeByNumber_15, i_X7_rhymeByNumber_51, i_X7_rhymeByNumber_52, gh_o3, gh_l4, gh_o6, gh_r7, gh_w7, gh_r29, gh_w29, gf_3_0, gf_3_1, gf_3_2, gf_3_5, gf_6_0, gf_6_1, sgF_0, sgF_1, sgF_2, sgF_5, sgF_6, sgF_7, sgF_9, sgF_10, wdF_0, wdF_1, wdF_2, wdF_3, lsF_0, lsF_1, lsF_2, z_o_i, z_ai_i, z_si_i, z_ab_b, z_ab_z, z_sb_b, z_sb_z, z_al_i, z_al_b, z_pu_s, z_pu_n, nI_toN, z_inN, true_and, and_true, nI_add, pk_mul, vu_eq, vu_ne, nI_leI, nI_ltI, nI_eqI, nI_eq0, ↓ok_0, ↓ok_1, ↓bI_ok, if_true, if_false, nI_lt0, nI_ge0, ne_eq, not_true_eq_false, not_false_eq_true, bI_eq0, bI_ne0, bI_T, bI_F, Bool.false_eq_true, Nat.one_ne_zero, Nat.zero_ne_one, nI_m1, kS, le]
    exact q
  | succ m ih =>
    intro u sn B U hu hs hsu hC hD hF hr
    have le : ¬ s.1 32 1 ≤ u := by omega
    have kS : ∀ {d nx : Nat} {Q : z_Q}, XC d m_Jx4a65c_size_8abf5 [.ref 4] (GH B U dy) nx Q = _ := k_size4 hD
    rw [nt] at hr
    rw [i_X7_rhymeByNumber_6]
    simp (disch := omega) only [i_X7_rhymeByNumber_8, i_X7_rhymeByNumber_9, i_X7_rhymeByNumber_12, i_X7_rhymeByNumber_15, i_X7_rhymeByNumber_18, i_X7_rhymeByNumber_19, i_X7_rhymeByNumber_20, i_X7_rhymeByNumber_22, i_X7_rhymeByNumber_23, gh_o3, gh_l4, gh_o6, gh_r7, gh_w7, gh_r29, gh_w29, gf_3_0, gf_3_1, gf_3_2, gf_3_5, gf_6_0, gf_6_1, sgF_0, sgF_1, sgF_2, sgF_5, sgF_6, sgF_7, sgF_9, sgF_10, wdF_0, wdF_1, wdF_2, wdF_3, lsF_0, lsF_1, lsF_2, z_o_i, z_ai_i, z_si_i, z_ab_b, z_ab_z, z_sb_b, z_sb_z, z_al_i, z_al_b, z_pu_s, z_pu_n, nI_toN, z_inN, true_and, and_true, nI_add, pk_mul, vu_eq, vu_ne, nI_leI, nI_ltI, nI_eqI, nI_eq0, ↓ok_0, ↓ok_1, ↓bI_ok, if_true, if_false, nI_lt0, nI_ge0, ne_eq, not_true_eq_false, not_false_eq_true, bI_eq0, bI_ne0, bI_T, bI_F, Bool.false_eq_true, Nat.one_ne_zero, Nat.zero_ne_one, nI_m1, kS, le]
    refine k_fp hI hC hD hw (by omega) hk (fun C V hG => ?_)
    have hCC := hG.rc hC
    have hDC := hG.rd hD
    have hFC := hF.trans hG.fz
    have om : (oI (hwq s.1 s.2 w u kind) = -1) = (hwq s.1 s.2 w u kind = none) := oI_m1 (fun y hy => hwq_lt hI.b34 hy)
    by_cases z : hwq s.1 s.2 w u kind = none
    · rw [if_neg (by simp [z])] at hr
      simp (disch := omega) only [i_X7_rhymeByNumber_26, i_X7_rhymeByNumber_27, i_X7_rhymeByNumber_30, i_X7_rhymeByNumber_45, i_X7_rhymeByNumber_48, gh_o3, gh_l4, gh_o6, gh_r7, gh_w7, gh_r29, gh_w29, gf_3_0, gf_3_1, gf_3_2, gf_3_5, gf_6_0, gf_6_1, sgF_0, sgF_1, sgF_2, sgF_5, sgF_6, sgF_7, sgF_9, sgF_10, wdF_0, wdF_1, wdF_2, wdF_3, lsF_0, lsF_1, lsF_2, z_o_i, z_ai_i, z_si_i, z_ab_b, z_ab_z, z_sb_b, z_sb_z, z_al_i, z_al_b, z_pu_s, z_pu_n, nI_toN, z_inN, true_and, and_true, nI_add, pk_mul, vu_eq, vu_ne, nI_leI, nI_ltI, nI_eqI, nI_eq0, ↓ok_0, ↓ok_1, ↓bI_ok, if_true, if_false, nI_lt0, nI_ge0, ne_eq, not_true_eq_false, not_false_eq_true, bI_eq0, bI_ne0, bI_T, bI_F, Bool.false_eq_true, Nat.one_ne_zero, Nat.zero_ne_one, nI_m1, om, z]
      exact ih (u + 1) sn C V (by omega) hs (by omega) hCC hDC hFC hr
    · rw [if_pos (by simp [z])] at hr
      by_cases e : sn = i
      · rw [if_pos (by omega)] at hr
        have q := hQ C V hCC hDC hFC
        rw [← hr] at q
        simp (disch := omega) only [i_X7_rhymeByNumber_26, i_X7_rhymeByNumber_27, i_X7_rhymeByNumber_33, i_X7_rhymeByNumber_35, i_X7_rhymeByNumber_36, i_X7_rhymeByNumber_39, i_X7_rhymeByNumber_41, gh_o3, gh_l4, gh_o6, gh_r7, gh_w7, gh_r29, gh_w29, gf_3_0, gf_3_1, gf_3_2, gf_3_5, gf_6_0, gf_6_1, sgF_0, sgF_1, sgF_2, sgF_5, sgF_6, sgF_7, sgF_9, sgF_10, wdF_0, wdF_1, wdF_2, wdF_3, lsF_0, lsF_1, lsF_2, z_o_i, z_ai_i, z_si_i, z_ab_b, z_ab_z, z_sb_b, z_sb_z, z_al_i, z_al_b, z_pu_s, z_pu_n, nI_toN, z_inN, true_and, and_true, nI_add, pk_mul, vu_eq, vu_ne, nI_leI, nI_ltI, nI_eqI, nI_eq0, ↓ok_0, ↓ok_1, ↓bI_ok, if_true, if_false, nI_lt0, nI_ge0, ne_eq, not_true_eq_false, not_false_eq_true, bI_eq0, bI_ne0, bI_T, bI_F, Bool.false_eq_true, Nat.one_ne_zero, Nat.zero_ne_one, nI_m1, om, z, e]
        exact q
      · rw [if_neg (by omega)] at hr
        simp (disch := omega) only [i_X7_rhymeByNumber_26, i_X7_rhymeByNumber_27, i_X7_rhymeByNumber_33, i_X7_rhymeByNumber_35, i_X7_rhymeByNumber_36, i_X7_rhymeByNumber_42, i_X7_rhymeByNumber_45, i_X7_rhymeByNumber_48, gh_o3, gh_l4, gh_o6, gh_r7, gh_w7, gh_r29, gh_w29, gf_3_0, gf_3_1, gf_3_2, gf_3_5, gf_6_0, gf_6_1, sgF_0, sgF_1, sgF_2, sgF_5, sgF_6, sgF_7, sgF_9, sgF_10, wdF_0, wdF_1, wdF_2, wdF_3, lsF_0, lsF_1, lsF_2, z_o_i, z_ai_i, z_si_i, z_ab_b, z_ab_z, z_sb_b, z_sb_z, z_al_i, z_al_b, z_pu_s, z_pu_n, nI_toN, z_inN, true_and, and_true, nI_add, pk_mul, vu_eq, vu_ne, nI_leI, nI_ltI, nI_eqI, nI_eq0, ↓ok_0, ↓ok_1, ↓bI_ok, if_true, if_false, nI_lt0, nI_ge0, ne_eq, not_true_eq_false, not_false_eq_true, bI_eq0, bI_ne0, bI_T, bI_F, Bool.false_eq_true, Nat.one_ne_zero, Nat.zero_ne_one, nI_m1, om, z, e]
        exact ih (u + 1) (sn + 1) C V (by omega) (by omega) (by omega) hCC hDC hFC (by rw [show i - (sn + 1) = i - sn - 1 by omega]; exact hr)
def kkF (s : z_S) (w u : Nat) : Option Nat := if u < s.1 32 1 ∧ decide (hwq s.1 s.2 w u 4 ≠ none) = true then some (24 * (lcq s.1 w u).getD 0 + u) else none
theorem lcq_le {w u y : Nat} (hI : Iv s) (h : lcq s.1 w u = some y) : y ≤ 192 := lcO_le (fun i j => cqs_le hI.b35) _ _ _ (fun z q => by cases q) y h
theorem k_key {w u : Nat} (hI : Iv s) (hC : Rc s A P) (hD : Rd s A P dy nz wd ln) (hw : w < s.1 32 1) (hu : u < 24) (hQ : ∀ B U, Fe A B P U → Q (some (.int (oI (kkF s w u)))) (GH B U dy) nx) : XC (d + 4) m_X7_nearKey [.ref 3, .int (nI w), .int (nI u)] (GH A P dy) nx Q := by
  show X (d + 4) m_X7_nearKey 0 [some (.ref 3), some (.int (nI w)), some (.int (nI u)), none, none, none] [] (GH A P dy) nx 0 0 Q
  have sc := hI.sc
  have kW : ∀ {d nx : Nat} {Q : z_Q} {w : Nat}, w < s.1 32 1 → XC (d + 3) m_X7_wordAt [.ref 3, .int (nI w)] (GH A P dy) nx Q = Q (some (.ref (wd w))) (GH A P dy) nx := fun h => k_wordAt hD h
  have kN : ∀ {d nx : Nat} {Q : z_Q} {x : Int32}, ¬ iw x (s.1 32 1) = true → XC (d + 3) m_X7_wordAt [.ref 3, .int x] (GH A P dy) nx Q = Q (some .null) (GH A P dy) nx := fun h => k_wordAtN hD sc.1 h
  have h4 := hwq_4 (a := s.1) (L := s.2) (w := w) (u := u)
  by_cases lt : u < s.1 32 1
  · by_cases e : w = u
    · have q := hQ A P (Fe.rf hC)
      rw [kkF, if_neg (fun z => (h4.mp (by simpa using z.2)).1 e)] at q
      simp (disch := omega) only [i_X7_nearKey_0, i_X7_nearKey_0n, i_X7_nearKey_1, i_X7_nearKey_2, i_X7_nearKey_5, i_X7_nearKey_5n, i_X7_nearKey_6, i_X7_nearKey_6n, i_X7_nearKey_7, i_X7_nearKey_8, i_X7_nearKey_11, i_X7_nearKey_11n, i_X7_nearKey_13, i_X7_nearKey_14, i_X7_nearKey_15, i_X7_nearKey_27, i_X7_nearKey_28, gh_o3, gh_l4, gh_o6, gh_r7, gh_w7, gh_r29, gh_w29, gf_3_0, gf_3_1, gf_3_2, gf_3_5, gf_6_0, gf_6_1, sgF_0, sgF_1, sgF_2, sgF_5, sgF_6, sgF_7, sgF_9, sgF_10, wdF_0, wdF_1, wdF_2, wdF_3, lsF_0, lsF_1, lsF_2, z_o_i, z_ai_i, z_si_i, z_ab_b, z_ab_z, z_sb_b, z_sb_z, z_al_i, z_al_b, z_pu_s, z_pu_n, nI_toN, z_inN, true_and, and_true, nI_add, pk_mul, vu_eq, vu_ne, nI_leI, nI_ltI, nI_eqI, nI_eq0, ↓ok_0, ↓ok_1, ↓bI_ok, if_true, if_false, nI_lt0, nI_ge0, ne_eq, not_true_eq_false, not_false_eq_true, bI_eq0, bI_ne0, bI_T, bI_F, Bool.false_eq_true, Nat.one_ne_zero, Nat.zero_ne_one, nI_m1, kW, e]
      exact q
    · obtain ⟨ρ, hWq⟩ := hD.wqs
      simp (disch := omega) only [i_X7_nearKey_0, i_X7_nearKey_0n, i_X7_nearKey_1, i_X7_nearKey_2, i_X7_nearKey_5, i_X7_nearKey_5n, i_X7_nearKey_6, i_X7_nearKey_6n, i_X7_nearKey_7, i_X7_nearKey_8, i_X7_nearKey_11, i_X7_nearKey_11n, i_X7_nearKey_13, i_X7_nearKey_14, i_X7_nearKey_15, i_X7_nearKey_18, i_X7_nearKey_18n, i_X7_nearKey_19, i_X7_nearKey_19n, i_X7_nearKey_22, i_X7_nearKey_22n, i_X7_nearKey_24, i_X7_nearKey_24n, i_X7_nearKey_29, i_X7_nearKey_29n, i_X7_nearKey_30, i_X7_nearKey_33, i_X7_nearKey_33n, i_X7_nearKey_34, i_X7_nearKey_34n, i_X7_nearKey_36, gh_o3, gh_l4, gh_o6, gh_r7, gh_w7, gh_r29, gh_w29, gf_3_0, gf_3_1, gf_3_2, gf_3_5, gf_6_0, gf_6_1, sgF_0, sgF_1, sgF_2, sgF_5, sgF_6, sgF_7, sgF_9, sgF_10, wdF_0, wdF_1, wdF_2, wdF_3, lsF_0, lsF_1, lsF_2, z_o_i, z_ai_i, z_si_i, z_ab_b, z_ab_z, z_sb_b, z_sb_z, z_al_i, z_al_b, z_pu_s, z_pu_n, nI_toN, z_inN, true_and, and_true, nI_add, pk_mul, vu_eq, vu_ne, nI_leI, nI_ltI, nI_eqI, nI_eq0, ↓ok_0, ↓ok_1, ↓bI_ok, if_true, if_false, nI_lt0, nI_ge0, ne_eq, not_true_eq_false, not_false_eq_true, bI_eq0, bI_ne0, bI_T, bI_F, Bool.false_eq_true, Nat.one_ne_zero, Nat.zero_ne_one, nI_m1, kW, e]
      refine k_lcE hI hC (hWq w hw) (hWq u lt) hw lt (fun B U hF => ?_)
      have q := hQ B U hF
      have nr : B 6 1 = nI (s.1 32 10) := (hF.rc hC).1.2.1
      cases c : lcq s.1 w u with
      | none =>
        rw [kkF, if_neg (fun z => by obtain ⟨y, hy, _⟩ := (h4.mp (by simpa using z.2)).2; rw [c] at hy; cases hy)] at q
        have on : oI none = -1 := rfl
        have me : ((-1 : Int32) = -1) = True := by simp
        rw [on]
        simp (disch := omega) only [i_X7_nearKey_39, i_X7_nearKey_41, i_X7_nearKey_43, i_X7_nearKey_44, i_X7_nearKey_59, i_X7_nearKey_60, i_X7_nearKey_70, gh_o3, gh_l4, gh_o6, gh_r7, gh_w7, gh_r29, gh_w29, gf_3_0, gf_3_1, gf_3_2, gf_3_5, gf_6_0, gf_6_1, sgF_0, sgF_1, sgF_2, sgF_5, sgF_6, sgF_7, sgF_9, sgF_10, wdF_0, wdF_1, wdF_2, wdF_3, lsF_0, lsF_1, lsF_2, z_o_i, z_ai_i, z_si_i, z_ab_b, z_ab_z, z_sb_b, z_sb_z, z_al_i, z_al_b, z_pu_s, z_pu_n, nI_toN, z_inN, true_and, and_true, nI_add, pk_mul, vu_eq, vu_ne, nI_leI, nI_ltI, nI_eqI, nI_eq0, ↓ok_0, ↓ok_1, ↓bI_ok, if_true, if_false, nI_lt0, nI_ge0, ne_eq, not_true_eq_false, not_false_eq_true, bI_eq0, bI_ne0, bI_T, bI_F, Bool.false_eq_true, Nat.one_ne_zero, Nat.zero_ne_one, nI_m1, me]
        exact q
      | some y =>
        have yb := lcq_le hI c
        have oy : oI (some y) = nI y := rfl
        rw [oy]
        by_cases l : y ≤ s.1 32 10
        · have yes : hwq s.1 s.2 w u 4 ≠ none := h4.mpr ⟨e, y, c, l⟩
          rw [kkF, if_pos ⟨lt, by simpa using yes⟩, c, Option.getD_some, Nat.mul_comm] at q
          simp (disch := omega) only [i_X7_nearKey_39, i_X7_nearKey_41, i_X7_nearKey_43, i_X7_nearKey_44, i_X7_nearKey_47, i_X7_nearKey_49, i_X7_nearKey_49n, i_X7_nearKey_50, i_X7_nearKey_53, i_X7_nearKey_56, i_X7_nearKey_63, i_X7_nearKey_65, i_X7_nearKey_67, i_X7_nearKey_68, i_X7_nearKey_69, i_X7_nearKey_70, gh_o3, gh_l4, gh_o6, gh_r7, gh_w7, gh_r29, gh_w29, gf_3_0, gf_3_1, gf_3_2, gf_3_5, gf_6_0, gf_6_1, sgF_0, sgF_1, sgF_2, sgF_5, sgF_6, sgF_7, sgF_9, sgF_10, wdF_0, wdF_1, wdF_2, wdF_3, lsF_0, lsF_1, lsF_2, z_o_i, z_ai_i, z_si_i, z_ab_b, z_ab_z, z_sb_b, z_sb_z, z_al_i, z_al_b, z_pu_s, z_pu_n, nI_toN, z_inN, true_and, and_true, nI_add, pk_mul, vu_eq, vu_ne, nI_leI, nI_ltI, nI_eqI, nI_eq0, ↓ok_0, ↓ok_1, ↓bI_ok, if_true, if_false, nI_lt0, nI_ge0, ne_eq, not_true_eq_false, not_false_eq_true, bI_eq0, bI_ne0, bI_T, bI_F, Bool.false_eq_true, Nat.one_ne_zero, Nat.zero_ne_one, nI_m1, nr, l]
          exact q
        · rw [kkF, if_neg (fun z => by obtain ⟨v, hv, hl⟩ := (h4.mp (by simpa using z.2)).2; rw [c] at hv; cases hv; exact l hl)] at q
          simp (disch := omega) only [i_X7_nearKey_39, i_X7_nearKey_41, i_X7_nearKey_43, i_X7_nearKey_44, i_X7_nearKey_47, i_X7_nearKey_49, i_X7_nearKey_49n, i_X7_nearKey_50, i_X7_nearKey_53, i_X7_nearKey_56, i_X7_nearKey_59, i_X7_nearKey_60, i_X7_nearKey_70, gh_o3, gh_l4, gh_o6, gh_r7, gh_w7, gh_r29, gh_w29, gf_3_0, gf_3_1, gf_3_2, gf_3_5, gf_6_0, gf_6_1, sgF_0, sgF_1, sgF_2, sgF_5, sgF_6, sgF_7, sgF_9, sgF_10, wdF_0, wdF_1, wdF_2, wdF_3, lsF_0, lsF_1, lsF_2, z_o_i, z_ai_i, z_si_i, z_ab_b, z_ab_z, z_sb_b, z_sb_z, z_al_i, z_al_b, z_pu_s, z_pu_n, nI_toN, z_inN, true_and, and_true, nI_add, pk_mul, vu_eq, vu_ne, nI_leI, nI_ltI, nI_eqI, nI_eq0, ↓ok_0, ↓ok_1, ↓bI_ok, if_true, if_false, nI_lt0, nI_ge0, ne_eq, not_true_eq_false, not_false_eq_true, bI_eq0, bI_ne0, bI_T, bI_F, Bool.false_eq_true, Nat.one_ne_zero, Nat.zero_ne_one, nI_m1, nr, l]
          exact q
  · have q := hQ A P (Fe.rf hC)
    rw [kkF, if_neg (fun z => lt z.1)] at q
    have nu : ¬ iw (nI u) (s.1 32 1) = true := by rw [iw_nI (by omega)]; simpa using lt
    have kNu : ∀ {d nx : Nat} {Q : z_Q}, XC (d + 3) m_X7_wordAt [.ref 3, .int (nI u)] (GH A P dy) nx Q = Q (some .null) (GH A P dy) nx := kN nu
    have e : ¬ w = u := by omega
    simp (disch := omega) only [i_X7_nearKey_0, i_X7_nearKey_0n, i_X7_nearKey_1, i_X7_nearKey_2, i_X7_nearKey_5, i_X7_nearKey_5n, i_X7_nearKey_6, i_X7_nearKey_6n, i_X7_nearKey_7, i_X7_nearKey_8, i_X7_nearKey_11, i_X7_nearKey_11n, i_X7_nearKey_13, i_X7_nearKey_14, i_X7_nearKey_15, i_X7_nearKey_18, i_X7_nearKey_18n, i_X7_nearKey_19, i_X7_nearKey_19n, i_X7_nearKey_22, i_X7_nearKey_22n, i_X7_nearKey_24, i_X7_nearKey_24n, i_X7_nearKey_27, i_X7_nearKey_28, gh_o3, gh_l4, gh_o6, gh_r7, gh_w7, gh_r29, gh_w29, gf_3_0, gf_3_1, gf_3_2, gf_3_5, gf_6_0, gf_6_1, sgF_0, sgF_1, sgF_2, sgF_5, sgF_6, sgF_7, sgF_9, sgF_10, wdF_0, wdF_1, wdF_2, wdF_3, lsF_0, lsF_1, lsF_2, z_o_i, z_ai_i, z_si_i, z_ab_b, z_ab_z, z_sb_b, z_sb_z, z_al_i, z_al_b, z_pu_s, z_pu_n, nI_toN, z_inN, true_and, and_true, nI_add, pk_mul, vu_eq, vu_ne, nI_leI, nI_ltI, nI_eqI, nI_eq0, ↓ok_0, ↓ok_1, ↓bI_ok, if_true, if_false, nI_lt0, nI_ge0, ne_eq, not_true_eq_false, not_false_eq_true, bI_eq0, bI_ne0, bI_T, bI_F, Bool.false_eq_true, Nat.one_ne_zero, Nat.zero_ne_one, nI_m1, kW, kNu, e]
    exact q
theorem kkF_b {w u x : Nat} (hI : Iv s) (h : kkF s w u = some x) (hu : u < 24) : x < 10000 := by
  unfold kkF at h
  by_cases q : u < s.1 32 1 ∧ decide (hwq s.1 s.2 w u 4 ≠ none) = true
  · rw [if_pos q] at h
    cases h
    cases c : lcq s.1 w u with
    | none => simp only [Option.getD_none]; omega
    | some y => have := lcq_le hI c; simp only [Option.getD_some]; omega
  · rw [if_neg q] at h; cases h
theorem nxF_b {kk : Nat → Option Nat} {l : Option Nat} {M : Nat} (hb : ∀ j x, j < 24 → kk j = some x → x < M) {m y : Nat} (hm : m ≤ 24) (h : nxF kk l m = some y) : y < M := by
  obtain ⟨⟨j, j1, j2⟩, _⟩ := (nxF_sp m).2 y h
  exact hb j y (by omega) j2
theorem l_nnk {kk : Nat → Option Nat} {l : Option Nat} (hk : ∀ j, j < 24 → A 29 j = oI (kk j)) (hb : ∀ j x, j < 24 → kk j = some x → x < 10000) (hl : ∀ y, l = some y → y < 10000) : ∀ (m j : Nat) (x6 : Option Value), j + m = 24 → X d m_X7_nextNearKey 14 [some (.ref 3), some (.int (oI l)), some (.int (oI (nxF kk l j))), some (.ref 29), some (.int (nI 24)), some (.int (nI j)), x6] [] (GH A P dy) nx bc bs Q = Q (some (.int (oI (nxF kk l 24)))) (GH A P dy) nx := by
  have mm : ((-1 : Int32) ≤ -1) = True := by simp only [eq_iff_iff, iff_true]; decide
  have mn' : ∀ {n : Nat}, n < 10000 → ((-1 : Int32) ≤ nI n) = True := fun {n} h => by
    simp only [eq_iff_iff, iff_true, Int32.le_iff_toInt_le]
    rw [nI_toInt (by omega), show (-1 : Int32).toInt = -1 by decide]; omega
  have nm : ∀ {n : Nat}, n < 10000 → (nI n ≤ (-1 : Int32)) = False := fun {n} h => by
    simp only [eq_iff_iff, iff_false, Int32.le_iff_toInt_le]
    rw [nI_toInt (by omega), show (-1 : Int32).toInt = -1 by decide]; omega
  have me : ((-1 : Int32) = -1) = True := by simp
  have on : oI none = -1 := rfl
  have os : ∀ y, oI (some y) = nI y := fun _ => rfl
  intro m
  induction m with
  | zero =>
    intro j x6 hj
    have e : j = 24 := by omega
    subst e
    simp (disch := omega) only [i_X7_nextNearKey_14, i_X7_nextNearKey_16, i_X7_nextNearKey_18, i_X7_nextNearKey_53, i_X7_nextNearKey_54, gh_o3, gh_l4, gh_o6, gh_r7, gh_w7, gh_r29, gh_w29, gf_3_0, gf_3_1, gf_3_2, gf_3_5, gf_6_0, gf_6_1, sgF_0, sgF_1, sgF_2, sgF_5, sgF_6, sgF_7, sgF_9, sgF_10, wdF_0, wdF_1, wdF_2, wdF_3, lsF_0, lsF_1, lsF_2, z_o_i, z_ai_i, z_si_i, z_ab_b, z_ab_z, z_sb_b, z_sb_z, z_al_i, z_al_b, z_pu_s, z_pu_n, nI_toN, z_inN, true_and, and_true, nI_add, pk_mul, vu_eq, vu_ne, nI_leI, nI_ltI, nI_eqI, nI_eq0, ↓ok_0, ↓ok_1, ↓bI_ok, if_true, if_false, nI_lt0, nI_ge0, ne_eq, not_true_eq_false, not_false_eq_true, bI_eq0, bI_ne0, bI_T, bI_F, Bool.false_eq_true, Nat.one_ne_zero, Nat.zero_ne_one, nI_m1, Nat.le_refl]
  | succ m ih =>
    intro j x6 hj
    have le : ¬ 24 ≤ j := by omega
    have r29 := hk j (by omega)
    have e0 : nxF kk l (j + 1) = match kk j with
      | none => nxF kk l j
      | some x => if gtK x l = true then some (mn (nxF kk l j) x) else nxF kk l j := rfl
    rw [i_X7_nextNearKey_14]
    cases c : kk j with
    | none =>
      rw [c] at e0 r29
      simp only [] at e0
      rw [on] at r29
      have nxt := ih (j + 1) (some (.int (-1))) (by omega)
      rw [e0] at nxt
      cases l with
      | none =>
        rw [on] at nxt ⊢
        simp (disch := omega) only [i_X7_nextNearKey_16, i_X7_nextNearKey_18, i_X7_nextNearKey_21, i_X7_nextNearKey_22, i_X7_nextNearKey_24, i_X7_nextNearKey_25, i_X7_nextNearKey_27, i_X7_nextNearKey_29, i_X7_nextNearKey_30, i_X7_nextNearKey_47, i_X7_nextNearKey_50, gh_o3, gh_l4, gh_o6, gh_r7, gh_w7, gh_r29, gh_w29, gf_3_0, gf_3_1, gf_3_2, gf_3_5, gf_6_0, gf_6_1, sgF_0, sgF_1, sgF_2, sgF_5, sgF_6, sgF_7, sgF_9, sgF_10, wdF_0, wdF_1, wdF_2, wdF_3, lsF_0, lsF_1, lsF_2, z_o_i, z_ai_i, z_si_i, z_ab_b, z_ab_z, z_sb_b, z_sb_z, z_al_i, z_al_b, z_pu_s, z_pu_n, nI_toN, z_inN, true_and, and_true, nI_add, pk_mul, vu_eq, vu_ne, nI_leI, nI_ltI, nI_eqI, nI_eq0, ↓ok_0, ↓ok_1, ↓bI_ok, if_true, if_false, nI_lt0, nI_ge0, ne_eq, not_true_eq_false, not_false_eq_true, bI_eq0, bI_ne0, bI_T, bI_F, Bool.false_eq_true, Nat.one_ne_zero, Nat.zero_ne_one, nI_m1, le, r29, mm]
        exact nxt
      | some y =>
        have yb := hl y rfl
        rw [os] at nxt ⊢
        simp (disch := omega) only [i_X7_nextNearKey_16, i_X7_nextNearKey_18, i_X7_nextNearKey_21, i_X7_nextNearKey_22, i_X7_nextNearKey_24, i_X7_nextNearKey_25, i_X7_nextNearKey_27, i_X7_nextNearKey_29, i_X7_nextNearKey_30, i_X7_nextNearKey_47, i_X7_nextNearKey_50, gh_o3, gh_l4, gh_o6, gh_r7, gh_w7, gh_r29, gh_w29, gf_3_0, gf_3_1, gf_3_2, gf_3_5, gf_6_0, gf_6_1, sgF_0, sgF_1, sgF_2, sgF_5, sgF_6, sgF_7, sgF_9, sgF_10, wdF_0, wdF_1, wdF_2, wdF_3, lsF_0, lsF_1, lsF_2, z_o_i, z_ai_i, z_si_i, z_ab_b, z_ab_z, z_sb_b, z_sb_z, z_al_i, z_al_b, z_pu_s, z_pu_n, nI_toN, z_inN, true_and, and_true, nI_add, pk_mul, vu_eq, vu_ne, nI_leI, nI_ltI, nI_eqI, nI_eq0, ↓ok_0, ↓ok_1, ↓bI_ok, if_true, if_false, nI_lt0, nI_ge0, ne_eq, not_true_eq_false, not_false_eq_true, bI_eq0, bI_ne0, bI_T, bI_F, Bool.false_eq_true, Nat.one_ne_zero, Nat.zero_ne_one, nI_m1, le, r29, mn']
        exact nxt
    | some x =>
      rw [c] at e0 r29
      simp only [] at e0
      rw [os] at r29
      have xb := hb j x (by omega) c
      have nxt := ih (j + 1) (some (.int (nI x))) (by omega)
      rw [e0] at nxt
      have upd : gtK x l = true → X d m_X7_nextNearKey 33 [some (.ref 3), some (.int (oI l)), some (.int (oI (nxF kk l j))), some (.ref 29), some (.int (nI 24)), some (.int (nI j)), some (.int (nI x))] [] (GH A P dy) nx bc bs Q = Q (some (.int (oI (nxF kk l 24)))) (GH A P dy) nx := by
        intro g
        rw [if_pos g] at nxt
        cases r : nxF kk l j with
        | none =>
          rw [r] at nxt
          have nxt' : X d m_X7_nextNearKey 14 [some (.ref 3), some (.int (oI l)), some (.int (nI x)), some (.ref 29), some (.int (nI 24)), some (.int (nI (j + 1))), some (.int (nI x))] [] (GH A P dy) nx bc bs Q = _ := nxt
          rw [on]
          simp (disch := omega) only [i_X7_nextNearKey_33, i_X7_nextNearKey_34, i_X7_nextNearKey_35, i_X7_nextNearKey_44, i_X7_nextNearKey_46, i_X7_nextNearKey_47, i_X7_nextNearKey_50, gh_o3, gh_l4, gh_o6, gh_r7, gh_w7, gh_r29, gh_w29, gf_3_0, gf_3_1, gf_3_2, gf_3_5, gf_6_0, gf_6_1, sgF_0, sgF_1, sgF_2, sgF_5, sgF_6, sgF_7, sgF_9, sgF_10, wdF_0, wdF_1, wdF_2, wdF_3, lsF_0, lsF_1, lsF_2, z_o_i, z_ai_i, z_si_i, z_ab_b, z_ab_z, z_sb_b, z_sb_z, z_al_i, z_al_b, z_pu_s, z_pu_n, nI_toN, z_inN, true_and, and_true, nI_add, pk_mul, vu_eq, vu_ne, nI_leI, nI_ltI, nI_eqI, nI_eq0, ↓ok_0, ↓ok_1, ↓bI_ok, if_true, if_false, nI_lt0, nI_ge0, ne_eq, not_true_eq_false, not_false_eq_true, bI_eq0, bI_ne0, bI_T, bI_F, Bool.false_eq_true, Nat.one_ne_zero, Nat.zero_ne_one, nI_m1, me]
          exact nxt'
        | some v =>
          have vb := nxF_b hb (by omega) r
          rw [r] at nxt
          rw [os]
          by_cases lt : x < v
          · have em : mn (some v) x = x := if_pos lt
            rw [em, os] at nxt
            have lt' : ¬ v ≤ x := by omega
            simp (disch := omega) only [i_X7_nextNearKey_33, i_X7_nextNearKey_34, i_X7_nextNearKey_35, i_X7_nextNearKey_38, i_X7_nextNearKey_40, i_X7_nextNearKey_41, i_X7_nextNearKey_44, i_X7_nextNearKey_46, i_X7_nextNearKey_47, i_X7_nextNearKey_50, gh_o3, gh_l4, gh_o6, gh_r7, gh_w7, gh_r29, gh_w29, gf_3_0, gf_3_1, gf_3_2, gf_3_5, gf_6_0, gf_6_1, sgF_0, sgF_1, sgF_2, sgF_5, sgF_6, sgF_7, sgF_9, sgF_10, wdF_0, wdF_1, wdF_2, wdF_3, lsF_0, lsF_1, lsF_2, z_o_i, z_ai_i, z_si_i, z_ab_b, z_ab_z, z_sb_b, z_sb_z, z_al_i, z_al_b, z_pu_s, z_pu_n, nI_toN, z_inN, true_and, and_true, nI_add, pk_mul, vu_eq, vu_ne, nI_leI, nI_ltI, nI_eqI, nI_eq0, ↓ok_0, ↓ok_1, ↓bI_ok, if_true, if_false, nI_lt0, nI_ge0, ne_eq, not_true_eq_false, not_false_eq_true, bI_eq0, bI_ne0, bI_T, bI_F, Bool.false_eq_true, Nat.one_ne_zero, Nat.zero_ne_one, nI_m1, lt']
            exact nxt
          · have em : mn (some v) x = v := if_neg lt
            rw [em, os] at nxt
            have lt' : v ≤ x := by omega
            simp (disch := omega) only [i_X7_nextNearKey_33, i_X7_nextNearKey_34, i_X7_nextNearKey_35, i_X7_nextNearKey_38, i_X7_nextNearKey_40, i_X7_nextNearKey_41, i_X7_nextNearKey_47, i_X7_nextNearKey_50, gh_o3, gh_l4, gh_o6, gh_r7, gh_w7, gh_r29, gh_w29, gf_3_0, gf_3_1, gf_3_2, gf_3_5, gf_6_0, gf_6_1, sgF_0, sgF_1, sgF_2, sgF_5, sgF_6, sgF_7, sgF_9, sgF_10, wdF_0, wdF_1, wdF_2, wdF_3, lsF_0, lsF_1, lsF_2, z_o_i, z_ai_i, z_si_i, z_ab_b, z_ab_z, z_sb_b, z_sb_z, z_al_i, z_al_b, z_pu_s, z_pu_n, nI_toN, z_inN, true_and, and_true, nI_add, pk_mul, vu_eq, vu_ne, nI_leI, nI_ltI, nI_eqI, nI_eq0, ↓ok_0, ↓ok_1, ↓bI_ok, if_true, if_false, nI_lt0, nI_ge0, ne_eq, not_true_eq_false, not_false_eq_true, bI_eq0, bI_ne0, bI_T, bI_F, Bool.false_eq_true, Nat.one_ne_zero, Nat.zero_ne_one, nI_m1, lt']
            exact nxt
      cases l with
      | none =>
        have u2 := upd rfl
        rw [on] at u2 ⊢
        simp (disch := omega) only [i_X7_nextNearKey_16, i_X7_nextNearKey_18, i_X7_nextNearKey_21, i_X7_nextNearKey_22, i_X7_nextNearKey_24, i_X7_nextNearKey_25, i_X7_nextNearKey_27, i_X7_nextNearKey_29, i_X7_nextNearKey_30, gh_o3, gh_l4, gh_o6, gh_r7, gh_w7, gh_r29, gh_w29, gf_3_0, gf_3_1, gf_3_2, gf_3_5, gf_6_0, gf_6_1, sgF_0, sgF_1, sgF_2, sgF_5, sgF_6, sgF_7, sgF_9, sgF_10, wdF_0, wdF_1, wdF_2, wdF_3, lsF_0, lsF_1, lsF_2, z_o_i, z_ai_i, z_si_i, z_ab_b, z_ab_z, z_sb_b, z_sb_z, z_al_i, z_al_b, z_pu_s, z_pu_n, nI_toN, z_inN, true_and, and_true, nI_add, pk_mul, vu_eq, vu_ne, nI_leI, nI_ltI, nI_eqI, nI_eq0, ↓ok_0, ↓ok_1, ↓bI_ok, if_true, if_false, nI_lt0, nI_ge0, ne_eq, not_true_eq_false, not_false_eq_true, bI_eq0, bI_ne0, bI_T, bI_F, Bool.false_eq_true, Nat.one_ne_zero, Nat.zero_ne_one, nI_m1, le, r29, nm]
        exact u2
      | some y =>
        have yb := hl y rfl
        by_cases g : y < x
        · have g' : ¬ x ≤ y := by omega
          have u2 := upd (by simpa [gtK] using g)
          rw [os] at u2 ⊢
          simp (disch := omega) only [i_X7_nextNearKey_16, i_X7_nextNearKey_18, i_X7_nextNearKey_21, i_X7_nextNearKey_22, i_X7_nextNearKey_24, i_X7_nextNearKey_25, i_X7_nextNearKey_27, i_X7_nextNearKey_29, i_X7_nextNearKey_30, gh_o3, gh_l4, gh_o6, gh_r7, gh_w7, gh_r29, gh_w29, gf_3_0, gf_3_1, gf_3_2, gf_3_5, gf_6_0, gf_6_1, sgF_0, sgF_1, sgF_2, sgF_5, sgF_6, sgF_7, sgF_9, sgF_10, wdF_0, wdF_1, wdF_2, wdF_3, lsF_0, lsF_1, lsF_2, z_o_i, z_ai_i, z_si_i, z_ab_b, z_ab_z, z_sb_b, z_sb_z, z_al_i, z_al_b, z_pu_s, z_pu_n, nI_toN, z_inN, true_and, and_true, nI_add, pk_mul, vu_eq, vu_ne, nI_leI, nI_ltI, nI_eqI, nI_eq0, ↓ok_0, ↓ok_1, ↓bI_ok, if_true, if_false, nI_lt0, nI_ge0, ne_eq, not_true_eq_false, not_false_eq_true, bI_eq0, bI_ne0, bI_T, bI_F, Bool.false_eq_true, Nat.one_ne_zero, Nat.zero_ne_one, nI_m1, le, r29, g']
          exact u2
        · have g' : x ≤ y := by omega
          rw [if_neg (by simpa [gtK] using g)] at nxt
          rw [os] at nxt ⊢
          simp (disch := omega) only [i_X7_nextNearKey_16, i_X7_nextNearKey_18, i_X7_nextNearKey_21, i_X7_nextNearKey_22, i_X7_nextNearKey_24, i_X7_nextNearKey_25, i_X7_nextNearKey_27, i_X7_nextNearKey_29, i_X7_nextNearKey_30, i_X7_nextNearKey_47, i_X7_nextNearKey_50, gh_o3, gh_l4, gh_o6, gh_r7, gh_w7, gh_r29, gh_w29, gf_3_0, gf_3_1, gf_3_2, gf_3_5, gf_6_0, gf_6_1, sgF_0, sgF_1, sgF_2, sgF_5, sgF_6, sgF_7, sgF_9, sgF_10, wdF_0, wdF_1, wdF_2, wdF_3, lsF_0, lsF_1, lsF_2, z_o_i, z_ai_i, z_si_i, z_ab_b, z_ab_z, z_sb_b, z_sb_z, z_al_i, z_al_b, z_pu_s, z_pu_n, nI_toN, z_inN, true_and, and_true, nI_add, pk_mul, vu_eq, vu_ne, nI_leI, nI_ltI, nI_eqI, nI_eq0, ↓ok_0, ↓ok_1, ↓bI_ok, if_true, if_false, nI_lt0, nI_ge0, ne_eq, not_true_eq_false, not_false_eq_true, bI_eq0, bI_ne0, bI_T, bI_F, Bool.false_eq_true, Nat.one_ne_zero, Nat.zero_ne_one, nI_m1, le, r29, g']
          exact nxt
theorem k_nnk {kk : Nat → Option Nat} {l : Option Nat} (hk : ∀ j, j < 24 → A 29 j = oI (kk j)) (hb : ∀ j x, j < 24 → kk j = some x → x < 10000) (hl : ∀ y, l = some y → y < 10000) : XC d m_X7_nextNearKey [.ref 3, .int (oI l)] (GH A P dy) nx Q = Q (some (.int (oI (nxF kk l 24)))) (GH A P dy) nx := by
  show X d m_X7_nextNearKey 0 [some (.ref 3), some (.int (oI l)), none, none, none, none, none] [] (GH A P dy) nx 0 0 Q = _
  simp (disch := omega) only [i_X7_nextNearKey_0, i_X7_nextNearKey_1, i_X7_nextNearKey_2, i_X7_nextNearKey_3, i_X7_nextNearKey_6, i_X7_nextNearKey_7, i_X7_nextNearKey_8, i_X7_nextNearKey_9, i_X7_nextNearKey_11, i_X7_nextNearKey_12, gh_o3, gh_l4, gh_o6, gh_r7, gh_w7, gh_r29, gh_w29, gf_3_0, gf_3_1, gf_3_2, gf_3_5, gf_6_0, gf_6_1, sgF_0, sgF_1, sgF_2, sgF_5, sgF_6, sgF_7, sgF_9, sgF_10, wdF_0, wdF_1, wdF_2, wdF_3, lsF_0, lsF_1, lsF_2, z_o_i, z_ai_i, z_si_i, z_ab_b, z_ab_z, z_sb_b, z_sb_z, z_al_i, z_al_b, z_pu_s, z_pu_n, nI_toN, z_inN, true_and, and_true, nI_add, pk_mul, vu_eq, vu_ne, nI_leI, nI_ltI, nI_eqI, nI_eq0, ↓ok_0, ↓ok_1, ↓bI_ok, if_true, if_false, nI_lt0, nI_ge0, ne_eq, not_true_eq_false, not_false_eq_true, bI_eq0, bI_ne0, bI_T, bI_F, Bool.false_eq_true, Nat.one_ne_zero, Nat.zero_ne_one, nI_m1]
  exact l_nnk hk hb hl 24 0 none (by omega)
theorem Rc.u29 {f : Nat → Int32} (h : Rc s A P) : Rc s (va_up A 29 f) P := ⟨h.1, h.2⟩
theorem Rd.u29 {f : Nat → Int32} (h : Rd s A P dy nz wd ln) : Rd s (va_up A 29 f) P dy nz wd ln := h.of rfl rfl rfl rfl
theorem l_rbc1 {w i : Nat} {x4 : Option Value} (hI : Iv s) (hw : w < s.1 32 1) (hQ : ∀ B U, Rc s B U → Rd s B U dy nz wd ln → Fz A B → (∀ j, j < 24 → B 29 j = oI (kkF s w j)) → X (d + 5) m_X7_rhymeByCost 42 [some (.ref 3), some (.int (nI w)), some (.int (nI i)), some (.int (nI 24)), x4] [] (GH B U dy) nx bc bs Q) :
    ∀ (m u : Nat) (B : Nat → Nat → Int32) (U : Nat → Nat → Nat), u + m = 24 → Rc s B U → Rd s B U dy nz wd ln → Fz A B → (∀ j, j < u → B 29 j = oI (kkF s w j)) → X (d + 5) m_X7_rhymeByCost 15 [some (.ref 3), some (.int (nI w)), some (.int (nI i)), some (.int (nI u)), x4] [] (GH B U dy) nx bc bs Q := by
  intro m
  induction m with
  | zero =>
    intro u B U hu hC hD hF hr
    have e : u = 24 := by omega
    subst e
    simp (disch := omega) only [i_X7_rhymeByCost_15, i_X7_rhymeByCost_16, i_X7_rhymeByCost_17, i_X7_rhymeByCost_20, i_X7_rhymeByCost_21, gh_o3, gh_l4, gh_o6, gh_r7, gh_w7, gh_r29, gh_w29, gf_3_0, gf_3_1, gf_3_2, gf_3_5, gf_6_0, gf_6_1, sgF_0, sgF_1, sgF_2, sgF_5, sgF_6, sgF_7, sgF_9, sgF_10, wdF_0, wdF_1, wdF_2, wdF_3, lsF_0, lsF_1, lsF_2, z_o_i, z_ai_i, z_si_i, z_ab_b, z_ab_z, z_sb_b, z_sb_z, z_al_i, z_al_b, z_pu_s, z_pu_n, nI_toN, z_inN, true_and, and_true, nI_add, pk_mul, vu_eq, vu_ne, nI_leI, nI_ltI, nI_eqI, nI_eq0, ↓ok_0, ↓ok_1, ↓bI_ok, if_true, if_false, nI_lt0, nI_ge0, ne_eq, not_true_eq_false, not_false_eq_true, bI_eq0, bI_ne0, bI_T, bI_F, Bool.false_eq_true, Nat.one_ne_zero, Nat.zero_ne_one, nI_m1, Nat.le_refl]
    exact hQ B U hC hD hF hr
  | succ m ih =>
    intro u B U hu hC hD hF hr
    have le : ¬ 24 ≤ u := by omega
    rw [i_X7_rhymeByCost_15]
    simp (disch := omega) only [i_X7_rhymeByCost_16, i_X7_rhymeByCost_17, i_X7_rhymeByCost_20, i_X7_rhymeByCost_21, i_X7_rhymeByCost_24, i_X7_rhymeByCost_25, i_X7_rhymeByCost_28, i_X7_rhymeByCost_29, i_X7_rhymeByCost_30, i_X7_rhymeByCost_31, i_X7_rhymeByCost_32, gh_o3, gh_l4, gh_o6, gh_r7, gh_w7, gh_r29, gh_w29, gf_3_0, gf_3_1, gf_3_2, gf_3_5, gf_6_0, gf_6_1, sgF_0, sgF_1, sgF_2, sgF_5, sgF_6, sgF_7, sgF_9, sgF_10, wdF_0, wdF_1, wdF_2, wdF_3, lsF_0, lsF_1, lsF_2, z_o_i, z_ai_i, z_si_i, z_ab_b, z_ab_z, z_sb_b, z_sb_z, z_al_i, z_al_b, z_pu_s, z_pu_n, nI_toN, z_inN, true_and, and_true, nI_add, pk_mul, vu_eq, vu_ne, nI_leI, nI_ltI, nI_eqI, nI_eq0, ↓ok_0, ↓ok_1, ↓bI_ok, if_true, if_false, nI_lt0, nI_ge0, ne_eq, not_true_eq_false, not_false_eq_true, bI_eq0, bI_ne0, bI_T, bI_F, Bool.false_eq_true, Nat.one_ne_zero, Nat.zero_ne_one, nI_m1, le]
    refine k_key hI hC hD hw (by omega) (fun C V hG => ?_)
    have g29 : C 29 = B 29 := hG.1 29 (by omega) (by omega)
    simp (disch := omega) only [i_X7_rhymeByCost_35, i_X7_rhymeByCost_36, i_X7_rhymeByCost_39, gh_o3, gh_l4, gh_o6, gh_r7, gh_w7, gh_r29, gh_w29, gf_3_0, gf_3_1, gf_3_2, gf_3_5, gf_6_0, gf_6_1, sgF_0, sgF_1, sgF_2, sgF_5, sgF_6, sgF_7, sgF_9, sgF_10, wdF_0, wdF_1, wdF_2, wdF_3, lsF_0, lsF_1, lsF_2, z_o_i, z_ai_i, z_si_i, z_ab_b, z_ab_z, z_sb_b, z_sb_z, z_al_i, z_al_b, z_pu_s, z_pu_n, nI_toN, z_inN, true_and, and_true, nI_add, pk_mul, vu_eq, vu_ne, nI_leI, nI_ltI, nI_eqI, nI_eq0, ↓ok_0, ↓ok_1, ↓bI_ok, if_true, if_false, nI_lt0, nI_ge0, ne_eq, not_true_eq_false, not_false_eq_true, bI_eq0, bI_ne0, bI_T, bI_F, Bool.false_eq_true, Nat.one_ne_zero, Nat.zero_ne_one, nI_m1]
    refine ih (u + 1) _ V (by omega) (hG.rc hC).u29 (hG.rd hD).u29 ((hF.trans hG.fz).up (by omega)) (fun j hj => ?_)
    rw [vu_eq, vu_if]
    by_cases e : j = u
    · rw [if_pos e, e]
    · rw [if_neg e, g29]; exact hr j (by omega)
theorem l_rbc2 {w i : Nat} (hI : Iv s) (hw : w < s.1 32 1) (hi : i < 24) (hk : ∀ j, j < 24 → A 29 j = oI (kkF s w j)) (hQ : Q (some (.int (if i < (rhy s w 4).1 then nI ((rhy s w 4).2.1 i) else -1))) (GH A P dy) nx) :
    ∀ (m k : Nat), k + m = i + 1 → k ≤ (rhy s w 4).1 → X (d + 5) m_X7_rhymeByCost 47 [some (.ref 3), some (.int (nI w)), some (.int (nI i)), some (.int (oI (if k = 0 then none else some (24 * (rhy s w 4).2.2 (k - 1) + (rhy s w 4).2.1 (k - 1))))), some (.int (nI k))] [] (GH A P dy) nx bc bs Q := by
  have sc := hI.sc
  have hkk : ∀ u, u < 24 → kkF s w u = if u < s.1 32 1 ∧ (fun u => decide (hwq s.1 s.2 w u 4 ≠ none)) u = true then some (24 * (fun u => if 4 = 4 then (lcq s.1 w u).getD 0 else 0) u + u) else none := fun u _ => rfl
  have nx4 := fun j => nxF_rh (h := fun u => decide (hwq s.1 s.2 w u 4 ≠ none)) (c := fun u => if 4 = 4 then (lcq s.1 w u).getD 0 else 0) (W := s.1 32 1) (kk := kkF s w) sc.1 hkk j
  have s2 := (rhF_s (h := fun u => decide (hwq s.1 s.2 w u 4 ≠ none)) (c := fun u => if 4 = 4 then (lcq s.1 w u).getD 0 else 0) (s.1 32 1) sc.1).2.1
  have er : rhF (fun u => decide (hwq s.1 s.2 w u 4 ≠ none)) (fun u => if 4 = 4 then (lcq s.1 w u).getD 0 else 0) (s.1 32 1) = rhy s w 4 := rfl
  rw [er] at nx4 s2
  have rb := rhF_b (h := fun u => decide (hwq s.1 s.2 w u 4 ≠ none)) (c := fun u => if 4 = 4 then (lcq s.1 w u).getD 0 else 0) (N := 24) (M := 192) (fun u => by
    show (if 4 = 4 then (lcq s.1 w u).getD 0 else 0) ≤ 192
    rw [if_pos rfl]
    cases c : lcq s.1 w u with
    | none => simp
    | some y => exact lcq_le hI c) (s.1 32 1) sc.1
  rw [er] at rb
  generalize rhy s w 4 = R at hQ nx4 s2 rb ⊢
  have on : oI none = -1 := rfl
  have os : ∀ y, oI (some y) = nI y := fun _ => rfl
  have bK : ∀ j, 24 * R.2.2 j + R.2.1 j < 10000 := fun j => by have := rb.1 j; have := rb.2 j; omega
  have kb : ∀ j x, j < 24 → kkF s w j = some x → x < 10000 := fun j x hj hx => kkF_b hI hx hj
  intro m
  induction m with
  | zero =>
    intro k hk1 hk2
    have e : k = i + 1 := by omega
    subst e
    have lt : i < i + 1 := by omega
    have b := bK i
    have li : i < R.1 := by omega
    have fi := (s2 i li).1
    rw [if_pos li] at hQ
    rw [if_neg (by omega), os, Nat.add_sub_cancel]
    have z24 : ¬ (24 : Nat) = 0 := by omega
    have md : (24 * R.2.2 i + R.2.1 i) - (24 * R.2.2 i + R.2.1 i) / 24 * 24 = R.2.1 i := by omega
    have b2 : (24 * R.2.2 i + R.2.1 i) / 24 * 24 ≤ 24 * R.2.2 i + R.2.1 i := by omega
    generalize hX : 24 * R.2.2 i + R.2.1 i = Xk at b md b2
    simp (disch := omega) only [i_X7_rhymeByCost_47, i_X7_rhymeByCost_49, i_X7_rhymeByCost_50, i_X7_rhymeByCost_72, i_X7_rhymeByCost_73, i_X7_rhymeByCost_75, i_X7_rhymeByCost_76, gh_o3, gh_l4, gh_o6, gh_r7, gh_w7, gh_r29, gh_w29, gf_3_0, gf_3_1, gf_3_2, gf_3_5, gf_6_0, gf_6_1, sgF_0, sgF_1, sgF_2, sgF_5, sgF_6, sgF_7, sgF_9, sgF_10, wdF_0, wdF_1, wdF_2, wdF_3, lsF_0, lsF_1, lsF_2, z_o_i, z_ai_i, z_si_i, z_ab_b, z_ab_z, z_sb_b, z_sb_z, z_al_i, z_al_b, z_pu_s, z_pu_n, nI_toN, z_inN, true_and, and_true, nI_add, pk_mul, vu_eq, vu_ne, nI_leI, nI_ltI, nI_eqI, nI_eq0, ↓ok_0, ↓ok_1, ↓bI_ok, if_true, if_false, nI_lt0, nI_ge0, ne_eq, not_true_eq_false, not_false_eq_true, bI_eq0, bI_ne0, bI_T, bI_F, Bool.false_eq_true, Nat.one_ne_zero, Nat.zero_ne_one, nI_m1, lt, z24, pk_div, pk_sub, md]
    exact hQ
  | succ m ih =>
    intro k hk1 hk2
    have lt : ¬ i < k := by omega
    have nk := nx4 k hk2
    have kN : ∀ {d nx : Nat} {Q : z_Q}, XC d m_X7_nextNearKey [.ref 3, .int (oI (if k = 0 then none else some (24 * R.2.2 (k - 1) + R.2.1 (k - 1))))] (GH A P dy) nx Q = _ := k_nnk hk kb (fun y hy => by
      by_cases k0 : k = 0
      · rw [if_pos k0] at hy; cases hy
      · rw [if_neg k0] at hy; cases hy; exact bK (k - 1))
    rw [nk] at kN
    rw [i_X7_rhymeByCost_47]
    by_cases l : k < R.1
    · rw [if_pos l, os] at kN
      have b := bK k
      have nxt := ih (k + 1) (by omega) (by omega)
      rw [if_neg (by omega), os, Nat.add_sub_cancel] at nxt
      generalize hX : 24 * R.2.2 k + R.2.1 k = Xk at b kN nxt
      simp (disch := omega) only [i_X7_rhymeByCost_49, i_X7_rhymeByCost_50, i_X7_rhymeByCost_53, i_X7_rhymeByCost_54, i_X7_rhymeByCost_55, i_X7_rhymeByCost_58, i_X7_rhymeByCost_59, i_X7_rhymeByCost_60, i_X7_rhymeByCost_61, i_X7_rhymeByCost_66, i_X7_rhymeByCost_69, gh_o3, gh_l4, gh_o6, gh_r7, gh_w7, gh_r29, gh_w29, gf_3_0, gf_3_1, gf_3_2, gf_3_5, gf_6_0, gf_6_1, sgF_0, sgF_1, sgF_2, sgF_5, sgF_6, sgF_7, sgF_9, sgF_10, wdF_0, wdF_1, wdF_2, wdF_3, lsF_0, lsF_1, lsF_2, z_o_i, z_ai_i, z_si_i, z_ab_b, z_ab_z, z_sb_b, z_sb_z, z_al_i, z_al_b, z_pu_s, z_pu_n, nI_toN, z_inN, true_and, and_true, nI_add, pk_mul, vu_eq, vu_ne, nI_leI, nI_ltI, nI_eqI, nI_eq0, ↓ok_0, ↓ok_1, ↓bI_ok, if_true, if_false, nI_lt0, nI_ge0, ne_eq, not_true_eq_false, not_false_eq_true, bI_eq0, bI_ne0, bI_T, bI_F, Bool.false_eq_true, Nat.one_ne_zero, Nat.zero_ne_one, nI_m1, lt, kN]
      exact nxt
    · rw [if_neg l, on] at kN
      rw [if_neg (by omega)] at hQ
      have me : ((-1 : Int32) = -1) = True := by simp
      simp (disch := omega) only [i_X7_rhymeByCost_49, i_X7_rhymeByCost_50, i_X7_rhymeByCost_53, i_X7_rhymeByCost_54, i_X7_rhymeByCost_55, i_X7_rhymeByCost_58, i_X7_rhymeByCost_59, i_X7_rhymeByCost_60, i_X7_rhymeByCost_61, i_X7_rhymeByCost_64, i_X7_rhymeByCost_65, gh_o3, gh_l4, gh_o6, gh_r7, gh_w7, gh_r29, gh_w29, gf_3_0, gf_3_1, gf_3_2, gf_3_5, gf_6_0, gf_6_1, sgF_0, sgF_1, sgF_2, sgF_5, sgF_6, sgF_7, sgF_9, sgF_10, wdF_0, wdF_1, wdF_2, wdF_3, lsF_0, lsF_1, lsF_2, z_o_i, z_ai_i, z_si_i, z_ab_b, z_ab_z, z_sb_b, z_sb_z, z_al_i, z_al_b, z_pu_s, z_pu_n, nI_toN, z_inN, true_and, and_true, nI_add, pk_mul, vu_eq, vu_ne, nI_leI, nI_ltI, nI_eqI, nI_eq0, ↓ok_0, ↓ok_1, ↓bI_ok, if_true, if_false, nI_lt0, nI_ge0, ne_eq, not_true_eq_false, not_false_eq_true, bI_eq0, bI_ne0, bI_T, bI_F, Bool.false_eq_true, Nat.one_ne_zero, Nat.zero_ne_one, nI_m1, lt, kN, me]
      exact hQ
theorem x_rhymes {w k i : Int32} (hI : Iv s) (hK : Cl s A P dy nx) (hQ : ∀ B R, Cl s B R dy nx → Fz A B → Q (some (.int (s_rhymes s w k i))) (GH B R dy) nx) : XC (d + 6) m_X7_rhymes [.ref 3, .int w, .int k, .int i] (GH A P dy) nx Q := by
  show X (d + 6) m_X7_rhymes 0 [some (.ref 3), some (.int w), some (.int k), some (.int i)] [] (GH A P dy) nx 0 0 Q
  have hK' := hK
  obtain ⟨hC, wd, ln, hD⟩ := hK
  have sc := hI.sc
  have kA : ∀ {d nx : Nat} {Q : z_Q}, XC (d + 4) m_X7_areWordsAndKind [.ref 3, .int w, .int w, .int k] (GH A P dy) nx Q = _ := k_ask hI hD
  unfold s_rhymes at hQ
  have ea : (ask s w w k = true) = (iw w (s.1 32 1) = true ∧ iw k 7 = true) := by
    simp only [ask, Bool.and_eq_true, eq_iff_iff]
    exact ⟨fun z => ⟨z.1, z.2.2⟩, fun z => ⟨z.1, z.1, z.2⟩⟩
  by_cases h : ask s w w k = true
  · have h' := ea ▸ h
    by_cases hi : iw i 2147483648 = true
    · rw [if_pos ⟨h'.1, h'.2, hi⟩] at hQ
      obtain ⟨a, h1, rfl⟩ := iw_ex h'.1
      obtain ⟨b, h2, rfl⟩ := iw_ex h'.2
      obtain ⟨c, h3, rfl⟩ := iw_ex hi
      rw [nI_toN (by omega), nI_toN (by omega), nI_toN (by omega)] at hQ
      by_cases k4 : b = 4
      · subst k4
        have kS : ∀ {d nx : Nat} {Q : z_Q}, XC d m_Jx4a65c_size_8abf5 [.ref 4] (GH A P dy) nx Q = _ := k_size4 hD
        simp (disch := omega) only [i_X7_rhymes_0, i_X7_rhymes_1, i_X7_rhymes_2, i_X7_rhymes_3, i_X7_rhymes_4, i_X7_rhymes_7, i_X7_rhymes_10, i_X7_rhymes_11, i_X7_rhymes_17, i_X7_rhymes_18, i_X7_rhymes_19, i_X7_rhymes_22, i_X7_rhymes_23, i_X7_rhymes_24, i_X7_rhymes_25, gh_o3, gh_l4, gh_o6, gh_r7, gh_w7, gh_r29, gh_w29, gf_3_0, gf_3_1, gf_3_2, gf_3_5, gf_6_0, gf_6_1, sgF_0, sgF_1, sgF_2, sgF_5, sgF_6, sgF_7, sgF_9, sgF_10, wdF_0, wdF_1, wdF_2, wdF_3, lsF_0, lsF_1, lsF_2, z_o_i, z_ai_i, z_si_i, z_ab_b, z_ab_z, z_sb_b, z_sb_z, z_al_i, z_al_b, z_pu_s, z_pu_n, nI_toN, z_inN, true_and, and_true, nI_add, pk_mul, vu_eq, vu_ne, nI_leI, nI_ltI, nI_eqI, nI_eq0, ↓ok_0, ↓ok_1, ↓bI_ok, if_true, if_false, nI_lt0, nI_ge0, ne_eq, not_true_eq_false, not_false_eq_true, bI_eq0, bI_ne0, bI_T, bI_F, Bool.false_eq_true, Nat.one_ne_zero, Nat.zero_ne_one, nI_m1, kA, h]
        show X (d + 5) m_X7_rhymeByCost 0 [some (.ref 3), some (.int (nI a)), some (.int (nI c)), none, none] [] (GH A P dy) nx 0 0 _
        by_cases cw : c < s.1 32 1
        · simp (disch := omega) only [i_X7_rhymeByCost_0, i_X7_rhymeByCost_1, i_X7_rhymeByCost_2, i_X7_rhymeByCost_5, i_X7_rhymeByCost_8, i_X7_rhymeByCost_13, i_X7_rhymeByCost_14, gh_o3, gh_l4, gh_o6, gh_r7, gh_w7, gh_r29, gh_w29, gf_3_0, gf_3_1, gf_3_2, gf_3_5, gf_6_0, gf_6_1, sgF_0, sgF_1, sgF_2, sgF_5, sgF_6, sgF_7, sgF_9, sgF_10, wdF_0, wdF_1, wdF_2, wdF_3, lsF_0, lsF_1, lsF_2, z_o_i, z_ai_i, z_si_i, z_ab_b, z_ab_z, z_sb_b, z_sb_z, z_al_i, z_al_b, z_pu_s, z_pu_n, nI_toN, z_inN, true_and, and_true, nI_add, pk_mul, vu_eq, vu_ne, nI_leI, nI_ltI, nI_eqI, nI_eq0, ↓ok_0, ↓ok_1, ↓bI_ok, if_true, if_false, nI_lt0, nI_ge0, ne_eq, not_true_eq_false, not_false_eq_true, bI_eq0, bI_ne0, bI_T, bI_F, Bool.false_eq_true, Nat.one_ne_zero, Nat.zero_ne_one, nI_m1, kS, cw]
          refine l_rbc1 (A := A) hI h1 (fun B U hCB hDB hF hr => ?_) 24 0 A P (by omega) hC hD Fz.refl (fun j hj => absurd hj (Nat.not_lt_zero j))
          simp (disch := omega) only [i_X7_rhymeByCost_42, i_X7_rhymeByCost_43, i_X7_rhymeByCost_44, i_X7_rhymeByCost_45, gh_o3, gh_l4, gh_o6, gh_r7, gh_w7, gh_r29, gh_w29, gf_3_0, gf_3_1, gf_3_2, gf_3_5, gf_6_0, gf_6_1, sgF_0, sgF_1, sgF_2, sgF_5, sgF_6, sgF_7, sgF_9, sgF_10, wdF_0, wdF_1, wdF_2, wdF_3, lsF_0, lsF_1, lsF_2, z_o_i, z_ai_i, z_si_i, z_ab_b, z_ab_z, z_sb_b, z_sb_z, z_al_i, z_al_b, z_pu_s, z_pu_n, nI_toN, z_inN, true_and, and_true, nI_add, pk_mul, vu_eq, vu_ne, nI_leI, nI_ltI, nI_eqI, nI_eq0, ↓ok_0, ↓ok_1, ↓bI_ok, if_true, if_false, nI_lt0, nI_ge0, ne_eq, not_true_eq_false, not_false_eq_true, bI_eq0, bI_ne0, bI_T, bI_F, Bool.false_eq_true, Nat.one_ne_zero, Nat.zero_ne_one, nI_m1]
          have lp := l_rbc2 (d := d) (P := U) (dy := dy) (nx := nx) (bc := 0) (bs := 0) (A := B) hI h1 (i := c) (by omega) hr (Q := fun r h' nx' => X (d + 5 + 1) m_X7_rhymes 28 [some (.ref 3), some (.int (nI a)), some (.int (nI 4)), some (.int (nI c))] (z_pu r []) h' nx' 0 0 Q) (by
            simp (disch := omega) only [i_X7_rhymes_28, i_X7_rhymes_38, gh_o3, gh_l4, gh_o6, gh_r7, gh_w7, gh_r29, gh_w29, gf_3_0, gf_3_1, gf_3_2, gf_3_5, gf_6_0, gf_6_1, sgF_0, sgF_1, sgF_2, sgF_5, sgF_6, sgF_7, sgF_9, sgF_10, wdF_0, wdF_1, wdF_2, wdF_3, lsF_0, lsF_1, lsF_2, z_o_i, z_ai_i, z_si_i, z_ab_b, z_ab_z, z_sb_b, z_sb_z, z_al_i, z_al_b, z_pu_s, z_pu_n, nI_toN, z_inN, true_and, and_true, nI_add, pk_mul, vu_eq, vu_ne, nI_leI, nI_ltI, nI_eqI, nI_eq0, ↓ok_0, ↓ok_1, ↓bI_ok, if_true, if_false, nI_lt0, nI_ge0, ne_eq, not_true_eq_false, not_false_eq_true, bI_eq0, bI_ne0, bI_T, bI_F, Bool.false_eq_true, Nat.one_ne_zero, Nat.zero_ne_one, nI_m1]
            exact hQ B U ⟨hCB, wd, ln, hDB⟩ hF) (c + 1) 0 (by omega) (Nat.zero_le _)
          exact lp
        · have nn := rhF_le (h := fun u => decide (hwq s.1 s.2 a u 4 ≠ none)) (c := fun u => if 4 = 4 then (lcq s.1 a u).getD 0 else 0) (s.1 32 1)
          have nn' : (rhy s a 4).1 ≤ s.1 32 1 := nn
          rw [if_neg (by omega)] at hQ
          simp (disch := omega) only [i_X7_rhymeByCost_0, i_X7_rhymeByCost_1, i_X7_rhymeByCost_2, i_X7_rhymeByCost_5, i_X7_rhymeByCost_8, i_X7_rhymeByCost_11, i_X7_rhymeByCost_12, gh_o3, gh_l4, gh_o6, gh_r7, gh_w7, gh_r29, gh_w29, gf_3_0, gf_3_1, gf_3_2, gf_3_5, gf_6_0, gf_6_1, sgF_0, sgF_1, sgF_2, sgF_5, sgF_6, sgF_7, sgF_9, sgF_10, wdF_0, wdF_1, wdF_2, wdF_3, lsF_0, lsF_1, lsF_2, z_o_i, z_ai_i, z_si_i, z_ab_b, z_ab_z, z_sb_b, z_sb_z, z_al_i, z_al_b, z_pu_s, z_pu_n, nI_toN, z_inN, true_and, and_true, nI_add, pk_mul, vu_eq, vu_ne, nI_leI, nI_ltI, nI_eqI, nI_eq0, ↓ok_0, ↓ok_1, ↓bI_ok, if_true, if_false, nI_lt0, nI_ge0, ne_eq, not_true_eq_false, not_false_eq_true, bI_eq0, bI_ne0, bI_T, bI_F, Bool.false_eq_true, Nat.one_ne_zero, Nat.zero_ne_one, nI_m1, kS, cw]
          simp (disch := omega) only [i_X7_rhymes_28, i_X7_rhymes_38, gh_o3, gh_l4, gh_o6, gh_r7, gh_w7, gh_r29, gh_w29, gf_3_0, gf_3_1, gf_3_2, gf_3_5, gf_6_0, gf_6_1, sgF_0, sgF_1, sgF_2, sgF_5, sgF_6, sgF_7, sgF_9, sgF_10, wdF_0, wdF_1, wdF_2, wdF_3, lsF_0, lsF_1, lsF_2, z_o_i, z_ai_i, z_si_i, z_ab_b, z_ab_z, z_sb_b, z_sb_z, z_al_i, z_al_b, z_pu_s, z_pu_n, nI_toN, z_inN, true_and, and_true, nI_add, pk_mul, vu_eq, vu_ne, nI_leI, nI_ltI, nI_eqI, nI_eq0, ↓ok_0, ↓ok_1, ↓bI_ok, if_true, if_false, nI_lt0, nI_ge0, ne_eq, not_true_eq_false, not_false_eq_true, bI_eq0, bI_ne0, bI_T, bI_F, Bool.false_eq_true, Nat.one_ne_zero, Nat.zero_ne_one, nI_m1]
          exact hQ A P hK' Fz.refl
      · simp (disch := omega) only [i_X7_rhymes_0, i_X7_rhymes_1, i_X7_rhymes_2, i_X7_rhymes_3, i_X7_rhymes_4, i_X7_rhymes_7, i_X7_rhymes_10, i_X7_rhymes_11, i_X7_rhymes_14, i_X7_rhymes_16, i_X7_rhymes_17, i_X7_rhymes_18, i_X7_rhymes_19, i_X7_rhymes_31, i_X7_rhymes_32, i_X7_rhymes_33, i_X7_rhymes_34, i_X7_rhymes_35, gh_o3, gh_l4, gh_o6, gh_r7, gh_w7, gh_r29, gh_w29, gf_3_0, gf_3_1, gf_3_2, gf_3_5, gf_6_0, gf_6_1, sgF_0, sgF_1, sgF_2, sgF_5, sgF_6, sgF_7, sgF_9, sgF_10, wdF_0, wdF_1, wdF_2, wdF_3, lsF_0, lsF_1, lsF_2, z_o_i, z_ai_i, z_si_i, z_ab_b, z_ab_z, z_sb_b, z_sb_z, z_al_i, z_al_b, z_pu_s, z_pu_n, nI_toN, z_inN, true_and, and_true, nI_add, pk_mul, vu_eq, vu_ne, nI_leI, nI_ltI, nI_eqI, nI_eq0, ↓ok_0, ↓ok_1, ↓bI_ok, if_true, if_false, nI_lt0, nI_ge0, ne_eq, not_true_eq_false, not_false_eq_true, bI_eq0, bI_ne0, bI_T, bI_F, Bool.false_eq_true, Nat.one_ne_zero, Nat.zero_ne_one, nI_m1, kA, h, k4]
        show X (d + 5) m_X7_rhymeByNumber 0 [some (.ref 3), some (.int (nI a)), some (.int (nI b)), some (.int (nI c)), none, none] [] (GH A P dy) nx 0 0 _
        simp (disch := omega) only [i_X7_rhymeByNumber_0, i_X7_rhymeByNumber_1, i_X7_rhymeByNumber_3, i_X7_rhymeByNumber_4, gh_o3, gh_l4, gh_o6, gh_r7, gh_w7, gh_r29, gh_w29, gf_3_0, gf_3_1, gf_3_2, gf_3_5, gf_6_0, gf_6_1, sgF_0, sgF_1, sgF_2, sgF_5, sgF_6, sgF_7, sgF_9, sgF_10, wdF_0, wdF_1, wdF_2, wdF_3, lsF_0, lsF_1, lsF_2, z_o_i, z_ai_i, z_si_i, z_ab_b, z_ab_z, z_sb_b, z_sb_z, z_al_i, z_al_b, z_pu_s, z_pu_n, nI_toN, z_inN, true_and, and_true, nI_add, pk_mul, vu_eq, vu_ne, nI_leI, nI_ltI, nI_eqI, nI_eq0, ↓ok_0, ↓ok_1, ↓bI_ok, if_true, if_false, nI_lt0, nI_ge0, ne_eq, not_true_eq_false, not_false_eq_true, bI_eq0, bI_ne0, bI_T, bI_F, Bool.false_eq_true, Nat.one_ne_zero, Nat.zero_ne_one, nI_m1]
        have r0 := (rhF_0 (h := fun u => decide (hwq s.1 s.2 a u b ≠ none)) (c := fun u => if b = 4 then (lcq s.1 a u).getD 0 else 0) (fun u => if_neg k4) (s.1 32 1)).2.2 c
        have er : rhF (fun u => decide (hwq s.1 s.2 a u b ≠ none)) (fun u => if b = 4 then (lcq s.1 a u).getD 0 else 0) (s.1 32 1) = rhy s a b := rfl
        rw [er] at r0
        refine l_rbn (A := A) (R := nt (fun u => decide (hwq s.1 s.2 a u b ≠ none)) (s.1 32 1) 0 c) hI h3 h1 (by omega) (fun B U hCB hDB hF => ?_) (s.1 32 1) 0 0 A P (by omega) (by omega) (by omega) hC hD Fz.refl (by rw [Nat.sub_zero])
        rw [← r0]
        simp (disch := omega) only [i_X7_rhymes_38, gh_o3, gh_l4, gh_o6, gh_r7, gh_w7, gh_r29, gh_w29, gf_3_0, gf_3_1, gf_3_2, gf_3_5, gf_6_0, gf_6_1, sgF_0, sgF_1, sgF_2, sgF_5, sgF_6, sgF_7, sgF_9, sgF_10, wdF_0, wdF_1, wdF_2, wdF_3, lsF_0, lsF_1, lsF_2, z_o_i, z_ai_i, z_si_i, z_ab_b, z_ab_z, z_sb_b, z_sb_z, z_al_i, z_al_b, z_pu_s, z_pu_n, nI_toN, z_inN, true_and, and_true, nI_add, pk_mul, vu_eq, vu_ne, nI_leI, nI_ltI, nI_eqI, nI_eq0, ↓ok_0, ↓ok_1, ↓bI_ok, if_true, if_false, nI_lt0, nI_ge0, ne_eq, not_true_eq_false, not_false_eq_true, bI_eq0, bI_ne0, bI_T, bI_F, Bool.false_eq_true, Nat.one_ne_zero, Nat.zero_ne_one, nI_m1]
        have q := hQ B U ⟨hCB, wd, ln, hDB⟩ hF
        by_cases l : c < (rhy s a b).1
        · rw [if_pos l] at q ⊢
          exact q
        · rw [if_neg l] at q ⊢
          exact q
    · rw [if_neg (fun q => hi q.2.2)] at hQ
      rw [iw_0] at hi
      simp (disch := omega) only [i_X7_rhymes_0, i_X7_rhymes_1, i_X7_rhymes_2, i_X7_rhymes_3, i_X7_rhymes_4, i_X7_rhymes_7, i_X7_rhymes_10, i_X7_rhymes_11, i_X7_rhymes_14, i_X7_rhymes_16, gh_o3, gh_l4, gh_o6, gh_r7, gh_w7, gh_r29, gh_w29, gf_3_0, gf_3_1, gf_3_2, gf_3_5, gf_6_0, gf_6_1, sgF_0, sgF_1, sgF_2, sgF_5, sgF_6, sgF_7, sgF_9, sgF_10, wdF_0, wdF_1, wdF_2, wdF_3, lsF_0, lsF_1, lsF_2, z_o_i, z_ai_i, z_si_i, z_ab_b, z_ab_z, z_sb_b, z_sb_z, z_al_i, z_al_b, z_pu_s, z_pu_n, nI_toN, z_inN, true_and, and_true, nI_add, pk_mul, vu_eq, vu_ne, nI_leI, nI_ltI, nI_eqI, nI_eq0, ↓ok_0, ↓ok_1, ↓bI_ok, if_true, if_false, nI_lt0, nI_ge0, ne_eq, not_true_eq_false, not_false_eq_true, bI_eq0, bI_ne0, bI_T, bI_F, Bool.false_eq_true, Nat.one_ne_zero, Nat.zero_ne_one, nI_m1, kA, h, hi]
      exact hQ A P hK' Fz.refl
  · rw [if_neg (fun q => h (ea ▸ ⟨q.1, q.2.1⟩))] at hQ
    simp (disch := omega) only [i_X7_rhymes_0, i_X7_rhymes_1, i_X7_rhymes_2, i_X7_rhymes_3, i_X7_rhymes_4, i_X7_rhymes_7, i_X7_rhymes_14, i_X7_rhymes_16, gh_o3, gh_l4, gh_o6, gh_r7, gh_w7, gh_r29, gh_w29, gf_3_0, gf_3_1, gf_3_2, gf_3_5, gf_6_0, gf_6_1, sgF_0, sgF_1, sgF_2, sgF_5, sgF_6, sgF_7, sgF_9, sgF_10, wdF_0, wdF_1, wdF_2, wdF_3, lsF_0, lsF_1, lsF_2, z_o_i, z_ai_i, z_si_i, z_ab_b, z_ab_z, z_sb_b, z_sb_z, z_al_i, z_al_b, z_pu_s, z_pu_n, nI_toN, z_inN, true_and, and_true, nI_add, pk_mul, vu_eq, vu_ne, nI_leI, nI_ltI, nI_eqI, nI_eq0, ↓ok_0, ↓ok_1, ↓bI_ok, if_true, if_false, nI_lt0, nI_ge0, ne_eq, not_true_eq_false, not_false_eq_true, bI_eq0, bI_ne0, bI_T, bI_F, Bool.false_eq_true, Nat.one_ne_zero, Nat.zero_ne_one, nI_m1, kA, h]
    exact hQ A P hK' Fz.refl
end CRys
