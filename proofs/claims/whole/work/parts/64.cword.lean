/-! THE CLASS: a word and a line are laid -/
/-- the states after some syllables of a saying -/
def csF (mk : Nat → Nat) (marks : Nat) (g : Nat → Nat) (start : Bool) (S : Nat → Nat × Nat) : Nat → Nat → Nat × Nat
  | 0 => S
  | j + 1 => cyq mk marks (g j) (start && decide (j = 0)) (csF mk marks g start S j)
def emS (start : Bool) (marks : Nat) (S : Nat → Nat × Nat) : Nat → Nat × Nat := if start = true then em0 marks S else emb marks S
theorem Zo_csF {mk g : Nat → Nat} {marks : Nat} {start : Bool} {S : Nat → Nat × Nat} (hm : marks ≤ 12) (hZ : Zo marks S) : ∀ j, Zo marks (csF mk marks g start S j) := by
  intro j
  cases j with
  | zero => exact hZ
  | succ j => exact Zo_cyF hm (marks + 1) (Nat.le_refl _)
theorem ws_cs {a : Nat → Nat → Nat} {t : Nat} {start : Bool} {S : Nat → Nat × Nat} (hm : a 32 11 ≤ 12) (hZ : Zo (a 32 11) S) (h0 : start = true → ∀ j, j ≤ 12 → S (13 + j) = (0, 0)) : ∀ i, i ≤ a 35 t → wsF a t (emS start (a 32 11) S) i = if start = true ∧ cv (rs a t) i = 0 then em0 (a 32 11) S else emb (a 32 11) (csF (a 41) (a 32 11) (vrN (rs a t) (ss a t) (a 35 t)) start S (cv (rs a t) i)) := by
  intro i
  induction i with
  | zero =>
    intro _
    by_cases q : start = true
    · rw [if_pos (c := start = true ∧ cv (rs a t) 0 = 0) ⟨q, rfl⟩]
      show emS start (a 32 11) S = em0 (a 32 11) S
      unfold emS
      rw [if_pos q]
    · rw [if_neg (c := start = true ∧ cv (rs a t) 0 = 0) (fun z => q z.1)]
      show emS start (a 32 11) S = emb (a 32 11) S
      unfold emS
      rw [if_neg q]
  | succ i ih =>
    intro hi
    have q := ih (by omega)
    rw [wsF, q]
    by_cases v : a 36 (12 * t + i) < 10
    · have v' : rs a t i < 10 := v
      rw [if_pos v]
      have ev : cv (rs a t) (i + 1) = cv (rs a t) i + 1 := by rw [cv, if_pos v']
      have ea : vrN (rs a t) (ss a t) (a 35 t) (cv (rs a t) i) = a 37 (12 * t + i) := vrN_at v' (a 35 t) (by omega)
      rw [ev, if_neg (c := start = true ∧ cv (rs a t) i + 1 = 0) (by omega), csF, ea]
      by_cases c : start = true ∧ cv (rs a t) i = 0
      · rw [if_pos c, syq_0 hm (h0 c.1), c.2, c.1]
        rfl
      · rw [if_neg c, syq_1 hm (Zo_csF hm hZ _)]
        have f : (start && decide (cv (rs a t) i = 0)) = false := by
          cases start with
          | false => rfl
          | true => simp only [Bool.true_and, decide_eq_false_iff_not]; exact fun z => c ⟨rfl, z⟩
        rw [f]
    · have v' : ¬ rs a t i < 10 := v
      have ev : cv (rs a t) (i + 1) = cv (rs a t) i := by rw [cv, if_neg v', Nat.add_zero]
      rw [if_neg v, ev]
theorem gh_x10 {A : Nat → Nat → Int32} {P : Nat → Nat → Nat} {dy : z_H} {a : Nat → Int32} {p : Nat → Nat} (h : P 10 = p) : va_up (GH A P dy) 10 (.inr (.inl (4, oF10 a p))) = GH (va_up A 10 a) P dy := by
  rw [← h]; exact gh_u10
/-- what the scansion may change -/
def Fla (A C : Nat → Nat → Int32) (P R : Nat → Nat → Nat) : Prop := (∀ k, k ≠ 10 → (k < 13 ∨ 23 < k) → C k = A k) ∧ C 10 0 = A 10 0 ∧ ∀ k, k ≠ 10 → R k = P k
theorem Fla.refl {A : Nat → Nat → Int32} {P : Nat → Nat → Nat} : Fla A A P P := ⟨fun _ _ _ => rfl, rfl, fun _ _ => rfl⟩
theorem Fla.trans {A B C : Nat → Nat → Int32} {P R T : Nat → Nat → Nat} (h : Fla A B P R) (g : Fla B C R T) : Fla A C P T := ⟨fun k h1 h2 => (g.1 k h1 h2).trans (h.1 k h1 h2), g.2.1.trans h.2.1, fun k h1 => (g.2.2 k h1).trans (h.2.2 k h1)⟩
theorem Fla.ly {A C : Nat → Nat → Int32} {P R : Nat → Nat → Nat} {mk : Nat → Nat} {marks : Nat} (h : Fla A C P R) (g : Ly A mk marks) : Ly C mk marks := ⟨by rw [h.2.1]; exact g.1, by rw [h.1 11 (by omega) (by omega)]; exact g.2⟩
theorem Fla.rc {s : z_S} {A C : Nat → Nat → Int32} {P R : Nat → Nat → Nat} (h : Fla A C P R) (hp : Pm R) (hC : Rc s A P) : Rc s C R := by
  obtain ⟨h1, h2, h3, h4, h5⟩ := hC
  refine ⟨?_, ?_, ?_, hp.1, hp.2⟩
  · rw [h.1 7 (by omega) (by omega), h.1 6 (by omega) (by omega), h.2.1, h.1 11 (by omega) (by omega)]; exact h1
  · rw [h.1 24 (by omega) (by omega), h.1 25 (by omega) (by omega), h.1 26 (by omega) (by omega), h.1 27 (by omega) (by omega)]; exact h2
  · rw [h.2.2 6 (by omega)]; exact h3
theorem Fla.rd {s : z_S} {A C : Nat → Nat → Int32} {P R : Nat → Nat → Nat} {dy : z_H} {nx : Nat} {wd ln : Nat → Nat} (h : Fla A C P R) (hD : Rd s A P dy nx wd ln) : Rd s C R dy nx wd ln := hD.of (by rw [h.1 4 (by omega) (by omega)]) (by rw [h.1 5 (by omega) (by omega)]) (by rw [h.2.2 4 (by omega)]) (by rw [h.2.2 5 (by omega)])
theorem Fla.fz {A C : Nat → Nat → Int32} {P R : Nat → Nat → Nat} (h : Fla A C P R) : Fz A C := fun k hk => h.1 k (by omega) (by omega)
/-- while a word is laid: the reached stage stays -/
def Fwo (r : Nat) (A C : Nat → Nat → Int32) : Prop := ∀ k, k < 13 ∨ 23 < k ∨ k = r + 1 ∨ k = r + 2 → C k = A k
theorem Fwo.trans {r : Nat} {A B C : Nat → Nat → Int32} (h : Fwo r A B) (g : Fwo r B C) : Fwo r A C := fun k hk => (g k hk).trans (h k hk)
theorem Fg1.wo {x r : Nat} {A B : Nat → Nat → Int32} (h : Fg1 x A B) (hx : Sx x) (hr : Sx r) (hxr : x ≠ r) : Fwo r A B := fun k hk => h k (by unfold Sx at hx hr; omega) (by unfold Sx at hx hr; omega)
section CWrd
variable {s : z_S} {A : Nat → Nat → Int32} {P : Nat → Nat → Nat} {dy : z_H} {d nx nz bc bs : Nat} {Q : z_Q} {ρ : Nat → Nat} {wd ln : Nat → Nat} {b : Nat} {S : Nat → Nat × Nat} {start : Bool}
theorem l_sy {t q pw k : Nat} {x2 : Option Value} (hI : Iv s) (hP : Pm P) (hL : Ly A (s.1 41) (s.1 32 11)) (h10 : A 10 2 = bI (start = true)) (S0 : Sg dy nz ρ q (s.1 35 t) (rs s.1 t) (ss s.1 t)) (hb : b + 36 ≤ 1900)
    (hQ : ∀ C R, Fwo (P 10 3) A C → C (P 10 4 + 1) = A (P 10 4 + 1) → C (P 10 4 + 2) = A (P 10 4 + 2) → R 10 3 = P 10 3 → R 10 4 = P 10 4 → Pm R → (∀ k, k ≠ 10 → R k = P k) → Rs 1000000 (b + 36) 27 (csF (s.1 41) (s.1 32 11) (vrN (rs s.1 t) (ss s.1 t) (s.1 35 t)) start S (cv (rs s.1 t) (s.1 35 t))) (C (R 10 5 + 1)) (C (R 10 5 + 2)) → X (d + 2) m_X4_layWord 89 [some (.ref 10), some (.ref pw), x2, some (.ref q), some (.int (nI (cv (rs s.1 t) (s.1 35 t))))] [] (GH C R dy) nx bc bs Q) :
    ∀ (r j : Nat) (C : Nat → Nat → Int32) (R : Nat → Nat → Nat), j + r = cv (rs s.1 t) (s.1 35 t) → Fwo (P 10 3) A C → C (P 10 4 + 1) = A (P 10 4 + 1) → C (P 10 4 + 2) = A (P 10 4 + 2) → R 10 3 = P 10 3 → R 10 4 = P 10 4 → Pm R → (∀ k, k ≠ 10 → R k = P k) → Rs 1000000 (b + 3 * j) 27 (csF (s.1 41) (s.1 32 11) (vrN (rs s.1 t) (ss s.1 t) (s.1 35 t)) start S j) (C (R 10 5 + 1)) (C (R 10 5 + 2)) → X (d + 2) m_X4_layWord 46 [some (.ref 10), some (.ref pw), x2, some (.ref q), some (.int (nI j))] [] (GH C R dy) nx bc bs Q := by
  have sc := hI.sc
  have cl := cv_le (f := rs s.1 t) (s.1 35 t)
  have b35 := hI.b35 t
  intro r
  induction r with
  | zero =>
    intro j C R hj hF m1 m2 e3 e4 hR hk hr
    have e : j = cv (rs s.1 t) (s.1 35 t) := by omega
    subst e
    obtain ⟨so, vo, st, F, h1, h2, h3, h4, h5⟩ := S0.q (A := C) (P := R)
    simp (disch := omega) only [i_X4_layWord_46, i_X4_layWord_48, i_X4_layWord_49, i_X4_layWord_52, gh_o3, gh_o10, gh_r11, gf_3_3, gf_10_0, gf_10_1, gf_10_2, gf_10_3, gf_10_4, gf_10_5, gf_10_6, gp_10_2, gp_10_3, gp_10_4, gp_10_5, gp_10_6, gh_u10, gh_v10, stF_0, stF_1, sgF_2, sgF_4, wdF_1, lnF_0, lnF_1, lsF_1, lsF_2, z_o_i, z_ai_i, z_si_i, z_ab_b, z_ab_z, z_sb_b, z_sb_z, z_al_i, z_al_b, z_pu_s, z_pu_n, nI_toN, z_inN, true_and, and_true, nI_add, pk_mul, vu_eq, vu_ne, nI_leI, nI_ltI, nI_eqI, nI_eq0, nI_le0, ↓ok_0, ↓ok_1, ↓bI_ok, if_true, if_false, nI_lt0, nI_ge0, ne_eq, not_true_eq_false, not_false_eq_true, bI_eq0, bI_ne0, bI_T, bI_F, Bool.false_eq_true, Nat.one_ne_zero, Nat.zero_ne_one, Nat.zero_add, z_fit0, z_fit1, nI_m1, h1, Nat.le_refl]
    exact hQ C R hF m1 m2 e3 e4 hR hk (hr.b (by omega))
  | succ r ih =>
    intro j C R hj hF m1 m2 e3 e4 hR hk hr
    have lj : j < cv (rs s.1 t) (s.1 35 t) := by omega
    have le : ¬ cv (rs s.1 t) (s.1 35 t) ≤ j := by omega
    obtain ⟨so, vo, st, F, h1, h2, h3, h4, h5⟩ := S0.q (A := C) (P := R)
    have w5 : vr (rs s.1 t) (ss s.1 t) (s.1 35 t) j = nI (vrN (rs s.1 t) (ss s.1 t) (s.1 35 t) j) := vr_N _ _
    have bst : vrN (rs s.1 t) (ss s.1 t) (s.1 35 t) j < 3 := vrN_lt (by omega) (fun i => Nat.lt_succ_of_le (hI.b37 _)) _ _
    have c10 : C 10 2 = bI (start = true) := by rw [hF 10 (by omega)]; exact h10
    have hLC : Ly C (s.1 41) (s.1 32 11) := ⟨by rw [hF 10 (by omega)]; exact hL.1, by rw [hF 11 (by omega)]; exact hL.2⟩
    obtain ⟨⟨x3, x4, x5, x6⟩, n34, n35, n36, n45, n46, n56⟩ := hR
    have go : ∀ v : Int32, v = bI ((start && decide (j = 0)) = true) → XC (d + 1) m_X4_laySyllable [.ref 10, .int (nI (vrN (rs s.1 t) (ss s.1 t) (s.1 35 t) j)), .int v] (GH C R dy) nx (fun r h' nx' => X (d + 1 + 1) m_X4_layWord 83 [some (.ref 10), some (.ref pw), x2, some (.ref q), some (.int (nI j))] (z_pu r []) h' nx' bc bs Q) := by
      intro v hv
      rw [hv]
      refine k_syl (P := R) (x := R 10 5) (y := R 10 6) rfl rfl x5 x6 n56 sc.2.2.2.1 hI.b41 (by omega) (by omega) hLC hr (fun D T hD t3 t4 t5 t6 tk rD => ?_)
      simp (disch := omega) only [i_X4_layWord_83, i_X4_layWord_86, gh_o3, gh_o10, gh_r11, gf_3_3, gf_10_0, gf_10_1, gf_10_2, gf_10_3, gf_10_4, gf_10_5, gf_10_6, gp_10_2, gp_10_3, gp_10_4, gp_10_5, gp_10_6, gh_u10, gh_v10, stF_0, stF_1, sgF_2, sgF_4, wdF_1, lnF_0, lnF_1, lsF_1, lsF_2, z_o_i, z_ai_i, z_si_i, z_ab_b, z_ab_z, z_sb_b, z_sb_z, z_al_i, z_al_b, z_pu_s, z_pu_n, nI_toN, z_inN, true_and, and_true, nI_add, pk_mul, vu_eq, vu_ne, nI_leI, nI_ltI, nI_eqI, nI_eq0, nI_le0, ↓ok_0, ↓ok_1, ↓bI_ok, if_true, if_false, nI_lt0, nI_ge0, ne_eq, not_true_eq_false, not_false_eq_true, bI_eq0, bI_ne0, bI_T, bI_F, Bool.false_eq_true, Nat.one_ne_zero, Nat.zero_ne_one, Nat.zero_add, z_fit0, z_fit1, nI_m1]
      have n43 := Sx.ne x4 x6 n46
      refine ih (j + 1) D T (by omega) (hF.trans (by rw [← e3]; exact hD.wo x6 x3 (fun z => n36 z.symm))) (by rw [hD _ (by rw [← e4]; exact n43.1) (by rw [← e4]; exact n43.2.1)]; exact m1) (by rw [hD _ (by rw [← e4]; exact n43.2.2.1) (by rw [← e4]; exact n43.2.2.2)]; exact m2) (t3.trans e3) (t4.trans e4) ⟨⟨by rw [t3]; exact x3, by rw [t4]; exact x4, by rw [t5]; exact x6, by rw [t6]; exact x5⟩, by rw [t3, t4]; exact n34, by rw [t3, t5]; exact n36, by rw [t3, t6]; exact n35, by rw [t4, t5]; exact n46, by rw [t4, t6]; exact n45, by rw [t5, t6]; exact fun z => n56 z.symm⟩ (fun k hk2 => (tk k hk2).trans (hk k hk2)) ?_
      rw [t5, show b + 3 * (j + 1) = b + 3 * j + 3 by omega]
      exact rD
    rw [i_X4_layWord_46]
    by_cases s1 : start = true
    · by_cases j0 : j = 0
      · subst j0
        simp (disch := omega) only [i_X4_layWord_48, i_X4_layWord_49, i_X4_layWord_52, i_X4_layWord_55, i_X4_layWord_56, i_X4_layWord_57, i_X4_layWord_60, i_X4_layWord_62, i_X4_layWord_63, i_X4_layWord_64, i_X4_layWord_67, i_X4_layWord_70, i_X4_layWord_72, i_X4_layWord_75, i_X4_layWord_76, i_X4_layWord_79, i_X4_layWord_80, gh_o3, gh_o10, gh_r11, gf_3_3, gf_10_0, gf_10_1, gf_10_2, gf_10_3, gf_10_4, gf_10_5, gf_10_6, gp_10_2, gp_10_3, gp_10_4, gp_10_5, gp_10_6, gh_u10, gh_v10, stF_0, stF_1, sgF_2, sgF_4, wdF_1, lnF_0, lnF_1, lsF_1, lsF_2, z_o_i, z_ai_i, z_si_i, z_ab_b, z_ab_z, z_sb_b, z_sb_z, z_al_i, z_al_b, z_pu_s, z_pu_n, nI_toN, z_inN, true_and, and_true, nI_add, pk_mul, vu_eq, vu_ne, nI_leI, nI_ltI, nI_eqI, nI_eq0, nI_le0, ↓ok_0, ↓ok_1, ↓bI_ok, if_true, if_false, nI_lt0, nI_ge0, ne_eq, not_true_eq_false, not_false_eq_true, bI_eq0, bI_ne0, bI_T, bI_F, Bool.false_eq_true, Nat.one_ne_zero, Nat.zero_ne_one, Nat.zero_add, z_fit0, z_fit1, nI_m1, h1, h5, w5, le, c10, s1]
        exact go _ (by rw [s1]; rfl)
      · simp (disch := omega) only [i_X4_layWord_48, i_X4_layWord_49, i_X4_layWord_52, i_X4_layWord_55, i_X4_layWord_56, i_X4_layWord_57, i_X4_layWord_60, i_X4_layWord_62, i_X4_layWord_63, i_X4_layWord_64, i_X4_layWord_67, i_X4_layWord_70, i_X4_layWord_72, i_X4_layWord_75, i_X4_layWord_76, i_X4_layWord_79, i_X4_layWord_80, gh_o3, gh_o10, gh_r11, gf_3_3, gf_10_0, gf_10_1, gf_10_2, gf_10_3, gf_10_4, gf_10_5, gf_10_6, gp_10_2, gp_10_3, gp_10_4, gp_10_5, gp_10_6, gh_u10, gh_v10, stF_0, stF_1, sgF_2, sgF_4, wdF_1, lnF_0, lnF_1, lsF_1, lsF_2, z_o_i, z_ai_i, z_si_i, z_ab_b, z_ab_z, z_sb_b, z_sb_z, z_al_i, z_al_b, z_pu_s, z_pu_n, nI_toN, z_inN, true_and, and_true, nI_add, pk_mul, vu_eq, vu_ne, nI_leI, nI_ltI, nI_eqI, nI_eq0, nI_le0, ↓ok_0, ↓ok_1, ↓bI_ok, if_true, if_false, nI_lt0, nI_ge0, ne_eq, not_true_eq_false, not_false_eq_true, bI_eq0, bI_ne0, bI_T, bI_F, Bool.false_eq_true, Nat.one_ne_zero, Nat.zero_ne_one, Nat.zero_add, z_fit0, z_fit1, nI_m1, h1, h5, w5, le, c10, s1, j0]
        exact go _ (by rw [bI_f]; simp [j0])
    · simp (disch := omega) only [i_X4_layWord_48, i_X4_layWord_49, i_X4_layWord_52, i_X4_layWord_55, i_X4_layWord_56, i_X4_layWord_57, i_X4_layWord_60, i_X4_layWord_62, i_X4_layWord_63, i_X4_layWord_64, i_X4_layWord_67, i_X4_layWord_70, i_X4_layWord_72, i_X4_layWord_75, i_X4_layWord_76, i_X4_layWord_79, i_X4_layWord_80, gh_o3, gh_o10, gh_r11, gf_3_3, gf_10_0, gf_10_1, gf_10_2, gf_10_3, gf_10_4, gf_10_5, gf_10_6, gp_10_2, gp_10_3, gp_10_4, gp_10_5, gp_10_6, gh_u10, gh_v10, stF_0, stF_1, sgF_2, sgF_4, wdF_1, lnF_0, lnF_1, lsF_1, lsF_2, z_o_i, z_ai_i, z_si_i, z_ab_b, z_ab_z, z_sb_b, z_sb_z, z_al_i, z_al_b, z_pu_s, z_pu_n, nI_toN, z_inN, true_and, and_true, nI_add, pk_mul, vu_eq, vu_ne, nI_leI, nI_ltI, nI_eqI, nI_eq0, nI_le0, ↓ok_0, ↓ok_1, ↓bI_ok, if_true, if_false, nI_lt0, nI_ge0, ne_eq, not_true_eq_false, not_false_eq_true, bI_eq0, bI_ne0, bI_T, bI_F, Bool.false_eq_true, Nat.one_ne_zero, Nat.zero_ne_one, Nat.zero_add, z_fit0, z_fit1, nI_m1, h1, h5, w5, le, c10, s1]
      exact go _ (by rw [bI_f]; simp [s1])
theorem l_sq {w pw : Nat} {τ : Nat → Nat × Nat} (hI : Iv s) (hP : Pm P) (hL : Ly A (s.1 41) (s.1 32 11)) (h10 : A 10 2 = bI (start = true)) (W : Wq s dy nz ρ w pw) (hw : w < s.1 32 1) (hb : b + 36 ≤ 1900) (hZ : Zo (s.1 32 11) S) (h0 : start = true → ∀ j, j ≤ 12 → S (13 + j) = (0, 0)) (hτ : τ = emS start (s.1 32 11) S) (hS : Rs 1000000 b 27 S (A (P 10 3 + 1)) (A (P 10 3 + 2)))
    (hQ : ∀ C R U x3 x4, Fwo (P 10 3) A C → R 10 3 = P 10 3 → R 10 4 = P 10 4 → Pm R → (∀ k, k ≠ 10 → R k = P k) → Rs 1000000 (b + 36) 27 U (C (P 10 4 + 1)) (C (P 10 4 + 2)) → woq s.1 w τ = emb (s.1 32 11) U → Zo (s.1 32 11) U → X (d + 3) m_X4_layWord 106 [some (.ref 10), some (.ref pw), some (.int (nI (s.1 34 w))), x3, x4] [] (GH C R dy) nx bc bs Q) :
    ∀ (r q : Nat) (C : Nat → Nat → Int32) (R : Nat → Nat → Nat) (U : Nat → Nat × Nat) (x3 x4 : Option Value), q + r = s.1 34 w → Fwo (P 10 3) A C → R 10 3 = P 10 3 → R 10 4 = P 10 4 → Pm R → (∀ k, k ≠ 10 → R k = P k) → Rs 1000000 (b + 36) 27 U (C (P 10 4 + 1)) (C (P 10 4 + 2)) → woF s.1 w τ q = emb (s.1 32 11) U → Zo (s.1 32 11) U → X (d + 3) m_X4_layWord 9 [some (.ref 10), some (.ref pw), some (.int (nI q)), x3, x4] [] (GH C R dy) nx bc bs Q := by
  have sc := hI.sc
  obtain ⟨l, bb, e, c, mm, g, K, w1, w2, w3, w4, w5, w6, w7, w8⟩ := W
  have b34 := hI.b34 w
  intro r
  induction r with
  | zero =>
    intro q C R U x3 x4 hq hF e3 e4 hR hk hr hU hZU
    have eq : q = s.1 34 w := by omega
    subst eq
    have cs : ∀ {d nx : Nat} {Q : z_Q}, XC d m_Jx4a65c_size_8abf5 [.ref l] (GH C R dy) nx Q = Q (some (.int (nI (s.1 34 w)))) (GH C R dy) nx := c_size w2
    simp (disch := omega) only [i_X4_layWord_9, i_X4_layWord_10, i_X4_layWord_11, i_X4_layWord_14, i_X4_layWord_17, gh_o3, gh_o10, gh_r11, gf_3_3, gf_10_0, gf_10_1, gf_10_2, gf_10_3, gf_10_4, gf_10_5, gf_10_6, gp_10_2, gp_10_3, gp_10_4, gp_10_5, gp_10_6, gh_u10, gh_v10, stF_0, stF_1, sgF_2, sgF_4, wdF_1, lnF_0, lnF_1, lsF_1, lsF_2, z_o_i, z_ai_i, z_si_i, z_ab_b, z_ab_z, z_sb_b, z_sb_z, z_al_i, z_al_b, z_pu_s, z_pu_n, nI_toN, z_inN, true_and, and_true, nI_add, pk_mul, vu_eq, vu_ne, nI_leI, nI_ltI, nI_eqI, nI_eq0, nI_le0, ↓ok_0, ↓ok_1, ↓bI_ok, if_true, if_false, nI_lt0, nI_ge0, ne_eq, not_true_eq_false, not_false_eq_true, bI_eq0, bI_ne0, bI_T, bI_F, Bool.false_eq_true, Nat.one_ne_zero, Nat.zero_ne_one, Nat.zero_add, z_fit0, z_fit1, nI_m1, w1, w2, cs, Nat.le_refl]
    exact hQ C R U x3 x4 hF e3 e4 hR hk hr hU hZU
  | succ r ih =>
    intro q C R U x3 x4 hq hF e3 e4 hR hk hr hU hZU
    have le : ¬ s.1 34 w ≤ q := by omega
    have cs : ∀ {d nx : Nat} {Q : z_Q}, XC d m_Jx4a65c_size_8abf5 [.ref l] (GH C R dy) nx Q = Q (some (.int (nI (s.1 34 w)))) (GH C R dy) nx := c_size w2
    obtain ⟨q0, a0, S0⟩ := w8 q (by omega)
    have cg : ∀ {d nx : Nat} {Q : z_Q}, XC (d + 2) m_Jx4a65c_get_915e3 [.ref l, .int (nI q)] (GH C R dy) nx Q = Q (some (.ref q0)) (GH C R dy) nx := c_get w2 w3 (by omega) w6 (by omega) a0
    obtain ⟨_, _, _, r0⟩ := S0.rd (A := C) (P := R) hI
    have hR' := hR
    obtain ⟨⟨x3', x4', x5', x6'⟩, n34, n35, n36, n45, n46, n56⟩ := hR
    have gc : ∀ {A : Nat → Nat → Int32} {P : Nat → Nat → Nat}, GH A P dy (R 10 5) = .inr (.inl (5, stF (R 10 5))) := gh_st x5'
    rw [i_X4_layWord_9]
    simp (disch := omega) only [i_X4_layWord_10, i_X4_layWord_11, i_X4_layWord_14, i_X4_layWord_17, i_X4_layWord_20, i_X4_layWord_21, i_X4_layWord_24, i_X4_layWord_25, i_X4_layWord_28, i_X4_layWord_31, i_X4_layWord_32, i_X4_layWord_33, i_X4_layWord_36, i_X4_layWord_37, i_X4_layWord_40, gh_o3, gh_o10, gh_r11, gf_3_3, gf_10_0, gf_10_1, gf_10_2, gf_10_3, gf_10_4, gf_10_5, gf_10_6, gp_10_2, gp_10_3, gp_10_4, gp_10_5, gp_10_6, gh_u10, gh_v10, stF_0, stF_1, sgF_2, sgF_4, wdF_1, lnF_0, lnF_1, lsF_1, lsF_2, z_o_i, z_ai_i, z_si_i, z_ab_b, z_ab_z, z_sb_b, z_sb_z, z_al_i, z_al_b, z_pu_s, z_pu_n, nI_toN, z_inN, true_and, and_true, nI_add, pk_mul, vu_eq, vu_ne, nI_leI, nI_ltI, nI_eqI, nI_eq0, nI_le0, ↓ok_0, ↓ok_1, ↓bI_ok, if_true, if_false, nI_lt0, nI_ge0, ne_eq, not_true_eq_false, not_false_eq_true, bI_eq0, bI_ne0, bI_T, bI_F, Bool.false_eq_true, Nat.one_ne_zero, Nat.zero_ne_one, Nat.zero_add, z_fit0, z_fit1, nI_m1, w1, w2, cs, cg, r0, le, gc]
    have hSC : Rs 1000000 b 27 S (C (R 10 3 + 1)) (C (R 10 3 + 2)) := by
      rw [e3, hF _ (Or.inr (Or.inr (Or.inl rfl))), hF _ (Or.inr (Or.inr (Or.inr rfl)))]
      exact hS
    refine k_becomes x5' x3' (fun z => n35 z.symm) hSC (fun D hD rD => ?_)
    simp (disch := omega) only [i_X4_layWord_43, i_X4_layWord_44, gh_o3, gh_o10, gh_r11, gf_3_3, gf_10_0, gf_10_1, gf_10_2, gf_10_3, gf_10_4, gf_10_5, gf_10_6, gp_10_2, gp_10_3, gp_10_4, gp_10_5, gp_10_6, gh_u10, gh_v10, stF_0, stF_1, sgF_2, sgF_4, wdF_1, lnF_0, lnF_1, lsF_1, lsF_2, z_o_i, z_ai_i, z_si_i, z_ab_b, z_ab_z, z_sb_b, z_sb_z, z_al_i, z_al_b, z_pu_s, z_pu_n, nI_toN, z_inN, true_and, and_true, nI_add, pk_mul, vu_eq, vu_ne, nI_leI, nI_ltI, nI_eqI, nI_eq0, nI_le0, ↓ok_0, ↓ok_1, ↓bI_ok, if_true, if_false, nI_lt0, nI_ge0, ne_eq, not_true_eq_false, not_false_eq_true, bI_eq0, bI_ne0, bI_T, bI_F, Bool.false_eq_true, Nat.one_ne_zero, Nat.zero_ne_one, Nat.zero_add, z_fit0, z_fit1, nI_m1]
    have hFD : Fwo (P 10 3) A D := hF.trans (by rw [← e3]; exact hD.wo x5' x3' (fun z => n35 z.symm))
    have n5 := Sx.ne x4' x5' n45
    have d1 : D (R 10 4 + 1) = C (R 10 4 + 1) := hD _ n5.1 n5.2.1
    have d2 : D (R 10 4 + 2) = C (R 10 4 + 2) := hD _ n5.2.2.1 n5.2.2.2
    have ge := hI.gd hw (show q < s.1 34 w by omega)
    have c10 : D 10 2 = bI (start = true) := by rw [hFD 10 (by omega)]; exact h10
    have hLD : Ly D (s.1 41) (s.1 32 11) := ⟨by rw [hFD 10 (by omega)]; exact hL.1, by rw [hFD 11 (by omega)]; exact hL.2⟩
    refine l_sy (A := D) (P := R) (S := S) (start := start) (t := 3 * w + q) (d := d + 1) (k := 0) hI hR' hLD c10 S0 hb (fun E T hE m1 m2 t3 t4 hT hk2 rE => ?_) (cv (rs s.1 (3 * w + q)) (s.1 35 (3 * w + q))) 0 D R (by omega) (fun _ _ => rfl) rfl rfl rfl rfl hR' (fun _ _ => rfl) rD
    have hT' := hT
    obtain ⟨⟨y3, y4, y5, y6⟩, o34, o35, o36, o45, o46, o56⟩ := hT
    have gm : ∀ {A : Nat → Nat → Int32} {P : Nat → Nat → Nat}, GH A P dy (T 10 4) = .inr (.inl (5, stF (T 10 4))) := gh_st y4
    simp (disch := omega) only [i_X4_layWord_89, i_X4_layWord_90, i_X4_layWord_93, i_X4_layWord_94, i_X4_layWord_97, gh_o3, gh_o10, gh_r11, gf_3_3, gf_10_0, gf_10_1, gf_10_2, gf_10_3, gf_10_4, gf_10_5, gf_10_6, gp_10_2, gp_10_3, gp_10_4, gp_10_5, gp_10_6, gh_u10, gh_v10, stF_0, stF_1, sgF_2, sgF_4, wdF_1, lnF_0, lnF_1, lsF_1, lsF_2, z_o_i, z_ai_i, z_si_i, z_ab_b, z_ab_z, z_sb_b, z_sb_z, z_al_i, z_al_b, z_pu_s, z_pu_n, nI_toN, z_inN, true_and, and_true, nI_add, pk_mul, vu_eq, vu_ne, nI_leI, nI_ltI, nI_eqI, nI_eq0, nI_le0, ↓ok_0, ↓ok_1, ↓bI_ok, if_true, if_false, nI_lt0, nI_ge0, ne_eq, not_true_eq_false, not_false_eq_true, bI_eq0, bI_ne0, bI_T, bI_F, Bool.false_eq_true, Nat.one_ne_zero, Nat.zero_ne_one, Nat.zero_add, z_fit0, z_fit1, nI_m1, gm]
    have rM : Rs 1000000 (b + 36) 27 U (E (T 10 4 + 1)) (E (T 10 4 + 2)) := by
      rw [t4, m1, m2, d1, d2, e4]
      exact hr
    refine k_takeAll y4 y5 o45 (by omega) rM rE (fun G hG rG => ?_)
    simp (disch := omega) only [i_X4_layWord_100, i_X4_layWord_103, gh_o3, gh_o10, gh_r11, gf_3_3, gf_10_0, gf_10_1, gf_10_2, gf_10_3, gf_10_4, gf_10_5, gf_10_6, gp_10_2, gp_10_3, gp_10_4, gp_10_5, gp_10_6, gh_u10, gh_v10, stF_0, stF_1, sgF_2, sgF_4, wdF_1, lnF_0, lnF_1, lsF_1, lsF_2, z_o_i, z_ai_i, z_si_i, z_ab_b, z_ab_z, z_sb_b, z_sb_z, z_al_i, z_al_b, z_pu_s, z_pu_n, nI_toN, z_inN, true_and, and_true, nI_add, pk_mul, vu_eq, vu_ne, nI_leI, nI_ltI, nI_eqI, nI_eq0, nI_le0, ↓ok_0, ↓ok_1, ↓bI_ok, if_true, if_false, nI_lt0, nI_ge0, ne_eq, not_true_eq_false, not_false_eq_true, bI_eq0, bI_ne0, bI_T, bI_F, Bool.false_eq_true, Nat.one_ne_zero, Nat.zero_ne_one, Nat.zero_add, z_fit0, z_fit1, nI_m1]
    have hFG : Fwo (P 10 3) A G := (hFD.trans (by rw [← e3]; exact hE)).trans (by rw [← e3, ← t3]; exact hG.wo y4 y3 (fun z => o34 z.symm))
    have t4' : T 10 4 = P 10 4 := t4.trans e4
    rw [t4'] at rG
    have cvp : 1 ≤ cv (rs s.1 (3 * w + q)) (s.1 35 (3 * w + q)) := by
      obtain ⟨i, i1, i2⟩ := ge
      have := cv_lt (f := rs s.1 (3 * w + q)) i1 i2
      omega
    have ws := ws_cs (t := 3 * w + q) (start := start) sc.2.2.2.1 hZ h0 (s.1 35 (3 * w + q)) (Nat.le_refl _)
    rw [if_neg (by omega)] at ws
    refine ih (q + 1) G T _ _ _ (by omega) hFG (t3.trans e3) t4' hT' (fun k hk3 => (hk2 k hk3).trans (hk k hk3)) rG ?_ (Zo_jn hZU (Zo_csF sc.2.2.2.1 hZ _))
    rw [woF, hU, hτ, ws, jn_emb sc.2.2.2.1]
theorem k_word {w pw : Nat} {τ : Nat → Nat × Nat} (hI : Iv s) (hP : Pm P) (hL : Ly A (s.1 41) (s.1 32 11)) (h10 : A 10 2 = bI (start = true)) (W : Wq s dy nz ρ w pw) (hw : w < s.1 32 1) (hb : b + 36 ≤ 1900) (hZ : Zo (s.1 32 11) S) (h0 : start = true → ∀ j, j ≤ 12 → S (13 + j) = (0, 0)) (hτ : τ = emS start (s.1 32 11) S) (hS : Rs 1000000 b 27 S (A (P 10 3 + 1)) (A (P 10 3 + 2)))
    (hQ : ∀ C R U, Fla A C P R → Pm R → C 10 2 = bI (false = true) → Rs 1000000 (b + 36) 27 U (C (R 10 3 + 1)) (C (R 10 3 + 2)) → woq s.1 w τ = emS false (s.1 32 11) U → Zo (s.1 32 11) U → Q none (GH C R dy) nx) : XC (d + 3) m_X4_layWord [.ref 10, .ref pw] (GH A P dy) nx Q := by
  show X (d + 3) m_X4_layWord 0 [some (.ref 10), some (.ref pw), none, none, none] [] (GH A P dy) nx 0 0 Q
  have hP' := hP
  obtain ⟨⟨x3, x4, x5, x6⟩, n34, n35, n36, n45, n46, n56⟩ := hP
  have gm : ∀ {A : Nat → Nat → Int32} {P' : Nat → Nat → Nat}, GH A P' dy (P 10 4) = .inr (.inl (5, stF (P 10 4))) := gh_st x4
  simp (disch := omega) only [i_X4_layWord_0, i_X4_layWord_1, i_X4_layWord_4, gh_o3, gh_o10, gh_r11, gf_3_3, gf_10_0, gf_10_1, gf_10_2, gf_10_3, gf_10_4, gf_10_5, gf_10_6, gp_10_2, gp_10_3, gp_10_4, gp_10_5, gp_10_6, gh_u10, gh_v10, stF_0, stF_1, sgF_2, sgF_4, wdF_1, lnF_0, lnF_1, lsF_1, lsF_2, z_o_i, z_ai_i, z_si_i, z_ab_b, z_ab_z, z_sb_b, z_sb_z, z_al_i, z_al_b, z_pu_s, z_pu_n, nI_toN, z_inN, true_and, and_true, nI_add, pk_mul, vu_eq, vu_ne, nI_leI, nI_ltI, nI_eqI, nI_eq0, nI_le0, ↓ok_0, ↓ok_1, ↓bI_ok, if_true, if_false, nI_lt0, nI_ge0, ne_eq, not_true_eq_false, not_false_eq_true, bI_eq0, bI_ne0, bI_T, bI_F, Bool.false_eq_true, Nat.one_ne_zero, Nat.zero_ne_one, Nat.zero_add, z_fit0, z_fit1, nI_m1, gm]
  refine k_empty x4 (fun C hC rC => ?_)
  simp (disch := omega) only [i_X4_layWord_7, i_X4_layWord_8, gh_o3, gh_o10, gh_r11, gf_3_3, gf_10_0, gf_10_1, gf_10_2, gf_10_3, gf_10_4, gf_10_5, gf_10_6, gp_10_2, gp_10_3, gp_10_4, gp_10_5, gp_10_6, gh_u10, gh_v10, stF_0, stF_1, sgF_2, sgF_4, wdF_1, lnF_0, lnF_1, lsF_1, lsF_2, z_o_i, z_ai_i, z_si_i, z_ab_b, z_ab_z, z_sb_b, z_sb_z, z_al_i, z_al_b, z_pu_s, z_pu_n, nI_toN, z_inN, true_and, and_true, nI_add, pk_mul, vu_eq, vu_ne, nI_leI, nI_ltI, nI_eqI, nI_eq0, nI_le0, ↓ok_0, ↓ok_1, ↓bI_ok, if_true, if_false, nI_lt0, nI_ge0, ne_eq, not_true_eq_false, not_false_eq_true, bI_eq0, bI_ne0, bI_T, bI_F, Bool.false_eq_true, Nat.one_ne_zero, Nat.zero_ne_one, Nat.zero_add, z_fit0, z_fit1, nI_m1]
  refine l_sq (A := A) (P := P) (S := S) (start := start) (b := b) hI hP' hL h10 W hw hb hZ h0 hτ hS (fun D R U y3 y4 hD e3 e4 hR hk rD hU hZU => ?_) (s.1 34 w) 0 C P (fun _ => (0, 0)) none none (by omega) (hC.wo x4 x3 (fun z => n34 z.symm)) rfl rfl hP' (fun _ _ => rfl) (rC.b (by omega)) (by rw [emb_0]; rfl) ⟨fun _ _ _ => rfl, fun _ _ _ => rfl⟩
  simp (disch := omega) only [i_X4_layWord_106, i_X4_layWord_107, i_X4_layWord_110, i_X4_layWord_111, i_X4_layWord_112, i_X4_layWord_113, i_X4_layWord_116, i_X4_layWord_119, i_X4_layWord_120, i_X4_layWord_121, i_X4_layWord_124, i_X4_layWord_125, i_X4_layWord_126, i_X4_layWord_129, gh_o3, gh_o10, gh_r11, gf_3_3, gf_10_0, gf_10_1, gf_10_2, gf_10_3, gf_10_4, gf_10_5, gf_10_6, gp_10_2, gp_10_3, gp_10_4, gp_10_5, gp_10_6, gh_u10, gh_v10, stF_0, stF_1, sgF_2, sgF_4, wdF_1, lnF_0, lnF_1, lsF_1, lsF_2, z_o_i, z_ai_i, z_si_i, z_ab_b, z_ab_z, z_sb_b, z_sb_z, z_al_i, z_al_b, z_pu_s, z_pu_n, nI_toN, z_inN, true_and, and_true, nI_add, pk_mul, vu_eq, vu_ne, nI_leI, nI_ltI, nI_eqI, nI_eq0, nI_le0, ↓ok_0, ↓ok_1, ↓bI_ok, if_true, if_false, nI_lt0, nI_ge0, ne_eq, not_true_eq_false, not_false_eq_true, bI_eq0, bI_ne0, bI_T, bI_F, Bool.false_eq_true, Nat.one_ne_zero, Nat.zero_ne_one, Nat.zero_add, z_fit0, z_fit1, nI_m1]
  obtain ⟨⟨z3, z4, z5, z6⟩, o34, o35, o36, o45, o46, o56⟩ := hR
  rw [gh_x10 (by rw [vu_eq])]
  refine hQ _ _ U ⟨fun k k1 k2 => ?_, ?_, fun k hk2 => ?_⟩ ⟨⟨?_, ?_, ?_, ?_⟩, ?_, ?_, ?_, ?_, ?_, ?_⟩ ?_ ?_ hU hZU
  · rw [vu_ne k1]; exact hD k (by omega)
  · rw [vu_eq, vu_ne (by omega), hD 10 (by omega)]
  · rw [vu_ne hk2, vu_ne hk2]; exact hk k hk2
  · rw [vu_eq, vu_ne (by omega), vu_eq]; exact z4
  · rw [vu_eq, vu_eq]; exact z3
  · rw [vu_eq, vu_ne (by omega), vu_ne (by omega)]; exact z5
  · rw [vu_eq, vu_ne (by omega), vu_ne (by omega)]; exact z6
  · rw [vu_eq, vu_ne (by omega), vu_eq, vu_eq]; exact fun z => o34 z.symm
  · rw [vu_eq, vu_ne (by omega), vu_eq, vu_ne (by omega), vu_ne (by omega)]; exact o45
  · rw [vu_eq, vu_ne (by omega), vu_eq, vu_ne (by omega), vu_ne (by omega)]; exact o46
  · rw [vu_eq, vu_eq, vu_ne (by omega), vu_ne (by omega)]; exact o35
  · rw [vu_eq, vu_eq, vu_ne (by omega), vu_ne (by omega)]; exact o36
  · rw [vu_eq, vu_ne (by omega), vu_ne (by omega), vu_ne (by omega), vu_ne (by omega)]; exact o56
  · rw [vu_eq, vu_eq]; rfl
  · rw [vu_eq (f := va_up R 10 _), vu_ne (j := 3) (by omega), vu_eq, e4, vu_ne (by unfold Sx at x4; omega), vu_ne (by unfold Sx at x4; omega)]; exact rD
end CWrd
