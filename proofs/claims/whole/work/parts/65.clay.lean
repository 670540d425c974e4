/-! THE CLASS: begin, lay, howMany, leastCost; layings, laid, inLine, fill, meter -/
def Lq (s : z_S) (dy : z_H) (l p : Nat) : Prop := ∃ (q : Nat) (F : Nat → Int32), (∀ {A : Nat → Nat → Int32} {P : Nat → Nat → Nat}, GH A P dy p = .inr (.inl (2, lnF (nI (s.1 42 l)) q))) ∧ (∀ {A : Nat → Nat → Int32} {P : Nat → Nat → Nat}, GH A P dy q = .inl (0, s.1 42 l, F)) ∧ ∀ i, i < s.1 42 l → F i = nI (s.1 43 (8 * l + i))
theorem Rd.lq {s : z_S} {A : Nat → Nat → Int32} {P : Nat → Nat → Nat} {dy : z_H} {nz : Nat} {wd ln : Nat → Nat} {l : Nat} (hD : Rd s A P dy nz wd ln) (hl : l < s.1 32 13) : Lq s dy l (ln l) := by
  obtain ⟨ρ, c4, c5, h1, h2, h3, h4, h5, h6⟩ := hD
  obtain ⟨q, F, ⟨b1, _, b2, _⟩, _, g1, g2, g3⟩ := h6 l hl
  exact ⟨q, F, fun {A P} => by rw [gh_dy b1]; exact g1, fun {A P} => by rw [gh_dy b2]; exact g2, g3⟩
theorem in0_em {a : Nat → Nat → Nat} (h : 1 ≤ a 32 11) : in0 a = em0 (a 32 11) (if a 41 0 = 0 then tu (tu (fun _ => (0, 0)) 0 1 0) 1 1 4 else tu (fun _ => (0, 0)) 0 1 0) := by
  funext k
  unfold in0 em0
  by_cases z : a 41 0 = 0
  · rw [if_pos z, if_pos z]
    by_cases c : k % 8 = 0 ∧ k / 8 ≤ a 32 11
    · rw [if_pos c]
      rw [vu_if, vu_if, tu_at, tu_at]
      by_cases k0 : k = 0
      · subst k0; rfl
      · by_cases k8 : k = 8
        · subst k8; rfl
        · have h0 : ¬ k / 8 = 0 := by omega
          have h1 : ¬ k / 8 = 1 := by omega
          rw [if_neg k8, if_neg k0, if_neg h1, if_neg h0]
    · rw [if_neg c, vu_ne (by omega), vu_ne (by omega)]
  · rw [if_neg z, if_neg z]
    by_cases c : k % 8 = 0 ∧ k / 8 ≤ a 32 11
    · rw [if_pos c, vu_if, tu_at]
      by_cases k0 : k = 0
      · subst k0; rfl
      · have h0 : ¬ k / 8 = 0 := by omega
        rw [if_neg k0, if_neg h0]
    · rw [if_neg c, vu_ne (by omega)]
theorem ly_S {marks : Nat} {S : Nat → Nat × Nat} : sY (emb marks S) (8 * marks) 4 = tk (tk (0, 0) (S marks).1 (S marks).2) (S 26).1 (S 26).2 := by
  have e0 : emb marks S (8 * marks + 0) = (0, 0) := by unfold emb; rw [if_neg (by omega), if_neg (by omega), if_neg (by omega)]
  have e1 : emb marks S (8 * marks + 1) = S marks := by unfold emb; rw [if_pos (by omega)]; congr 1; omega
  have e2 : emb marks S (8 * marks + 2) = (0, 0) := by unfold emb; rw [if_neg (by omega), if_neg (by omega), if_neg (by omega)]
  have e3 : emb marks S (8 * marks + 3) = S 26 := by unfold emb; rw [if_neg (by omega), if_neg (by omega), if_pos rfl]
  rw [sY, sY, sY, sY, sY, e0, e1, e2, e3, tk_0, tk_0]
theorem ly_1 {x y : Nat × Nat} (hx : x.1 ≤ 1000000) : (tk (tk (0, 0) x.1 x.2) y.1 y.2).1 = min (x.1 + y.1) 1000000 := by
  unfold tk
  by_cases y0 : y.1 = 0
  · rw [if_pos y0]
    by_cases x0 : x.1 = 0
    · rw [if_pos x0]; show 0 = _; omega
    · rw [if_neg x0]; show min (0 + x.1) 1000000 = _; omega
  · rw [if_neg y0]
    by_cases x0 : x.1 = 0
    · rw [if_pos x0]; show min (0 + y.1) 1000000 = _; omega
    · rw [if_neg x0]; show min (min (0 + x.1) 1000000 + y.1) 1000000 = _; omega
theorem ly_2 {x y : Nat × Nat} {b : Nat} (hb : b ≤ 1000000) (hx : x.2 ≤ b) (hy : y.2 ≤ b) (h : ¬ (tk (tk (0, 0) x.1 x.2) y.1 y.2).1 = 0) : (tk (tk (0, 0) x.1 x.2) y.1 y.2).2 = min (lo 1000000 x) (lo 1000000 y) := by
  unfold lo
  by_cases y0 : y.1 = 0
  · by_cases x0 : x.1 = 0
    · rw [x0, y0, tk_0, tk_0] at h; exact absurd rfl h
    · rw [if_neg x0, if_pos y0, y0, tk_0]
      unfold tk
      rw [if_neg x0]
      show x.2 = _
      omega
  · by_cases x0 : x.1 = 0
    · rw [if_pos x0, if_neg y0, x0, tk_0]
      unfold tk
      rw [if_neg y0]
      show y.2 = _
      omega
    · rw [if_neg x0, if_neg y0]
      have a1 : ¬ min (0 + x.1) 1000000 = 0 := by omega
      unfold tk
      rw [if_neg y0, if_neg x0]
      show (if min (0 + x.1) 1000000 = 0 then y.2 else min y.2 x.2) = _
      rw [if_neg a1]
      omega
section CLay
variable {s : z_S} {A : Nat → Nat → Int32} {P : Nat → Nat → Nat} {dy : z_H} {d nx nz bc bs : Nat} {Q : z_Q} {wd ln : Nat → Nat}
theorem k_begin (hP : Pm P) (hL : Ly A (s.1 41) (s.1 32 11)) (hI : Iv s) (hQ : ∀ C S, Fla A C P P → C 10 2 = bI (true = true) → Rs 1000000 4 27 S (C (P 10 3 + 1)) (C (P 10 3 + 2)) → in0 s.1 = em0 (s.1 32 11) S → Zo (s.1 32 11) S → (∀ j, j ≤ 12 → S (13 + j) = (0, 0)) → Q none (GH C P dy) nx) : XC (d + 1) m_X4_begin [.ref 10] (GH A P dy) nx Q := by
  show X (d + 1) m_X4_begin 0 [some (.ref 10)] [] (GH A P dy) nx 0 0 Q
  have x3 := hP.1.1
  have sc := hI.sc
  have b41 := hI.b41 0
  have gm : ∀ {A : Nat → Nat → Int32} {P' : Nat → Nat → Nat}, GH A P' dy (P 10 3) = .inr (.inl (5, stF (P 10 3))) := gh_st x3
  simp (disch := omega) only [i_X4_begin_0, i_X4_begin_1, i_X4_begin_2, i_X4_begin_5, i_X4_begin_6, i_X4_begin_9, gh_o3, gh_l4, gh_o10, gh_r11, gh_w11, gf_3_0, gf_3_3, gf_10_0, gf_10_1, gf_10_2, gf_10_3, gf_10_4, gf_10_5, gf_10_6, gp_10_0, gp_10_2, gh_u10, stF_0, stF_1, wdF_0, wdF_1, lnF_0, lnF_1, lsF_1, lsF_2, z_o_i, z_ai_i, z_si_i, z_ab_b, z_ab_z, z_sb_b, z_sb_z, z_al_i, z_al_b, z_pu_s, z_pu_n, nI_toN, z_inN, true_and, and_true, nI_add, pk_mul, vu_eq, vu_ne, nI_leI, nI_ltI, nI_eqI, nI_eq0, nI_le0, ↓ok_0, ↓ok_1, ↓bI_ok, if_true, if_false, nI_lt0, nI_ge0, ne_eq, not_true_eq_false, not_false_eq_true, bI_eq0, bI_ne0, bI_T, bI_F, Bool.false_eq_true, Nat.one_ne_zero, Nat.zero_ne_one, Nat.zero_add, z_fit0, z_fit1, nI_m1, mnN, gm]
  refine k_empty x3 (fun B hB rB => ?_)
  simp (disch := omega) only [i_X4_begin_12, i_X4_begin_13, i_X4_begin_16, i_X4_begin_17, i_X4_begin_18, i_X4_begin_19, gh_o3, gh_l4, gh_o10, gh_r11, gh_w11, gf_3_0, gf_3_3, gf_10_0, gf_10_1, gf_10_2, gf_10_3, gf_10_4, gf_10_5, gf_10_6, gp_10_0, gp_10_2, gh_u10, stF_0, stF_1, wdF_0, wdF_1, lnF_0, lnF_1, lsF_1, lsF_2, z_o_i, z_ai_i, z_si_i, z_ab_b, z_ab_z, z_sb_b, z_sb_z, z_al_i, z_al_b, z_pu_s, z_pu_n, nI_toN, z_inN, true_and, and_true, nI_add, pk_mul, vu_eq, vu_ne, nI_leI, nI_ltI, nI_eqI, nI_eq0, nI_le0, ↓ok_0, ↓ok_1, ↓bI_ok, if_true, if_false, nI_lt0, nI_ge0, ne_eq, not_true_eq_false, not_false_eq_true, bI_eq0, bI_ne0, bI_T, bI_F, Bool.false_eq_true, Nat.one_ne_zero, Nat.zero_ne_one, Nat.zero_add, z_fit0, z_fit1, nI_m1, mnN, gm]
  refine k_take (c := 0) (n := 1) (B := 4) x3 (by omega) (by omega) (fun _ => ⟨rfl, by omega⟩) (by omega) (rB.b (by omega)) (fun C hC rC => ?_)
  have x3' := x3
  unfold Sx at x3'
  have f1 : Fg1 (P 10 3) (va_up A 10 (va_up (A 10) 2 (nI 1))) C := hB.trans hC
  have fl : ∀ D, Fg1 (P 10 3) (va_up A 10 (va_up (A 10) 2 (nI 1))) D → Fla A D P P ∧ D 10 2 = bI (true = true) := by
    intro D hD
    refine ⟨⟨fun k k1 k2 => ?_, ?_, fun _ _ => rfl⟩, ?_⟩
    · rw [hD k (by omega) (by omega), vu_ne k1]
    · rw [hD 10 (by omega) (by omega), vu_eq, vu_ne (by omega)]
    · rw [hD 10 (by omega) (by omega), vu_eq, vu_eq]; rfl
  have c11 : C 11 0 = nI (s.1 41 0) := by
    rw [f1 11 (by omega) (by omega), vu_ne (by omega)]; exact hL.2 0 (by omega)
  have i0 := in0_em sc.2.2.1
  by_cases z : s.1 41 0 = 0
  · rw [if_pos z] at i0
    simp (disch := omega) only [i_X4_begin_22, i_X4_begin_23, i_X4_begin_26, i_X4_begin_27, i_X4_begin_28, i_X4_begin_31, i_X4_begin_32, i_X4_begin_35, i_X4_begin_36, i_X4_begin_37, i_X4_begin_38, gh_o3, gh_l4, gh_o10, gh_r11, gh_w11, gf_3_0, gf_3_3, gf_10_0, gf_10_1, gf_10_2, gf_10_3, gf_10_4, gf_10_5, gf_10_6, gp_10_0, gp_10_2, gh_u10, stF_0, stF_1, wdF_0, wdF_1, lnF_0, lnF_1, lsF_1, lsF_2, z_o_i, z_ai_i, z_si_i, z_ab_b, z_ab_z, z_sb_b, z_sb_z, z_al_i, z_al_b, z_pu_s, z_pu_n, nI_toN, z_inN, true_and, and_true, nI_add, pk_mul, vu_eq, vu_ne, nI_leI, nI_ltI, nI_eqI, nI_eq0, nI_le0, ↓ok_0, ↓ok_1, ↓bI_ok, if_true, if_false, nI_lt0, nI_ge0, ne_eq, not_true_eq_false, not_false_eq_true, bI_eq0, bI_ne0, bI_T, bI_F, Bool.false_eq_true, Nat.one_ne_zero, Nat.zero_ne_one, Nat.zero_add, z_fit0, z_fit1, nI_m1, mnN, gm, c11, z]
    refine k_take (c := 4) (n := 1) (B := 4) x3 (by omega) (by omega) (fun _ => ⟨rfl, by omega⟩) (by omega) rC (fun D hD rD => ?_)
    simp (disch := omega) only [i_X4_begin_41, gh_o3, gh_l4, gh_o10, gh_r11, gh_w11, gf_3_0, gf_3_3, gf_10_0, gf_10_1, gf_10_2, gf_10_3, gf_10_4, gf_10_5, gf_10_6, gp_10_0, gp_10_2, gh_u10, stF_0, stF_1, wdF_0, wdF_1, lnF_0, lnF_1, lsF_1, lsF_2, z_o_i, z_ai_i, z_si_i, z_ab_b, z_ab_z, z_sb_b, z_sb_z, z_al_i, z_al_b, z_pu_s, z_pu_n, nI_toN, z_inN, true_and, and_true, nI_add, pk_mul, vu_eq, vu_ne, nI_leI, nI_ltI, nI_eqI, nI_eq0, nI_le0, ↓ok_0, ↓ok_1, ↓bI_ok, if_true, if_false, nI_lt0, nI_ge0, ne_eq, not_true_eq_false, not_false_eq_true, bI_eq0, bI_ne0, bI_T, bI_F, Bool.false_eq_true, Nat.one_ne_zero, Nat.zero_ne_one, Nat.zero_add, z_fit0, z_fit1, nI_m1, mnN]
    obtain ⟨g1, g2⟩ := fl D (f1.trans hD)
    refine hQ D _ g1 g2 rD i0 ⟨fun k h1 h2 => ?_, fun j h1 h2 => ?_⟩ (fun j hj => ?_)
    · rw [tu_at, if_neg (by omega), tu_at, if_neg (by omega)]
    · rw [tu_at, if_neg (by omega), tu_at, if_neg (by omega)]
    · rw [tu_at, if_neg (by omega), tu_at, if_neg (by omega)]
  · rw [if_neg z] at i0
    simp (disch := omega) only [i_X4_begin_22, i_X4_begin_23, i_X4_begin_26, i_X4_begin_27, i_X4_begin_28, i_X4_begin_41, gh_o3, gh_l4, gh_o10, gh_r11, gh_w11, gf_3_0, gf_3_3, gf_10_0, gf_10_1, gf_10_2, gf_10_3, gf_10_4, gf_10_5, gf_10_6, gp_10_0, gp_10_2, gh_u10, stF_0, stF_1, wdF_0, wdF_1, lnF_0, lnF_1, lsF_1, lsF_2, z_o_i, z_ai_i, z_si_i, z_ab_b, z_ab_z, z_sb_b, z_sb_z, z_al_i, z_al_b, z_pu_s, z_pu_n, nI_toN, z_inN, true_and, and_true, nI_add, pk_mul, vu_eq, vu_ne, nI_leI, nI_ltI, nI_eqI, nI_eq0, nI_le0, ↓ok_0, ↓ok_1, ↓bI_ok, if_true, if_false, nI_lt0, nI_ge0, ne_eq, not_true_eq_false, not_false_eq_true, bI_eq0, bI_ne0, bI_T, bI_F, Bool.false_eq_true, Nat.one_ne_zero, Nat.zero_ne_one, Nat.zero_add, z_fit0, z_fit1, nI_m1, mnN, gm, c11, z]
    obtain ⟨g1, g2⟩ := fl C f1
    refine hQ C _ g1 g2 rC i0 ⟨fun k h1 h2 => ?_, fun j h1 h2 => ?_⟩ (fun j hj => ?_)
    · rw [tu_at, if_neg (by omega)]
    · rw [tu_at, if_neg (by omega)]
    · rw [tu_at, if_neg (by omega)]
theorem l_lay {l o : Nat} {p : Option Nat} {v : Int32} (hI : Iv s) (hl : l < s.1 32 13) (hp : ∀ y, p = some y → y < 100 ∧ v = nI o ∧ o < s.1 32 1) (hQ : ∀ C R S, Fla A C P R → Pm R → Rs 1000000 300 27 S (C (R 10 3 + 1)) (C (R 10 3 + 2)) → liF s.1 l p o (s.1 42 l) = emb (s.1 32 11) S → Q none (GH C R dy) nx) :
    ∀ (m i : Nat) (C : Nat → Nat → Int32) (R : Nat → Nat → Nat) (S : Nat → Nat × Nat) (x5 : Option Value), i + m = s.1 42 l → Fla A C P R → Pm R → Ly C (s.1 41) (s.1 32 11) → Rd s C R dy nz wd ln → C 10 2 = bI (decide (i = 0) = true) → Rs 1000000 (4 + 36 * i) 27 S (C (R 10 3 + 1)) (C (R 10 3 + 2)) → liF s.1 l p o i = emS (decide (i = 0)) (s.1 32 11) S → Zo (s.1 32 11) S → (i = 0 → ∀ j, j ≤ 12 → S (13 + j) = (0, 0)) → X (d + 4) m_X7_lay 10 [some (.ref 3), some (.ref (ln l)), some (.int (oI p)), some (.int v), some (.int (nI i)), x5] [] (GH C R dy) nx bc bs Q := by
  have sc := hI.sc
  have b42 := hI.b42 l
  have wl := hI.2.2.1 l hl
  intro m
  induction m with
  | zero =>
    intro i C R S x5 hi hF hR hLy hD h10 hr hS hZ h0
    have e : i = s.1 42 l := by omega
    subst e
    obtain ⟨q, F, q1, q2, q3⟩ := hD.lq hl
    have f0 : decide (s.1 42 l = 0) = false := by simp; omega
    rw [f0] at hS
    simp (disch := omega) only [i_X7_lay_10, i_X7_lay_12, i_X7_lay_12n, i_X7_lay_13, i_X7_lay_16, i_X7_lay_62, gh_o3, gh_l4, gh_o10, gh_r11, gh_w11, gf_3_0, gf_3_3, gf_10_0, gf_10_1, gf_10_2, gf_10_3, gf_10_4, gf_10_5, gf_10_6, gp_10_0, gp_10_2, gh_u10, stF_0, stF_1, wdF_0, wdF_1, lnF_0, lnF_1, lsF_1, lsF_2, z_o_i, z_ai_i, z_si_i, z_ab_b, z_ab_z, z_sb_b, z_sb_z, z_al_i, z_al_b, z_pu_s, z_pu_n, nI_toN, z_inN, true_and, and_true, nI_add, pk_mul, vu_eq, vu_ne, nI_leI, nI_ltI, nI_eqI, nI_eq0, nI_le0, ↓ok_0, ↓ok_1, ↓bI_ok, if_true, if_false, nI_lt0, nI_ge0, ne_eq, not_true_eq_false, not_false_eq_true, bI_eq0, bI_ne0, bI_T, bI_F, Bool.false_eq_true, Nat.one_ne_zero, Nat.zero_ne_one, Nat.zero_add, z_fit0, z_fit1, nI_m1, mnN, q1, Nat.le_refl]
    exact hQ C R S hF hR (hr.b (by omega)) hS
  | succ m ih =>
    intro i C R S x5 hi hF hR hLy hD h10 hr hS hZ h0
    have le : ¬ s.1 42 l ≤ i := by omega
    obtain ⟨q, F, q1, q2, q3⟩ := hD.lq hl
    have f3 := q3 i (by omega)
    have ww := wl.2 i (by omega)
    have kW : ∀ {d nx : Nat} {Q : z_Q} {w : Nat}, w < s.1 32 1 → XC (d + 3) m_X7_wordAt [.ref 3, .int (nI w)] (GH C R dy) nx Q = Q (some (.ref (wd w))) (GH C R dy) nx := fun h => k_wordAt hD h
    obtain ⟨ρ, hWq⟩ := hD.wqs
    have go : ∀ (w : Nat) (y5 : Option Value), w < s.1 32 1 → w = (if p = some i then o else s.1 43 (8 * l + i)) → XC (d + 3) m_X4_layWord [.ref 10, .ref (wd w)] (GH C R dy) nx (fun r h' nx' => X (d + 3 + 1) m_X7_lay 56 [some (.ref 3), some (.ref (ln l)), some (.int (oI p)), some (.int v), some (.int (nI i)), y5] (z_pu r []) h' nx' bc bs Q) := by
      intro w y5 hw ew
      refine k_word (S := S) (b := 4 + 36 * i) (start := decide (i = 0)) (τ := liF s.1 l p o i) hI hR hLy h10 (hWq w hw) hw (by omega) hZ (fun z => h0 (by simpa using z)) hS hr (fun D T U hD' hT d10 rD hU hZU => ?_)
      simp (disch := omega) only [i_X7_lay_56, i_X7_lay_59, gh_o3, gh_l4, gh_o10, gh_r11, gh_w11, gf_3_0, gf_3_3, gf_10_0, gf_10_1, gf_10_2, gf_10_3, gf_10_4, gf_10_5, gf_10_6, gp_10_0, gp_10_2, gh_u10, stF_0, stF_1, wdF_0, wdF_1, lnF_0, lnF_1, lsF_1, lsF_2, z_o_i, z_ai_i, z_si_i, z_ab_b, z_ab_z, z_sb_b, z_sb_z, z_al_i, z_al_b, z_pu_s, z_pu_n, nI_toN, z_inN, true_and, and_true, nI_add, pk_mul, vu_eq, vu_ne, nI_leI, nI_ltI, nI_eqI, nI_eq0, nI_le0, ↓ok_0, ↓ok_1, ↓bI_ok, if_true, if_false, nI_lt0, nI_ge0, ne_eq, not_true_eq_false, not_false_eq_true, bI_eq0, bI_ne0, bI_T, bI_F, Bool.false_eq_true, Nat.one_ne_zero, Nat.zero_ne_one, Nat.zero_add, z_fit0, z_fit1, nI_m1, mnN]
      have f0 : decide (i + 1 = 0) = false := by simp
      refine ih (i + 1) D T U _ (by omega) (hF.trans hD') hT (hD'.ly hLy) (hD'.rd hD) (by rw [f0]; exact d10) (rD.b (by omega)) ?_ hZU (fun z => by omega)
      rw [f0, ← hU, liF, ew]
    rw [i_X7_lay_10]
    by_cases c : p = some i
    · obtain ⟨y1, y2, y3⟩ := hp i c
      have oc : oI p = nI i := by rw [c]; rfl
      have g := go o (some (.ref (wd o))) y3 (by rw [if_pos c])
      rw [oc] at g ⊢
      rw [y2] at g ⊢
      simp (disch := omega) only [i_X7_lay_12, i_X7_lay_12n, i_X7_lay_13, i_X7_lay_16, i_X7_lay_19, i_X7_lay_19n, i_X7_lay_20, i_X7_lay_22, i_X7_lay_23, i_X7_lay_26, i_X7_lay_27, i_X7_lay_37, i_X7_lay_40, i_X7_lay_40n, i_X7_lay_42, i_X7_lay_42n, i_X7_lay_44, i_X7_lay_44n, i_X7_lay_47, i_X7_lay_47n, i_X7_lay_48, i_X7_lay_51, i_X7_lay_51n, i_X7_lay_53, gh_o3, gh_l4, gh_o10, gh_r11, gh_w11, gf_3_0, gf_3_3, gf_10_0, gf_10_1, gf_10_2, gf_10_3, gf_10_4, gf_10_5, gf_10_6, gp_10_0, gp_10_2, gh_u10, stF_0, stF_1, wdF_0, wdF_1, lnF_0, lnF_1, lsF_1, lsF_2, z_o_i, z_ai_i, z_si_i, z_ab_b, z_ab_z, z_sb_b, z_sb_z, z_al_i, z_al_b, z_pu_s, z_pu_n, nI_toN, z_inN, true_and, and_true, nI_add, pk_mul, vu_eq, vu_ne, nI_leI, nI_ltI, nI_eqI, nI_eq0, nI_le0, ↓ok_0, ↓ok_1, ↓bI_ok, if_true, if_false, nI_lt0, nI_ge0, ne_eq, not_true_eq_false, not_false_eq_true, bI_eq0, bI_ne0, bI_T, bI_F, Bool.false_eq_true, Nat.one_ne_zero, Nat.zero_ne_one, Nat.zero_add, z_fit0, z_fit1, nI_m1, mnN, q1, le, kW]
      exact g
    · have oc : ¬ nI i = oI p := by
        cases hpp : p with
        | none =>
          intro z
          have : (nI i : Int32) = -1 := z
          rw [nI_m1 (by omega)] at this
          exact this
        | some y =>
          have := (hp y hpp).1
          intro z
          have z' : nI i = nI y := z
          rw [nI_eqI (by omega) (by omega)] at z'
          exact c (by rw [hpp, z'])
      have g := go (s.1 43 (8 * l + i)) (some (.ref (wd (s.1 43 (8 * l + i))))) ww (by rw [if_neg c])
      simp (disch := omega) only [i_X7_lay_12, i_X7_lay_12n, i_X7_lay_13, i_X7_lay_16, i_X7_lay_19, i_X7_lay_19n, i_X7_lay_20, i_X7_lay_22, i_X7_lay_23, i_X7_lay_30, i_X7_lay_30n, i_X7_lay_31, i_X7_lay_34, i_X7_lay_36, i_X7_lay_37, i_X7_lay_40, i_X7_lay_40n, i_X7_lay_42, i_X7_lay_42n, i_X7_lay_44, i_X7_lay_44n, i_X7_lay_47, i_X7_lay_47n, i_X7_lay_48, i_X7_lay_51, i_X7_lay_51n, i_X7_lay_53, gh_o3, gh_l4, gh_o10, gh_r11, gh_w11, gf_3_0, gf_3_3, gf_10_0, gf_10_1, gf_10_2, gf_10_3, gf_10_4, gf_10_5, gf_10_6, gp_10_0, gp_10_2, gh_u10, stF_0, stF_1, wdF_0, wdF_1, lnF_0, lnF_1, lsF_1, lsF_2, z_o_i, z_ai_i, z_si_i, z_ab_b, z_ab_z, z_sb_b, z_sb_z, z_al_i, z_al_b, z_pu_s, z_pu_n, nI_toN, z_inN, true_and, and_true, nI_add, pk_mul, vu_eq, vu_ne, nI_leI, nI_ltI, nI_eqI, nI_eq0, nI_le0, ↓ok_0, ↓ok_1, ↓bI_ok, if_true, if_false, nI_lt0, nI_ge0, ne_eq, not_true_eq_false, not_false_eq_true, bI_eq0, bI_ne0, bI_T, bI_F, Bool.false_eq_true, Nat.one_ne_zero, Nat.zero_ne_one, Nat.zero_add, z_fit0, z_fit1, nI_m1, mnN, q1, q2, le, kW, oc, f3]
      exact g
theorem k_lay {l o : Nat} {p : Option Nat} {v : Int32} (hI : Iv s) (hC : Rc s A P) (hD : Rd s A P dy nz wd ln) (hl : l < s.1 32 13) (hp : ∀ y, p = some y → y < 100 ∧ v = nI o ∧ o < s.1 32 1) (hQ : ∀ C R S, Fla A C P R → Pm R → Rs 1000000 300 27 S (C (R 10 3 + 1)) (C (R 10 3 + 2)) → liF s.1 l p o (s.1 42 l) = emb (s.1 32 11) S → Q none (GH C R dy) nx) : XC (d + 4) m_X7_lay [.ref 3, .ref (ln l), .int (oI p), .int v] (GH A P dy) nx Q := by
  show X (d + 4) m_X7_lay 0 [some (.ref 3), some (.ref (ln l)), some (.int (oI p)), some (.int v), none, none] [] (GH A P dy) nx 0 0 Q
  simp (disch := omega) only [i_X7_lay_0, i_X7_lay_0n, i_X7_lay_1, i_X7_lay_4, gh_o3, gh_l4, gh_o10, gh_r11, gh_w11, gf_3_0, gf_3_3, gf_10_0, gf_10_1, gf_10_2, gf_10_3, gf_10_4, gf_10_5, gf_10_6, gp_10_0, gp_10_2, gh_u10, stF_0, stF_1, wdF_0, wdF_1, lnF_0, lnF_1, lsF_1, lsF_2, z_o_i, z_ai_i, z_si_i, z_ab_b, z_ab_z, z_sb_b, z_sb_z, z_al_i, z_al_b, z_pu_s, z_pu_n, nI_toN, z_inN, true_and, and_true, nI_add, pk_mul, vu_eq, vu_ne, nI_leI, nI_ltI, nI_eqI, nI_eq0, nI_le0, ↓ok_0, ↓ok_1, ↓bI_ok, if_true, if_false, nI_lt0, nI_ge0, ne_eq, not_true_eq_false, not_false_eq_true, bI_eq0, bI_ne0, bI_T, bI_F, Bool.false_eq_true, Nat.one_ne_zero, Nat.zero_ne_one, Nat.zero_add, z_fit0, z_fit1, nI_m1, mnN]
  have hL : Ly A (s.1 41) (s.1 32 11) := ⟨hC.1.2.2.1, hC.1.2.2.2⟩
  refine k_begin hC.pm hL hI (fun C S hF c10 rC i0 hZ h0 => ?_)
  simp (disch := omega) only [i_X7_lay_7, i_X7_lay_8, gh_o3, gh_l4, gh_o10, gh_r11, gh_w11, gf_3_0, gf_3_3, gf_10_0, gf_10_1, gf_10_2, gf_10_3, gf_10_4, gf_10_5, gf_10_6, gp_10_0, gp_10_2, gh_u10, stF_0, stF_1, wdF_0, wdF_1, lnF_0, lnF_1, lsF_1, lsF_2, z_o_i, z_ai_i, z_si_i, z_ab_b, z_ab_z, z_sb_b, z_sb_z, z_al_i, z_al_b, z_pu_s, z_pu_n, nI_toN, z_inN, true_and, and_true, nI_add, pk_mul, vu_eq, vu_ne, nI_leI, nI_ltI, nI_eqI, nI_eq0, nI_le0, ↓ok_0, ↓ok_1, ↓bI_ok, if_true, if_false, nI_lt0, nI_ge0, ne_eq, not_true_eq_false, not_false_eq_true, bI_eq0, bI_ne0, bI_T, bI_F, Bool.false_eq_true, Nat.one_ne_zero, Nat.zero_ne_one, Nat.zero_add, z_fit0, z_fit1, nI_m1, mnN]
  exact l_lay (A := A) (P := P) hI hl hp hQ (s.1 42 l) 0 C P S none (by omega) hF hC.pm (hF.ly hL) (hF.rd hD) c10 (rC.b (by omega)) i0 hZ (fun _ => h0)
theorem k_many {l o : Nat} {p : Option Nat} {S : Nat → Nat × Nat} (hI : Iv s) (h10 : A 10 0 = nI (s.1 32 11)) (hP : Pm P) (hr : Rs 1000000 300 27 S (A (P 10 3 + 1)) (A (P 10 3 + 2))) (hS : liF s.1 l p o (s.1 42 l) = emb (s.1 32 11) S) : XC (d + 1) m_X4_howMany [.ref 10] (GH A P dy) nx Q = Q (some (.int (nI (lyq s.1 l p o).1))) (GH A P dy) nx := by
  show X (d + 1) m_X4_howMany 0 [some (.ref 10)] [] (GH A P dy) nx 0 0 Q = _
  have x3 := hP.1.1
  have sc := hI.sc
  have gm : GH A P dy (P 10 3) = .inr (.inl (5, stF (P 10 3))) := gh_st x3
  have g1 : GH A P dy (P 10 3 + 1) = .inl (0, 27, A (P 10 3 + 1)) := gh_s1 x3
  have q1 := (hr.1 (s.1 32 11) (by omega)).1
  have q2 := (hr.1 26 (by omega)).1
  have b1 := (hr.2 (s.1 32 11)).1
  have b2 := (hr.2 26).1
  have e : (lyq s.1 l p o).1 = min ((S (s.1 32 11)).1 + (S 26).1) 1000000 := by
    unfold lyq; rw [hS, ly_S, ly_1 b1]
  rw [e]
  simp (disch := omega) only [i_X4_howMany_0, i_X4_howMany_1, i_X4_howMany_4, i_X4_howMany_7, i_X4_howMany_8, i_X4_howMany_9, i_X4_howMany_12, i_X4_howMany_13, i_X4_howMany_14, i_X4_howMany_15, i_X4_howMany_18, i_X4_howMany_21, i_X4_howMany_23, i_X4_howMany_24, i_X4_howMany_25, i_X4_howMany_27, i_X4_howMany_30, gh_o3, gh_l4, gh_o10, gh_r11, gh_w11, gf_3_0, gf_3_3, gf_10_0, gf_10_1, gf_10_2, gf_10_3, gf_10_4, gf_10_5, gf_10_6, gp_10_0, gp_10_2, gh_u10, stF_0, stF_1, wdF_0, wdF_1, lnF_0, lnF_1, lsF_1, lsF_2, z_o_i, z_ai_i, z_si_i, z_ab_b, z_ab_z, z_sb_b, z_sb_z, z_al_i, z_al_b, z_pu_s, z_pu_n, nI_toN, z_inN, true_and, and_true, nI_add, pk_mul, vu_eq, vu_ne, nI_leI, nI_ltI, nI_eqI, nI_eq0, nI_le0, ↓ok_0, ↓ok_1, ↓bI_ok, if_true, if_false, nI_lt0, nI_ge0, ne_eq, not_true_eq_false, not_false_eq_true, bI_eq0, bI_ne0, bI_T, bI_F, Bool.false_eq_true, Nat.one_ne_zero, Nat.zero_ne_one, Nat.zero_add, z_fit0, z_fit1, nI_m1, mnN, gm, g1, h10, q1, q2]
theorem k_least {l o : Nat} {p : Option Nat} {S : Nat → Nat × Nat} (hI : Iv s) (h10 : A 10 0 = nI (s.1 32 11)) (hP : Pm P) (hr : Rs 1000000 300 27 S (A (P 10 3 + 1)) (A (P 10 3 + 2))) (hS : liF s.1 l p o (s.1 42 l) = emb (s.1 32 11) S) : XC (d + 2) m_X4_leastCost [.ref 10] (GH A P dy) nx Q = Q (some (.int (if (lyq s.1 l p o).1 = 0 then -1 else nI (lyq s.1 l p o).2))) (GH A P dy) nx := by
  show X (d + 2) m_X4_leastCost 0 [some (.ref 10)] [] (GH A P dy) nx 0 0 Q = _
  have kM : ∀ {d nx : Nat} {Q : z_Q}, XC (d + 1) m_X4_howMany [.ref 10] (GH A P dy) nx Q = _ := k_many hI h10 hP hr hS
  have bl := lyq_b (a := s.1) (l := l) (p := p) (o := o)
  by_cases z : (lyq s.1 l p o).1 = 0
  · rw [if_pos z]
    simp (disch := omega) only [i_X4_leastCost_0, i_X4_leastCost_1, i_X4_leastCost_4, i_X4_leastCost_7, i_X4_leastCost_8, gh_o3, gh_l4, gh_o10, gh_r11, gh_w11, gf_3_0, gf_3_3, gf_10_0, gf_10_1, gf_10_2, gf_10_3, gf_10_4, gf_10_5, gf_10_6, gp_10_0, gp_10_2, gh_u10, stF_0, stF_1, wdF_0, wdF_1, lnF_0, lnF_1, lsF_1, lsF_2, z_o_i, z_ai_i, z_si_i, z_ab_b, z_ab_z, z_sb_b, z_sb_z, z_al_i, z_al_b, z_pu_s, z_pu_n, nI_toN, z_inN, true_and, and_true, nI_add, pk_mul, vu_eq, vu_ne, nI_leI, nI_ltI, nI_eqI, nI_eq0, nI_le0, ↓ok_0, ↓ok_1, ↓bI_ok, if_true, if_false, nI_lt0, nI_ge0, ne_eq, not_true_eq_false, not_false_eq_true, bI_eq0, bI_ne0, bI_T, bI_F, Bool.false_eq_true, Nat.one_ne_zero, Nat.zero_ne_one, Nat.zero_add, z_fit0, z_fit1, nI_m1, mnN, kM, z]
  · rw [if_neg z]
    have x3 := hP.1.1
    have sc := hI.sc
    have gm : GH A P dy (P 10 3) = .inr (.inl (5, stF (P 10 3))) := gh_st x3
    have g1 : GH A P dy (P 10 3 + 2) = .inl (0, 27, A (P 10 3 + 2)) := gh_s2 x3
    have q1 := (hr.1 (s.1 32 11) (by omega)).2
    have q2 := (hr.1 26 (by omega)).2
    have b1 := (hr.2 (s.1 32 11)).2
    have b2 := (hr.2 26).2
    have l1 : lo 1000000 (S (s.1 32 11)) ≤ 1000000 := by unfold lo; split <;> omega
    have l2 : lo 1000000 (S 26) ≤ 1000000 := by unfold lo; split <;> omega
    have e : (lyq s.1 l p o).2 = min (lo 1000000 (S (s.1 32 11))) (lo 1000000 (S 26)) := by
      have z' := z
      unfold lyq at z' ⊢
      rw [hS, ly_S] at z' ⊢
      exact ly_2 (b := 300) (by omega) b1 b2 z'
    rw [e]
    simp (disch := omega) only [i_X4_leastCost_0, i_X4_leastCost_1, i_X4_leastCost_4, i_X4_leastCost_9, i_X4_leastCost_10, i_X4_leastCost_13, i_X4_leastCost_16, i_X4_leastCost_17, i_X4_leastCost_18, i_X4_leastCost_21, i_X4_leastCost_22, i_X4_leastCost_23, i_X4_leastCost_24, i_X4_leastCost_27, i_X4_leastCost_30, i_X4_leastCost_32, i_X4_leastCost_33, i_X4_leastCost_36, gh_o3, gh_l4, gh_o10, gh_r11, gh_w11, gf_3_0, gf_3_3, gf_10_0, gf_10_1, gf_10_2, gf_10_3, gf_10_4, gf_10_5, gf_10_6, gp_10_0, gp_10_2, gh_u10, stF_0, stF_1, wdF_0, wdF_1, lnF_0, lnF_1, lsF_1, lsF_2, z_o_i, z_ai_i, z_si_i, z_ab_b, z_ab_z, z_sb_b, z_sb_z, z_al_i, z_al_b, z_pu_s, z_pu_n, nI_toN, z_inN, true_and, and_true, nI_add, pk_mul, vu_eq, vu_ne, nI_leI, nI_ltI, nI_eqI, nI_eq0, nI_le0, ↓ok_0, ↓ok_1, ↓bI_ok, if_true, if_false, nI_lt0, nI_ge0, ne_eq, not_true_eq_false, not_false_eq_true, bI_eq0, bI_ne0, bI_T, bI_F, Bool.false_eq_true, Nat.one_ne_zero, Nat.zero_ne_one, Nat.zero_add, z_fit0, z_fit1, nI_m1, mnN, kM, z, gm, g1, h10, q1, q2]
theorem x_layings {l : Int32} (hI : Iv s) (hK : Cl s A P dy nx) (hQ : ∀ B R, Cl s B R dy nx → Fz A B → Q (some (.int (s_layings s l))) (GH B R dy) nx) : XC (d + 5) m_X7_layings [.ref 3, .int l] (GH A P dy) nx Q := by
  show X (d + 5) m_X7_layings 0 [some (.ref 3), some (.int l), none] [] (GH A P dy) nx 0 0 Q
  have hK' := hK
  obtain ⟨hC, wd, ln, hD⟩ := hK
  have sc := hI.sc
  have kL : ∀ {d nx : Nat} {Q : z_Q} {w : Nat}, w < s.1 32 13 → XC (d + 3) m_X7_lineAt [.ref 3, .int (nI w)] (GH A P dy) nx Q = Q (some (.ref (ln w))) (GH A P dy) nx := fun h => k_lineAt hD h
  have kN : ∀ {d nx : Nat} {Q : z_Q} {x : Int32}, ¬ iw x (s.1 32 13) = true → XC (d + 3) m_X7_lineAt [.ref 3, .int x] (GH A P dy) nx Q = Q (some .null) (GH A P dy) nx := fun h => k_lineAtN hD sc.2.2.2.2.1 h
  unfold s_layings at hQ
  by_cases hl : iw l (s.1 32 13) = true
  · rw [if_pos hl] at hQ
    obtain ⟨a, h1, rfl⟩ := iw_ex hl
    rw [nI_toN (by omega)] at hQ
    simp (disch := omega) only [i_X7_layings_0, i_X7_layings_0n, i_X7_layings_1, i_X7_layings_2, i_X7_layings_5, i_X7_layings_5n, i_X7_layings_6, i_X7_layings_6n, i_X7_layings_7, i_X7_layings_7n, i_X7_layings_13, i_X7_layings_13n, i_X7_layings_14, i_X7_layings_14n, i_X7_layings_15, i_X7_layings_16, i_X7_layings_17, gh_o3, gh_l4, gh_o10, gh_r11, gh_w11, gf_3_0, gf_3_3, gf_10_0, gf_10_1, gf_10_2, gf_10_3, gf_10_4, gf_10_5, gf_10_6, gp_10_0, gp_10_2, gh_u10, stF_0, stF_1, wdF_0, wdF_1, lnF_0, lnF_1, lsF_1, lsF_2, z_o_i, z_ai_i, z_si_i, z_ab_b, z_ab_z, z_sb_b, z_sb_z, z_al_i, z_al_b, z_pu_s, z_pu_n, nI_toN, z_inN, true_and, and_true, nI_add, pk_mul, vu_eq, vu_ne, nI_leI, nI_ltI, nI_eqI, nI_eq0, nI_le0, ↓ok_0, ↓ok_1, ↓bI_ok, if_true, if_false, nI_lt0, nI_ge0, ne_eq, not_true_eq_false, not_false_eq_true, bI_eq0, bI_ne0, bI_T, bI_F, Bool.false_eq_true, Nat.one_ne_zero, Nat.zero_ne_one, Nat.zero_add, z_fit0, z_fit1, nI_m1, mnN, kL]
    refine k_lay (p := none) (o := 0) hI hC hD h1 (fun y z => by cases z) (fun C R S hF hR rS hS => ?_)
    have c10 : C 10 0 = nI (s.1 32 11) := by rw [hF.2.1]; exact hC.1.2.2.1
    have kM : ∀ {d nx : Nat} {Q : z_Q}, XC (d + 1) m_X4_howMany [.ref 10] (GH C R dy) nx Q = _ := k_many hI c10 hR rS hS
    simp (disch := omega) only [i_X7_layings_20, i_X7_layings_20n, i_X7_layings_21, i_X7_layings_24, i_X7_layings_27, gh_o3, gh_l4, gh_o10, gh_r11, gh_w11, gf_3_0, gf_3_3, gf_10_0, gf_10_1, gf_10_2, gf_10_3, gf_10_4, gf_10_5, gf_10_6, gp_10_0, gp_10_2, gh_u10, stF_0, stF_1, wdF_0, wdF_1, lnF_0, lnF_1, lsF_1, lsF_2, z_o_i, z_ai_i, z_si_i, z_ab_b, z_ab_z, z_sb_b, z_sb_z, z_al_i, z_al_b, z_pu_s, z_pu_n, nI_toN, z_inN, true_and, and_true, nI_add, pk_mul, vu_eq, vu_ne, nI_leI, nI_ltI, nI_eqI, nI_eq0, nI_le0, ↓ok_0, ↓ok_1, ↓bI_ok, if_true, if_false, nI_lt0, nI_ge0, ne_eq, not_true_eq_false, not_false_eq_true, bI_eq0, bI_ne0, bI_T, bI_F, Bool.false_eq_true, Nat.one_ne_zero, Nat.zero_ne_one, Nat.zero_add, z_fit0, z_fit1, nI_m1, mnN, kM]
    exact hQ C R ⟨hF.rc hR hC, wd, ln, hF.rd hD⟩ hF.fz
  · rw [if_neg hl] at hQ
    have kNl : ∀ {d nx : Nat} {Q : z_Q}, XC (d + 3) m_X7_lineAt [.ref 3, .int l] (GH A P dy) nx Q = Q (some .null) (GH A P dy) nx := kN hl
    simp (disch := omega) only [i_X7_layings_0, i_X7_layings_0n, i_X7_layings_1, i_X7_layings_2, i_X7_layings_5, i_X7_layings_5n, i_X7_layings_6, i_X7_layings_6n, i_X7_layings_7, i_X7_layings_7n, i_X7_layings_10, i_X7_layings_12, gh_o3, gh_l4, gh_o10, gh_r11, gh_w11, gf_3_0, gf_3_3, gf_10_0, gf_10_1, gf_10_2, gf_10_3, gf_10_4, gf_10_5, gf_10_6, gp_10_0, gp_10_2, gh_u10, stF_0, stF_1, wdF_0, wdF_1, lnF_0, lnF_1, lsF_1, lsF_2, z_o_i, z_ai_i, z_si_i, z_ab_b, z_ab_z, z_sb_b, z_sb_z, z_al_i, z_al_b, z_pu_s, z_pu_n, nI_toN, z_inN, true_and, and_true, nI_add, pk_mul, vu_eq, vu_ne, nI_leI, nI_ltI, nI_eqI, nI_eq0, nI_le0, ↓ok_0, ↓ok_1, ↓bI_ok, if_true, if_false, nI_lt0, nI_ge0, ne_eq, not_true_eq_false, not_false_eq_true, bI_eq0, bI_ne0, bI_T, bI_F, Bool.false_eq_true, Nat.one_ne_zero, Nat.zero_ne_one, Nat.zero_add, z_fit0, z_fit1, nI_m1, mnN, kNl]
    exact hQ A P hK' Fz.refl
theorem x_laid {l : Int32} (hI : Iv s) (hK : Cl s A P dy nx) (hQ : ∀ B R, Cl s B R dy nx → Fz A B → Q (some (.int (s_laid s l))) (GH B R dy) nx) : XC (d + 5) m_X7_laid [.ref 3, .int l] (GH A P dy) nx Q := by
  show X (d + 5) m_X7_laid 0 [some (.ref 3), some (.int l), none] [] (GH A P dy) nx 0 0 Q
  have hK' := hK
  obtain ⟨hC, wd, ln, hD⟩ := hK
  have sc := hI.sc
  have kL : ∀ {d nx : Nat} {Q : z_Q} {w : Nat}, w < s.1 32 13 → XC (d + 3) m_X7_lineAt [.ref 3, .int (nI w)] (GH A P dy) nx Q = Q (some (.ref (ln w))) (GH A P dy) nx := fun h => k_lineAt hD h
  have kN : ∀ {d nx : Nat} {Q : z_Q} {x : Int32}, ¬ iw x (s.1 32 13) = true → XC (d + 3) m_X7_lineAt [.ref 3, .int x] (GH A P dy) nx Q = Q (some .null) (GH A P dy) nx := fun h => k_lineAtN hD sc.2.2.2.2.1 h
  unfold s_laid at hQ
  by_cases hl : iw l (s.1 32 13) = true
  · rw [if_pos hl] at hQ
    obtain ⟨a, h1, rfl⟩ := iw_ex hl
    rw [nI_toN (by omega)] at hQ
    simp (disch := omega) only [i_X7_laid_0, i_X7_laid_0n, i_X7_laid_1, i_X7_laid_2, i_X7_laid_5, i_X7_laid_5n, i_X7_laid_6, i_X7_laid_6n, i_X7_laid_7, i_X7_laid_7n, i_X7_laid_13, i_X7_laid_13n, i_X7_laid_14, i_X7_laid_14n, i_X7_laid_15, i_X7_laid_16, i_X7_laid_17, gh_o3, gh_l4, gh_o10, gh_r11, gh_w11, gf_3_0, gf_3_3, gf_10_0, gf_10_1, gf_10_2, gf_10_3, gf_10_4, gf_10_5, gf_10_6, gp_10_0, gp_10_2, gh_u10, stF_0, stF_1, wdF_0, wdF_1, lnF_0, lnF_1, lsF_1, lsF_2, z_o_i, z_ai_i, z_si_i, z_ab_b, z_ab_z, z_sb_b, z_sb_z, z_al_i, z_al_b, z_pu_s, z_pu_n, nI_toN, z_inN, true_and, and_true, nI_add, pk_mul, vu_eq, vu_ne, nI_leI, nI_ltI, nI_eqI, nI_eq0, nI_le0, ↓ok_0, ↓ok_1, ↓bI_ok, if_true, if_false, nI_lt0, nI_ge0, ne_eq, not_true_eq_false, not_false_eq_true, bI_eq0, bI_ne0, bI_T, bI_F, Bool.false_eq_true, Nat.one_ne_zero, Nat.zero_ne_one, Nat.zero_add, z_fit0, z_fit1, nI_m1, mnN, kL]
    refine k_lay (p := none) (o := 0) hI hC hD h1 (fun y z => by cases z) (fun C R S hF hR rS hS => ?_)
    have c10 : C 10 0 = nI (s.1 32 11) := by rw [hF.2.1]; exact hC.1.2.2.1
    have kM : ∀ {d nx : Nat} {Q : z_Q}, XC (d + 2) m_X4_leastCost [.ref 10] (GH C R dy) nx Q = _ := k_least hI c10 hR rS hS
    simp (disch := omega) only [i_X7_laid_20, i_X7_laid_20n, i_X7_laid_21, i_X7_laid_24, i_X7_laid_27, gh_o3, gh_l4, gh_o10, gh_r11, gh_w11, gf_3_0, gf_3_3, gf_10_0, gf_10_1, gf_10_2, gf_10_3, gf_10_4, gf_10_5, gf_10_6, gp_10_0, gp_10_2, gh_u10, stF_0, stF_1, wdF_0, wdF_1, lnF_0, lnF_1, lsF_1, lsF_2, z_o_i, z_ai_i, z_si_i, z_ab_b, z_ab_z, z_sb_b, z_sb_z, z_al_i, z_al_b, z_pu_s, z_pu_n, nI_toN, z_inN, true_and, and_true, nI_add, pk_mul, vu_eq, vu_ne, nI_leI, nI_ltI, nI_eqI, nI_eq0, nI_le0, ↓ok_0, ↓ok_1, ↓bI_ok, if_true, if_false, nI_lt0, nI_ge0, ne_eq, not_true_eq_false, not_false_eq_true, bI_eq0, bI_ne0, bI_T, bI_F, Bool.false_eq_true, Nat.one_ne_zero, Nat.zero_ne_one, Nat.zero_add, z_fit0, z_fit1, nI_m1, mnN, kM]
    exact hQ C R ⟨hF.rc hR hC, wd, ln, hF.rd hD⟩ hF.fz
  · rw [if_neg hl] at hQ
    have kNl : ∀ {d nx : Nat} {Q : z_Q}, XC (d + 3) m_X7_lineAt [.ref 3, .int l] (GH A P dy) nx Q = Q (some .null) (GH A P dy) nx := kN hl
    simp (disch := omega) only [i_X7_laid_0, i_X7_laid_0n, i_X7_laid_1, i_X7_laid_2, i_X7_laid_5, i_X7_laid_5n, i_X7_laid_6, i_X7_laid_6n, i_X7_laid_7, i_X7_laid_7n, i_X7_laid_10, i_X7_laid_12, gh_o3, gh_l4, gh_o10, gh_r11, gh_w11, gf_3_0, gf_3_3, gf_10_0, gf_10_1, gf_10_2, gf_10_3, gf_10_4, gf_10_5, gf_10_6, gp_10_0, gp_10_2, gh_u10, stF_0, stF_1, wdF_0, wdF_1, lnF_0, lnF_1, lsF_1, lsF_2, z_o_i, z_ai_i, z_si_i, z_ab_b, z_ab_z, z_sb_b, z_sb_z, z_al_i, z_al_b, z_pu_s, z_pu_n, nI_toN, z_inN, true_and, and_true, nI_add, pk_mul, vu_eq, vu_ne, nI_leI, nI_ltI, nI_eqI, nI_eq0, nI_le0, ↓ok_0, ↓ok_1, ↓bI_ok, if_true, if_false, nI_lt0, nI_ge0, ne_eq, not_true_eq_false, not_false_eq_true, bI_eq0, bI_ne0, bI_T, bI_F, Bool.false_eq_true, Nat.one_ne_zero, Nat.zero_ne_one, Nat.zero_add, z_fit0, z_fit1, nI_m1, mnN, kNl]
    exact hQ A P hK' Fz.refl
theorem x_inLine {l i : Int32} (hI : Iv s) (hK : Cl s A P dy nx) (hQ : ∀ B R, Cl s B R dy nx → Fz A B → Q (some (.int (s_inLine s l i))) (GH B R dy) nx) : XC (d + 4) m_X7_inLine [.ref 3, .int l, .int i] (GH A P dy) nx Q := by
  show X (d + 4) m_X7_inLine 0 [some (.ref 3), some (.int l), some (.int i), none] [] (GH A P dy) nx 0 0 Q
  have q := hQ A P hK Fz.refl
  obtain ⟨hC, wd, ln, hD⟩ := hK
  have sc := hI.sc
  have kL : ∀ {d nx : Nat} {Q : z_Q} {w : Nat}, w < s.1 32 13 → XC (d + 3) m_X7_lineAt [.ref 3, .int (nI w)] (GH A P dy) nx Q = Q (some (.ref (ln w))) (GH A P dy) nx := fun h => k_lineAt hD h
  have kN : ∀ {d nx : Nat} {Q : z_Q} {x : Int32}, ¬ iw x (s.1 32 13) = true → XC (d + 3) m_X7_lineAt [.ref 3, .int x] (GH A P dy) nx Q = Q (some .null) (GH A P dy) nx := fun h => k_lineAtN hD sc.2.2.2.2.1 h
  unfold s_inLine at q
  by_cases hl : iw l (s.1 32 13) = true
  · obtain ⟨a, h1, rfl⟩ := iw_ex hl
    by_cases hi : iw i 2147483648 = true
    · rw [if_pos ⟨hl, hi⟩] at q
      obtain ⟨b, h2, rfl⟩ := iw_ex hi
      rw [nI_toN (by omega), nI_toN (by omega)] at q
      obtain ⟨qq, F, q1, q2, q3⟩ := hD.lq h1
      have b42 := hI.b42 a
      by_cases c : b < s.1 42 a
      · rw [if_pos c] at q
        have c' : ¬ s.1 42 a ≤ b := by omega
        have f3 := q3 b c
        simp (disch := omega) only [i_X7_inLine_0, i_X7_inLine_0n, i_X7_inLine_1, i_X7_inLine_2, i_X7_inLine_5, i_X7_inLine_5n, i_X7_inLine_6, i_X7_inLine_6n, i_X7_inLine_7, i_X7_inLine_7n, i_X7_inLine_10, i_X7_inLine_11, i_X7_inLine_17, i_X7_inLine_18, i_X7_inLine_18n, i_X7_inLine_19, i_X7_inLine_22, i_X7_inLine_25, i_X7_inLine_25n, i_X7_inLine_26, i_X7_inLine_29, i_X7_inLine_30, i_X7_inLine_31, i_X7_inLine_34, i_X7_inLine_35, gh_o3, gh_l4, gh_o10, gh_r11, gh_w11, gf_3_0, gf_3_3, gf_10_0, gf_10_1, gf_10_2, gf_10_3, gf_10_4, gf_10_5, gf_10_6, gp_10_0, gp_10_2, gh_u10, stF_0, stF_1, wdF_0, wdF_1, lnF_0, lnF_1, lsF_1, lsF_2, z_o_i, z_ai_i, z_si_i, z_ab_b, z_ab_z, z_sb_b, z_sb_z, z_al_i, z_al_b, z_pu_s, z_pu_n, nI_toN, z_inN, true_and, and_true, nI_add, pk_mul, vu_eq, vu_ne, nI_leI, nI_ltI, nI_eqI, nI_eq0, nI_le0, ↓ok_0, ↓ok_1, ↓bI_ok, if_true, if_false, nI_lt0, nI_ge0, ne_eq, not_true_eq_false, not_false_eq_true, bI_eq0, bI_ne0, bI_T, bI_F, Bool.false_eq_true, Nat.one_ne_zero, Nat.zero_ne_one, Nat.zero_add, z_fit0, z_fit1, nI_m1, mnN, kL, q1, q2, c', f3]
        exact q
      · rw [if_neg c] at q
        have c' : s.1 42 a ≤ b := by omega
        simp (disch := omega) only [i_X7_inLine_0, i_X7_inLine_0n, i_X7_inLine_1, i_X7_inLine_2, i_X7_inLine_5, i_X7_inLine_5n, i_X7_inLine_6, i_X7_inLine_6n, i_X7_inLine_7, i_X7_inLine_7n, i_X7_inLine_10, i_X7_inLine_11, i_X7_inLine_17, i_X7_inLine_18, i_X7_inLine_18n, i_X7_inLine_19, i_X7_inLine_22, i_X7_inLine_34, i_X7_inLine_35, gh_o3, gh_l4, gh_o10, gh_r11, gh_w11, gf_3_0, gf_3_3, gf_10_0, gf_10_1, gf_10_2, gf_10_3, gf_10_4, gf_10_5, gf_10_6, gp_10_0, gp_10_2, gh_u10, stF_0, stF_1, wdF_0, wdF_1, lnF_0, lnF_1, lsF_1, lsF_2, z_o_i, z_ai_i, z_si_i, z_ab_b, z_ab_z, z_sb_b, z_sb_z, z_al_i, z_al_b, z_pu_s, z_pu_n, nI_toN, z_inN, true_and, and_true, nI_add, pk_mul, vu_eq, vu_ne, nI_leI, nI_ltI, nI_eqI, nI_eq0, nI_le0, ↓ok_0, ↓ok_1, ↓bI_ok, if_true, if_false, nI_lt0, nI_ge0, ne_eq, not_true_eq_false, not_false_eq_true, bI_eq0, bI_ne0, bI_T, bI_F, Bool.false_eq_true, Nat.one_ne_zero, Nat.zero_ne_one, Nat.zero_add, z_fit0, z_fit1, nI_m1, mnN, kL, q1, c']
        exact q
    · rw [if_neg (fun z => hi z.2)] at q
      rw [iw_0] at hi
      simp (disch := omega) only [i_X7_inLine_0, i_X7_inLine_0n, i_X7_inLine_1, i_X7_inLine_2, i_X7_inLine_5, i_X7_inLine_5n, i_X7_inLine_6, i_X7_inLine_6n, i_X7_inLine_7, i_X7_inLine_7n, i_X7_inLine_10, i_X7_inLine_11, i_X7_inLine_14, i_X7_inLine_16, gh_o3, gh_l4, gh_o10, gh_r11, gh_w11, gf_3_0, gf_3_3, gf_10_0, gf_10_1, gf_10_2, gf_10_3, gf_10_4, gf_10_5, gf_10_6, gp_10_0, gp_10_2, gh_u10, stF_0, stF_1, wdF_0, wdF_1, lnF_0, lnF_1, lsF_1, lsF_2, z_o_i, z_ai_i, z_si_i, z_ab_b, z_ab_z, z_sb_b, z_sb_z, z_al_i, z_al_b, z_pu_s, z_pu_n, nI_toN, z_inN, true_and, and_true, nI_add, pk_mul, vu_eq, vu_ne, nI_leI, nI_ltI, nI_eqI, nI_eq0, nI_le0, ↓ok_0, ↓ok_1, ↓bI_ok, if_true, if_false, nI_lt0, nI_ge0, ne_eq, not_true_eq_false, not_false_eq_true, bI_eq0, bI_ne0, bI_T, bI_F, Bool.false_eq_true, Nat.one_ne_zero, Nat.zero_ne_one, Nat.zero_add, z_fit0, z_fit1, nI_m1, mnN, kL, hi]
      exact q
  · rw [if_neg (fun z => hl z.1)] at q
    have kNl : ∀ {d nx : Nat} {Q : z_Q}, XC (d + 3) m_X7_lineAt [.ref 3, .int l] (GH A P dy) nx Q = Q (some .null) (GH A P dy) nx := kN hl
    simp (disch := omega) only [i_X7_inLine_0, i_X7_inLine_0n, i_X7_inLine_1, i_X7_inLine_2, i_X7_inLine_5, i_X7_inLine_5n, i_X7_inLine_6, i_X7_inLine_6n, i_X7_inLine_7, i_X7_inLine_7n, i_X7_inLine_14, i_X7_inLine_16, gh_o3, gh_l4, gh_o10, gh_r11, gh_w11, gf_3_0, gf_3_3, gf_10_0, gf_10_1, gf_10_2, gf_10_3, gf_10_4, gf_10_5, gf_10_6, gp_10_0, gp_10_2, gh_u10, stF_0, stF_1, wdF_0, wdF_1, lnF_0, lnF_1, lsF_1, lsF_2, z_o_i, z_ai_i, z_si_i, z_ab_b, z_ab_z, z_sb_b, z_sb_z, z_al_i, z_al_b, z_pu_s, z_pu_n, nI_toN, z_inN, true_and, and_true, nI_add, pk_mul, vu_eq, vu_ne, nI_leI, nI_ltI, nI_eqI, nI_eq0, nI_le0, ↓ok_0, ↓ok_1, ↓bI_ok, if_true, if_false, nI_lt0, nI_ge0, ne_eq, not_true_eq_false, not_false_eq_true, bI_eq0, bI_ne0, bI_T, bI_F, Bool.false_eq_true, Nat.one_ne_zero, Nat.zero_ne_one, Nat.zero_add, z_fit0, z_fit1, nI_m1, mnN, kNl]
    exact q
theorem l_fillC {l p i : Nat} {r : Option Nat} {R : Option Nat} (hI : Iv s) (hl : l < s.1 32 13) (hp : p / 6 < s.1 42 l) (hi : i < 2147483648) (hr : ∀ u, r = some u → u < s.1 32 1) (hQ : ∀ B U, Rc s B U → Rd s B U dy nz wd ln → Fz A B → Q (some (.int (oI R))) (GH B U dy) nx) :
    ∀ (m w sn : Nat) (B : Nat → Nat → Int32) (U : Nat → Nat → Nat), w + m = s.1 32 1 → sn ≤ i → sn ≤ w → Rc s B U → Rd s B U dy nz wd ln → Fz A B → nt (flP s l (p / 6) (p % 6) r) m w (i - sn) = R → X (d + 5) m_X7_fill 67 [some (.ref 3), some (.int (nI l)), some (.int (nI p)), some (.int (oI r)), some (.int (nI i)), some (.ref (ln l)), some (.int (nI (p % 6))), some (.int (nI sn)), some (.int (nI w))] [] (GH B U dy) nx bc bs Q := by
  have sc := hI.sc
  have b42 := hI.b42 l
  have p48 : p < 54 := by omega
  intro m
  induction m with
  | zero =>
    intro w sn B U hw hs hsw hC hD hF hR
    have le : s.1 32 1 ≤ w := by omega
    have kS : ∀ {d nx : Nat} {Q : z_Q}, XC d m_Jx4a65c_size_8abf5 [.ref 4] (GH B U dy) nx Q = _ := k_size4 hD
    have q := hQ B U hC hD hF
    rw [← hR] at q
    simp (disch := omega) only [i_X7_fill_67, i_X7_fill_69, i_X7_fill_69n, i_X7_fill_70, i_X7_fill_73, i_X7_fill_76, i_X7_fill_167, i_X7_fill_168, gh_o3, gh_l4, gh_o10, gh_r11, gh_w11, gf_3_0, gf_3_3, gf_10_0, gf_10_1, gf_10_2, gf_10_3, gf_10_4, gf_10_5, gf_10_6, gp_10_0, gp_10_2, gh_u10, stF_0, stF_1, wdF_0, wdF_1, lnF_0, lnF_1, lsF_1, lsF_2, z_o_i, z_ai_i, z_si_i, z_ab_b, z_ab_z, z_sb_b, z_sb_z, z_al_i, z_al_b, z_pu_s, z_pu_n, nI_toN, z_inN, true_and, and_true, nI_add, pk_mul, vu_eq, vu_ne, nI_leI, nI_ltI, nI_eqI, nI_eq0, nI_le0, ↓ok_0, ↓ok_1, ↓bI_ok, if_true, if_false, nI_lt0, nI_ge0, ne_eq, not_true_eq_false, not_false_eq_true, bI_eq0, bI_ne0, bI_T, bI_F, Bool.false_eq_true, Nat.one_ne_zero, Nat.zero_ne_one, Nat.zero_add, z_fit0, z_fit1, nI_m1, mnN, kS, le]
    exact q
  | succ m ih =>
    intro w sn B U hw hs hsw hC hD hF hR
    have le : ¬ s.1 32 1 ≤ w := by omega
    have lw : w < s.1 32 1 := by omega
    have kS : ∀ {d nx : Nat} {Q : z_Q}, XC d m_Jx4a65c_size_8abf5 [.ref 4] (GH B U dy) nx Q = _ := k_size4 hD
    have kG : ∀ {d nx : Nat} {Q : z_Q}, XC (d + 2) m_Jx4a65c_get_915e3 [.ref 4, .int (nI w)] (GH B U dy) nx Q = _ := k_get4 hD lw
    obtain ⟨ρ, hWq⟩ := hD.wq lw
    obtain ⟨ll, bb, e, c, mm, g, K, w1, _⟩ := hWq
    have b33 := hI.b33 w
    have z6 : ¬ (6 : Nat) = 0 := by omega
    rw [nt] at hR
    rw [i_X7_fill_67]
    have no : ∀ (C : Nat → Nat → Int32) (V : Nat → Nat → Nat), Rc s C V → Rd s C V dy nz wd ln → Fz A C → ¬ flP s l (p / 6) (p % 6) r w = true → X (d + 5) m_X7_fill 161 [some (.ref 3), some (.int (nI l)), some (.int (nI p)), some (.int (oI r)), some (.int (nI i)), some (.ref (ln l)), some (.int (nI (p % 6))), some (.int (nI sn)), some (.int (nI w))] [] (GH C V dy) nx bc bs Q := by
      intro C V hCC hDC hFC hn
      rw [if_neg hn] at hR
      simp (disch := omega) only [i_X7_fill_161, i_X7_fill_164, gh_o3, gh_l4, gh_o10, gh_r11, gh_w11, gf_3_0, gf_3_3, gf_10_0, gf_10_1, gf_10_2, gf_10_3, gf_10_4, gf_10_5, gf_10_6, gp_10_0, gp_10_2, gh_u10, stF_0, stF_1, wdF_0, wdF_1, lnF_0, lnF_1, lsF_1, lsF_2, z_o_i, z_ai_i, z_si_i, z_ab_b, z_ab_z, z_sb_b, z_sb_z, z_al_i, z_al_b, z_pu_s, z_pu_n, nI_toN, z_inN, true_and, and_true, nI_add, pk_mul, vu_eq, vu_ne, nI_leI, nI_ltI, nI_eqI, nI_eq0, nI_le0, ↓ok_0, ↓ok_1, ↓bI_ok, if_true, if_false, nI_lt0, nI_ge0, ne_eq, not_true_eq_false, not_false_eq_true, bI_eq0, bI_ne0, bI_T, bI_F, Bool.false_eq_true, Nat.one_ne_zero, Nat.zero_ne_one, Nat.zero_add, z_fit0, z_fit1, nI_m1, mnN]
      exact ih (w + 1) sn C V (by omega) hs (by omega) hCC hDC hFC hR
    by_cases h33 : s.1 33 w = p % 6
    · have lay : ∀ (C : Nat → Nat → Int32) (V : Nat → Nat → Nat), Rc s C V → Rd s C V dy nz wd ln → Fz A C → rhR s w r = true → X (d + 5) m_X7_fill 123 [some (.ref 3), some (.int (nI l)), some (.int (nI p)), some (.int (oI r)), some (.int (nI i)), some (.ref (ln l)), some (.int (nI (p % 6))), some (.int (nI sn)), some (.int (nI w))] [] (GH C V dy) nx bc bs Q := by
        intro C V hCC hDC hFC hm
        have op : nI (p / 6) = oI (some (p / 6)) := rfl
        simp (disch := omega) only [i_X7_fill_123, i_X7_fill_123n, i_X7_fill_124, i_X7_fill_124n, i_X7_fill_126, i_X7_fill_127, i_X7_fill_129, i_X7_fill_130, i_X7_fill_132, gh_o3, gh_l4, gh_o10, gh_r11, gh_w11, gf_3_0, gf_3_3, gf_10_0, gf_10_1, gf_10_2, gf_10_3, gf_10_4, gf_10_5, gf_10_6, gp_10_0, gp_10_2, gh_u10, stF_0, stF_1, wdF_0, wdF_1, lnF_0, lnF_1, lsF_1, lsF_2, z_o_i, z_ai_i, z_si_i, z_ab_b, z_ab_z, z_sb_b, z_sb_z, z_al_i, z_al_b, z_pu_s, z_pu_n, nI_toN, z_inN, true_and, and_true, nI_add, pk_mul, vu_eq, vu_ne, nI_leI, nI_ltI, nI_eqI, nI_eq0, nI_le0, ↓ok_0, ↓ok_1, ↓bI_ok, if_true, if_false, nI_lt0, nI_ge0, ne_eq, not_true_eq_false, not_false_eq_true, bI_eq0, bI_ne0, bI_T, bI_F, Bool.false_eq_true, Nat.one_ne_zero, Nat.zero_ne_one, Nat.zero_add, z_fit0, z_fit1, nI_m1, mnN, z6, pk_div]
        rw [op]
        refine k_lay (p := some (p / 6)) (o := w) hI hCC hDC hl (fun y z => by cases z; exact ⟨by omega, rfl, lw⟩) (fun D T S hG hT rS hS => ?_)
        have d10 : D 10 0 = nI (s.1 32 11) := by rw [hG.2.1]; exact hCC.1.2.2.1
        have kM : ∀ {d nx : Nat} {Q : z_Q}, XC (d + 1) m_X4_howMany [.ref 10] (GH D T dy) nx Q = _ := k_many hI d10 hT rS hS
        have bl := lyq_b (a := s.1) (l := l) (p := some (p / 6)) (o := w)
        have hCD := hG.rc hT hCC
        have hDD := hG.rd hDC
        have hFD := hFC.trans hG.fz
        by_cases z : (lyq s.1 l (some (p / 6)) w).1 = 0
        · simp (disch := omega) only [i_X7_fill_135, i_X7_fill_135n, i_X7_fill_136, i_X7_fill_139, i_X7_fill_142, i_X7_fill_145, gh_o3, gh_l4, gh_o10, gh_r11, gh_w11, gf_3_0, gf_3_3, gf_10_0, gf_10_1, gf_10_2, gf_10_3, gf_10_4, gf_10_5, gf_10_6, gp_10_0, gp_10_2, gh_u10, stF_0, stF_1, wdF_0, wdF_1, lnF_0, lnF_1, lsF_1, lsF_2, z_o_i, z_ai_i, z_si_i, z_ab_b, z_ab_z, z_sb_b, z_sb_z, z_al_i, z_al_b, z_pu_s, z_pu_n, nI_toN, z_inN, true_and, and_true, nI_add, pk_mul, vu_eq, vu_ne, nI_leI, nI_ltI, nI_eqI, nI_eq0, nI_le0, ↓ok_0, ↓ok_1, ↓bI_ok, if_true, if_false, nI_lt0, nI_ge0, ne_eq, not_true_eq_false, not_false_eq_true, bI_eq0, bI_ne0, bI_T, bI_F, Bool.false_eq_true, Nat.one_ne_zero, Nat.zero_ne_one, Nat.zero_add, z_fit0, z_fit1, nI_m1, mnN, kM, z]
          refine no D T hCD hDD hFD ?_
          simp only [flP, Bool.and_eq_true, decide_eq_true_eq]
          omega
        · have yes : flP s l (p / 6) (p % 6) r w = true := by
            simp only [flP, Bool.and_eq_true, decide_eq_true_eq]
            exact ⟨h33, hm, by omega⟩
          rw [if_pos yes] at hR
          by_cases e : sn = i
          · rw [if_pos (by omega)] at hR
            have q := hQ D T hCD hDD hFD
            rw [← hR] at q
            simp (disch := omega) only [i_X7_fill_135, i_X7_fill_135n, i_X7_fill_136, i_X7_fill_139, i_X7_fill_142, i_X7_fill_148, i_X7_fill_150, i_X7_fill_152, i_X7_fill_155, i_X7_fill_157, gh_o3, gh_l4, gh_o10, gh_r11, gh_w11, gf_3_0, gf_3_3, gf_10_0, gf_10_1, gf_10_2, gf_10_3, gf_10_4, gf_10_5, gf_10_6, gp_10_0, gp_10_2, gh_u10, stF_0, stF_1, wdF_0, wdF_1, lnF_0, lnF_1, lsF_1, lsF_2, z_o_i, z_ai_i, z_si_i, z_ab_b, z_ab_z, z_sb_b, z_sb_z, z_al_i, z_al_b, z_pu_s, z_pu_n, nI_toN, z_inN, true_and, and_true, nI_add, pk_mul, vu_eq, vu_ne, nI_leI, nI_ltI, nI_eqI, nI_eq0, nI_le0, ↓ok_0, ↓ok_1, ↓bI_ok, if_true, if_false, nI_lt0, nI_ge0, ne_eq, not_true_eq_false, not_false_eq_true, bI_eq0, bI_ne0, bI_T, bI_F, Bool.false_eq_true, Nat.one_ne_zero, Nat.zero_ne_one, Nat.zero_add, z_fit0, z_fit1, nI_m1, mnN, kM, z, e]
            exact q
          · rw [if_neg (by omega)] at hR
            simp (disch := omega) only [i_X7_fill_135, i_X7_fill_135n, i_X7_fill_136, i_X7_fill_139, i_X7_fill_142, i_X7_fill_148, i_X7_fill_150, i_X7_fill_152, i_X7_fill_158, i_X7_fill_161, i_X7_fill_164, gh_o3, gh_l4, gh_o10, gh_r11, gh_w11, gf_3_0, gf_3_3, gf_10_0, gf_10_1, gf_10_2, gf_10_3, gf_10_4, gf_10_5, gf_10_6, gp_10_0, gp_10_2, gh_u10, stF_0, stF_1, wdF_0, wdF_1, lnF_0, lnF_1, lsF_1, lsF_2, z_o_i, z_ai_i, z_si_i, z_ab_b, z_ab_z, z_sb_b, z_sb_z, z_al_i, z_al_b, z_pu_s, z_pu_n, nI_toN, z_inN, true_and, and_true, nI_add, pk_mul, vu_eq, vu_ne, nI_leI, nI_ltI, nI_eqI, nI_eq0, nI_le0, ↓ok_0, ↓ok_1, ↓bI_ok, if_true, if_false, nI_lt0, nI_ge0, ne_eq, not_true_eq_false, not_false_eq_true, bI_eq0, bI_ne0, bI_T, bI_F, Bool.false_eq_true, Nat.one_ne_zero, Nat.zero_ne_one, Nat.zero_add, z_fit0, z_fit1, nI_m1, mnN, kM, z, e]
            exact ih (w + 1) (sn + 1) D T (by omega) (by omega) (by omega) hCD hDD hFD (by rw [show i - (sn + 1) = i - sn - 1 by omega]; exact hR)
      cases r with
      | none =>
        have on : oI none = -1 := rfl
        have me : ((-1 : Int32) = -1) = True := by simp
        have q := lay B U hC hD hF rfl
        rw [on] at q ⊢
        simp (disch := omega) only [i_X7_fill_69, i_X7_fill_69n, i_X7_fill_70, i_X7_fill_73, i_X7_fill_76, i_X7_fill_79, i_X7_fill_79n, i_X7_fill_80, i_X7_fill_83, i_X7_fill_85, i_X7_fill_88, i_X7_fill_91, i_X7_fill_94, i_X7_fill_96, i_X7_fill_102, i_X7_fill_103, i_X7_fill_104, gh_o3, gh_l4, gh_o10, gh_r11, gh_w11, gf_3_0, gf_3_3, gf_10_0, gf_10_1, gf_10_2, gf_10_3, gf_10_4, gf_10_5, gf_10_6, gp_10_0, gp_10_2, gh_u10, stF_0, stF_1, wdF_0, wdF_1, lnF_0, lnF_1, lsF_1, lsF_2, z_o_i, z_ai_i, z_si_i, z_ab_b, z_ab_z, z_sb_b, z_sb_z, z_al_i, z_al_b, z_pu_s, z_pu_n, nI_toN, z_inN, true_and, and_true, nI_add, pk_mul, vu_eq, vu_ne, nI_leI, nI_ltI, nI_eqI, nI_eq0, nI_le0, ↓ok_0, ↓ok_1, ↓bI_ok, if_true, if_false, nI_lt0, nI_ge0, ne_eq, not_true_eq_false, not_false_eq_true, bI_eq0, bI_ne0, bI_T, bI_F, Bool.false_eq_true, Nat.one_ne_zero, Nat.zero_ne_one, Nat.zero_add, z_fit0, z_fit1, nI_m1, mnN, kS, kG, w1, le, h33, me]
        exact q
      | some u =>
        have hu := hr u rfl
        have ou : oI (some u) = nI u := rfl
        have q := fun C V a b c => lay C V a b c
        have qn := fun C V a b c => no C V a b c
        rw [ou] at q qn ⊢
        simp (disch := omega) only [i_X7_fill_69, i_X7_fill_69n, i_X7_fill_70, i_X7_fill_73, i_X7_fill_76, i_X7_fill_79, i_X7_fill_79n, i_X7_fill_80, i_X7_fill_83, i_X7_fill_85, i_X7_fill_88, i_X7_fill_91, i_X7_fill_94, i_X7_fill_96, i_X7_fill_102, i_X7_fill_103, i_X7_fill_104, i_X7_fill_107, i_X7_fill_107n, i_X7_fill_108, i_X7_fill_110, i_X7_fill_111, i_X7_fill_113, gh_o3, gh_l4, gh_o10, gh_r11, gh_w11, gf_3_0, gf_3_3, gf_10_0, gf_10_1, gf_10_2, gf_10_3, gf_10_4, gf_10_5, gf_10_6, gp_10_0, gp_10_2, gh_u10, stF_0, stF_1, wdF_0, wdF_1, lnF_0, lnF_1, lsF_1, lsF_2, z_o_i, z_ai_i, z_si_i, z_ab_b, z_ab_z, z_sb_b, z_sb_z, z_al_i, z_al_b, z_pu_s, z_pu_n, nI_toN, z_inN, true_and, and_true, nI_add, pk_mul, vu_eq, vu_ne, nI_leI, nI_ltI, nI_eqI, nI_eq0, nI_le0, ↓ok_0, ↓ok_1, ↓bI_ok, if_true, if_false, nI_lt0, nI_ge0, ne_eq, not_true_eq_false, not_false_eq_true, bI_eq0, bI_ne0, bI_T, bI_F, Bool.false_eq_true, Nat.one_ne_zero, Nat.zero_ne_one, Nat.zero_add, z_fit0, z_fit1, nI_m1, mnN, kS, kG, w1, le, h33]
        refine k_fp hI hC hD lw hu (by omega) (fun C V hG => ?_)
        have om : (oI (hwq s.1 s.2 w u 6) = -1) = (hwq s.1 s.2 w u 6 = none) := oI_m1 (fun y hy => hwq_lt hI.b34 hy)
        by_cases z : hwq s.1 s.2 w u 6 = none
        · simp (disch := omega) only [i_X7_fill_116, i_X7_fill_117, i_X7_fill_120, gh_o3, gh_l4, gh_o10, gh_r11, gh_w11, gf_3_0, gf_3_3, gf_10_0, gf_10_1, gf_10_2, gf_10_3, gf_10_4, gf_10_5, gf_10_6, gp_10_0, gp_10_2, gh_u10, stF_0, stF_1, wdF_0, wdF_1, lnF_0, lnF_1, lsF_1, lsF_2, z_o_i, z_ai_i, z_si_i, z_ab_b, z_ab_z, z_sb_b, z_sb_z, z_al_i, z_al_b, z_pu_s, z_pu_n, nI_toN, z_inN, true_and, and_true, nI_add, pk_mul, vu_eq, vu_ne, nI_leI, nI_ltI, nI_eqI, nI_eq0, nI_le0, ↓ok_0, ↓ok_1, ↓bI_ok, if_true, if_false, nI_lt0, nI_ge0, ne_eq, not_true_eq_false, not_false_eq_true, bI_eq0, bI_ne0, bI_T, bI_F, Bool.false_eq_true, Nat.one_ne_zero, Nat.zero_ne_one, Nat.zero_add, z_fit0, z_fit1, nI_m1, mnN, om, z]
          refine qn C V (hG.rc hC) (hG.rd hD) (hF.trans hG.fz) ?_
          simp [flP, rhR, z]
        · simp (disch := omega) only [i_X7_fill_116, i_X7_fill_117, gh_o3, gh_l4, gh_o10, gh_r11, gh_w11, gf_3_0, gf_3_3, gf_10_0, gf_10_1, gf_10_2, gf_10_3, gf_10_4, gf_10_5, gf_10_6, gp_10_0, gp_10_2, gh_u10, stF_0, stF_1, wdF_0, wdF_1, lnF_0, lnF_1, lsF_1, lsF_2, z_o_i, z_ai_i, z_si_i, z_ab_b, z_ab_z, z_sb_b, z_sb_z, z_al_i, z_al_b, z_pu_s, z_pu_n, nI_toN, z_inN, true_and, and_true, nI_add, pk_mul, vu_eq, vu_ne, nI_leI, nI_ltI, nI_eqI, nI_eq0, nI_le0, ↓ok_0, ↓ok_1, ↓bI_ok, if_true, if_false, nI_lt0, nI_ge0, ne_eq, not_true_eq_false, not_false_eq_true, bI_eq0, bI_ne0, bI_T, bI_F, Bool.false_eq_true, Nat.one_ne_zero, Nat.zero_ne_one, Nat.zero_add, z_fit0, z_fit1, nI_m1, mnN, om, z]
          exact q C V (hG.rc hC) (hG.rd hD) (hF.trans hG.fz) (by simp [rhR, z])
    · simp (disch := omega) only [i_X7_fill_69, i_X7_fill_69n, i_X7_fill_70, i_X7_fill_73, i_X7_fill_76, i_X7_fill_79, i_X7_fill_79n, i_X7_fill_80, i_X7_fill_83, i_X7_fill_85, i_X7_fill_88, i_X7_fill_91, i_X7_fill_94, i_X7_fill_96, i_X7_fill_99, gh_o3, gh_l4, gh_o10, gh_r11, gh_w11, gf_3_0, gf_3_3, gf_10_0, gf_10_1, gf_10_2, gf_10_3, gf_10_4, gf_10_5, gf_10_6, gp_10_0, gp_10_2, gh_u10, stF_0, stF_1, wdF_0, wdF_1, lnF_0, lnF_1, lsF_1, lsF_2, z_o_i, z_ai_i, z_si_i, z_ab_b, z_ab_z, z_sb_b, z_sb_z, z_al_i, z_al_b, z_pu_s, z_pu_n, nI_toN, z_inN, true_and, and_true, nI_add, pk_mul, vu_eq, vu_ne, nI_leI, nI_ltI, nI_eqI, nI_eq0, nI_le0, ↓ok_0, ↓ok_1, ↓bI_ok, if_true, if_false, nI_lt0, nI_ge0, ne_eq, not_true_eq_false, not_false_eq_true, bI_eq0, bI_ne0, bI_T, bI_F, Bool.false_eq_true, Nat.one_ne_zero, Nat.zero_ne_one, Nat.zero_add, z_fit0, z_fit1, nI_m1, mnN, kS, kG, w1, le, h33]
      refine no B U hC hD hF ?_
      simp [flP, h33]
theorem x_fill {l p r i : Int32} (hI : Iv s) (hK : Cl s A P dy nx) (hQ : ∀ B R, Cl s B R dy nx → Fz A B → Q (some (.int (s_fill s l p r i))) (GH B R dy) nx) : XC (d + 5) m_X7_fill [.ref 3, .int l, .int p, .int r, .int i] (GH A P dy) nx Q := by
  show X (d + 5) m_X7_fill 0 [some (.ref 3), some (.int l), some (.int p), some (.int r), some (.int i), none, none, none, none] [] (GH A P dy) nx 0 0 Q
  have hK' := hK
  obtain ⟨hC, wd, ln, hD⟩ := hK
  have sc := hI.sc
  have kL : ∀ {d nx : Nat} {Q : z_Q} {w : Nat}, w < s.1 32 13 → XC (d + 3) m_X7_lineAt [.ref 3, .int (nI w)] (GH A P dy) nx Q = Q (some (.ref (ln w))) (GH A P dy) nx := fun h => k_lineAt hD h
  have kN : ∀ {d nx : Nat} {Q : z_Q} {x : Int32}, ¬ iw x (s.1 32 13) = true → XC (d + 3) m_X7_lineAt [.ref 3, .int x] (GH A P dy) nx Q = Q (some .null) (GH A P dy) nx := fun h => k_lineAtN hD sc.2.2.2.2.1 h
  have kW : ∀ {d nx : Nat} {Q : z_Q} {w : Nat}, w < s.1 32 1 → XC (d + 3) m_X7_wordAt [.ref 3, .int (nI w)] (GH A P dy) nx Q = Q (some (.ref (wd w))) (GH A P dy) nx := fun h => k_wordAt hD h
  have kNw : ∀ {d nx : Nat} {Q : z_Q} {x : Int32}, ¬ iw x (s.1 32 1) = true → XC (d + 3) m_X7_wordAt [.ref 3, .int x] (GH A P dy) nx Q = Q (some .null) (GH A P dy) nx := fun h => k_wordAtN hD sc.1 h
  have z6 : ¬ (6 : Nat) = 0 := by omega
  unfold s_fill at hQ
  by_cases hl : iw l (s.1 32 13) = true
  · obtain ⟨a, h1, rfl⟩ := iw_ex hl
    rw [nI_toN (by omega)] at hQ
    obtain ⟨qq, F, q1, q2, q3⟩ := hD.lq h1
    have b42 := hI.b42 a
    by_cases hp : iw p (6 * s.1 42 a) = true
    · obtain ⟨b, h2, rfl⟩ := iw_ex hp
      rw [nI_toN (by omega)] at hQ
      have c : b / 6 < s.1 42 a := by omega
      have md : b - b / 6 * 6 = b % 6 := by omega
      by_cases hi : iw i 2147483648 = true
      · have hi' := hi
        rw [iw_0] at hi'
        by_cases hr : r = -1
        · rw [if_pos ⟨hl, hp, Or.inl hr, hi⟩, if_pos hr] at hQ
          obtain ⟨e, h3, rfl⟩ := iw_ex hi
          rw [nI_toN (by omega)] at hQ
          subst hr
          have me : ((-1 : Int32) = -1) = True := by simp
          simp (disch := omega) only [i_X7_fill_0, i_X7_fill_0n, i_X7_fill_1, i_X7_fill_2, i_X7_fill_5, i_X7_fill_5n, i_X7_fill_7, i_X7_fill_7n, i_X7_fill_9, i_X7_fill_9n, i_X7_fill_12, i_X7_fill_13, i_X7_fill_16, i_X7_fill_17, i_X7_fill_19, i_X7_fill_20, i_X7_fill_20n, i_X7_fill_22, i_X7_fill_25, i_X7_fill_31, i_X7_fill_32, i_X7_fill_33, i_X7_fill_47, i_X7_fill_49, i_X7_fill_55, i_X7_fill_56, i_X7_fill_58, i_X7_fill_59, i_X7_fill_61, i_X7_fill_62, i_X7_fill_64, i_X7_fill_65, gh_o3, gh_l4, gh_o10, gh_r11, gh_w11, gf_3_0, gf_3_3, gf_10_0, gf_10_1, gf_10_2, gf_10_3, gf_10_4, gf_10_5, gf_10_6, gp_10_0, gp_10_2, gh_u10, stF_0, stF_1, wdF_0, wdF_1, lnF_0, lnF_1, lsF_1, lsF_2, z_o_i, z_ai_i, z_si_i, z_ab_b, z_ab_z, z_sb_b, z_sb_z, z_al_i, z_al_b, z_pu_s, z_pu_n, nI_toN, z_inN, true_and, and_true, nI_add, pk_mul, vu_eq, vu_ne, nI_leI, nI_ltI, nI_eqI, nI_eq0, nI_le0, ↓ok_0, ↓ok_1, ↓bI_ok, if_true, if_false, nI_lt0, nI_ge0, ne_eq, not_true_eq_false, not_false_eq_true, bI_eq0, bI_ne0, bI_T, bI_F, Bool.false_eq_true, Nat.one_ne_zero, Nat.zero_ne_one, Nat.zero_add, z_fit0, z_fit1, nI_m1, mnN, kL, q1, pk_div, pk_sub, z6, c, md, me]
          exact l_fillC (A := A) (r := none) hI h1 c h3 (fun u z => by cases z) (fun B U h4 h5 h6 => hQ B U ⟨h4, wd, ln, h5⟩ h6) (s.1 32 1) 0 0 A P (by omega) (by omega) (by omega) hC hD Fz.refl (by rw [Nat.sub_zero])
        · by_cases hw : iw r (s.1 32 1) = true
          · rw [if_pos ⟨hl, hp, Or.inr hw, hi⟩, if_neg hr] at hQ
            obtain ⟨e, h3, rfl⟩ := iw_ex hi
            obtain ⟨u, h4, rfl⟩ := iw_ex hw
            rw [nI_toN (by omega), nI_toN (by omega)] at hQ
            simp (disch := omega) only [i_X7_fill_0, i_X7_fill_0n, i_X7_fill_1, i_X7_fill_2, i_X7_fill_5, i_X7_fill_5n, i_X7_fill_7, i_X7_fill_7n, i_X7_fill_9, i_X7_fill_9n, i_X7_fill_12, i_X7_fill_13, i_X7_fill_16, i_X7_fill_17, i_X7_fill_19, i_X7_fill_20, i_X7_fill_20n, i_X7_fill_22, i_X7_fill_25, i_X7_fill_31, i_X7_fill_32, i_X7_fill_33, i_X7_fill_36, i_X7_fill_36n, i_X7_fill_37, i_X7_fill_38, i_X7_fill_41, i_X7_fill_41n, i_X7_fill_47, i_X7_fill_49, i_X7_fill_55, i_X7_fill_56, i_X7_fill_58, i_X7_fill_59, i_X7_fill_61, i_X7_fill_62, i_X7_fill_64, i_X7_fill_65, gh_o3, gh_l4, gh_o10, gh_r11, gh_w11, gf_3_0, gf_3_3, gf_10_0, gf_10_1, gf_10_2, gf_10_3, gf_10_4, gf_10_5, gf_10_6, gp_10_0, gp_10_2, gh_u10, stF_0, stF_1, wdF_0, wdF_1, lnF_0, lnF_1, lsF_1, lsF_2, z_o_i, z_ai_i, z_si_i, z_ab_b, z_ab_z, z_sb_b, z_sb_z, z_al_i, z_al_b, z_pu_s, z_pu_n, nI_toN, z_inN, true_and, and_true, nI_add, pk_mul, vu_eq, vu_ne, nI_leI, nI_ltI, nI_eqI, nI_eq0, nI_le0, ↓ok_0, ↓ok_1, ↓bI_ok, if_true, if_false, nI_lt0, nI_ge0, ne_eq, not_true_eq_false, not_false_eq_true, bI_eq0, bI_ne0, bI_T, bI_F, Bool.false_eq_true, Nat.one_ne_zero, Nat.zero_ne_one, Nat.zero_add, z_fit0, z_fit1, nI_m1, mnN, kL, kW, q1, pk_div, pk_sub, z6, c, md]
            exact l_fillC (A := A) (r := some u) hI h1 c h3 (fun v z => by cases z; exact h4) (fun B U h4 h5 h6 => hQ B U ⟨h4, wd, ln, h5⟩ h6) (s.1 32 1) 0 0 A P (by omega) (by omega) (by omega) hC hD Fz.refl (by rw [Nat.sub_zero])
          · rw [if_neg (fun q => q.2.2.1.elim hr hw)] at hQ
            have kNr : ∀ {d nx : Nat} {Q : z_Q}, XC (d + 3) m_X7_wordAt [.ref 3, .int r] (GH A P dy) nx Q = Q (some .null) (GH A P dy) nx := kNw hw
            simp (disch := omega) only [i_X7_fill_0, i_X7_fill_0n, i_X7_fill_1, i_X7_fill_2, i_X7_fill_5, i_X7_fill_5n, i_X7_fill_7, i_X7_fill_7n, i_X7_fill_9, i_X7_fill_9n, i_X7_fill_12, i_X7_fill_13, i_X7_fill_16, i_X7_fill_17, i_X7_fill_19, i_X7_fill_20, i_X7_fill_20n, i_X7_fill_22, i_X7_fill_25, i_X7_fill_31, i_X7_fill_32, i_X7_fill_33, i_X7_fill_36, i_X7_fill_36n, i_X7_fill_37, i_X7_fill_38, i_X7_fill_41, i_X7_fill_41n, i_X7_fill_44, i_X7_fill_46, gh_o3, gh_l4, gh_o10, gh_r11, gh_w11, gf_3_0, gf_3_3, gf_10_0, gf_10_1, gf_10_2, gf_10_3, gf_10_4, gf_10_5, gf_10_6, gp_10_0, gp_10_2, gh_u10, stF_0, stF_1, wdF_0, wdF_1, lnF_0, lnF_1, lsF_1, lsF_2, z_o_i, z_ai_i, z_si_i, z_ab_b, z_ab_z, z_sb_b, z_sb_z, z_al_i, z_al_b, z_pu_s, z_pu_n, nI_toN, z_inN, true_and, and_true, nI_add, pk_mul, vu_eq, vu_ne, nI_leI, nI_ltI, nI_eqI, nI_eq0, nI_le0, ↓ok_0, ↓ok_1, ↓bI_ok, if_true, if_false, nI_lt0, nI_ge0, ne_eq, not_true_eq_false, not_false_eq_true, bI_eq0, bI_ne0, bI_T, bI_F, Bool.false_eq_true, Nat.one_ne_zero, Nat.zero_ne_one, Nat.zero_add, z_fit0, z_fit1, nI_m1, mnN, kL, kNr, q1, pk_div, pk_sub, z6, c, hr]
            exact hQ A P hK' Fz.refl
      · rw [if_neg (fun q => hi q.2.2.2)] at hQ
        rw [iw_0] at hi
        by_cases hr : r = -1
        · simp (disch := omega) only [i_X7_fill_0, i_X7_fill_0n, i_X7_fill_1, i_X7_fill_2, i_X7_fill_5, i_X7_fill_5n, i_X7_fill_7, i_X7_fill_7n, i_X7_fill_9, i_X7_fill_9n, i_X7_fill_12, i_X7_fill_13, i_X7_fill_16, i_X7_fill_17, i_X7_fill_19, i_X7_fill_20, i_X7_fill_20n, i_X7_fill_22, i_X7_fill_25, i_X7_fill_31, i_X7_fill_32, i_X7_fill_33, i_X7_fill_47, i_X7_fill_49, i_X7_fill_52, i_X7_fill_54, gh_o3, gh_l4, gh_o10, gh_r11, gh_w11, gf_3_0, gf_3_3, gf_10_0, gf_10_1, gf_10_2, gf_10_3, gf_10_4, gf_10_5, gf_10_6, gp_10_0, gp_10_2, gh_u10, stF_0, stF_1, wdF_0, wdF_1, lnF_0, lnF_1, lsF_1, lsF_2, z_o_i, z_ai_i, z_si_i, z_ab_b, z_ab_z, z_sb_b, z_sb_z, z_al_i, z_al_b, z_pu_s, z_pu_n, nI_toN, z_inN, true_and, and_true, nI_add, pk_mul, vu_eq, vu_ne, nI_leI, nI_ltI, nI_eqI, nI_eq0, nI_le0, ↓ok_0, ↓ok_1, ↓bI_ok, if_true, if_false, nI_lt0, nI_ge0, ne_eq, not_true_eq_false, not_false_eq_true, bI_eq0, bI_ne0, bI_T, bI_F, Bool.false_eq_true, Nat.one_ne_zero, Nat.zero_ne_one, Nat.zero_add, z_fit0, z_fit1, nI_m1, mnN, kL, q1, pk_div, pk_sub, z6, c, hr, hi]
          exact hQ A P hK' Fz.refl
        · by_cases hw : iw r (s.1 32 1) = true
          · obtain ⟨u, h4, rfl⟩ := iw_ex hw
            simp (disch := omega) only [i_X7_fill_0, i_X7_fill_0n, i_X7_fill_1, i_X7_fill_2, i_X7_fill_5, i_X7_fill_5n, i_X7_fill_7, i_X7_fill_7n, i_X7_fill_9, i_X7_fill_9n, i_X7_fill_12, i_X7_fill_13, i_X7_fill_16, i_X7_fill_17, i_X7_fill_19, i_X7_fill_20, i_X7_fill_20n, i_X7_fill_22, i_X7_fill_25, i_X7_fill_31, i_X7_fill_32, i_X7_fill_33, i_X7_fill_36, i_X7_fill_36n, i_X7_fill_37, i_X7_fill_38, i_X7_fill_41, i_X7_fill_41n, i_X7_fill_47, i_X7_fill_49, i_X7_fill_52, i_X7_fill_54, gh_o3, gh_l4, gh_o10, gh_r11, gh_w11, gf_3_0, gf_3_3, gf_10_0, gf_10_1, gf_10_2, gf_10_3, gf_10_4, gf_10_5, gf_10_6, gp_10_0, gp_10_2, gh_u10, stF_0, stF_1, wdF_0, wdF_1, lnF_0, lnF_1, lsF_1, lsF_2, z_o_i, z_ai_i, z_si_i, z_ab_b, z_ab_z, z_sb_b, z_sb_z, z_al_i, z_al_b, z_pu_s, z_pu_n, nI_toN, z_inN, true_and, and_true, nI_add, pk_mul, vu_eq, vu_ne, nI_leI, nI_ltI, nI_eqI, nI_eq0, nI_le0, ↓ok_0, ↓ok_1, ↓bI_ok, if_true, if_false, nI_lt0, nI_ge0, ne_eq, not_true_eq_false, not_false_eq_true, bI_eq0, bI_ne0, bI_T, bI_F, Bool.false_eq_true, Nat.one_ne_zero, Nat.zero_ne_one, Nat.zero_add, z_fit0, z_fit1, nI_m1, mnN, kL, kW, q1, pk_div, pk_sub, z6, c, hi]
            exact hQ A P hK' Fz.refl
          · have kNr : ∀ {d nx : Nat} {Q : z_Q}, XC (d + 3) m_X7_wordAt [.ref 3, .int r] (GH A P dy) nx Q = Q (some .null) (GH A P dy) nx := kNw hw
            simp (disch := omega) only [i_X7_fill_0, i_X7_fill_0n, i_X7_fill_1, i_X7_fill_2, i_X7_fill_5, i_X7_fill_5n, i_X7_fill_7, i_X7_fill_7n, i_X7_fill_9, i_X7_fill_9n, i_X7_fill_12, i_X7_fill_13, i_X7_fill_16, i_X7_fill_17, i_X7_fill_19, i_X7_fill_20, i_X7_fill_20n, i_X7_fill_22, i_X7_fill_25, i_X7_fill_31, i_X7_fill_32, i_X7_fill_33, i_X7_fill_36, i_X7_fill_36n, i_X7_fill_37, i_X7_fill_38, i_X7_fill_41, i_X7_fill_41n, i_X7_fill_44, i_X7_fill_46, gh_o3, gh_l4, gh_o10, gh_r11, gh_w11, gf_3_0, gf_3_3, gf_10_0, gf_10_1, gf_10_2, gf_10_3, gf_10_4, gf_10_5, gf_10_6, gp_10_0, gp_10_2, gh_u10, stF_0, stF_1, wdF_0, wdF_1, lnF_0, lnF_1, lsF_1, lsF_2, z_o_i, z_ai_i, z_si_i, z_ab_b, z_ab_z, z_sb_b, z_sb_z, z_al_i, z_al_b, z_pu_s, z_pu_n, nI_toN, z_inN, true_and, and_true, nI_add, pk_mul, vu_eq, vu_ne, nI_leI, nI_ltI, nI_eqI, nI_eq0, nI_le0, ↓ok_0, ↓ok_1, ↓bI_ok, if_true, if_false, nI_lt0, nI_ge0, ne_eq, not_true_eq_false, not_false_eq_true, bI_eq0, bI_ne0, bI_T, bI_F, Bool.false_eq_true, Nat.one_ne_zero, Nat.zero_ne_one, Nat.zero_add, z_fit0, z_fit1, nI_m1, mnN, kL, kNr, q1, pk_div, pk_sub, z6, c, hr]
            exact hQ A P hK' Fz.refl
    · rw [if_neg (fun q => hp q.2.1)] at hQ
      by_cases p0 : p < 0
      · simp (disch := omega) only [i_X7_fill_0, i_X7_fill_0n, i_X7_fill_1, i_X7_fill_2, i_X7_fill_5, i_X7_fill_5n, i_X7_fill_7, i_X7_fill_7n, i_X7_fill_9, i_X7_fill_9n, i_X7_fill_12, i_X7_fill_13, i_X7_fill_28, i_X7_fill_30, gh_o3, gh_l4, gh_o10, gh_r11, gh_w11, gf_3_0, gf_3_3, gf_10_0, gf_10_1, gf_10_2, gf_10_3, gf_10_4, gf_10_5, gf_10_6, gp_10_0, gp_10_2, gh_u10, stF_0, stF_1, wdF_0, wdF_1, lnF_0, lnF_1, lsF_1, lsF_2, z_o_i, z_ai_i, z_si_i, z_ab_b, z_ab_z, z_sb_b, z_sb_z, z_al_i, z_al_b, z_pu_s, z_pu_n, nI_toN, z_inN, true_and, and_true, nI_add, pk_mul, vu_eq, vu_ne, nI_leI, nI_ltI, nI_eqI, nI_eq0, nI_le0, ↓ok_0, ↓ok_1, ↓bI_ok, if_true, if_false, nI_lt0, nI_ge0, ne_eq, not_true_eq_false, not_false_eq_true, bI_eq0, bI_ne0, bI_T, bI_F, Bool.false_eq_true, Nat.one_ne_zero, Nat.zero_ne_one, Nat.zero_add, z_fit0, z_fit1, nI_m1, mnN, kL, p0]
        exact hQ A P hK' Fz.refl
      · have pp : iw p 2147483648 = true := by rw [iw_0]; exact Int32.not_lt.mp p0
        obtain ⟨b, h2, rfl⟩ := iw_ex pp
        rw [iw_nI (by omega)] at hp
        have c : ¬ b / 6 < s.1 42 a := by
          have : ¬ b < 6 * s.1 42 a := by simpa using hp
          omega
        simp (disch := omega) only [i_X7_fill_0, i_X7_fill_0n, i_X7_fill_1, i_X7_fill_2, i_X7_fill_5, i_X7_fill_5n, i_X7_fill_7, i_X7_fill_7n, i_X7_fill_9, i_X7_fill_9n, i_X7_fill_12, i_X7_fill_13, i_X7_fill_16, i_X7_fill_17, i_X7_fill_19, i_X7_fill_20, i_X7_fill_20n, i_X7_fill_22, i_X7_fill_25, i_X7_fill_28, i_X7_fill_30, gh_o3, gh_l4, gh_o10, gh_r11, gh_w11, gf_3_0, gf_3_3, gf_10_0, gf_10_1, gf_10_2, gf_10_3, gf_10_4, gf_10_5, gf_10_6, gp_10_0, gp_10_2, gh_u10, stF_0, stF_1, wdF_0, wdF_1, lnF_0, lnF_1, lsF_1, lsF_2, z_o_i, z_ai_i, z_si_i, z_ab_b, z_ab_z, z_sb_b, z_sb_z, z_al_i, z_al_b, z_pu_s, z_pu_n, nI_toN, z_inN, true_and, and_true, nI_add, pk_mul, vu_eq, vu_ne, nI_leI, nI_ltI, nI_eqI, nI_eq0, nI_le0, ↓ok_0, ↓ok_1, ↓bI_ok, if_true, if_false, nI_lt0, nI_ge0, ne_eq, not_true_eq_false, not_false_eq_true, bI_eq0, bI_ne0, bI_T, bI_F, Bool.false_eq_true, Nat.one_ne_zero, Nat.zero_ne_one, Nat.zero_add, z_fit0, z_fit1, nI_m1, mnN, kL, q1, pk_div, z6, c]
        exact hQ A P hK' Fz.refl
  · rw [if_neg (fun q => hl q.1)] at hQ
    have kNl : ∀ {d nx : Nat} {Q : z_Q}, XC (d + 3) m_X7_lineAt [.ref 3, .int l] (GH A P dy) nx Q = Q (some .null) (GH A P dy) nx := kN hl
    simp (disch := omega) only [i_X7_fill_0, i_X7_fill_0n, i_X7_fill_1, i_X7_fill_2, i_X7_fill_5, i_X7_fill_5n, i_X7_fill_7, i_X7_fill_7n, i_X7_fill_9, i_X7_fill_9n, i_X7_fill_28, i_X7_fill_30, gh_o3, gh_l4, gh_o10, gh_r11, gh_w11, gf_3_0, gf_3_3, gf_10_0, gf_10_1, gf_10_2, gf_10_3, gf_10_4, gf_10_5, gf_10_6, gp_10_0, gp_10_2, gh_u10, stF_0, stF_1, wdF_0, wdF_1, lnF_0, lnF_1, lsF_1, lsF_2, z_o_i, z_ai_i, z_si_i, z_ab_b, z_ab_z, z_sb_b, z_sb_z, z_al_i, z_al_b, z_pu_s, z_pu_n, nI_toN, z_inN, true_and, and_true, nI_add, pk_mul, vu_eq, vu_ne, nI_leI, nI_ltI, nI_eqI, nI_eq0, nI_le0, ↓ok_0, ↓ok_1, ↓bI_ok, if_true, if_false, nI_lt0, nI_ge0, ne_eq, not_true_eq_false, not_false_eq_true, bI_eq0, bI_ne0, bI_T, bI_F, Bool.false_eq_true, Nat.one_ne_zero, Nat.zero_ne_one, Nat.zero_add, z_fit0, z_fit1, nI_m1, mnN, kNl]
    exact hQ A P hK' Fz.refl
end CLay
