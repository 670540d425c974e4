/-! THE CLASS: new lines -/
section CLine
variable {s : z_S} {A : Nat → Nat → Int32} {P : Nat → Nat → Nat} {dy : z_H} {d nx nz bc bs : Nat} {Q : z_Q} {wd ln : Nat → Nat}
theorem lc_ne {x y : Int64} : lg_cmp x y = 0 ↔ x = y := by
  constructor
  · intro h
    have h1 := (lc_le (x := x) (y := y)).mp (by rw [h]; decide)
    have h2 := (lc_ge (x := x) (y := y)).mp (by rw [h]; decide)
    exact Int64.le_antisymm h1 h2
  · intro h
    have h1 := (lc_le (x := x) (y := y)).mpr (by rw [h]; exact Int64.le_refl _)
    have h2 := (lc_ge (x := x) (y := y)).mpr (by rw [h]; exact Int64.le_refl _)
    exact Int32.le_antisymm h1 h2
theorem lB_eq0 {a : Nat} (ha : a < 9223372036854775808) : (lN a = lN 0) = (a = 0) := by
  simp only [eq_iff_iff]
  constructor
  · intro h
    have := congrArg Int64.toInt h
    rw [lB_toInt ha, lB_toInt (by omega)] at this
    omega
  · intro h; rw [h]
theorem k_aat {n : Nat} (hD : Rd s A P dy nx wd ln) (hW : s.1 32 1 ≤ 24) (hn : n ≤ 8) {x2 : Option Value} : ∀ (m k T : Nat), k + m = n → T < 9223372036854775808 → Q (some (.int (bI (okL (s.1 32 1) m T = true)))) (GH A P dy) nx → X (d + 1) m_X7_areAllThere 6 [some (.ref 3), some (.int (nI n)), x2, none, some (.long (lN T)), none, some (.int (nI k))] [] (GH A P dy) nx 0 0 Q := by
  have kS : ∀ {d nx : Nat} {Q : z_Q}, XC d m_Jx4a65c_size_8abf5 [.ref 4] (GH A P dy) nx Q = _ := k_size4 hD
  have g4 : ∀ {A : Nat → Nat → Int32} {P : Nat → Nat → Nat} {dy : z_H}, GH A P dy 4 = .inr (.inl (9, lsF (A 4 0) (P 4 1) (A 4 2))) := gh_l4
  intro m
  induction m with
  | zero =>
    intro k T hk hT hQ
    have e : k = n := by omega
    subst e
    by_cases z : T = 0
    · subst z
      simp (disch := omega) only [i_X7_areAllThere_6, i_X7_areAllThere_8, i_X7_areAllThere_9, i_X7_areAllThere_46, i_X7_areAllThere_48, i_X7_areAllThere_49, i_X7_areAllThere_50, i_X7_areAllThere_53, i_X7_areAllThere_54, i_X7_areAllThere_58, gh_o3, gf_3_0, gf_3_1, gh_dy, gh_dyup, lsF_0, lsF_1, lsF_2, lnF_0, lnF_1, z_o_i, z_ai_i, z_si_i, z_ab_b, z_ab_z, z_sb_b, z_sb_z, z_al_i, z_al_b, z_pu_s, z_pu_n, nI_toN, z_inN, true_and, and_true, nI_add, pk_mul, vu_eq, vu_ne, nI_leI, nI_ltI, nI_eqI, nI_eq0, nI_le0, ↓ok_0, ↓ok_1, if_true, if_false, nI_lt0, nI_ge0, ne_eq, not_true_eq_false, not_false_eq_true, nI_m1, lc_ne, lB_eq0, Nat.le_refl]
      exact hQ
    · rw [bI_f (by simp [okL, z])] at hQ
      simp (disch := omega) only [i_X7_areAllThere_6, i_X7_areAllThere_8, i_X7_areAllThere_9, i_X7_areAllThere_46, i_X7_areAllThere_48, i_X7_areAllThere_49, i_X7_areAllThere_50, i_X7_areAllThere_57, i_X7_areAllThere_58, gh_o3, gf_3_0, gf_3_1, gh_dy, gh_dyup, lsF_0, lsF_1, lsF_2, lnF_0, lnF_1, z_o_i, z_ai_i, z_si_i, z_ab_b, z_ab_z, z_sb_b, z_sb_z, z_al_i, z_al_b, z_pu_s, z_pu_n, nI_toN, z_inN, true_and, and_true, nI_add, pk_mul, vu_eq, vu_ne, nI_leI, nI_ltI, nI_eqI, nI_eq0, nI_le0, ↓ok_0, ↓ok_1, if_true, if_false, nI_lt0, nI_ge0, ne_eq, not_true_eq_false, not_false_eq_true, nI_m1, lc_ne, lB_eq0, Nat.le_refl, z]
      exact hQ
  | succ m ih =>
    intro k T hk hT hQ
    have l1 : ¬ n ≤ k := by omega
    rw [i_X7_areAllThere_6]
    by_cases c : T % 24 < s.1 32 1
    · simp (disch := omega) only [i_X7_areAllThere_8, i_X7_areAllThere_9, i_X7_areAllThere_12, i_X7_areAllThere_14, i_X7_areAllThere_17, i_X7_areAllThere_18, i_X7_areAllThere_19, i_X7_areAllThere_22, i_X7_areAllThere_25, i_X7_areAllThere_26, i_X7_areAllThere_27, i_X7_areAllThere_32, i_X7_areAllThere_34, i_X7_areAllThere_37, i_X7_areAllThere_38, i_X7_areAllThere_40, i_X7_areAllThere_43, gh_o3, gf_3_0, gf_3_1, gh_dy, gh_dyup, lsF_0, lsF_1, lsF_2, lnF_0, lnF_1, z_o_i, z_ai_i, z_si_i, z_ab_b, z_ab_z, z_sb_b, z_sb_z, z_al_i, z_al_b, z_pu_s, z_pu_n, nI_toN, z_inN, true_and, and_true, nI_add, pk_mul, vu_eq, vu_ne, nI_leI, nI_ltI, nI_eqI, nI_eq0, nI_le0, ↓ok_0, ↓ok_1, if_true, if_false, nI_lt0, nI_ge0, ne_eq, not_true_eq_false, not_false_eq_true, nI_m1, kS, g4, lc_lt, lB_lt, lB_div, lB_rem, lB_24, lB_l, l1, c]
      refine ih (k + 1) (T / 24) (by omega) (by omega) ?_
      have e : (okL (s.1 32 1) (m + 1) T = true) = (okL (s.1 32 1) m (T / 24) = true) := by simp [okL, c]
      simp only [e] at hQ
      exact hQ
    · rw [bI_f (by simp [okL, c])] at hQ
      simp (disch := omega) only [i_X7_areAllThere_8, i_X7_areAllThere_9, i_X7_areAllThere_12, i_X7_areAllThere_14, i_X7_areAllThere_17, i_X7_areAllThere_18, i_X7_areAllThere_19, i_X7_areAllThere_22, i_X7_areAllThere_25, i_X7_areAllThere_26, i_X7_areAllThere_27, i_X7_areAllThere_30, i_X7_areAllThere_31, gh_o3, gf_3_0, gf_3_1, gh_dy, gh_dyup, lsF_0, lsF_1, lsF_2, lnF_0, lnF_1, z_o_i, z_ai_i, z_si_i, z_ab_b, z_ab_z, z_sb_b, z_sb_z, z_al_i, z_al_b, z_pu_s, z_pu_n, nI_toN, z_inN, true_and, and_true, nI_add, pk_mul, vu_eq, vu_ne, nI_leI, nI_ltI, nI_eqI, nI_eq0, nI_le0, ↓ok_0, ↓ok_1, if_true, if_false, nI_lt0, nI_ge0, ne_eq, not_true_eq_false, not_false_eq_true, nI_m1, kS, g4, lc_lt, lB_lt, lB_div, lB_rem, lB_24, lB_l, l1, c]
      exact hQ
theorem l_linit {n T p : Nat} {x2 : Option Value} (h63 : 63 ≤ p) (hn : n ≤ 8) (hT : T < 9223372036854775808) (hd : dy p = .inr (.inl (2, lnF (nI n) (p + 1)))) (hQ : Q none (GH A P (va_up dy (p + 1) (.inl (0, n, pt (fun _ => 0) (fun i => nI (T / 24 ^ i % 24)) 0 n)))) nx) : ∀ (m k : Nat), k + m = n → X d m_X2_init 22 [some (.ref p), some (.int (nI n)), x2, none, some (.long (lN (T / 24 ^ k))), none, some (.int (nI k))] [] (GH A P (va_up dy (p + 1) (.inl (0, n, pt (fun _ => 0) (fun i => nI (T / 24 ^ i % 24)) 0 k)))) nx bc bs Q := by
  intro m
  induction m with
  | zero =>
    intro k hk
    have e : k = n := by omega
    subst e
    simp (disch := omega) only [i_X2_init_22, i_X2_init_24, i_X2_init_25, i_X2_init_56, gh_o3, gf_3_0, gf_3_1, gh_dy, gh_dyup, lsF_0, lsF_1, lsF_2, lnF_0, lnF_1, z_o_i, z_ai_i, z_si_i, z_ab_b, z_ab_z, z_sb_b, z_sb_z, z_al_i, z_al_b, z_pu_s, z_pu_n, nI_toN, z_inN, true_and, and_true, nI_add, pk_mul, vu_eq, vu_ne, nI_leI, nI_ltI, nI_eqI, nI_eq0, nI_le0, ↓ok_0, ↓ok_1, if_true, if_false, nI_lt0, nI_ge0, ne_eq, not_true_eq_false, not_false_eq_true, nI_m1, Nat.le_refl]
    exact hQ
  | succ m ih =>
    intro k hk
    have l1 : ¬ n ≤ k := by omega
    have lt : T / 24 ^ k < 9223372036854775808 := Nat.lt_of_le_of_lt (Nat.div_le_self _ _) hT
    have e : T / 24 ^ k / 24 = T / 24 ^ (k + 1) := by rw [Nat.div_div_eq_div_mul, Nat.pow_succ]
    have p1 := pt_succ (fun _ => (0 : Int32)) (fun i => nI (T / 24 ^ i % 24)) 0 k (v := nI (T / 24 ^ k % 24)) rfl
    rw [Nat.zero_add] at p1
    have md : T / 24 ^ k % 24 < 24 := Nat.mod_lt _ (by omega)
    have kn : k < n := by omega
    rw [i_X2_init_22]
    simp (disch := omega) only [i_X2_init_24, i_X2_init_25, i_X2_init_28, i_X2_init_29, i_X2_init_32, i_X2_init_34, i_X2_init_36, i_X2_init_39, i_X2_init_40, i_X2_init_41, i_X2_init_42, i_X2_init_44, i_X2_init_47, i_X2_init_48, i_X2_init_50, i_X2_init_53, gh_o3, gf_3_0, gf_3_1, gh_dy, gh_dyup, lsF_0, lsF_1, lsF_2, lnF_0, lnF_1, z_o_i, z_ai_i, z_si_i, z_ab_b, z_ab_z, z_sb_b, z_sb_z, z_al_i, z_al_b, z_pu_s, z_pu_n, nI_toN, z_inN, true_and, and_true, nI_add, pk_mul, vu_eq, vu_ne, nI_leI, nI_ltI, nI_eqI, nI_eq0, nI_le0, ↓ok_0, ↓ok_1, if_true, if_false, nI_lt0, nI_ge0, ne_eq, not_true_eq_false, not_false_eq_true, nI_m1, hd, lB_div, lB_rem, lB_24, lN_i, l1, p1, kn]
    rw [vu_vu, e]
    exact ih (k + 1) (by omega)
theorem k_linit {p n T : Nat} (h63 : 63 ≤ p) (hn : n ≤ 8) (hT : T < 9223372036854775808) (hd : dy p = .inr (.inl (2, z_df 2))) (hQ : ∀ dz, dz p = .inr (.inl (2, lnF (nI n) (p + 1))) → dz (p + 1) = .inl (0, n, pt (fun _ => 0) (fun i => nI (T / 24 ^ i % 24)) 0 n) → (∀ x, x ≠ p → x ≠ p + 1 → dz x = dy x) → Q none (GH A P dz) (p + 2)) : XC (d + 1) m_X2_init [.ref p, .int (nI n), .long (lN T)] (GH A P dy) (p + 1) Q := by
  show X (d + 1) m_X2_init 0 [some (.ref p), some (.int (nI n)), some (.long (lN T)), none, none, none, none] [] (GH A P dy) (p + 1) 1 12 Q
  simp (disch := omega) only [i_X2_init_0, i_X2_init_1, i_X2_init_4, i_X2_init_5, i_X2_init_6, i_X2_init_9, i_X2_init_10, gh_o3, gf_3_0, gf_3_1, gh_dy, gh_dyup, lsF_0, lsF_1, lsF_2, lnF_0, lnF_1, z_o_i, z_ai_i, z_si_i, z_ab_b, z_ab_z, z_sb_b, z_sb_z, z_al_i, z_al_b, z_pu_s, z_pu_n, nI_toN, z_inN, true_and, and_true, nI_add, pk_mul, vu_eq, vu_ne, nI_leI, nI_ltI, nI_eqI, nI_eq0, nI_le0, ↓ok_0, ↓ok_1, if_true, if_false, nI_lt0, nI_ge0, ne_eq, not_true_eq_false, not_false_eq_true, nI_m1, hd]
  rw [i_X2_init_11]
  rw [nI_toN (by omega)]
  refine ⟨⟨?_, by omega, by omega, by omega⟩, ?_⟩
  · rw [nI_lt0 (n := n) (by omega)]; exact id
  simp (disch := omega) only [i_X2_init_13, i_X2_init_16, i_X2_init_17, i_X2_init_19, i_X2_init_20, gh_o3, gf_3_0, gf_3_1, gh_dy, gh_dyup, lsF_0, lsF_1, lsF_2, lnF_0, lnF_1, z_o_i, z_ai_i, z_si_i, z_ab_b, z_ab_z, z_sb_b, z_sb_z, z_al_i, z_al_b, z_pu_s, z_pu_n, nI_toN, z_inN, true_and, and_true, nI_add, pk_mul, vu_eq, vu_ne, nI_leI, nI_ltI, nI_eqI, nI_eq0, nI_le0, ↓ok_0, ↓ok_1, if_true, if_false, nI_lt0, nI_ge0, ne_eq, not_true_eq_false, not_false_eq_true, nI_m1]
  rw [ln_mk]
  have e0 : pt (fun _ => (0 : Int32)) (fun i => nI (T / 24 ^ i % 24)) 0 0 = fun _ => 0 := pt_0 _ _ _
  rw [vu_swap (k := p + 1) (m := p) (by omega), vu_vu]
  have lp := l_linit (d := d + 1) (bc := 1 - 1) (bs := 12 - n) (nx := p + 1 + 1) (P := P) (A := A) (dy := va_up dy p (.inr (.inl (2, lnF (nI n) (p + 1))))) (Q := Q) (x2 := some (.long (lN T))) h63 hn hT vu_eq (hQ _ ?_ ?_ (fun x h1 h2 => ?_)) n 0 (by omega)
  · rw [e0, Nat.pow_zero, Nat.div_one] at lp
    exact lp
  · rw [vu_ne (by omega), vu_eq]
  · rw [vu_eq]
  · rw [vu_ne h2, vu_ne h1]
theorem x_line {n : Int32} {t : Int64} (hI : Iv s) (hK : Cl s A P dy nx) (hQ : ∀ B R dz nz, Cl (s_line s n t).2 B R dz nz → nx ≤ nz ∧ dz 0 = dy 0 → Fz A B → Q (some (.int (s_line s n t).1)) (GH B R dz) nz) : XC (d + 7) m_X7_line [.ref 3, .int n, .long t] (GH A P dy) nx Q := by
  show X (d + 7) m_X7_line 0 [some (.ref 3), some (.int n), some (.long t), none] [] (GH A P dy) nx 4 94 Q
  have hK' := hK
  obtain ⟨hC, wd, ln, hD⟩ := hK
  have sc := hI.sc
  have kS : ∀ {d nx : Nat} {Q : z_Q}, XC d m_Jx4a65c_size_8abf5 [.ref 5] (GH A P dy) nx Q = _ := k_size5 hD
  have g5 : ∀ {A : Nat → Nat → Int32} {P : Nat → Nat → Nat} {dy : z_H}, GH A P dy 5 = .inr (.inl (9, lsF (A 5 0) (P 5 1) (A 5 2))) := gh_l5
  unfold s_line at hQ
  by_cases hn : ir n 1 8 = true
  · obtain ⟨k, k1, k2, rfl⟩ := ir_ex hn
    rw [nI_toN (by omega)] at hQ
    have c1 : ¬ k < 1 := by omega
    have c2 : ¬ 8 < k := by omega
    by_cases ht : 0 ≤ t.toInt
    · obtain ⟨T, hT, rfl⟩ := lB_ex ht
      rw [lB_nat hT] at hQ
      have t0 : ¬ T < 0 := by omega
      simp (disch := omega) only [i_X7_line_0, i_X7_line_1, i_X7_line_2, i_X7_line_5, i_X7_line_6, i_X7_line_8, i_X7_line_11, i_X7_line_12, i_X7_line_13, i_X7_line_14, i_X7_line_17, i_X7_line_18, i_X7_line_19, i_X7_line_20, gh_o3, gf_3_0, gf_3_1, gh_dy, gh_dyup, lsF_0, lsF_1, lsF_2, lnF_0, lnF_1, z_o_i, z_ai_i, z_si_i, z_ab_b, z_ab_z, z_sb_b, z_sb_z, z_al_i, z_al_b, z_pu_s, z_pu_n, nI_toN, z_inN, true_and, and_true, nI_add, pk_mul, vu_eq, vu_ne, nI_leI, nI_ltI, nI_eqI, nI_eq0, nI_le0, ↓ok_0, ↓ok_1, if_true, if_false, nI_lt0, nI_ge0, ne_eq, not_true_eq_false, not_false_eq_true, nI_m1, c1, c2, lc_lt, lB_lt, t0]
      show X (d + 6) m_X7_areAllThere 0 [some (.ref 3), some (.int (nI k)), some (.long (lN T)), none, none, none, none] [] (GH A P dy) nx 0 0 _
      simp (disch := omega) only [i_X7_areAllThere_0, i_X7_areAllThere_1, i_X7_areAllThere_3, i_X7_areAllThere_4, gh_o3, gf_3_0, gf_3_1, gh_dy, gh_dyup, lsF_0, lsF_1, lsF_2, lnF_0, lnF_1, z_o_i, z_ai_i, z_si_i, z_ab_b, z_ab_z, z_sb_b, z_sb_z, z_al_i, z_al_b, z_pu_s, z_pu_n, nI_toN, z_inN, true_and, and_true, nI_add, pk_mul, vu_eq, vu_ne, nI_leI, nI_ltI, nI_eqI, nI_eq0, nI_le0, ↓ok_0, ↓ok_1, if_true, if_false, nI_lt0, nI_ge0, ne_eq, not_true_eq_false, not_false_eq_true, nI_m1]
      refine k_aat hD sc.1 k2 k 0 T (by omega) hT ?_
      by_cases ok : okL (s.1 32 1) k T = true
      · rw [if_pos ⟨hn, ht, ok⟩] at hQ
        by_cases l16 : s.1 32 13 = 16
        · rw [if_pos l16] at hQ
          have lt : ¬ s.1 32 13 < 16 := by omega
          rw [bI_t ok]
          simp (disch := omega) only [i_X7_line_23, i_X7_line_29, i_X7_line_30, i_X7_line_33, i_X7_line_36, i_X7_line_38, i_X7_line_41, i_X7_line_43, gh_o3, gf_3_0, gf_3_1, gh_dy, gh_dyup, lsF_0, lsF_1, lsF_2, lnF_0, lnF_1, z_o_i, z_ai_i, z_si_i, z_ab_b, z_ab_z, z_sb_b, z_sb_z, z_al_i, z_al_b, z_pu_s, z_pu_n, nI_toN, z_inN, true_and, and_true, nI_add, pk_mul, vu_eq, vu_ne, nI_leI, nI_ltI, nI_eqI, nI_eq0, nI_le0, ↓ok_0, ↓ok_1, if_true, if_false, nI_lt0, nI_ge0, ne_eq, not_true_eq_false, not_false_eq_true, nI_m1, kS, g5, lt]
          exact hQ A P dy nx hK' ⟨Nat.le_refl _, rfl⟩ Fz.refl
        · rw [if_neg l16] at hQ
          have lt : s.1 32 13 < 16 := by omega
          rw [bI_t ok]
          obtain ⟨ρ, c4, c5, a0, a1, a2, a3, a4, a5⟩ := hD
          simp (disch := omega) only [i_X7_line_23, i_X7_line_29, i_X7_line_30, i_X7_line_33, i_X7_line_36, i_X7_line_38, i_X7_line_44, i_X7_line_45, gh_o3, gf_3_0, gf_3_1, gh_dy, gh_dyup, lsF_0, lsF_1, lsF_2, lnF_0, lnF_1, z_o_i, z_ai_i, z_si_i, z_ab_b, z_ab_z, z_sb_b, z_sb_z, z_al_i, z_al_b, z_pu_s, z_pu_n, nI_toN, z_inN, true_and, and_true, nI_add, pk_mul, vu_eq, vu_ne, nI_leI, nI_ltI, nI_eqI, nI_eq0, nI_le0, ↓ok_0, ↓ok_1, if_true, if_false, nI_lt0, nI_ge0, ne_eq, not_true_eq_false, not_false_eq_true, nI_m1, kS, g5, lt]
          rw [i_X7_line_48]
          refine ⟨⟨by omega, by omega⟩, ?_⟩
          rw [gh_dyup a0.1, i_X7_line_51, i_X7_line_52, i_X7_line_53, i_X7_line_54]
          refine ⟨⟨by omega, by omega⟩, k_linit a0.1 k2 hT vu_eq (fun dz d0 d1 dx => ?_)⟩
          have dl : ∀ x, x < nx → dz x = dy x := fun x hx => by rw [dx x (by omega) (by omega), vu_ne (by omega)]
          have dz1 : dz 1 = dy 1 := dl 1 (by omega)
          simp (disch := omega) only [z_pu_n]
          rw [i_X7_line_57, g5, z_o_i]
          refine ⟨⟨by omega, by omega⟩, ?_⟩
          obtain ⟨g, he, gc, gq, gg⟩ := a3
          have ge : GH A P dz (P 5 1) = .inr (.inr (c5, g)) := by
            rcases he with ⟨e1, _⟩ | ⟨e1, e2, _⟩
            · rw [e1, gh_1, dz1, ← e1]; exact gq
            · rw [gh_dy e1, dl _ e2]; exact gq
          refine c_add (c0 := 2) (m := A 5 0) (e := P 5 1) (n := s.1 32 13) (cap := c5) (g := g) (vs := lnF (nI k) (nx + 1)) (by rw [g5, a1.2]) ge (by rw [gh_dy a0.1]; exact d0) (by omega) (by omega) (by omega) (by omega) gc (by omega) (by omega) (by omega) (Or.inr (Or.inl rfl)) (fun i hi => ?_) (fun e' cap' g' nx' h1 h2 h3 h4 => ?_)
          · obtain ⟨q, F, hp, hr, q1, _⟩ := a5 i hi
            exact ⟨ln i, _, gg i hi, by omega, by rw [gh_dy hp.1, dl _ hp.2.1]; exact q1⟩
          · have ee : (e' < nx ∧ 63 ≤ e' ∧ ρ e' = 2 ∧ nx' = nx + 2 ∧ (cap' = 10 ∨ cap' = 15 ∨ cap' = 22 ∨ cap' = 33)) ∨ (e' = nx + 2 ∧ nx' = nx + 3 ∧ (cap' = 10 ∨ cap' = 15 ∨ cap' = 22 ∨ cap' = 33)) := by
              by_cases q : s.1 32 13 < c5
              · obtain ⟨z1, z2, z3⟩ := h1 q
                rcases he with ⟨_, e2⟩ | ⟨e1, e2, e3, e4⟩
                · omega
                · left; exact ⟨by omega, by omega, by rw [z1]; exact e3, z3, by omega⟩
              · obtain ⟨z1, z2, z3⟩ := h2 (by omega)
                right
                refine ⟨z1, z3, ?_⟩
                rw [z2]; unfold cpN
                rcases he with ⟨_, e2⟩ | ⟨e1, e2, e3, e4⟩
                · rw [if_pos e2]; omega
                · rw [if_neg (by omega)]; omega
            have cap1 : s.1 32 13 + 1 ≤ cap' := by
              by_cases q : s.1 32 13 < c5
              · have := (h1 q).2.1; omega
              · have := (h2 (by omega)).2.1
                rw [this]; unfold cpN; split <;> omega
            rw [gh_dyup (by omega), gh_L5]
            have kS2 : ∀ {d nx : Nat} {Q : z_Q} {h : z_H} {m : Int32} {e : Nat}, h 5 = .inr (.inl (9, lsF m e (nI (s.1 32 13 + 1)))) → XC d m_Jx4a65c_size_8abf5 [.ref 5] h nx Q = Q (some (.int (nI (s.1 32 13 + 1)))) h nx := fun hh => c_size hh
            have g5' : GH (va_up A 5 (va_up (va_up (A 5) 0 (A 5 0 + nI 1)) 2 (nI (s.1 32 13 + 1)))) (va_up P 5 (va_up (P 5) 1 e')) (va_up dz e' (.inr (.inr (cap', g')))) 5 = .inr (.inl (9, lsF (A 5 0 + nI 1) e' (nI (s.1 32 13 + 1)))) := by rw [g5]; rfl
            have kS3 : ∀ {d nx : Nat} {Q : z_Q}, XC d m_Jx4a65c_size_8abf5 [.ref 5] (GH (va_up A 5 (va_up (va_up (A 5) 0 (A 5 0 + nI 1)) 2 (nI (s.1 32 13 + 1)))) (va_up P 5 (va_up (P 5) 1 e')) (va_up dz e' (.inr (.inr (cap', g'))))) nx Q = _ := kS2 g5'
            simp (disch := omega) only [i_X7_line_60, i_X7_line_61, i_X7_line_62, i_X7_line_65, i_X7_line_68, i_X7_line_69, i_X7_line_70, z_pu_s, gh_o3, gf_3_1, z_o_i, g5', kS3, pk_sub, Nat.add_sub_cancel]
            have oth : ∀ x, x < nx → ρ x ≠ 2 → va_up dz e' (.inr (.inr (cap', g'))) x = dy x := fun x h1 h2 => by
              have ne : x ≠ e' := by
                rcases ee with ⟨_, _, z, _⟩ | ⟨z, _⟩
                · exact fun q => h2 (by rw [q]; exact z)
                · omega
              rw [vu_ne ne, dl x h1]
            have o1 : va_up dz e' (.inr (.inr (cap', g'))) 1 = dy 1 := by rw [vu_ne (by omega)]; exact dz1
            have o0 : va_up dz e' (.inr (.inr (cap', g'))) 0 = dy 0 := by rw [vu_ne (by omega)]; exact dl 0 (by omega)
            have hn' : nx ≤ nx' := by omega
            let σ : Nat → Nat := va_up (va_up (va_up ρ nx 0) (nx + 1) 0) (nx + 2) 2
            have hσ : ∀ x, x < nx → σ x = ρ x := fun x hx => by
              show va_up (va_up (va_up ρ nx _) (nx + 1) _) (nx + 2) _ x = ρ x
              rw [vu_ne (by omega), vu_ne (by omega), vu_ne (by omega)]
            have σ0 : σ nx = 0 := by
              show va_up (va_up (va_up ρ nx _) (nx + 1) _) (nx + 2) _ nx = _
              rw [vu_ne (by omega), vu_ne (by omega), vu_eq]
            have σ1 : σ (nx + 1) = 0 := by
              show va_up (va_up (va_up ρ nx _) (nx + 1) _) (nx + 2) _ (nx + 1) = _
              rw [vu_ne (by omega), vu_eq]
            have σ2 : σ (nx + 2) = 2 := by
              show va_up (va_up (va_up ρ nx _) (nx + 1) _) (nx + 2) _ (nx + 2) = _
              rw [vu_eq]
            have ner : ∀ y, y = nx ∨ y = nx + 1 → va_up dz e' (.inr (.inr (cap', g'))) y = dz y := fun y hy => vu_ne (by omega)
            refine hQ _ _ _ nx' ⟨hC.w (fun k h33 h34 _ _ _ h38 h42 h43 h32 => ?_) ⟨rfl, rfl, rfl, rfl⟩, wd, va_up ln (s.1 32 13) nx, σ, c4, cap', ⟨by omega, by rw [o1]; exact a0.2⟩, ⟨a1.1, rfl⟩, ?_, ?_, fun v hv => ?_, fun l hl => ?_⟩ ⟨hn', o0⟩ (Fz.refl.up (by omega))
            · show va_up (va_up (va_up s.1 43 _) 42 _) 32 _ k = s.1 k
              rw [vu_ne h32, vu_ne h42, vu_ne h43]
            · exact a2.of hn' hσ o1 (fun x x1 x2 x3 => oth x x2 (by omega))
            · refine ⟨g', ?_, cap1, ?_, fun i hi => ?_⟩
              · show (e' = 1 ∧ cap' = 0) ∨ (63 ≤ e' ∧ e' < nx' ∧ σ e' = 2 ∧ _)
                right
                rcases ee with ⟨z1, z2, z3, z4, z5⟩ | ⟨z1, z2, z3⟩
                · exact ⟨z2, by omega, by rw [hσ e' z1]; exact z3, z5⟩
                · exact ⟨by omega, by omega, by rw [z1]; exact σ2, z3⟩
              · show va_up dz e' _ e' = _
                rw [vu_eq]
              · have hi' : i < s.1 32 13 + 1 := hi
                by_cases q : i = s.1 32 13
                · rw [q, h4, vu_eq]
                · rw [h3 i (by omega), vu_ne q]; exact gg i (by omega)
            · exact (a4 v hv).of hn' hσ o1 (fun x x1 x2 x3 => oth x x2 (by omega)) rfl rfl rfl (fun _ _ => rfl) (fun k hk => ⟨rfl, hI.n0 hv hk, fun _ _ => rfl, fun _ _ => rfl⟩)
            · have hl' : l < s.1 32 13 + 1 := hl
              by_cases q : l = s.1 32 13
              · subst q
                rw [vu_eq]
                have e42 : (nL s.1 k T) 42 (s.1 32 13) = k := by
                  show va_up (s.1 42) (s.1 32 13) k (s.1 32 13) = k
                  rw [vu_eq]
                refine ⟨nx + 1, pt (fun _ => 0) (fun i => nI (T / 24 ^ i % 24)) 0 k, ⟨a0.1, by omega, by omega, by omega⟩, ⟨σ0, σ1⟩, ?_, ?_, fun i hi => ?_⟩
                · rw [ner _ (by omega), d0]
                  show _ = Sum.inr (Sum.inl (2, lnF (nI ((nL s.1 k T) 42 (s.1 32 13))) (nx + 1)))
                  rw [e42]
                · rw [ner _ (by omega), d1]
                  show _ = Sum.inl (0, (nL s.1 k T) 42 (s.1 32 13), _)
                  rw [e42]
                · have hi' : i < (nL s.1 k T) 42 (s.1 32 13) := hi
                  rw [e42] at hi'
                  show _ = nI (pt (s.1 43) (fun i => T / 24 ^ i % 24) (8 * s.1 32 13) k (8 * s.1 32 13 + i))
                  rw [pt_in (by omega) (by omega), pt_in (by omega) (by omega), Nat.add_sub_cancel_left, Nat.sub_zero]
              · rw [vu_ne q]
                have b42 := hI.b42 l
                refine (a5 l (by omega)).of hn' hσ (fun x x1 x2 x3 => oth x x2 (by omega)) (vu_ne q) (fun i hi => ?_)
                show pt (s.1 43) (fun i => T / 24 ^ i % 24) (8 * s.1 32 13) k (8 * l + i) = _
                rw [pt_out (by omega)]
      · rw [if_neg (fun q => ok q.2.2)] at hQ
        rw [bI_f ok]
        simp (disch := omega) only [i_X7_line_23, i_X7_line_26, i_X7_line_28, gh_o3, gf_3_0, gf_3_1, gh_dy, gh_dyup, lsF_0, lsF_1, lsF_2, lnF_0, lnF_1, z_o_i, z_ai_i, z_si_i, z_ab_b, z_ab_z, z_sb_b, z_sb_z, z_al_i, z_al_b, z_pu_s, z_pu_n, nI_toN, z_inN, true_and, and_true, nI_add, pk_mul, vu_eq, vu_ne, nI_leI, nI_ltI, nI_eqI, nI_eq0, nI_le0, ↓ok_0, ↓ok_1, if_true, if_false, nI_lt0, nI_ge0, ne_eq, not_true_eq_false, not_false_eq_true, nI_m1]
        exact hQ A P dy nx hK' ⟨Nat.le_refl _, rfl⟩ Fz.refl
    · rw [if_neg (fun q => ht q.2.1)] at hQ
      have t0 : t < lN 0 := by
        rw [Int64.lt_iff_toInt_lt, lB_toInt (by omega)]
        omega
      simp (disch := omega) only [i_X7_line_0, i_X7_line_1, i_X7_line_2, i_X7_line_5, i_X7_line_6, i_X7_line_8, i_X7_line_11, i_X7_line_12, i_X7_line_13, i_X7_line_14, i_X7_line_26, i_X7_line_28, gh_o3, gf_3_0, gf_3_1, gh_dy, gh_dyup, lsF_0, lsF_1, lsF_2, lnF_0, lnF_1, z_o_i, z_ai_i, z_si_i, z_ab_b, z_ab_z, z_sb_b, z_sb_z, z_al_i, z_al_b, z_pu_s, z_pu_n, nI_toN, z_inN, true_and, and_true, nI_add, pk_mul, vu_eq, vu_ne, nI_leI, nI_ltI, nI_eqI, nI_eq0, nI_le0, ↓ok_0, ↓ok_1, if_true, if_false, nI_lt0, nI_ge0, ne_eq, not_true_eq_false, not_false_eq_true, nI_m1, c1, c2, lc_lt, t0]
      exact hQ A P dy nx hK' ⟨Nat.le_refl _, rfl⟩ Fz.refl
  · rw [if_neg (fun q => hn q.1)] at hQ
    simp only [ir, decide_eq_true_eq] at hn
    by_cases n1 : n < nI 1
    · simp (disch := omega) only [i_X7_line_0, i_X7_line_1, i_X7_line_2, i_X7_line_26, i_X7_line_28, gh_o3, gf_3_0, gf_3_1, gh_dy, gh_dyup, lsF_0, lsF_1, lsF_2, lnF_0, lnF_1, z_o_i, z_ai_i, z_si_i, z_ab_b, z_ab_z, z_sb_b, z_sb_z, z_al_i, z_al_b, z_pu_s, z_pu_n, nI_toN, z_inN, true_and, and_true, nI_add, pk_mul, vu_eq, vu_ne, nI_leI, nI_ltI, nI_eqI, nI_eq0, nI_le0, ↓ok_0, ↓ok_1, if_true, if_false, nI_lt0, nI_ge0, ne_eq, not_true_eq_false, not_false_eq_true, nI_m1, n1]
      exact hQ A P dy nx hK' ⟨Nat.le_refl _, rfl⟩ Fz.refl
    · have n8 : nI 8 < n := by
        rw [Int32.lt_iff_toInt_lt, nI_toInt (by omega)] at n1 ⊢
        omega
      simp (disch := omega) only [i_X7_line_0, i_X7_line_1, i_X7_line_2, i_X7_line_5, i_X7_line_6, i_X7_line_8, i_X7_line_26, i_X7_line_28, gh_o3, gf_3_0, gf_3_1, gh_dy, gh_dyup, lsF_0, lsF_1, lsF_2, lnF_0, lnF_1, z_o_i, z_ai_i, z_si_i, z_ab_b, z_ab_z, z_sb_b, z_sb_z, z_al_i, z_al_b, z_pu_s, z_pu_n, nI_toN, z_inN, true_and, and_true, nI_add, pk_mul, vu_eq, vu_ne, nI_leI, nI_ltI, nI_eqI, nI_eq0, nI_le0, ↓ok_0, ↓ok_1, if_true, if_false, nI_lt0, nI_ge0, ne_eq, not_true_eq_false, not_false_eq_true, nI_m1, n1, n8]
      exact hQ A P dy nx hK' ⟨Nat.le_refl _, rfl⟩ Fz.refl
end CLine
