/-! THE CLASS: new words and lines -/
theorem wd_mk {a c : Int32} {l b : Nat} : va_up (va_up (va_up (va_up (z_df 6) 0 (.int a)) 1 (.ref l)) 2 (.ref b)) 3 (.int c) = wdF a l b c := by
  funext j
  match j with
  | 0 => rfl
  | 1 => rfl
  | 2 => rfl
  | 3 => rfl
  | (k + 4) =>
    rw [vu_ne (by omega), vu_ne (by omega), vu_ne (by omega), vu_ne (by omega)]
    exact if_neg (by show ¬ k + 4 < 4; omega)
theorem ls_mk : va_up (va_up (z_df 9) 0 (.int (nI 0))) 1 (.ref 1) = lsF (nI 0) 1 (nI 0) := by
  funext j
  match j with
  | 0 => rfl
  | 1 => rfl
  | 2 => rfl
  | (k + 3) =>
    rw [vu_ne (by omega), vu_ne (by omega)]
    exact if_neg (by show ¬ k + 3 < 3; omega)
theorem ln_mk {a : Int32} {q : Nat} : va_up (va_up (z_df 2) 0 (.int a)) 1 (.ref q) = lnF a q := by
  funext j
  match j with
  | 0 => rfl
  | 1 => rfl
  | (k + 2) =>
    rw [vu_ne (by omega), vu_ne (by omega)]
    exact if_neg (by show ¬ k + 2 < 2; omega)
theorem gh_L4 {A : Nat → Nat → Int32} {P : Nat → Nat → Nat} {dy : z_H} {m n : Int32} {e : Nat} : va_up (GH A P dy) 4 (.inr (.inl (9, lsF m e n))) = GH (va_up A 4 (va_up (va_up (A 4) 0 m) 2 n)) (va_up P 4 (va_up (P 4) 1 e)) dy := by
  have h : lsF m e n = oF4 (va_up (va_up (A 4) 0 m) 2 n) (va_up (P 4) 1 e) := by rw [o4_ls]; rfl
  rw [h]
  funext x; by_cases q : x = 4
  · subst q; rfl
  · rw [vu_ne q]; simp only [GH]; by_cases ha : g_a x = true
    · simp only [ha, if_true, vu_ne q]
    · simp only [ha, Bool.false_eq_true, if_false, q]; rfl
theorem gh_L5 {A : Nat → Nat → Int32} {P : Nat → Nat → Nat} {dy : z_H} {m n : Int32} {e : Nat} : va_up (GH A P dy) 5 (.inr (.inl (9, lsF m e n))) = GH (va_up A 5 (va_up (va_up (A 5) 0 m) 2 n)) (va_up P 5 (va_up (P 5) 1 e)) dy := by
  have h : lsF m e n = oF5 (va_up (va_up (A 5) 0 m) 2 n) (va_up (P 5) 1 e) := by rw [o5_ls]; rfl
  rw [h]
  funext x; by_cases q : x = 5
  · subst q; rfl
  · rw [vu_ne q]; simp only [GH]; by_cases ha : g_a x = true
    · simp only [ha, if_true, vu_ne q]
    · simp only [ha, Bool.false_eq_true, if_false, q]; rfl
section CNew
variable {s : z_S} {A : Nat → Nat → Int32} {P : Nat → Nat → Nat} {dy : z_H} {d nx nz bc bs : Nat} {Q : z_Q} {wd ln : Nat → Nat}
/-- ArrayList's constructor, and those above it -/
theorem c_lsinit {r : Nat} {h : z_H} (hr : h r = .inr (.inl (9, z_df 9))) (hQ : Q none (va_up h r (.inr (.inl (9, lsF (nI 0) 1 (nI 0))))) nx) : XC (d + 3) m_Jx4a65c_init_da8c8 [.ref r] h nx Q := by
  show X (d + 3) m_Jx4a65c_init_da8c8 0 [some (.ref r)] [] h nx 0 0 Q
  have s1 : ∀ {d nx : Nat} {Q : z_Q} {h : z_H}, XC (d + 1) m_Jxa1e45_init_da8c8 [.ref r] h nx Q = Q none h nx := by
    intro d nx Q h
    show X (d + 1) m_Jxa1e45_init_da8c8 0 [some (.ref r)] [] h nx 0 0 Q = _
    simp (disch := omega) only [i_Jxa1e45_init_da8c8_0, i_Jxa1e45_init_da8c8_1, i_Jxa1e45_init_da8c8_4, z_o_i, z_ai_i, z_si_i, z_ab_b, z_ab_z, z_sb_b, z_sb_z, z_al_i, z_al_b, z_pu_s, z_pu_n, nI_toN, z_inN, true_and, and_true, nI_add, pk_mul, vu_eq, vu_ne]
  have s2 : ∀ {d nx : Nat} {Q : z_Q}, XC (d + 2) m_Jxc12de_init_da8c8 [.ref r] h nx Q = Q none (va_up h r (.inr (.inl (9, va_up (z_df 9) 0 (.int (nI 0)))))) nx := by
    intro d nx Q
    show X (d + 2) m_Jxc12de_init_da8c8 0 [some (.ref r)] [] h nx 0 0 Q = _
    simp (disch := omega) only [i_Jxc12de_init_da8c8_0, i_Jxc12de_init_da8c8_1, i_Jxc12de_init_da8c8_4, i_Jxc12de_init_da8c8_5, i_Jxc12de_init_da8c8_6, i_Jxc12de_init_da8c8_9, s1, hr, z_o_i, z_ai_i, z_si_i, z_ab_b, z_ab_z, z_sb_b, z_sb_z, z_al_i, z_al_b, z_pu_s, z_pu_n, nI_toN, z_inN, true_and, and_true, nI_add, pk_mul, vu_eq, vu_ne]
  simp (disch := omega) only [i_Jx4a65c_init_da8c8_0, i_Jx4a65c_init_da8c8_1, i_Jx4a65c_init_da8c8_4, i_Jx4a65c_init_da8c8_5, i_Jx4a65c_init_da8c8_8, i_Jx4a65c_init_da8c8_11, s2, z_o_i, z_ai_i, z_si_i, z_ab_b, z_ab_z, z_sb_b, z_sb_z, z_al_i, z_al_b, z_pu_s, z_pu_n, nI_toN, z_inN, true_and, and_true, nI_add, pk_mul, vu_eq, vu_ne]
  rw [ls_mk, vu_vu]
  exact hQ
theorem k_winit {p hp : Nat} (h63 : 63 ≤ p) (hd : dy p = .inr (.inl (6, z_df 6))) (hQ : ∀ dz, dz p = .inr (.inl (6, wdF (nI hp) (p + 1) (p + 2) (-1))) → dz (p + 1) = .inr (.inl (9, lsF (nI 0) 1 (nI 0))) → dz (p + 2) = .inl (1, 8, fun _ => 0) → (∀ x, x ≠ p → x ≠ p + 1 → x ≠ p + 2 → dz x = dy x) → Q none (GH A P dz) (p + 3)) : XC (d + 4) m_X6_init [.ref p, .int (nI hp)] (GH A P dy) (p + 1) Q := by
  show X (d + 4) m_X6_init 0 [some (.ref p), some (.int (nI hp))] [] (GH A P dy) (p + 1) 2 11 Q
  simp (disch := omega) only [i_X6_init_0, i_X6_init_1, i_X6_init_4, i_X6_init_5, i_X6_init_6, i_X6_init_9, gh_o3, gf_3_0, gf_3_1, gh_dy, gh_dyup, lsF_0, lsF_1, lsF_2, z_o_i, z_ai_i, z_si_i, z_ab_b, z_ab_z, z_sb_b, z_sb_z, z_al_i, z_al_b, z_pu_s, z_pu_n, nI_toN, z_inN, true_and, and_true, nI_add, pk_mul, vu_eq, vu_ne, nI_leI, nI_ltI, nI_eqI, nI_eq0, nI_le0, ↓ok_0, ↓ok_1, if_true, if_false, nI_lt0, nI_ge0, ne_eq, not_true_eq_false, not_false_eq_true, nI_m1, hd]
  rw [i_X6_init_10]
  refine ⟨⟨by omega, by omega⟩, ?_⟩
  simp (disch := omega) only [i_X6_init_13, i_X6_init_14, gh_o3, gf_3_0, gf_3_1, gh_dy, gh_dyup, lsF_0, lsF_1, lsF_2, z_o_i, z_ai_i, z_si_i, z_ab_b, z_ab_z, z_sb_b, z_sb_z, z_al_i, z_al_b, z_pu_s, z_pu_n, nI_toN, z_inN, true_and, and_true, nI_add, pk_mul, vu_eq, vu_ne, nI_leI, nI_ltI, nI_eqI, nI_eq0, nI_le0, ↓ok_0, ↓ok_1, if_true, if_false, nI_lt0, nI_ge0, ne_eq, not_true_eq_false, not_false_eq_true, nI_m1]
  refine c_lsinit (by rw [gh_dy (by omega), vu_eq]) ?_
  simp (disch := omega) only [i_X6_init_17, i_X6_init_20, i_X6_init_21, gh_o3, gf_3_0, gf_3_1, gh_dy, gh_dyup, lsF_0, lsF_1, lsF_2, z_o_i, z_ai_i, z_si_i, z_ab_b, z_ab_z, z_sb_b, z_sb_z, z_al_i, z_al_b, z_pu_s, z_pu_n, nI_toN, z_inN, true_and, and_true, nI_add, pk_mul, vu_eq, vu_ne, nI_leI, nI_ltI, nI_eqI, nI_eq0, nI_le0, ↓ok_0, ↓ok_1, if_true, if_false, nI_lt0, nI_ge0, ne_eq, not_true_eq_false, not_false_eq_true, nI_m1]
  rw [i_X6_init_23]
  have e8 : (nI 8 : Int32).toNatClampNeg = 8 := by decide
  rw [e8]
  refine ⟨⟨by decide, by omega, by omega, by omega⟩, ?_⟩
  simp (disch := omega) only [i_X6_init_25, i_X6_init_28, i_X6_init_29, i_X6_init_30, i_X6_init_33, gh_o3, gf_3_0, gf_3_1, gh_dy, gh_dyup, lsF_0, lsF_1, lsF_2, z_o_i, z_ai_i, z_si_i, z_ab_b, z_ab_z, z_sb_b, z_sb_z, z_al_i, z_al_b, z_pu_s, z_pu_n, nI_toN, z_inN, true_and, and_true, nI_add, pk_mul, vu_eq, vu_ne, nI_leI, nI_ltI, nI_eqI, nI_eq0, nI_le0, ↓ok_0, ↓ok_1, if_true, if_false, nI_lt0, nI_ge0, ne_eq, not_true_eq_false, not_false_eq_true, nI_m1]
  rw [wd_mk]
  refine hQ _ ?_ ?_ ?_ (fun x h1 h2 h3 => ?_)
  · rw [vu_eq]
  · rw [vu_ne (by omega), vu_ne (by omega), vu_ne (by omega), vu_ne (by omega), vu_eq]
  · rw [vu_ne (by omega), vu_ne (by omega), vu_eq]
  · rw [vu_ne h1, vu_ne h1, vu_ne h3, vu_ne h1, vu_ne h2, vu_ne h2, vu_ne h1]
theorem x_word {x : Int32} (hI : Iv s) (hK : Cl s A P dy nx) (hQ : ∀ B R dz nz, Cl (s_word s x).2 B R dz nz → nx ≤ nz ∧ dz 0 = dy 0 → Fz A B → Q (some (.int (s_word s x).1)) (GH B R dz) nz) : XC (d + 7) m_X7_word [.ref 3, .int x] (GH A P dy) nx Q := by
  show X (d + 7) m_X7_word 0 [some (.ref 3), some (.int x)] [] (GH A P dy) nx 5 95 Q
  have hK' := hK
  obtain ⟨hC, wd, ln, hD⟩ := hK
  have sc := hI.sc
  have kS : ∀ {d nx : Nat} {Q : z_Q}, XC d m_Jx4a65c_size_8abf5 [.ref 4] (GH A P dy) nx Q = _ := k_size4 hD
  have g4 : ∀ {A : Nat → Nat → Int32} {P : Nat → Nat → Nat} {dy : z_H}, GH A P dy 4 = .inr (.inl (9, lsF (A 4 0) (P 4 1) (A 4 2))) := gh_l4
  unfold s_word at hQ
  by_cases hx : iw x 6 = true
  · rw [if_pos hx] at hQ
    obtain ⟨h, hh, rfl⟩ := iw_ex hx
    by_cases w24 : s.1 32 1 = 24
    · rw [if_pos w24] at hQ
      have lt : ¬ s.1 32 1 < 24 := by omega
      simp (disch := omega) only [i_X7_word_0, i_X7_word_1, i_X7_word_4, i_X7_word_5, i_X7_word_7, i_X7_word_13, i_X7_word_14, i_X7_word_17, i_X7_word_20, i_X7_word_22, i_X7_word_25, i_X7_word_27, gh_o3, gf_3_0, gf_3_1, gh_dy, gh_dyup, lsF_0, lsF_1, lsF_2, z_o_i, z_ai_i, z_si_i, z_ab_b, z_ab_z, z_sb_b, z_sb_z, z_al_i, z_al_b, z_pu_s, z_pu_n, nI_toN, z_inN, true_and, and_true, nI_add, pk_mul, vu_eq, vu_ne, nI_leI, nI_ltI, nI_eqI, nI_eq0, nI_le0, ↓ok_0, ↓ok_1, if_true, if_false, nI_lt0, nI_ge0, ne_eq, not_true_eq_false, not_false_eq_true, nI_m1, kS, g4, hh, lt]
      exact hQ A P dy nx hK' ⟨Nat.le_refl _, rfl⟩ Fz.refl
    · rw [if_neg w24] at hQ
      rw [nI_toN (by omega)] at hQ
      have lt : s.1 32 1 < 24 := by omega
      obtain ⟨ρ, c4, c5, a0, a1, a2, a3, a4, a5⟩ := hD
      simp (disch := omega) only [i_X7_word_0, i_X7_word_1, i_X7_word_4, i_X7_word_5, i_X7_word_7, i_X7_word_13, i_X7_word_14, i_X7_word_17, i_X7_word_20, i_X7_word_22, i_X7_word_28, i_X7_word_29, gh_o3, gf_3_0, gf_3_1, gh_dy, gh_dyup, lsF_0, lsF_1, lsF_2, z_o_i, z_ai_i, z_si_i, z_ab_b, z_ab_z, z_sb_b, z_sb_z, z_al_i, z_al_b, z_pu_s, z_pu_n, nI_toN, z_inN, true_and, and_true, nI_add, pk_mul, vu_eq, vu_ne, nI_leI, nI_ltI, nI_eqI, nI_eq0, nI_le0, ↓ok_0, ↓ok_1, if_true, if_false, nI_lt0, nI_ge0, ne_eq, not_true_eq_false, not_false_eq_true, nI_m1, kS, g4, hh, lt]
      rw [i_X7_word_32]
      refine ⟨⟨by omega, by omega⟩, ?_⟩
      rw [gh_dyup a0.1, i_X7_word_35, i_X7_word_36, i_X7_word_37]
      refine ⟨⟨by omega, by omega⟩, k_winit a0.1 vu_eq (fun dz d0 d1 d2 dx => ?_)⟩
      have dl : ∀ x, x < nx → dz x = dy x := fun x hx => by rw [dx x (by omega) (by omega) (by omega), vu_ne (by omega)]
      have dz1 : dz 1 = dy 1 := dl 1 (by omega)
      simp (disch := omega) only [z_pu_n]
      rw [i_X7_word_40, g4, z_o_i]
      refine ⟨⟨by omega, by omega⟩, ?_⟩
      obtain ⟨g, he, gc, gq, gg⟩ := a2
      have e63 : ∀ {y : Nat}, 63 ≤ y → GH A P dz y = dz y := fun h => gh_dy h
      have ge : GH A P dz (P 4 1) = .inr (.inr (c4, g)) := by
        rcases he with ⟨e1, _⟩ | ⟨e1, e2, _⟩
        · rw [e1, gh_1, dz1, ← e1]; exact gq
        · rw [gh_dy e1, dl _ e2]; exact gq
      refine c_add (c0 := 6) (m := A 4 0) (e := P 4 1) (n := s.1 32 1) (cap := c4) (g := g) (vs := wdF (nI h) (nx + 1) (nx + 2) (-1)) (by rw [g4, a1.1]) ge (by rw [gh_dy a0.1]; exact d0) (by omega) (by omega) (by omega) (by omega) gc (by omega) (by omega) (by omega) (Or.inl rfl) (fun i hi => ?_) (fun e' cap' g' nx' h1 h2 h3 h4 => ?_)
      · obtain ⟨l, b, e, c, m, gg', K, hp, hr, he', ⟨q1, _⟩, _⟩ := a4 i hi
        exact ⟨wd i, _, gg i hi, by omega, by rw [gh_dy hp.1, dl _ hp.2.1]; exact q1⟩
      · have ee : (e' < nx ∧ 63 ≤ e' ∧ ρ e' = 1 ∧ nx' = nx + 3 ∧ (cap' = 10 ∨ cap' = 15 ∨ cap' = 22 ∨ cap' = 33)) ∨ (e' = nx + 3 ∧ nx' = nx + 4 ∧ (cap' = 10 ∨ cap' = 15 ∨ cap' = 22 ∨ cap' = 33)) := by
          by_cases q : s.1 32 1 < c4
          · obtain ⟨z1, z2, z3⟩ := h1 q
            rcases he with ⟨_, e2⟩ | ⟨e1, e2, e3, e4⟩
            · omega
            · left; exact ⟨by omega, by omega, by rw [z1]; exact e3, z3, by omega⟩
          · obtain ⟨z1, z2, z3⟩ := h2 (by omega)
            right
            refine ⟨z1, z3, ?_⟩
            rw [z2]; unfold cpN
            rcases he with ⟨_, e2⟩ | ⟨e1, e2, e3, e4⟩
            · rw [if_pos e2]; omega
            · rw [if_neg (by omega)]; omega
        have cap1 : s.1 32 1 + 1 ≤ cap' := by
          by_cases q : s.1 32 1 < c4
          · have := (h1 q).2.1; omega
          · have := (h2 (by omega)).2.1
            rw [this]; unfold cpN; split <;> omega
        rw [gh_dyup (by omega), gh_L4]
        have kS2 : ∀ {d nx : Nat} {Q : z_Q} {h : z_H} {m : Int32} {e : Nat}, h 4 = .inr (.inl (9, lsF m e (nI (s.1 32 1 + 1)))) → XC d m_Jx4a65c_size_8abf5 [.ref 4] h nx Q = Q (some (.int (nI (s.1 32 1 + 1)))) h nx := fun hh => c_size hh
        have g4' : GH (va_up A 4 (va_up (va_up (A 4) 0 (A 4 0 + nI 1)) 2 (nI (s.1 32 1 + 1)))) (va_up P 4 (va_up (P 4) 1 e')) (va_up dz e' (.inr (.inr (cap', g')))) 4 = .inr (.inl (9, lsF (A 4 0 + nI 1) e' (nI (s.1 32 1 + 1)))) := by rw [g4]; rfl
        have kS3 : ∀ {d nx : Nat} {Q : z_Q}, XC d m_Jx4a65c_size_8abf5 [.ref 4] (GH (va_up A 4 (va_up (va_up (A 4) 0 (A 4 0 + nI 1)) 2 (nI (s.1 32 1 + 1)))) (va_up P 4 (va_up (P 4) 1 e')) (va_up dz e' (.inr (.inr (cap', g'))))) nx Q = _ := kS2 g4'
        simp (disch := omega) only [i_X7_word_43, i_X7_word_44, i_X7_word_45, i_X7_word_48, i_X7_word_51, i_X7_word_52, i_X7_word_53, z_pu_s, gh_o3, gf_3_0, z_o_i, g4', kS3, pk_sub, Nat.add_sub_cancel]
        have oth : ∀ x, x < nx → ρ x ≠ 1 → va_up dz e' (.inr (.inr (cap', g'))) x = dy x := fun x h1 h2 => by
          have ne : x ≠ e' := by
            rcases ee with ⟨_, _, z, _⟩ | ⟨z, _⟩
            · exact fun q => h2 (by rw [q]; exact z)
            · omega
          rw [vu_ne ne, dl x h1]
        have o1 : va_up dz e' (.inr (.inr (cap', g'))) 1 = dy 1 := by rw [vu_ne (by omega)]; exact dz1
        have o0 : va_up dz e' (.inr (.inr (cap', g'))) 0 = dy 0 := by rw [vu_ne (by omega)]; exact dl 0 (by omega)
        have hn : nx ≤ nx' := by omega
        let σ : Nat → Nat := va_up (va_up (va_up (va_up ρ nx (8 * s.1 32 1 + 4)) (nx + 1) (8 * s.1 32 1 + 5)) (nx + 2) (8 * s.1 32 1 + 6)) (nx + 3) 1
        have hσ : ∀ x, x < nx → σ x = ρ x := fun x hx => by
          show va_up (va_up (va_up (va_up ρ nx _) (nx + 1) _) (nx + 2) _) (nx + 3) 1 x = ρ x
          rw [vu_ne (by omega), vu_ne (by omega), vu_ne (by omega), vu_ne (by omega)]
        have σ0 : σ nx = 8 * s.1 32 1 + 4 := by
          show va_up (va_up (va_up (va_up ρ nx _) (nx + 1) _) (nx + 2) _) (nx + 3) 1 nx = _
          rw [vu_ne (by omega), vu_ne (by omega), vu_ne (by omega), vu_eq]
        have σ1 : σ (nx + 1) = 8 * s.1 32 1 + 5 := by
          show va_up (va_up (va_up (va_up ρ nx _) (nx + 1) _) (nx + 2) _) (nx + 3) 1 (nx + 1) = _
          rw [vu_ne (by omega), vu_ne (by omega), vu_eq]
        have σ2 : σ (nx + 2) = 8 * s.1 32 1 + 6 := by
          show va_up (va_up (va_up (va_up ρ nx _) (nx + 1) _) (nx + 2) _) (nx + 3) 1 (nx + 2) = _
          rw [vu_ne (by omega), vu_eq]
        have σ3 : σ (nx + 3) = 1 := by
          show va_up (va_up (va_up (va_up ρ nx _) (nx + 1) _) (nx + 2) _) (nx + 3) 1 (nx + 3) = _
          rw [vu_eq]
        have ner : ∀ y, y = nx ∨ y = nx + 1 ∨ y = nx + 2 → va_up dz e' (.inr (.inr (cap', g'))) y = dz y := fun y hy => vu_ne (by omega)
        refine hQ _ _ _ nx' ⟨hC.w (fun k h33 h34 _ _ _ h38 _ _ h32 => ?_) ⟨rfl, rfl, rfl, rfl⟩, va_up wd (s.1 32 1) nx, ln, σ, cap', c5, ⟨by omega, by rw [o1]; exact a0.2⟩, ⟨rfl, a1.2⟩, ?_, ?_, fun v hv => ?_, fun l hl => ?_⟩ ⟨hn, o0⟩ (Fz.refl.up (by omega))
        · show va_up (va_up (va_up (va_up s.1 33 _) 34 _) 38 _) 32 _ k = s.1 k
          rw [vu_ne h32, vu_ne h38, vu_ne h34, vu_ne h33]
        · refine ⟨g', ?_, cap1, ?_, fun i hi => ?_⟩
          · show (e' = 1 ∧ cap' = 0) ∨ (63 ≤ e' ∧ e' < nx' ∧ σ e' = 1 ∧ _)
            right
            rcases ee with ⟨z1, z2, z3, z4, z5⟩ | ⟨z1, z2, z3⟩
            · exact ⟨z2, by omega, by rw [hσ e' z1]; exact z3, z5⟩
            · exact ⟨by omega, by omega, by rw [z1]; exact σ3, z3⟩
          · show va_up dz e' _ e' = _
            rw [vu_eq]
          · have hi' : i < s.1 32 1 + 1 := hi
            by_cases q : i = s.1 32 1
            · rw [q, h4, vu_eq]
            · rw [h3 i (by omega), vu_ne q]; exact gg i (by omega)
        · exact a3.of hn hσ o1 (fun x x1 x2 x3 => oth x x2 (by omega))
        · have hv' : v < s.1 32 1 + 1 := hv
          by_cases q : v = s.1 32 1
          · subst q
            rw [vu_eq]
            refine ⟨nx + 1, nx + 2, 1, 0, nI 0, fun _ => none, fun _ => 0, ⟨a0.1, by omega, by omega, by omega, by omega, by omega⟩, ⟨σ0, σ1, σ2⟩, Or.inl ⟨rfl, rfl⟩, ⟨?_, ?_, by rw [o1]; exact a0.2, by rw [ner _ (by omega)]; exact d2⟩, ⟨fun i => (by decide : -128 ≤ (0 : Int32).toInt ∧ (0 : Int32).toInt ≤ 127), fun z => ?_⟩, ?_, fun k hk => ?_⟩
            · rw [ner _ (by omega), d0]
              show _ = Sum.inr (Sum.inl (6, wdF (nI (va_up (s.1 33) (s.1 32 1) h (s.1 32 1))) (nx + 1) (nx + 2) (nI (va_up (s.1 38) (s.1 32 1) 0 (s.1 32 1)) - nI 1)))
              rw [vu_eq, vu_eq]
              rfl
            · rw [ner _ (by omega), d1]
              show _ = Sum.inr (Sum.inl (9, lsF (nI 0) 1 (nI (va_up (s.1 34) (s.1 32 1) 0 (s.1 32 1)))))
              rw [vu_eq]
            · have z' : ¬ va_up (s.1 38) (s.1 32 1) 0 (s.1 32 1) = 0 := z
              rw [vu_eq] at z'
              exact absurd rfl z'
            · show va_up (s.1 34) (s.1 32 1) 0 (s.1 32 1) ≤ 0
              rw [vu_eq]; exact Nat.le_refl _
            · have hk' : k < va_up (s.1 34) (s.1 32 1) 0 (s.1 32 1) := hk
              rw [vu_eq] at hk'
              exact absurd hk' (Nat.not_lt_zero k)
          · rw [vu_ne q]
            have hv2 : v < s.1 32 1 := by omega
            exact (a4 v hv2).of hn hσ o1 (fun x x1 x2 x3 => oth x x2 (by omega)) (vu_ne q) (vu_ne q) (vu_ne q) (fun _ _ => rfl) (fun k hk => ⟨rfl, hI.n0 hv2 hk, fun _ _ => rfl, fun _ _ => rfl⟩)
        · exact (a5 l hl).of hn hσ (fun x x1 x2 x3 => oth x x2 (by omega)) rfl (fun _ _ => rfl)
  · rw [if_neg hx] at hQ
    by_cases x0 : x < 0
    · simp (disch := omega) only [i_X7_word_0, i_X7_word_1, i_X7_word_10, i_X7_word_12, gh_o3, gf_3_0, gf_3_1, gh_dy, gh_dyup, lsF_0, lsF_1, lsF_2, z_o_i, z_ai_i, z_si_i, z_ab_b, z_ab_z, z_sb_b, z_sb_z, z_al_i, z_al_b, z_pu_s, z_pu_n, nI_toN, z_inN, true_and, and_true, nI_add, pk_mul, vu_eq, vu_ne, nI_leI, nI_ltI, nI_eqI, nI_eq0, nI_le0, ↓ok_0, ↓ok_1, if_true, if_false, nI_lt0, nI_ge0, ne_eq, not_true_eq_false, not_false_eq_true, nI_m1, x0]
      exact hQ A P dy nx hK' ⟨Nat.le_refl _, rfl⟩ Fz.refl
    · have x1 : ¬ x < nI 6 := Int32.not_lt.mpr ((iw_lt (by simpa using hx) (by omega)).resolve_left x0)
      simp (disch := omega) only [i_X7_word_0, i_X7_word_1, i_X7_word_4, i_X7_word_5, i_X7_word_7, i_X7_word_10, i_X7_word_12, gh_o3, gf_3_0, gf_3_1, gh_dy, gh_dyup, lsF_0, lsF_1, lsF_2, z_o_i, z_ai_i, z_si_i, z_ab_b, z_ab_z, z_sb_b, z_sb_z, z_al_i, z_al_b, z_pu_s, z_pu_n, nI_toN, z_inN, true_and, and_true, nI_add, pk_mul, vu_eq, vu_ne, nI_leI, nI_ltI, nI_eqI, nI_eq0, nI_le0, ↓ok_0, ↓ok_1, if_true, if_false, nI_lt0, nI_ge0, ne_eq, not_true_eq_false, not_false_eq_true, nI_m1, x0, x1]
      exact hQ A P dy nx hK' ⟨Nat.le_refl _, rfl⟩ Fz.refl
end CNew
