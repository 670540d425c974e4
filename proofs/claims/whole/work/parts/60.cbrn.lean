/-! THE CLASS: broken, speech, told -/
section CBrn
variable {s : z_S} {A : Nat → Nat → Int32} {P : Nat → Nat → Nat} {dy : z_H} {d nx nz bc bs : Nat} {Q : z_Q} {ρ : Nat → Nat} {wd ln : Nat → Nat}
theorem l_bkI {w u i : Nat} {R : Option Nat} (hI : Iv s) (hC : Rc s A P) (hD : Rd s A P dy nz wd ln) (hi : i < 2147483648) (hw : w < s.1 32 1) (hu : u < s.1 32 1) (hQ : Q (some (.int (oI R))) (GH A P dy) nx)
    (hN : ∀ sn x6, sn ≤ i → sn ≤ 24 * (u + 1) → nt (brP s.1 w) (24 * s.1 32 1 - 24 * (u + 1)) (24 * (u + 1)) (i - sn) = R → X (d + 4) m_X7_broken 23 [some (.ref 3), some (.int (nI w)), some (.int (nI i)), some (.ref (wd w)), some (.int (nI sn)), some (.int (nI (u + 1))), x6] [] (GH A P dy) nx bc bs Q) :
    ∀ (m v sn : Nat), v + m = s.1 32 1 → sn ≤ i → sn ≤ 24 * u + v → nt (brP s.1 w) (24 * s.1 32 1 - (24 * u + v)) (24 * u + v) (i - sn) = R → X (d + 4) m_X7_broken 38 [some (.ref 3), some (.int (nI w)), some (.int (nI i)), some (.ref (wd w)), some (.int (nI sn)), some (.int (nI u)), some (.int (nI v))] [] (GH A P dy) nx bc bs Q := by
  have sc := hI.sc
  have kS : ∀ {d nx : Nat} {Q : z_Q}, XC d m_Jx4a65c_size_8abf5 [.ref 4] (GH A P dy) nx Q = _ := k_size4 hD
  have kG : ∀ {d nx : Nat} {Q : z_Q} {w : Nat}, w < s.1 32 1 → XC (d + 2) m_Jx4a65c_get_915e3 [.ref 4, .int (nI w)] (GH A P dy) nx Q = Q (some (.ref (wd w))) (GH A P dy) nx := fun h => k_get4 hD h
  obtain ⟨ρ, hWq⟩ := hD.wqs
  intro m
  induction m with
  | zero =>
    intro v sn hv hs hsv hr
    have le : s.1 32 1 ≤ v := by omega
    simp (disch := omega) only [i_X7_broken_38, i_X7_broken_40, i_X7_broken_40n, i_X7_broken_41, i_X7_broken_44, i_X7_broken_47, i_X7_broken_112, i_X7_broken_115, gh_o3, gh_l4, gh_o6, gh_r7, gh_w7, gf_3_0, gf_3_1, gf_3_2, gf_6_0, gf_6_1, sgF_0, sgF_1, sgF_2, sgF_5, sgF_6, sgF_7, sgF_9, sgF_10, wdF_0, wdF_1, wdF_2, wdF_3, lsF_0, lsF_1, lsF_2, z_o_i, z_ai_i, z_si_i, z_ab_b, z_ab_z, z_sb_b, z_sb_z, z_al_i, z_al_b, z_pu_s, z_pu_n, nI_toN, z_inN, true_and, and_true, nI_add, pk_mul, vu_eq, vu_ne, nI_leI, nI_ltI, nI_eqI, nI_eq0, ↓ok_0, ↓ok_1, ↓bI_ok, if_true, if_false, nI_lt0, nI_ge0, ne_eq, not_true_eq_false, not_false_eq_true, bI_eq0, bI_ne0, bI_T, bI_F, Bool.false_eq_true, Nat.one_ne_zero, Nat.zero_ne_one, nI_m1, kS, le]
    refine hN sn _ hs (by omega) ?_
    have sk := nt_skip (P := brP s.1 w) (m := 24 * s.1 32 1 - 24 * (u + 1)) (i := i - sn) (24 - v) (24 * u + v) (fun j h1 h2 z => by
      simp only [brP, Bool.and_eq_true, decide_eq_true_eq] at z
      have := z.1
      omega)
    rw [show 24 - v + (24 * s.1 32 1 - 24 * (u + 1)) = 24 * s.1 32 1 - (24 * u + v) by omega, hr, show 24 * u + v + (24 - v) = 24 * (u + 1) by omega] at sk
    exact sk.symm
  | succ m ih =>
    intro v sn hv hs hsv hr
    have le : ¬ s.1 32 1 ≤ v := by omega
    have lv : v < s.1 32 1 := by omega
    rw [show 24 * s.1 32 1 - (24 * u + v) = (24 * s.1 32 1 - (24 * u + (v + 1))) + 1 by omega, nt] at hr
    have pk : brP s.1 w (24 * u + v) = bk3 s.1 w u v := by
      unfold brP
      rw [show (24 * u + v) % 24 = v by omega, show (24 * u + v) / 24 = u by omega]
      simp [lv]
    rw [pk] at hr
    obtain ⟨l, b, e, c, mm, g, K, w1, _⟩ := hWq u hu
    obtain ⟨l', b', e', c', mm', g', K', v1, _⟩ := hWq v lv
    rw [i_X7_broken_38]
    simp (disch := omega) only [i_X7_broken_40, i_X7_broken_40n, i_X7_broken_41, i_X7_broken_44, i_X7_broken_47, i_X7_broken_50, i_X7_broken_50n, i_X7_broken_51, i_X7_broken_54, i_X7_broken_54n, i_X7_broken_55, i_X7_broken_55n, i_X7_broken_56, i_X7_broken_59, i_X7_broken_61, i_X7_broken_64, i_X7_broken_67, i_X7_broken_67n, i_X7_broken_68, i_X7_broken_71, i_X7_broken_73, i_X7_broken_76, i_X7_broken_79, gh_o3, gh_l4, gh_o6, gh_r7, gh_w7, gf_3_0, gf_3_1, gf_3_2, gf_6_0, gf_6_1, sgF_0, sgF_1, sgF_2, sgF_5, sgF_6, sgF_7, sgF_9, sgF_10, wdF_0, wdF_1, wdF_2, wdF_3, lsF_0, lsF_1, lsF_2, z_o_i, z_ai_i, z_si_i, z_ab_b, z_ab_z, z_sb_b, z_sb_z, z_al_i, z_al_b, z_pu_s, z_pu_n, nI_toN, z_inN, true_and, and_true, nI_add, pk_mul, vu_eq, vu_ne, nI_leI, nI_ltI, nI_eqI, nI_eq0, ↓ok_0, ↓ok_1, ↓bI_ok, if_true, if_false, nI_lt0, nI_ge0, ne_eq, not_true_eq_false, not_false_eq_true, bI_eq0, bI_ne0, bI_T, bI_F, Bool.false_eq_true, Nat.one_ne_zero, Nat.zero_ne_one, nI_m1, kS, kG, w1, v1, le]
    refine k_brk hI hC (hWq w hw) (hWq u hu) (hWq v lv) hw hu lv ?_
    by_cases c : bk3 s.1 w u v = true
    · rw [if_pos c] at hr
      by_cases e : sn = i
      · rw [if_pos (by omega)] at hr
        have q := hQ
        rw [← hr] at q
        simp (disch := omega) only [i_X7_broken_82, i_X7_broken_88, i_X7_broken_90, i_X7_broken_91, i_X7_broken_94, i_X7_broken_96, i_X7_broken_98, i_X7_broken_99, i_X7_broken_101, i_X7_broken_102, gh_o3, gh_l4, gh_o6, gh_r7, gh_w7, gf_3_0, gf_3_1, gf_3_2, gf_6_0, gf_6_1, sgF_0, sgF_1, sgF_2, sgF_5, sgF_6, sgF_7, sgF_9, sgF_10, wdF_0, wdF_1, wdF_2, wdF_3, lsF_0, lsF_1, lsF_2, z_o_i, z_ai_i, z_si_i, z_ab_b, z_ab_z, z_sb_b, z_sb_z, z_al_i, z_al_b, z_pu_s, z_pu_n, nI_toN, z_inN, true_and, and_true, nI_add, pk_mul, vu_eq, vu_ne, nI_leI, nI_ltI, nI_eqI, nI_eq0, ↓ok_0, ↓ok_1, ↓bI_ok, if_true, if_false, nI_lt0, nI_ge0, ne_eq, not_true_eq_false, not_false_eq_true, bI_eq0, bI_ne0, bI_T, bI_F, Bool.false_eq_true, Nat.one_ne_zero, Nat.zero_ne_one, nI_m1, c, e]
        exact q
      · rw [if_neg (by omega)] at hr
        simp (disch := omega) only [i_X7_broken_82, i_X7_broken_88, i_X7_broken_90, i_X7_broken_91, i_X7_broken_103, i_X7_broken_106, i_X7_broken_109, gh_o3, gh_l4, gh_o6, gh_r7, gh_w7, gf_3_0, gf_3_1, gf_3_2, gf_6_0, gf_6_1, sgF_0, sgF_1, sgF_2, sgF_5, sgF_6, sgF_7, sgF_9, sgF_10, wdF_0, wdF_1, wdF_2, wdF_3, lsF_0, lsF_1, lsF_2, z_o_i, z_ai_i, z_si_i, z_ab_b, z_ab_z, z_sb_b, z_sb_z, z_al_i, z_al_b, z_pu_s, z_pu_n, nI_toN, z_inN, true_and, and_true, nI_add, pk_mul, vu_eq, vu_ne, nI_leI, nI_ltI, nI_eqI, nI_eq0, ↓ok_0, ↓ok_1, ↓bI_ok, if_true, if_false, nI_lt0, nI_ge0, ne_eq, not_true_eq_false, not_false_eq_true, bI_eq0, bI_ne0, bI_T, bI_F, Bool.false_eq_true, Nat.one_ne_zero, Nat.zero_ne_one, nI_m1, c, e]
        exact ih (v + 1) (sn + 1) (by omega) (by omega) (by omega) (by rw [show i - (sn + 1) = i - sn - 1 by omega]; exact hr)
    · rw [if_neg c] at hr
      simp (disch := omega) only [i_X7_broken_82, i_X7_broken_85, i_X7_broken_106, i_X7_broken_109, gh_o3, gh_l4, gh_o6, gh_r7, gh_w7, gf_3_0, gf_3_1, gf_3_2, gf_6_0, gf_6_1, sgF_0, sgF_1, sgF_2, sgF_5, sgF_6, sgF_7, sgF_9, sgF_10, wdF_0, wdF_1, wdF_2, wdF_3, lsF_0, lsF_1, lsF_2, z_o_i, z_ai_i, z_si_i, z_ab_b, z_ab_z, z_sb_b, z_sb_z, z_al_i, z_al_b, z_pu_s, z_pu_n, nI_toN, z_inN, true_and, and_true, nI_add, pk_mul, vu_eq, vu_ne, nI_leI, nI_ltI, nI_eqI, nI_eq0, ↓ok_0, ↓ok_1, ↓bI_ok, if_true, if_false, nI_lt0, nI_ge0, ne_eq, not_true_eq_false, not_false_eq_true, bI_eq0, bI_ne0, bI_T, bI_F, Bool.false_eq_true, Nat.one_ne_zero, Nat.zero_ne_one, nI_m1, c]
      exact ih (v + 1) sn (by omega) hs (by omega) hr
theorem l_bkO {w i : Nat} {R : Option Nat} (hI : Iv s) (hC : Rc s A P) (hD : Rd s A P dy nz wd ln) (hi : i < 2147483648) (hw : w < s.1 32 1) (hQ : Q (some (.int (oI R))) (GH A P dy) nx) :
    ∀ (m u sn : Nat) (x6 : Option Value), u + m = s.1 32 1 → sn ≤ i → sn ≤ 24 * u → nt (brP s.1 w) (24 * s.1 32 1 - 24 * u) (24 * u) (i - sn) = R → X (d + 4) m_X7_broken 23 [some (.ref 3), some (.int (nI w)), some (.int (nI i)), some (.ref (wd w)), some (.int (nI sn)), some (.int (nI u)), x6] [] (GH A P dy) nx bc bs Q := by
  have sc := hI.sc
  have kS : ∀ {d nx : Nat} {Q : z_Q}, XC d m_Jx4a65c_size_8abf5 [.ref 4] (GH A P dy) nx Q = _ := k_size4 hD
  intro m
  induction m with
  | zero =>
    intro u sn x6 hu hs hsu hr
    have le : s.1 32 1 ≤ u := by omega
    rw [show 24 * s.1 32 1 - 24 * u = 0 by omega] at hr
    have q := hQ
    rw [← hr] at q
    simp (disch := omega) only [i_X7_broken_23, i_X7_broken_25, i_X7_broken_25n, i_X7_broken_26, i_X7_broken_29, i_X7_broken_32, i_X7_broken_118, i_X7_broken_119, gh_o3, gh_l4, gh_o6, gh_r7, gh_w7, gf_3_0, gf_3_1, gf_3_2, gf_6_0, gf_6_1, sgF_0, sgF_1, sgF_2, sgF_5, sgF_6, sgF_7, sgF_9, sgF_10, wdF_0, wdF_1, wdF_2, wdF_3, lsF_0, lsF_1, lsF_2, z_o_i, z_ai_i, z_si_i, z_ab_b, z_ab_z, z_sb_b, z_sb_z, z_al_i, z_al_b, z_pu_s, z_pu_n, nI_toN, z_inN, true_and, and_true, nI_add, pk_mul, vu_eq, vu_ne, nI_leI, nI_ltI, nI_eqI, nI_eq0, ↓ok_0, ↓ok_1, ↓bI_ok, if_true, if_false, nI_lt0, nI_ge0, ne_eq, not_true_eq_false, not_false_eq_true, bI_eq0, bI_ne0, bI_T, bI_F, Bool.false_eq_true, Nat.one_ne_zero, Nat.zero_ne_one, nI_m1, kS, le]
    exact q
  | succ m ih =>
    intro u sn x6 hu hs hsu hr
    have le : ¬ s.1 32 1 ≤ u := by omega
    rw [i_X7_broken_23]
    simp (disch := omega) only [i_X7_broken_25, i_X7_broken_25n, i_X7_broken_26, i_X7_broken_29, i_X7_broken_32, i_X7_broken_35, i_X7_broken_36, gh_o3, gh_l4, gh_o6, gh_r7, gh_w7, gf_3_0, gf_3_1, gf_3_2, gf_6_0, gf_6_1, sgF_0, sgF_1, sgF_2, sgF_5, sgF_6, sgF_7, sgF_9, sgF_10, wdF_0, wdF_1, wdF_2, wdF_3, lsF_0, lsF_1, lsF_2, z_o_i, z_ai_i, z_si_i, z_ab_b, z_ab_z, z_sb_b, z_sb_z, z_al_i, z_al_b, z_pu_s, z_pu_n, nI_toN, z_inN, true_and, and_true, nI_add, pk_mul, vu_eq, vu_ne, nI_leI, nI_ltI, nI_eqI, nI_eq0, ↓ok_0, ↓ok_1, ↓bI_ok, if_true, if_false, nI_lt0, nI_ge0, ne_eq, not_true_eq_false, not_false_eq_true, bI_eq0, bI_ne0, bI_T, bI_F, Bool.false_eq_true, Nat.one_ne_zero, Nat.zero_ne_one, nI_m1, kS, le]
    refine l_bkI hI hC hD hi hw (by omega) hQ (fun sn' y6 h1 h2 h3 => ?_) (s.1 32 1) 0 sn (by omega) hs (by omega) hr
    exact ih (u + 1) sn' y6 (by omega) h1 h2 h3
theorem x_broken {w i : Int32} (hI : Iv s) (hK : Cl s A P dy nx) (hQ : ∀ B R, Cl s B R dy nx → Fz A B → Q (some (.int (s_broken s w i))) (GH B R dy) nx) : XC (d + 4) m_X7_broken [.ref 3, .int w, .int i] (GH A P dy) nx Q := by
  show X (d + 4) m_X7_broken 0 [some (.ref 3), some (.int w), some (.int i), none, none, none, none] [] (GH A P dy) nx 0 0 Q
  have q := hQ A P hK Fz.refl
  obtain ⟨hC, wd, ln, hD⟩ := hK
  have sc := hI.sc
  have kW : ∀ {d nx : Nat} {Q : z_Q} {w : Nat}, w < s.1 32 1 → XC (d + 3) m_X7_wordAt [.ref 3, .int (nI w)] (GH A P dy) nx Q = Q (some (.ref (wd w))) (GH A P dy) nx := fun h => k_wordAt hD h
  have kN : ∀ {d nx : Nat} {Q : z_Q} {x : Int32}, ¬ iw x (s.1 32 1) = true → XC (d + 3) m_X7_wordAt [.ref 3, .int x] (GH A P dy) nx Q = Q (some .null) (GH A P dy) nx := fun h => k_wordAtN hD sc.1 h
  unfold s_broken at q
  by_cases hw : iw w (s.1 32 1) = true
  · obtain ⟨a, h1, rfl⟩ := iw_ex hw
    by_cases hi : iw i 2147483648 = true
    · rw [if_pos ⟨hw, hi⟩] at q
      obtain ⟨c, h3, rfl⟩ := iw_ex hi
      rw [nI_toN (by omega), nI_toN (by omega)] at q
      simp (disch := omega) only [i_X7_broken_0, i_X7_broken_0n, i_X7_broken_1, i_X7_broken_2, i_X7_broken_5, i_X7_broken_5n, i_X7_broken_6, i_X7_broken_6n, i_X7_broken_7, i_X7_broken_7n, i_X7_broken_10, i_X7_broken_11, i_X7_broken_17, i_X7_broken_18, i_X7_broken_20, i_X7_broken_21, gh_o3, gh_l4, gh_o6, gh_r7, gh_w7, gf_3_0, gf_3_1, gf_3_2, gf_6_0, gf_6_1, sgF_0, sgF_1, sgF_2, sgF_5, sgF_6, sgF_7, sgF_9, sgF_10, wdF_0, wdF_1, wdF_2, wdF_3, lsF_0, lsF_1, lsF_2, z_o_i, z_ai_i, z_si_i, z_ab_b, z_ab_z, z_sb_b, z_sb_z, z_al_i, z_al_b, z_pu_s, z_pu_n, nI_toN, z_inN, true_and, and_true, nI_add, pk_mul, vu_eq, vu_ne, nI_leI, nI_ltI, nI_eqI, nI_eq0, ↓ok_0, ↓ok_1, ↓bI_ok, if_true, if_false, nI_lt0, nI_ge0, ne_eq, not_true_eq_false, not_false_eq_true, bI_eq0, bI_ne0, bI_T, bI_F, Bool.false_eq_true, Nat.one_ne_zero, Nat.zero_ne_one, nI_m1, kW]
      exact l_bkO hI hC hD h3 h1 q (s.1 32 1) 0 0 none (by omega) (by omega) (by omega) (by rw [Nat.mul_zero, Nat.sub_zero, Nat.sub_zero])
    · rw [if_neg (fun q => hi q.2)] at q
      rw [iw_0] at hi
      simp (disch := omega) only [i_X7_broken_0, i_X7_broken_0n, i_X7_broken_1, i_X7_broken_2, i_X7_broken_5, i_X7_broken_5n, i_X7_broken_6, i_X7_broken_6n, i_X7_broken_7, i_X7_broken_7n, i_X7_broken_10, i_X7_broken_11, i_X7_broken_14, i_X7_broken_16, gh_o3, gh_l4, gh_o6, gh_r7, gh_w7, gf_3_0, gf_3_1, gf_3_2, gf_6_0, gf_6_1, sgF_0, sgF_1, sgF_2, sgF_5, sgF_6, sgF_7, sgF_9, sgF_10, wdF_0, wdF_1, wdF_2, wdF_3, lsF_0, lsF_1, lsF_2, z_o_i, z_ai_i, z_si_i, z_ab_b, z_ab_z, z_sb_b, z_sb_z, z_al_i, z_al_b, z_pu_s, z_pu_n, nI_toN, z_inN, true_and, and_true, nI_add, pk_mul, vu_eq, vu_ne, nI_leI, nI_ltI, nI_eqI, nI_eq0, ↓ok_0, ↓ok_1, ↓bI_ok, if_true, if_false, nI_lt0, nI_ge0, ne_eq, not_true_eq_false, not_false_eq_true, bI_eq0, bI_ne0, bI_T, bI_F, Bool.false_eq_true, Nat.one_ne_zero, Nat.zero_ne_one, nI_m1, kW, hi]
      exact q
  · rw [if_neg (fun q => hw q.1)] at q
    have kNw : ∀ {d nx : Nat} {Q : z_Q}, XC (d + 3) m_X7_wordAt [.ref 3, .int w] (GH A P dy) nx Q = Q (some .null) (GH A P dy) nx := kN hw
    simp (disch := omega) only [i_X7_broken_0, i_X7_broken_0n, i_X7_broken_1, i_X7_broken_2, i_X7_broken_5, i_X7_broken_5n, i_X7_broken_6, i_X7_broken_6n, i_X7_broken_7, i_X7_broken_7n, i_X7_broken_14, i_X7_broken_16, gh_o3, gh_l4, gh_o6, gh_r7, gh_w7, gf_3_0, gf_3_1, gf_3_2, gf_6_0, gf_6_1, sgF_0, sgF_1, sgF_2, sgF_5, sgF_6, sgF_7, sgF_9, sgF_10, wdF_0, wdF_1, wdF_2, wdF_3, lsF_0, lsF_1, lsF_2, z_o_i, z_ai_i, z_si_i, z_ab_b, z_ab_z, z_sb_b, z_sb_z, z_al_i, z_al_b, z_pu_s, z_pu_n, nI_toN, z_inN, true_and, and_true, nI_add, pk_mul, vu_eq, vu_ne, nI_leI, nI_ltI, nI_eqI, nI_eq0, ↓ok_0, ↓ok_1, ↓bI_ok, if_true, if_false, nI_lt0, nI_ge0, ne_eq, not_true_eq_false, not_false_eq_true, bI_eq0, bI_ne0, bI_T, bI_F, Bool.false_eq_true, Nat.one_ne_zero, Nat.zero_ne_one, nI_m1, kNw]
    exact q
theorem x_speech {x y : Int32} (hI : Iv s) (hK : Cl s A P dy nx) (hQ : ∀ B R, Cl (s_speech s x y).2 B R dy nx → Fz A B → Q (some (.int (s_speech s x y).1)) (GH B R dy) nx) : XC (d + 1) m_X7_speech [.ref 3, .int x, .int y] (GH A P dy) nx Q := by
  show X (d + 1) m_X7_speech 0 [some (.ref 3), some (.int x), some (.int y), none] [] (GH A P dy) nx 0 0 Q
  unfold s_speech at hQ
  by_cases hx : iw x 40 = true
  · obtain ⟨u, hu, rfl⟩ := iw_ex hx
    have lu : ¬ 40 ≤ u := by omega
    by_cases hy : iw y 40 = true
    · obtain ⟨v, hv, rfl⟩ := iw_ex hy
      rw [nI_toN (by omega), nI_toN (by omega)] at hQ
      have r7 := hK.1.1.1 u hu
      by_cases c : (u < 10 ↔ v < 10)
      · rw [if_pos ⟨hx, hy, c⟩] at hQ
        simp (disch := omega) only [i_X7_speech_0, i_X7_speech_1, i_X7_speech_4, i_X7_speech_5, i_X7_speech_7, i_X7_speech_10, i_X7_speech_11, i_X7_speech_14, i_X7_speech_15, i_X7_speech_17, i_X7_speech_23, i_X7_speech_24, i_X7_speech_27, i_X7_speech_28, i_X7_speech_31, i_X7_speech_37, i_X7_speech_38, i_X7_speech_41, i_X7_speech_44, i_X7_speech_45, i_X7_speech_46, i_X7_speech_47, i_X7_speech_48, i_X7_speech_51, i_X7_speech_54, i_X7_speech_55, i_X7_speech_56, i_X7_speech_57, i_X7_speech_58, gh_o3, gh_l4, gh_o6, gh_r7, gh_w7, gf_3_0, gf_3_1, gf_3_2, gf_6_0, gf_6_1, sgF_0, sgF_1, sgF_2, sgF_5, sgF_6, sgF_7, sgF_9, sgF_10, wdF_0, wdF_1, wdF_2, wdF_3, lsF_0, lsF_1, lsF_2, z_o_i, z_ai_i, z_si_i, z_ab_b, z_ab_z, z_sb_b, z_sb_z, z_al_i, z_al_b, z_pu_s, z_pu_n, nI_toN, z_inN, true_and, and_true, nI_add, pk_mul, vu_eq, vu_ne, nI_leI, nI_ltI, nI_eqI, nI_eq0, ↓ok_0, ↓ok_1, ↓bI_ok, if_true, if_false, nI_lt0, nI_ge0, ne_eq, not_true_eq_false, not_false_eq_true, bI_eq0, bI_ne0, bI_T, bI_F, Bool.false_eq_true, Nat.one_ne_zero, Nat.zero_ne_one, nI_m1, lu, hv, k_isV, bI_eqI, c, r7]
        refine hQ _ _ ⟨⟨⟨fun i hi => ?_, hK.1.1.2⟩, hK.1.2⟩, ?_⟩ (Fz.refl.up (by omega))
        · show va_up (A 7) u (nI v) i = nI (va_up (s.1 40) u v i)
          rw [vu_if, vu_if]
          by_cases e : i = u
          · rw [if_pos e, if_pos e]
          · rw [if_neg e, if_neg e]; exact hK.1.1.1 i hi
        · obtain ⟨_, wd, ln, hD⟩ := hK
          exact ⟨wd, ln, hD.of rfl rfl rfl rfl⟩
      · rw [if_neg (fun q => c q.2.2)] at hQ
        simp (disch := omega) only [i_X7_speech_0, i_X7_speech_1, i_X7_speech_4, i_X7_speech_5, i_X7_speech_7, i_X7_speech_10, i_X7_speech_11, i_X7_speech_14, i_X7_speech_15, i_X7_speech_17, i_X7_speech_23, i_X7_speech_24, i_X7_speech_27, i_X7_speech_28, i_X7_speech_31, i_X7_speech_34, i_X7_speech_36, gh_o3, gh_l4, gh_o6, gh_r7, gh_w7, gf_3_0, gf_3_1, gf_3_2, gf_6_0, gf_6_1, sgF_0, sgF_1, sgF_2, sgF_5, sgF_6, sgF_7, sgF_9, sgF_10, wdF_0, wdF_1, wdF_2, wdF_3, lsF_0, lsF_1, lsF_2, z_o_i, z_ai_i, z_si_i, z_ab_b, z_ab_z, z_sb_b, z_sb_z, z_al_i, z_al_b, z_pu_s, z_pu_n, nI_toN, z_inN, true_and, and_true, nI_add, pk_mul, vu_eq, vu_ne, nI_leI, nI_ltI, nI_eqI, nI_eq0, ↓ok_0, ↓ok_1, ↓bI_ok, if_true, if_false, nI_lt0, nI_ge0, ne_eq, not_true_eq_false, not_false_eq_true, bI_eq0, bI_ne0, bI_T, bI_F, Bool.false_eq_true, Nat.one_ne_zero, Nat.zero_ne_one, nI_m1, lu, hv, k_isV, bI_eqI, c]
        exact hQ A P hK Fz.refl
    · rw [if_neg (fun q => hy q.2.1)] at hQ
      by_cases y0 : y < 0
      · simp (disch := omega) only [i_X7_speech_0, i_X7_speech_1, i_X7_speech_4, i_X7_speech_5, i_X7_speech_7, i_X7_speech_10, i_X7_speech_11, i_X7_speech_20, i_X7_speech_22, gh_o3, gh_l4, gh_o6, gh_r7, gh_w7, gf_3_0, gf_3_1, gf_3_2, gf_6_0, gf_6_1, sgF_0, sgF_1, sgF_2, sgF_5, sgF_6, sgF_7, sgF_9, sgF_10, wdF_0, wdF_1, wdF_2, wdF_3, lsF_0, lsF_1, lsF_2, z_o_i, z_ai_i, z_si_i, z_ab_b, z_ab_z, z_sb_b, z_sb_z, z_al_i, z_al_b, z_pu_s, z_pu_n, nI_toN, z_inN, true_and, and_true, nI_add, pk_mul, vu_eq, vu_ne, nI_leI, nI_ltI, nI_eqI, nI_eq0, ↓ok_0, ↓ok_1, ↓bI_ok, if_true, if_false, nI_lt0, nI_ge0, ne_eq, not_true_eq_false, not_false_eq_true, bI_eq0, bI_ne0, bI_T, bI_F, Bool.false_eq_true, Nat.one_ne_zero, Nat.zero_ne_one, nI_m1, lu, y0]
        exact hQ A P hK Fz.refl
      · have y1 : ¬ y < nI 40 := by
          have := (iw_lt (by simpa using hy) (by omega)).resolve_left y0
          exact Int32.not_lt.mpr this
        simp (disch := omega) only [i_X7_speech_0, i_X7_speech_1, i_X7_speech_4, i_X7_speech_5, i_X7_speech_7, i_X7_speech_10, i_X7_speech_11, i_X7_speech_14, i_X7_speech_15, i_X7_speech_17, i_X7_speech_20, i_X7_speech_22, gh_o3, gh_l4, gh_o6, gh_r7, gh_w7, gf_3_0, gf_3_1, gf_3_2, gf_6_0, gf_6_1, sgF_0, sgF_1, sgF_2, sgF_5, sgF_6, sgF_7, sgF_9, sgF_10, wdF_0, wdF_1, wdF_2, wdF_3, lsF_0, lsF_1, lsF_2, z_o_i, z_ai_i, z_si_i, z_ab_b, z_ab_z, z_sb_b, z_sb_z, z_al_i, z_al_b, z_pu_s, z_pu_n, nI_toN, z_inN, true_and, and_true, nI_add, pk_mul, vu_eq, vu_ne, nI_leI, nI_ltI, nI_eqI, nI_eq0, ↓ok_0, ↓ok_1, ↓bI_ok, if_true, if_false, nI_lt0, nI_ge0, ne_eq, not_true_eq_false, not_false_eq_true, bI_eq0, bI_ne0, bI_T, bI_F, Bool.false_eq_true, Nat.one_ne_zero, Nat.zero_ne_one, nI_m1, lu, y0, y1]
        exact hQ A P hK Fz.refl
  · rw [if_neg (fun q => hx q.1)] at hQ
    by_cases x0 : x < 0
    · simp (disch := omega) only [i_X7_speech_0, i_X7_speech_1, i_X7_speech_20, i_X7_speech_22, gh_o3, gh_l4, gh_o6, gh_r7, gh_w7, gf_3_0, gf_3_1, gf_3_2, gf_6_0, gf_6_1, sgF_0, sgF_1, sgF_2, sgF_5, sgF_6, sgF_7, sgF_9, sgF_10, wdF_0, wdF_1, wdF_2, wdF_3, lsF_0, lsF_1, lsF_2, z_o_i, z_ai_i, z_si_i, z_ab_b, z_ab_z, z_sb_b, z_sb_z, z_al_i, z_al_b, z_pu_s, z_pu_n, nI_toN, z_inN, true_and, and_true, nI_add, pk_mul, vu_eq, vu_ne, nI_leI, nI_ltI, nI_eqI, nI_eq0, ↓ok_0, ↓ok_1, ↓bI_ok, if_true, if_false, nI_lt0, nI_ge0, ne_eq, not_true_eq_false, not_false_eq_true, bI_eq0, bI_ne0, bI_T, bI_F, Bool.false_eq_true, Nat.one_ne_zero, Nat.zero_ne_one, nI_m1, x0]
      exact hQ A P hK Fz.refl
    · have x1 : nI 40 ≤ x := (iw_lt (by simpa using hx) (by omega)).resolve_left x0
      simp (disch := omega) only [i_X7_speech_0, i_X7_speech_1, i_X7_speech_4, i_X7_speech_5, i_X7_speech_7, i_X7_speech_20, i_X7_speech_22, gh_o3, gh_l4, gh_o6, gh_r7, gh_w7, gf_3_0, gf_3_1, gf_3_2, gf_6_0, gf_6_1, sgF_0, sgF_1, sgF_2, sgF_5, sgF_6, sgF_7, sgF_9, sgF_10, wdF_0, wdF_1, wdF_2, wdF_3, lsF_0, lsF_1, lsF_2, z_o_i, z_ai_i, z_si_i, z_ab_b, z_ab_z, z_sb_b, z_sb_z, z_al_i, z_al_b, z_pu_s, z_pu_n, nI_toN, z_inN, true_and, and_true, nI_add, pk_mul, vu_eq, vu_ne, nI_leI, nI_ltI, nI_eqI, nI_eq0, ↓ok_0, ↓ok_1, ↓bI_ok, if_true, if_false, nI_lt0, nI_ge0, ne_eq, not_true_eq_false, not_false_eq_true, bI_eq0, bI_ne0, bI_T, bI_F, Bool.false_eq_true, Nat.one_ne_zero, Nat.zero_ne_one, nI_m1, x0, x1]
      exact hQ A P hK Fz.refl
theorem x_told {w p k : Int32} (hI : Iv s) (hK : Cl s A P dy nx) (hQ : ∀ B R, Cl s B R dy nx → Fz A B → Q (some (.int (s_told s w p k))) (GH B R dy) nx) : XC (d + 4) m_X7_told [.ref 3, .int w, .int p, .int k] (GH A P dy) nx Q := by
  show X (d + 4) m_X7_told 0 [some (.ref 3), some (.int w), some (.int p), some (.int k), none, none] [] (GH A P dy) nx 0 0 Q
  have q := hQ A P hK Fz.refl
  obtain ⟨hC, wd, ln, hD⟩ := hK
  have sc := hI.sc
  have kW : ∀ {d nx : Nat} {Q : z_Q} {w : Nat}, w < s.1 32 1 → XC (d + 3) m_X7_wordAt [.ref 3, .int (nI w)] (GH A P dy) nx Q = Q (some (.ref (wd w))) (GH A P dy) nx := fun h => k_wordAt hD h
  have kN : ∀ {d nx : Nat} {Q : z_Q} {x : Int32}, ¬ iw x (s.1 32 1) = true → XC (d + 3) m_X7_wordAt [.ref 3, .int x] (GH A P dy) nx Q = Q (some .null) (GH A P dy) nx := fun h => k_wordAtN hD sc.1 h
  unfold s_told at q
  by_cases hw : iw w (s.1 32 1) = true
  · obtain ⟨a, h1, rfl⟩ := iw_ex hw
    rw [nI_toN (by omega)] at q
    obtain ⟨ρ, hWq⟩ := hD.wq h1
    obtain ⟨l, b, e, c, mm, g, K, w1, w2, w3, w4, w5, w6, w7, w8⟩ := hWq
    have b34 := hI.b34 a
    have cs : ∀ {d nx : Nat} {Q : z_Q}, XC d m_Jx4a65c_size_8abf5 [.ref l] (GH A P dy) nx Q = Q (some (.int (nI (s.1 34 a)))) (GH A P dy) nx := c_size w2
    by_cases hp : iw p (s.1 34 a) = true
    · obtain ⟨b, h2, rfl⟩ := iw_ex hp
      rw [nI_toN (by omega)] at q
      obtain ⟨q0, a0, S0⟩ := w8 b h2
      obtain ⟨so, vo, st, r0⟩ := S0.rd (A := A) (P := P) hI
      have cg : ∀ {d nx : Nat} {Q : z_Q}, XC (d + 2) m_Jx4a65c_get_915e3 [.ref l, .int (nI b)] (GH A P dy) nx Q = Q (some (.ref q0)) (GH A P dy) nx := c_get w2 w3 h2 w6 (by omega) a0
      have b35 := hI.b35 (3 * a + b)
      have kh : ∀ {d nx : Nat} {Q : z_Q} {i : Nat}, i < s.1 35 (3 * a + b) → XC d m_X0_heardAt [.ref 6, .ref q0, .int (nI i)] (GH A P dy) nx Q = Q (some (.int (nI (hs s.1 (3 * a + b) i)))) (GH A P dy) nx := fun h => k_heardAt hC.1.1 (S0.q (A := A) (P := P)) b35 (fun i => hI.b36 _) h
      simp (disch := omega) only [i_X7_told_0, i_X7_told_0n, i_X7_told_1, i_X7_told_2, i_X7_told_5, i_X7_told_5n, i_X7_told_7, i_X7_told_7n, i_X7_told_9, i_X7_told_9n, i_X7_told_12, i_X7_told_13, i_X7_told_16, i_X7_told_17, i_X7_told_17n, i_X7_told_19, i_X7_told_22, i_X7_told_25, i_X7_told_31, i_X7_told_31n, i_X7_told_33, i_X7_told_36, i_X7_told_37, i_X7_told_40, i_X7_told_43, i_X7_told_43n, i_X7_told_45, gh_o3, gh_l4, gh_o6, gh_r7, gh_w7, gf_3_0, gf_3_1, gf_3_2, gf_6_0, gf_6_1, sgF_0, sgF_1, sgF_2, sgF_5, sgF_6, sgF_7, sgF_9, sgF_10, wdF_0, wdF_1, wdF_2, wdF_3, lsF_0, lsF_1, lsF_2, z_o_i, z_ai_i, z_si_i, z_ab_b, z_ab_z, z_sb_b, z_sb_z, z_al_i, z_al_b, z_pu_s, z_pu_n, nI_toN, z_inN, true_and, and_true, nI_add, pk_mul, vu_eq, vu_ne, nI_leI, nI_ltI, nI_eqI, nI_eq0, ↓ok_0, ↓ok_1, ↓bI_ok, if_true, if_false, nI_lt0, nI_ge0, ne_eq, not_true_eq_false, not_false_eq_true, bI_eq0, bI_ne0, bI_T, bI_F, Bool.false_eq_true, Nat.one_ne_zero, Nat.zero_ne_one, nI_m1, kW, w1, w2, cs, cg, r0, h2]
      by_cases hk : iw k 16 = true
      · rw [if_pos ⟨hw, hp, hk⟩] at q
        obtain ⟨c, h3, rfl⟩ := iw_ex hk
        rw [nI_toN (by omega), tdq] at q
        by_cases c0 : c = 0
        · rw [if_pos c0] at q
          subst c0
          simp (disch := omega) only [i_X7_told_46_0, i_X7_told_46_1, i_X7_told_46_2, i_X7_told_46_3, i_X7_told_76, i_X7_told_76n, i_X7_told_78, i_X7_told_81, gh_o3, gh_l4, gh_o6, gh_r7, gh_w7, gf_3_0, gf_3_1, gf_3_2, gf_6_0, gf_6_1, sgF_0, sgF_1, sgF_2, sgF_5, sgF_6, sgF_7, sgF_9, sgF_10, wdF_0, wdF_1, wdF_2, wdF_3, lsF_0, lsF_1, lsF_2, z_o_i, z_ai_i, z_si_i, z_ab_b, z_ab_z, z_sb_b, z_sb_z, z_al_i, z_al_b, z_pu_s, z_pu_n, nI_toN, z_inN, true_and, and_true, nI_add, pk_mul, vu_eq, vu_ne, nI_leI, nI_ltI, nI_eqI, nI_eq0, ↓ok_0, ↓ok_1, ↓bI_ok, if_true, if_false, nI_lt0, nI_ge0, ne_eq, not_true_eq_false, not_false_eq_true, bI_eq0, bI_ne0, bI_T, bI_F, Bool.false_eq_true, Nat.one_ne_zero, Nat.zero_ne_one, nI_m1, r0]
          exact q
        rw [if_neg c0] at q
        by_cases c1 : c = 1
        · rw [if_pos c1] at q
          subst c1
          rw [← cv_R hI.sp hI.b36] at q
          simp (disch := omega) only [i_X7_told_46_0, i_X7_told_46_1, i_X7_told_46_2, i_X7_told_46_3, i_X7_told_82, i_X7_told_82n, i_X7_told_84, i_X7_told_87, gh_o3, gh_l4, gh_o6, gh_r7, gh_w7, gf_3_0, gf_3_1, gf_3_2, gf_6_0, gf_6_1, sgF_0, sgF_1, sgF_2, sgF_5, sgF_6, sgF_7, sgF_9, sgF_10, wdF_0, wdF_1, wdF_2, wdF_3, lsF_0, lsF_1, lsF_2, z_o_i, z_ai_i, z_si_i, z_ab_b, z_ab_z, z_sb_b, z_sb_z, z_al_i, z_al_b, z_pu_s, z_pu_n, nI_toN, z_inN, true_and, and_true, nI_add, pk_mul, vu_eq, vu_ne, nI_leI, nI_ltI, nI_eqI, nI_eq0, ↓ok_0, ↓ok_1, ↓bI_ok, if_true, if_false, nI_lt0, nI_ge0, ne_eq, not_true_eq_false, not_false_eq_true, bI_eq0, bI_ne0, bI_T, bI_F, Bool.false_eq_true, Nat.one_ne_zero, Nat.zero_ne_one, nI_m1, r0]
          exact q
        rw [if_neg c1] at q
        by_cases c2 : c = 2
        · rw [if_pos c2] at q
          subst c2
          simp (disch := omega) only [i_X7_told_46_0, i_X7_told_46_1, i_X7_told_46_2, i_X7_told_46_3, i_X7_told_88, i_X7_told_88n, i_X7_told_90, i_X7_told_93, gh_o3, gh_l4, gh_o6, gh_r7, gh_w7, gf_3_0, gf_3_1, gf_3_2, gf_6_0, gf_6_1, sgF_0, sgF_1, sgF_2, sgF_5, sgF_6, sgF_7, sgF_9, sgF_10, wdF_0, wdF_1, wdF_2, wdF_3, lsF_0, lsF_1, lsF_2, z_o_i, z_ai_i, z_si_i, z_ab_b, z_ab_z, z_sb_b, z_sb_z, z_al_i, z_al_b, z_pu_s, z_pu_n, nI_toN, z_inN, true_and, and_true, nI_add, pk_mul, vu_eq, vu_ne, nI_leI, nI_ltI, nI_eqI, nI_eq0, ↓ok_0, ↓ok_1, ↓bI_ok, if_true, if_false, nI_lt0, nI_ge0, ne_eq, not_true_eq_false, not_false_eq_true, bI_eq0, bI_ne0, bI_T, bI_F, Bool.false_eq_true, Nat.one_ne_zero, Nat.zero_ne_one, nI_m1, r0]
          exact q
        rw [if_neg c2] at q
        by_cases c3 : c = 3
        · rw [if_pos c3] at q
          subst c3
          simp (disch := omega) only [i_X7_told_46_0, i_X7_told_46_1, i_X7_told_46_2, i_X7_told_46_3, i_X7_told_94, i_X7_told_94n, i_X7_told_96, i_X7_told_99, gh_o3, gh_l4, gh_o6, gh_r7, gh_w7, gf_3_0, gf_3_1, gf_3_2, gf_6_0, gf_6_1, sgF_0, sgF_1, sgF_2, sgF_5, sgF_6, sgF_7, sgF_9, sgF_10, wdF_0, wdF_1, wdF_2, wdF_3, lsF_0, lsF_1, lsF_2, z_o_i, z_ai_i, z_si_i, z_ab_b, z_ab_z, z_sb_b, z_sb_z, z_al_i, z_al_b, z_pu_s, z_pu_n, nI_toN, z_inN, true_and, and_true, nI_add, pk_mul, vu_eq, vu_ne, nI_leI, nI_ltI, nI_eqI, nI_eq0, ↓ok_0, ↓ok_1, ↓bI_ok, if_true, if_false, nI_lt0, nI_ge0, ne_eq, not_true_eq_false, not_false_eq_true, bI_eq0, bI_ne0, bI_T, bI_F, Bool.false_eq_true, Nat.one_ne_zero, Nat.zero_ne_one, nI_m1, r0]
          exact q
        rw [if_neg c3] at q
        have l4 : ¬ c < 4 := by omega
        have s4 : (nI c - nI 4 : Int32) = nI (c - 4) := pk_sub (by omega)
        rw [i_X7_told_46_out (by rw [nI_toInt (by omega)]; omega)]
        by_cases lt : c - 4 < s.1 35 (3 * a + b)
        · rw [if_pos lt] at q
          have lt' : ¬ s.1 35 (3 * a + b) ≤ c - 4 := by omega
          simp (disch := omega) only [i_X7_told_100, i_X7_told_101, i_X7_told_102, i_X7_told_105, i_X7_told_106, i_X7_told_108, i_X7_told_114, i_X7_told_115, i_X7_told_116, i_X7_told_117, i_X7_told_117n, i_X7_told_119, i_X7_told_122, i_X7_told_125, i_X7_told_125n, i_X7_told_126, i_X7_told_129, i_X7_told_129n, i_X7_told_131, i_X7_told_132, i_X7_told_133, i_X7_told_134, i_X7_told_137, i_X7_told_140, i_X7_told_142, gh_o3, gh_l4, gh_o6, gh_r7, gh_w7, gf_3_0, gf_3_1, gf_3_2, gf_6_0, gf_6_1, sgF_0, sgF_1, sgF_2, sgF_5, sgF_6, sgF_7, sgF_9, sgF_10, wdF_0, wdF_1, wdF_2, wdF_3, lsF_0, lsF_1, lsF_2, z_o_i, z_ai_i, z_si_i, z_ab_b, z_ab_z, z_sb_b, z_sb_z, z_al_i, z_al_b, z_pu_s, z_pu_n, nI_toN, z_inN, true_and, and_true, nI_add, pk_mul, vu_eq, vu_ne, nI_leI, nI_ltI, nI_eqI, nI_eq0, ↓ok_0, ↓ok_1, ↓bI_ok, if_true, if_false, nI_lt0, nI_ge0, ne_eq, not_true_eq_false, not_false_eq_true, bI_eq0, bI_ne0, bI_T, bI_F, Bool.false_eq_true, Nat.one_ne_zero, Nat.zero_ne_one, nI_m1, r0, l4, h3, s4, lt', kh]
          exact q
        · rw [if_neg lt] at q
          have lt' : s.1 35 (3 * a + b) ≤ c - 4 := by omega
          simp (disch := omega) only [i_X7_told_100, i_X7_told_101, i_X7_told_102, i_X7_told_105, i_X7_told_106, i_X7_told_108, i_X7_told_114, i_X7_told_115, i_X7_told_116, i_X7_told_117, i_X7_told_117n, i_X7_told_119, i_X7_told_122, i_X7_told_140, i_X7_told_142, gh_o3, gh_l4, gh_o6, gh_r7, gh_w7, gf_3_0, gf_3_1, gf_3_2, gf_6_0, gf_6_1, sgF_0, sgF_1, sgF_2, sgF_5, sgF_6, sgF_7, sgF_9, sgF_10, wdF_0, wdF_1, wdF_2, wdF_3, lsF_0, lsF_1, lsF_2, z_o_i, z_ai_i, z_si_i, z_ab_b, z_ab_z, z_sb_b, z_sb_z, z_al_i, z_al_b, z_pu_s, z_pu_n, nI_toN, z_inN, true_and, and_true, nI_add, pk_mul, vu_eq, vu_ne, nI_leI, nI_ltI, nI_eqI, nI_eq0, ↓ok_0, ↓ok_1, ↓bI_ok, if_true, if_false, nI_lt0, nI_ge0, ne_eq, not_true_eq_false, not_false_eq_true, bI_eq0, bI_ne0, bI_T, bI_F, Bool.false_eq_true, Nat.one_ne_zero, Nat.zero_ne_one, nI_m1, r0, l4, h3, s4, lt']
          exact q
      · rw [if_neg (fun z => hk z.2.2)] at q
        have out : k.toInt < 0 ∨ 3 < k.toInt := by
          simp only [iw, decide_eq_true_eq] at hk
          omega
        rw [i_X7_told_46_out out]
        by_cases k4 : k < nI 4
        · simp (disch := omega) only [i_X7_told_100, i_X7_told_101, i_X7_told_102, i_X7_told_111, i_X7_told_113, gh_o3, gh_l4, gh_o6, gh_r7, gh_w7, gf_3_0, gf_3_1, gf_3_2, gf_6_0, gf_6_1, sgF_0, sgF_1, sgF_2, sgF_5, sgF_6, sgF_7, sgF_9, sgF_10, wdF_0, wdF_1, wdF_2, wdF_3, lsF_0, lsF_1, lsF_2, z_o_i, z_ai_i, z_si_i, z_ab_b, z_ab_z, z_sb_b, z_sb_z, z_al_i, z_al_b, z_pu_s, z_pu_n, nI_toN, z_inN, true_and, and_true, nI_add, pk_mul, vu_eq, vu_ne, nI_leI, nI_ltI, nI_eqI, nI_eq0, ↓ok_0, ↓ok_1, ↓bI_ok, if_true, if_false, nI_lt0, nI_ge0, ne_eq, not_true_eq_false, not_false_eq_true, bI_eq0, bI_ne0, bI_T, bI_F, Bool.false_eq_true, Nat.one_ne_zero, Nat.zero_ne_one, nI_m1, k4]
          exact q
        · have k16 : ¬ k < nI 16 := by
            rw [Int32.lt_iff_toInt_lt, nI_toInt (by omega)] at k4 ⊢
            simp only [iw, decide_eq_true_eq] at hk
            omega
          simp (disch := omega) only [i_X7_told_100, i_X7_told_101, i_X7_told_102, i_X7_told_105, i_X7_told_106, i_X7_told_108, i_X7_told_111, i_X7_told_113, gh_o3, gh_l4, gh_o6, gh_r7, gh_w7, gf_3_0, gf_3_1, gf_3_2, gf_6_0, gf_6_1, sgF_0, sgF_1, sgF_2, sgF_5, sgF_6, sgF_7, sgF_9, sgF_10, wdF_0, wdF_1, wdF_2, wdF_3, lsF_0, lsF_1, lsF_2, z_o_i, z_ai_i, z_si_i, z_ab_b, z_ab_z, z_sb_b, z_sb_z, z_al_i, z_al_b, z_pu_s, z_pu_n, nI_toN, z_inN, true_and, and_true, nI_add, pk_mul, vu_eq, vu_ne, nI_leI, nI_ltI, nI_eqI, nI_eq0, ↓ok_0, ↓ok_1, ↓bI_ok, if_true, if_false, nI_lt0, nI_ge0, ne_eq, not_true_eq_false, not_false_eq_true, bI_eq0, bI_ne0, bI_T, bI_F, Bool.false_eq_true, Nat.one_ne_zero, Nat.zero_ne_one, nI_m1, k4, k16]
          exact q
    · rw [if_neg (fun z => hp z.2.1)] at q
      by_cases p0 : p < 0
      · simp (disch := omega) only [i_X7_told_0, i_X7_told_0n, i_X7_told_1, i_X7_told_2, i_X7_told_5, i_X7_told_5n, i_X7_told_7, i_X7_told_7n, i_X7_told_9, i_X7_told_9n, i_X7_told_12, i_X7_told_13, i_X7_told_28, i_X7_told_30, gh_o3, gh_l4, gh_o6, gh_r7, gh_w7, gf_3_0, gf_3_1, gf_3_2, gf_6_0, gf_6_1, sgF_0, sgF_1, sgF_2, sgF_5, sgF_6, sgF_7, sgF_9, sgF_10, wdF_0, wdF_1, wdF_2, wdF_3, lsF_0, lsF_1, lsF_2, z_o_i, z_ai_i, z_si_i, z_ab_b, z_ab_z, z_sb_b, z_sb_z, z_al_i, z_al_b, z_pu_s, z_pu_n, nI_toN, z_inN, true_and, and_true, nI_add, pk_mul, vu_eq, vu_ne, nI_leI, nI_ltI, nI_eqI, nI_eq0, ↓ok_0, ↓ok_1, ↓bI_ok, if_true, if_false, nI_lt0, nI_ge0, ne_eq, not_true_eq_false, not_false_eq_true, bI_eq0, bI_ne0, bI_T, bI_F, Bool.false_eq_true, Nat.one_ne_zero, Nat.zero_ne_one, nI_m1, kW, p0]
        exact q
      · have p1 : ¬ p < nI (s.1 34 a) := Int32.not_lt.mpr ((iw_lt (by simpa using hp) (by omega)).resolve_left p0)
        simp (disch := omega) only [i_X7_told_0, i_X7_told_0n, i_X7_told_1, i_X7_told_2, i_X7_told_5, i_X7_told_5n, i_X7_told_7, i_X7_told_7n, i_X7_told_9, i_X7_told_9n, i_X7_told_12, i_X7_told_13, i_X7_told_16, i_X7_told_17, i_X7_told_17n, i_X7_told_19, i_X7_told_22, i_X7_told_25, i_X7_told_28, i_X7_told_30, gh_o3, gh_l4, gh_o6, gh_r7, gh_w7, gf_3_0, gf_3_1, gf_3_2, gf_6_0, gf_6_1, sgF_0, sgF_1, sgF_2, sgF_5, sgF_6, sgF_7, sgF_9, sgF_10, wdF_0, wdF_1, wdF_2, wdF_3, lsF_0, lsF_1, lsF_2, z_o_i, z_ai_i, z_si_i, z_ab_b, z_ab_z, z_sb_b, z_sb_z, z_al_i, z_al_b, z_pu_s, z_pu_n, nI_toN, z_inN, true_and, and_true, nI_add, pk_mul, vu_eq, vu_ne, nI_leI, nI_ltI, nI_eqI, nI_eq0, ↓ok_0, ↓ok_1, ↓bI_ok, if_true, if_false, nI_lt0, nI_ge0, ne_eq, not_true_eq_false, not_false_eq_true, bI_eq0, bI_ne0, bI_T, bI_F, Bool.false_eq_true, Nat.one_ne_zero, Nat.zero_ne_one, nI_m1, kW, w1, w2, cs, p0, p1]
        exact q
  · rw [if_neg (fun z => hw z.1)] at q
    have kNw : ∀ {d nx : Nat} {Q : z_Q}, XC (d + 3) m_X7_wordAt [.ref 3, .int w] (GH A P dy) nx Q = Q (some .null) (GH A P dy) nx := kN hw
    simp (disch := omega) only [i_X7_told_0, i_X7_told_0n, i_X7_told_1, i_X7_told_2, i_X7_told_5, i_X7_told_5n, i_X7_told_7, i_X7_told_7n, i_X7_told_9, i_X7_told_9n, i_X7_told_28, i_X7_told_30, gh_o3, gh_l4, gh_o6, gh_r7, gh_w7, gf_3_0, gf_3_1, gf_3_2, gf_6_0, gf_6_1, sgF_0, sgF_1, sgF_2, sgF_5, sgF_6, sgF_7, sgF_9, sgF_10, wdF_0, wdF_1, wdF_2, wdF_3, lsF_0, lsF_1, lsF_2, z_o_i, z_ai_i, z_si_i, z_ab_b, z_ab_z, z_sb_b, z_sb_z, z_al_i, z_al_b, z_pu_s, z_pu_n, nI_toN, z_inN, true_and, and_true, nI_add, pk_mul, vu_eq, vu_ne, nI_leI, nI_ltI, nI_eqI, nI_eq0, ↓ok_0, ↓ok_1, ↓bI_ok, if_true, if_false, nI_lt0, nI_ge0, ne_eq, not_true_eq_false, not_false_eq_true, bI_eq0, bI_ne0, bI_T, bI_F, Bool.false_eq_true, Nat.one_ne_zero, Nat.zero_ne_one, nI_m1, kNw]
    exact q
end CBrn
