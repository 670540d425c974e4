/-! THE MODEL: findAt, whole -/
section MAt2
variable {a : Nat → Nat → Nat} {A : Nat → Nat → Int32} {P : Nat → Nat → Nat} {dy : z_H} {d nx bc bs : Nat} {Q : z_Q}
theorem c_findAt {i : Nat} {ok : Nat → Bool} (hR : Rp a A) (hW : Wa a) (hL : Wl a) (hi : i < 14) (hz : ∀ k, k < i → 1 ≤ a 46 k) (hl : ∀ k, k ≤ i → a 46 k ≤ a 32 13) (hg : a 45 i ≤ i) (hok : ∀ l, l < a 32 13 → A 62 l = bI (ok l = true)) (hQ : ∀ B, Fr A B → Q (some (.int (nI (fat a (A 39) ok i)))) (GH B P dy) nx) : XC (d + 6) m_X8_findAt [.ref 32, .int (nI i)] (GH A P dy) nx Q := by
  show X (d + 6) m_X8_findAt 0 [some (.ref 32), some (.int (nI i)), none, none, none] [] (GH A P dy) nx 0 0 Q
  have hb := hR.2.2.1
  have hsc := hR.2.2.2
  have r46 : A 46 i = nI (a 46 i) - nI 1 := hR.1.2.2.2.2.2.2.2.2.2.2.2.2 i
  have r45 : A 45 i = nI (a 45 i) - nI 1 := hR.1.2.2.2.2.2.2.2.2.2.2.2.1 i
  have bi := (hb i).2.2.2.2.2.2.2.2.2.2.2.2
  have b45 := (hb i).2.2.2.2.2.2.2.2.2.2.2.1
  have li := hl i (by omega)
  have m0 : (nI 0 - nI 1 : Int32) = -1 := by decide
  unfold fat at hQ
  by_cases z : a 46 i = 0
  · have q := hQ A Fr.refl
    rw [if_pos z] at q
    rw [z, m0] at r46
    simp (disch := omega) only [i_X8_findAt_0, i_X8_findAt_1, i_X8_findAt_4, i_X8_findAt_5, i_X8_findAt_6, i_X8_findAt_7, i_X8_findAt_8, i_X8_findAt_9, i_X8_findAt_12, i_X8_findAt_13, gh_o32, gh_r44, gh_r45, gh_r46, gh_r62, gf_32_17, gf_32_18, gf_32_20, gf_32_38, z_o_i, z_ai_i, z_si_i, z_ab_b, z_ab_z, z_sb_b, z_sb_z, z_al_i, z_al_b, z_pu_s, z_pu_n, nI_toN, z_inN, true_and, and_true, nI_add, pk_mul, vu_eq, vu_ne, nI_leI, nI_ltI, nI_eqI, if_true, if_false, ne_eq, not_true_eq_false, not_false_eq_true, nI_m1, bI_eq0, Bool.false_eq_true, r46]
    exact q
  · rw [if_neg z] at hQ
    rw [pk_sub (by omega)] at r46
    have hz' : ∀ k, k ≤ i → 1 ≤ a 46 k := fun k hk => by
      rcases Nat.lt_or_ge k i with y | y
      · exact hz k y
      · rw [show k = i by omega]; omega
    have tail : ¬ (¬ a 45 i = 0 ∧ ¬ a 46 (a 45 i - 1) = a 46 i) → X (d + 6) m_X8_findAt 41 [some (.ref 32), some (.int (nI i)), some (.int (nI (a 46 i - 1))), none, none] [] (GH A P dy) nx 0 0 Q := by
      intro n2
      rw [if_neg n2] at hQ
      rw [i_X8_findAt_41, i_X8_findAt_42, i_X8_findAt_43, i_X8_findAt_44]
      refine l_fa hR hi hz' (fun y1 y2 => ?_) (fun n3 => ?_) i 0 (by omega) (fun _ j hj => absurd hj (by omega))
      · have q := hQ A Fr.refl
        rw [if_pos ⟨y1, y2⟩] at q
        exact q
      · rw [if_neg n3] at hQ
        have r62 := hok (a 46 i - 1) (by omega)
        by_cases o : ok (a 46 i - 1) = true
        · rw [if_neg (by rw [o]; exact fun y => Bool.noConfusion y)] at hQ
          cases e : nrF a i i with
          | none =>
            have q := hQ A Fr.refl
            rw [e] at q
            have e1 : oI none = -1 := rfl
            simp (disch := omega) only [i_X8_findAt_115, i_X8_findAt_116, i_X8_findAt_119, i_X8_findAt_120, i_X8_findAt_121, i_X8_findAt_126, i_X8_findAt_127, i_X8_findAt_128, i_X8_findAt_149, i_X8_findAt_150, gh_o32, gh_r44, gh_r45, gh_r46, gh_r62, gf_32_17, gf_32_18, gf_32_20, gf_32_38, z_o_i, z_ai_i, z_si_i, z_ab_b, z_ab_z, z_sb_b, z_sb_z, z_al_i, z_al_b, z_pu_s, z_pu_n, nI_toN, z_inN, true_and, and_true, nI_add, pk_mul, vu_eq, vu_ne, nI_leI, nI_ltI, nI_eqI, if_true, if_false, ne_eq, not_true_eq_false, not_false_eq_true, nI_m1, bI_eq0, Bool.false_eq_true, r62, o, e1]
            exact q
          | some k =>
            have lt := nrF_lt _ _ e
            have e1 : oI (some k) = nI k := rfl
            have zk := hz k lt
            have lk := hl k (by omega)
            have r46k : A 46 k = nI (a 46 k - 1) := by rw [← pk_sub zk]; exact hR.1.2.2.2.2.2.2.2.2.2.2.2.2 k
            simp (disch := omega) only [i_X8_findAt_115, i_X8_findAt_116, i_X8_findAt_119, i_X8_findAt_120, i_X8_findAt_121, i_X8_findAt_126, i_X8_findAt_127, i_X8_findAt_128, i_X8_findAt_131, i_X8_findAt_132, i_X8_findAt_133, i_X8_findAt_134, i_X8_findAt_137, i_X8_findAt_138, i_X8_findAt_139, gh_o32, gh_r44, gh_r45, gh_r46, gh_r62, gf_32_17, gf_32_18, gf_32_20, gf_32_38, z_o_i, z_ai_i, z_si_i, z_ab_b, z_ab_z, z_sb_b, z_sb_z, z_al_i, z_al_b, z_pu_s, z_pu_n, nI_toN, z_inN, true_and, and_true, nI_add, pk_mul, vu_eq, vu_ne, nI_leI, nI_ltI, nI_eqI, if_true, if_false, ne_eq, not_true_eq_false, not_false_eq_true, nI_m1, bI_eq0, Bool.false_eq_true, r62, o, e1, r46k]
            refine c_doLinesRhyme hR hW hL (by omega) (by omega) (fun B hB => ?_)
            have q := hQ B hB
            simp only [e] at q
            by_cases c : dlq a (A 39) (a 46 i - 1) (a 46 k - 1) = true
            · rw [if_pos c] at q
              simp (disch := omega) only [i_X8_findAt_142, i_X8_findAt_145, i_X8_findAt_146, i_X8_findAt_149, i_X8_findAt_150, gh_o32, gh_r44, gh_r45, gh_r46, gh_r62, gf_32_17, gf_32_18, gf_32_20, gf_32_38, z_o_i, z_ai_i, z_si_i, z_ab_b, z_ab_z, z_sb_b, z_sb_z, z_al_i, z_al_b, z_pu_s, z_pu_n, nI_toN, z_inN, true_and, and_true, nI_add, pk_mul, vu_eq, vu_ne, nI_leI, nI_ltI, nI_eqI, if_true, if_false, ne_eq, not_true_eq_false, not_false_eq_true, nI_m1, bI_eq0, Bool.false_eq_true, c]
              exact q
            · rw [if_neg c] at q
              simp (disch := omega) only [i_X8_findAt_142, i_X8_findAt_145, i_X8_findAt_146, i_X8_findAt_149, i_X8_findAt_150, gh_o32, gh_r44, gh_r45, gh_r46, gh_r62, gf_32_17, gf_32_18, gf_32_20, gf_32_38, z_o_i, z_ai_i, z_si_i, z_ab_b, z_ab_z, z_sb_b, z_sb_z, z_al_i, z_al_b, z_pu_s, z_pu_n, nI_toN, z_inN, true_and, and_true, nI_add, pk_mul, vu_eq, vu_ne, nI_leI, nI_ltI, nI_eqI, if_true, if_false, ne_eq, not_true_eq_false, not_false_eq_true, nI_m1, bI_eq0, Bool.false_eq_true, c]
              exact q
        · have q := hQ A Fr.refl
          rw [if_pos (by simpa using o)] at q
          simp (disch := omega) only [i_X8_findAt_115, i_X8_findAt_116, i_X8_findAt_119, i_X8_findAt_120, i_X8_findAt_121, i_X8_findAt_124, i_X8_findAt_125, gh_o32, gh_r44, gh_r45, gh_r46, gh_r62, gf_32_17, gf_32_18, gf_32_20, gf_32_38, z_o_i, z_ai_i, z_si_i, z_ab_b, z_ab_z, z_sb_b, z_sb_z, z_al_i, z_al_b, z_pu_s, z_pu_n, nI_toN, z_inN, true_and, and_true, nI_add, pk_mul, vu_eq, vu_ne, nI_leI, nI_ltI, nI_eqI, if_true, if_false, ne_eq, not_true_eq_false, not_false_eq_true, nI_m1, bI_eq0, Bool.false_eq_true, r62, o]
          exact q
    by_cases g0 : a 45 i = 0
    · have t := tail (fun q => q.1 g0)
      rw [g0, m0] at r45
      simp (disch := omega) only [i_X8_findAt_0, i_X8_findAt_1, i_X8_findAt_4, i_X8_findAt_5, i_X8_findAt_6, i_X8_findAt_7, i_X8_findAt_8, i_X8_findAt_9, i_X8_findAt_14, i_X8_findAt_15, i_X8_findAt_18, i_X8_findAt_19, i_X8_findAt_20, i_X8_findAt_21, gh_o32, gh_r44, gh_r45, gh_r46, gh_r62, gf_32_17, gf_32_18, gf_32_20, gf_32_38, z_o_i, z_ai_i, z_si_i, z_ab_b, z_ab_z, z_sb_b, z_sb_z, z_al_i, z_al_b, z_pu_s, z_pu_n, nI_toN, z_inN, true_and, and_true, nI_add, pk_mul, vu_eq, vu_ne, nI_leI, nI_ltI, nI_eqI, if_true, if_false, ne_eq, not_true_eq_false, not_false_eq_true, nI_m1, bI_eq0, Bool.false_eq_true, r46, r45]
      exact t
    · rw [pk_sub (by omega)] at r45
      have zg := hz (a 45 i - 1) (by omega)
      have lg := hl (a 45 i - 1) (by omega)
      have r46g : A 46 (a 45 i - 1) = nI (a 46 (a 45 i - 1) - 1) := by rw [← pk_sub zg]; exact hR.1.2.2.2.2.2.2.2.2.2.2.2.2 _
      by_cases c : a 46 (a 45 i - 1) = a 46 i
      · have c' : a 46 (a 45 i - 1) - 1 = a 46 i - 1 := by omega
        simp (disch := omega) only [i_X8_findAt_0, i_X8_findAt_1, i_X8_findAt_4, i_X8_findAt_5, i_X8_findAt_6, i_X8_findAt_7, i_X8_findAt_8, i_X8_findAt_9, i_X8_findAt_14, i_X8_findAt_15, i_X8_findAt_18, i_X8_findAt_19, i_X8_findAt_20, i_X8_findAt_21, i_X8_findAt_24, i_X8_findAt_25, i_X8_findAt_28, i_X8_findAt_29, i_X8_findAt_32, i_X8_findAt_33, i_X8_findAt_34, i_X8_findAt_35, i_X8_findAt_36, gh_o32, gh_r44, gh_r45, gh_r46, gh_r62, gf_32_17, gf_32_18, gf_32_20, gf_32_38, z_o_i, z_ai_i, z_si_i, z_ab_b, z_ab_z, z_sb_b, z_sb_z, z_al_i, z_al_b, z_pu_s, z_pu_n, nI_toN, z_inN, true_and, and_true, nI_add, pk_mul, vu_eq, vu_ne, nI_leI, nI_ltI, nI_eqI, if_true, if_false, ne_eq, not_true_eq_false, not_false_eq_true, nI_m1, bI_eq0, Bool.false_eq_true, r46, r45, r46g, c']
        exact tail (fun q => q.2 c)
      · have c' : ¬ a 46 (a 45 i - 1) - 1 = a 46 i - 1 := by omega
        have q := hQ A Fr.refl
        rw [if_pos ⟨g0, c⟩] at q
        simp (disch := omega) only [i_X8_findAt_0, i_X8_findAt_1, i_X8_findAt_4, i_X8_findAt_5, i_X8_findAt_6, i_X8_findAt_7, i_X8_findAt_8, i_X8_findAt_9, i_X8_findAt_14, i_X8_findAt_15, i_X8_findAt_18, i_X8_findAt_19, i_X8_findAt_20, i_X8_findAt_21, i_X8_findAt_24, i_X8_findAt_25, i_X8_findAt_28, i_X8_findAt_29, i_X8_findAt_32, i_X8_findAt_33, i_X8_findAt_34, i_X8_findAt_35, i_X8_findAt_36, i_X8_findAt_39, i_X8_findAt_40, gh_o32, gh_r44, gh_r45, gh_r46, gh_r62, gf_32_17, gf_32_18, gf_32_20, gf_32_38, z_o_i, z_ai_i, z_si_i, z_ab_b, z_ab_z, z_sb_b, z_sb_z, z_al_i, z_al_b, z_pu_s, z_pu_n, nI_toN, z_inN, true_and, and_true, nI_add, pk_mul, vu_eq, vu_ne, nI_leI, nI_ltI, nI_eqI, if_true, if_false, ne_eq, not_true_eq_false, not_false_eq_true, nI_m1, bI_eq0, Bool.false_eq_true, r46, r45, r46g, c']
        exact q
end MAt2
