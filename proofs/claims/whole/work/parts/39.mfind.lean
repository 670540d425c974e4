/-! THE MODEL: findLines -/
/-- what findLines may change -/
def Ff (A B : Nat → Nat → Int32) : Prop := (∀ k, (k < 54 ∨ 62 < k) → k ≠ 32 → B k = A k) ∧ ∀ j, j ≠ 36 → j ≠ 37 → B 32 j = A 32 j
theorem Ff.trans {A B C : Nat → Nat → Int32} (h : Ff A B) (g : Ff B C) : Ff A C := ⟨fun k h1 h2 => (g.1 k h1 h2).trans (h.1 k h1 h2), fun j h1 h2 => (g.2 j h1 h2).trans (h.2 j h1 h2)⟩
theorem Fl.ff {A B : Nat → Nat → Int32} (h : Fl A B) : Ff A B := ⟨fun k h1 h2 => h.1 k (by omega) h2, h.2⟩
theorem Ff.rp {a : Nat → Nat → Nat} {A B : Nat → Nat → Int32} (h : Ff A B) (hR : Rp a A) : Rp a B := hR.of (fun k hk => ⟨fun e j _ hj => by subst e; exact h.2 j (by omega) (by omega), fun e => h.1 k (by omega) e⟩)
theorem lyq_b {a : Nat → Nat → Nat} {l o : Nat} {p : Option Nat} : (lyq a l p o).1 ≤ 1000000 := by
  unfold lyq
  rw [sY_1]
  exact Nat.min_le_right _ _
section MFind
variable {a : Nat → Nat → Nat} {A : Nat → Nat → Int32} {P : Nat → Nat → Nat} {dy : z_H} {d nx bc bs : Nat} {Q : z_Q}
theorem l_fl (hR : Rp a A) (hQ : ∀ C, Ff A C → (∀ j, j < a 32 13 → C 62 j = bI (0 < (lyq a j none 0).1)) → Q none (GH C P dy) nx) : ∀ (m i : Nat) (C : Nat → Nat → Int32), i + m = a 32 13 → Ff A C → (∀ j, j < i → C 62 j = bI (0 < (lyq a j none 0).1)) → X (d + 5) m_X8_findLines 2 [some (.ref 32), some (.int (nI i))] [] (GH C P dy) nx bc bs Q := by
  have hsc := hR.2.2.2
  intro m
  induction m with
  | zero =>
    intro i C hi hF h
    have e : i = a 32 13 := by omega
    subst e
    have r13 : C 32 13 = nI (a 32 13) := (hF.rp hR).2.1.2.2.2.1
    simp (disch := omega) only [i_X8_findLines_2, i_X8_findLines_3, i_X8_findLines_4, i_X8_findLines_7, i_X8_findLines_41, gh_o32, gh_r62, gh_w62, gf_32_13, gf_32_36, gf_32_38, z_o_i, z_ai_i, z_si_i, z_ab_b, z_ab_z, z_sb_b, z_sb_z, z_al_i, z_al_b, z_pu_s, z_pu_n, nI_toN, z_inN, true_and, and_true, nI_add, pk_mul, vu_eq, vu_ne, nI_leI, nI_ltI, nI_eqI, nI_eq0, if_true, if_false, ne_eq, not_true_eq_false, not_false_eq_true, nI_le0, r13, Nat.le_refl]
    exact hQ C hF h
  | succ m ih =>
    intro i C hi hF h
    have hRC := hF.rp hR
    have r13 : C 32 13 = nI (a 32 13) := hRC.2.1.2.2.2.1
    have le : ¬ a 32 13 ≤ i := by omega
    rw [i_X8_findLines_2]
    simp (disch := omega) only [i_X8_findLines_3, i_X8_findLines_4, i_X8_findLines_7, i_X8_findLines_10, i_X8_findLines_11, i_X8_findLines_12, i_X8_findLines_13, i_X8_findLines_14, gh_o32, gh_r62, gh_w62, gf_32_13, gf_32_36, gf_32_38, z_o_i, z_ai_i, z_si_i, z_ab_b, z_ab_z, z_sb_b, z_sb_z, z_al_i, z_al_b, z_pu_s, z_pu_n, nI_toN, z_inN, true_and, and_true, nI_add, pk_mul, vu_eq, vu_ne, nI_leI, nI_ltI, nI_eqI, nI_eq0, if_true, if_false, ne_eq, not_true_eq_false, not_false_eq_true, nI_le0, r13, le]
    refine c_layLine (p := none) (o := 0) hRC (by omega) (by omega) (fun y hy => by cases hy) (fun D hD d6 d7 => ?_)
    have bl := lyq_b (a := a) (l := i) (p := none) (o := 0)
    have hFD := hF.trans hD.ff
    have d62 : D 62 = C 62 := hD.1 62 (by omega) (by omega)
    have nt : vp_nar .boolean (nI 1) = nI 1 := by decide
    have nf : vp_nar .boolean (nI 0) = nI 0 := by decide
    have key : ∀ v : Int32, v = bI (0 < (lyq a i none 0).1) → X (d + 5) m_X8_findLines 2 [some (.ref 32), some (.int (nI (i + 1)))] [] (GH (va_up D 62 (va_up (D 62) i v)) P dy) nx bc bs Q := by
      intro v hv
      refine ih (i + 1) _ (by omega) (hFD.trans ⟨fun k h1 h2 => vu_ne (by omega), fun j _ _ => by rw [vu_ne (by omega)]⟩) (fun j hj => ?_)
      rw [vu_eq, vu_if]
      by_cases e : j = i
      · rw [if_pos e, e, hv]
      · rw [if_neg e, d62]; exact h j (by omega)
    by_cases z : (lyq a i none 0).1 ≤ 0
    · simp (disch := omega) only [i_X8_findLines_17, i_X8_findLines_18, i_X8_findLines_21, i_X8_findLines_22, i_X8_findLines_23, i_X8_findLines_26, i_X8_findLines_29, i_X8_findLines_30, i_X8_findLines_33, i_X8_findLines_34, i_X8_findLines_35, i_X8_findLines_38, gh_o32, gh_r62, gh_w62, gf_32_13, gf_32_36, gf_32_38, z_o_i, z_ai_i, z_si_i, z_ab_b, z_ab_z, z_sb_b, z_sb_z, z_al_i, z_al_b, z_pu_s, z_pu_n, nI_toN, z_inN, true_and, and_true, nI_add, pk_mul, vu_eq, vu_ne, nI_leI, nI_ltI, nI_eqI, nI_eq0, if_true, if_false, ne_eq, not_true_eq_false, not_false_eq_true, nI_le0, d6, z, nf]
      exact key _ (by rw [bI_f (by omega)])
    · simp (disch := omega) only [i_X8_findLines_17, i_X8_findLines_18, i_X8_findLines_21, i_X8_findLines_22, i_X8_findLines_23, i_X8_findLines_26, i_X8_findLines_29, i_X8_findLines_30, i_X8_findLines_33, i_X8_findLines_34, i_X8_findLines_35, i_X8_findLines_38, gh_o32, gh_r62, gh_w62, gf_32_13, gf_32_36, gf_32_38, z_o_i, z_ai_i, z_si_i, z_ab_b, z_ab_z, z_sb_b, z_sb_z, z_al_i, z_al_b, z_pu_s, z_pu_n, nI_toN, z_inN, true_and, and_true, nI_add, pk_mul, vu_eq, vu_ne, nI_leI, nI_ltI, nI_eqI, nI_eq0, if_true, if_false, ne_eq, not_true_eq_false, not_false_eq_true, nI_le0, d6, z, nt]
      exact key _ (by rw [bI_t (by omega)])
theorem c_findLines (hR : Rp a A) (hQ : ∀ C, Ff A C → (∀ j, j < a 32 13 → C 62 j = bI (0 < (lyq a j none 0).1)) → Q none (GH C P dy) nx) : XC (d + 5) m_X8_findLines [.ref 32] (GH A P dy) nx Q := by
  show X (d + 5) m_X8_findLines 0 [some (.ref 32), none] [] (GH A P dy) nx 0 0 Q
  rw [i_X8_findLines_0, i_X8_findLines_1]
  exact l_fl hR hQ (a 32 13) 0 A (by omega) ⟨fun _ _ _ => rfl, fun _ _ _ => rfl⟩ (fun j hj => absurd hj (by omega))
end MFind
