/-! THE MODEL: findAt -/
/-- the nearest place ahead of i, below k, with its letter and another line -/
def nrF (a : Nat → Nat → Nat) (i : Nat) : Nat → Option Nat
  | 0 => none
  | k + 1 => if a 44 k = a 44 i ∧ ¬ a 46 k = a 46 i then some k else nrF a i k
theorem nrF_lt {a : Nat → Nat → Nat} {i : Nat} : ∀ (k y : Nat), nrF a i k = some y → y < k := by
  intro k
  induction k with
  | zero => intro y h; cases h
  | succ k ih =>
    intro y h
    rw [nrF] at h
    by_cases e : a 44 k = a 44 i ∧ ¬ a 46 k = a 46 i
    · rw [if_pos e] at h; cases h; omega
    · rw [if_neg e] at h; have := ih y h; omega
/-- what is found at a place whose places ahead are full -/
def fat (a : Nat → Nat → Nat) (L : Nat → Int32) (ok : Nat → Bool) (i : Nat) : Nat :=
  if a 46 i = 0 then 1
  else if ¬ a 45 i = 0 ∧ ¬ a 46 (a 45 i - 1) = a 46 i then 2
  else if a 45 i = 0 ∧ an (fun k => decide (a 46 k = a 46 i)) i 0 = true then 3
  else if ok (a 46 i - 1) = false then 4
  else match nrF a i i with
    | none => 0
    | some k => if dlq a L (a 46 i - 1) (a 46 k - 1) = true then 0 else 5
section MAt
variable {a : Nat → Nat → Nat} {A : Nat → Nat → Int32} {P : Nat → Nat → Nat} {dy : z_H} {d nx bc bs : Nat} {Q : z_Q}
theorem l_fa {i : Nat} (hR : Rp a A) (hi : i < 14) (hz : ∀ k, k ≤ i → 1 ≤ a 46 k) (hY : a 45 i = 0 → an (fun k => decide (a 46 k = a 46 i)) i 0 = true → Q (some (.int (nI 3))) (GH A P dy) nx) (hN : ¬ (a 45 i = 0 ∧ an (fun k => decide (a 46 k = a 46 i)) i 0 = true) → X (d + 6) m_X8_findAt 115 [some (.ref 32), some (.int (nI i)), some (.int (nI (a 46 i - 1))), some (.int (oI (nrF a i i))), some (.int (nI i))] [] (GH A P dy) nx bc bs Q) : ∀ (m k : Nat), k + m = i → (a 45 i = 0 → ∀ j, j < k → ¬ a 46 j = a 46 i) → X (d + 6) m_X8_findAt 46 [some (.ref 32), some (.int (nI i)), some (.int (nI (a 46 i - 1))), some (.int (oI (nrF a i k))), some (.int (nI k))] [] (GH A P dy) nx bc bs Q := by
  have hb := hR.2.2.1
  intro m
  induction m with
  | zero =>
    intro k hk h
    have e : k = i := by omega
    subst e
    simp (disch := omega) only [i_X8_findAt_46, i_X8_findAt_48, i_X8_findAt_49, gh_o32, gh_r44, gh_r45, gh_r46, gh_r62, gf_32_17, gf_32_18, gf_32_20, gf_32_38, z_o_i, z_ai_i, z_si_i, z_ab_b, z_ab_z, z_sb_b, z_sb_z, z_al_i, z_al_b, z_pu_s, z_pu_n, nI_toN, z_inN, true_and, and_true, nI_add, pk_mul, vu_eq, vu_ne, nI_leI, nI_ltI, nI_eqI, if_true, if_false, ne_eq, not_true_eq_false, not_false_eq_true, nI_m1, Nat.le_refl]
    refine hN (fun q => ?_)
    obtain ⟨j, _, j2, j3⟩ := (an_iff _ _).mp q.2
    exact h q.1 j (by omega) (by simpa using j3)
  | succ m ih =>
    intro k hk h
    have le : ¬ i ≤ k := by omega
    have bi := (hb i).2.2.2.2.2.2.2.2.2.2.2.2
    have bk := (hb k).2.2.2.2.2.2.2.2.2.2.2.2
    have b45 := (hb i).2.2.2.2.2.2.2.2.2.2.2.1
    have l44 := (hb i).2.2.2.2.2.2.2.2.2.1
    have k44 := (hb k).2.2.2.2.2.2.2.2.2.1
    have zi := hz i (by omega)
    have zk := hz k (by omega)
    have r46 : A 46 k = nI (a 46 k - 1) := by rw [← pk_sub zk]; exact hR.1.2.2.2.2.2.2.2.2.2.2.2.2 k
    have r44 : A 44 k = nI (a 44 k) := hR.1.2.2.2.2.2.2.2.2.2.1 k
    have r44i : A 44 i = nI (a 44 i) := hR.1.2.2.2.2.2.2.2.2.2.1 i
    have r45 : A 45 i = nI (a 45 i) - nI 1 := hR.1.2.2.2.2.2.2.2.2.2.2.2.1 i
    have nrs : nrF a i (k + 1) = if a 44 k = a 44 i ∧ ¬ a 46 k = a 46 i then some k else nrF a i k := rfl
    rw [i_X8_findAt_46]
    have go : (a 45 i = 0 → ¬ a 46 k = a 46 i) → X (d + 6) m_X8_findAt 75 [some (.ref 32), some (.int (nI i)), some (.int (nI (a 46 i - 1))), some (.int (oI (nrF a i k))), some (.int (nI k))] [] (GH A P dy) nx bc bs Q := by
      intro g
      have nxt := ih (k + 1) (by omega) (fun q j hj => by
        rcases Nat.lt_or_ge j k with z | z
        · exact h q j z
        · rw [show j = k by omega]; exact g q)
      rw [nrs] at nxt
      by_cases c1 : a 44 k = a 44 i
      · by_cases c2 : a 46 k = a 46 i
        · have c2' : a 46 k - 1 = a 46 i - 1 := by omega
          rw [if_neg (fun q => q.2 c2)] at nxt
          simp (disch := omega) only [i_X8_findAt_75, i_X8_findAt_76, i_X8_findAt_79, i_X8_findAt_81, i_X8_findAt_82, i_X8_findAt_83, i_X8_findAt_86, i_X8_findAt_87, i_X8_findAt_88, i_X8_findAt_91, i_X8_findAt_92, i_X8_findAt_95, i_X8_findAt_97, i_X8_findAt_98, i_X8_findAt_99, i_X8_findAt_102, i_X8_findAt_104, i_X8_findAt_107, i_X8_findAt_108, i_X8_findAt_109, i_X8_findAt_112, gh_o32, gh_r44, gh_r45, gh_r46, gh_r62, gf_32_17, gf_32_18, gf_32_20, gf_32_38, z_o_i, z_ai_i, z_si_i, z_ab_b, z_ab_z, z_sb_b, z_sb_z, z_al_i, z_al_b, z_pu_s, z_pu_n, nI_toN, z_inN, true_and, and_true, nI_add, pk_mul, vu_eq, vu_ne, nI_leI, nI_ltI, nI_eqI, if_true, if_false, ne_eq, not_true_eq_false, not_false_eq_true, nI_m1, r44, r44i, r46, c1, c2']
          exact nxt
        · have c2' : ¬ a 46 k - 1 = a 46 i - 1 := by omega
          rw [if_pos ⟨c1, c2⟩] at nxt
          simp (disch := omega) only [i_X8_findAt_75, i_X8_findAt_76, i_X8_findAt_79, i_X8_findAt_81, i_X8_findAt_82, i_X8_findAt_83, i_X8_findAt_86, i_X8_findAt_87, i_X8_findAt_88, i_X8_findAt_91, i_X8_findAt_92, i_X8_findAt_95, i_X8_findAt_97, i_X8_findAt_98, i_X8_findAt_99, i_X8_findAt_102, i_X8_findAt_104, i_X8_findAt_107, i_X8_findAt_108, i_X8_findAt_109, i_X8_findAt_112, gh_o32, gh_r44, gh_r45, gh_r46, gh_r62, gf_32_17, gf_32_18, gf_32_20, gf_32_38, z_o_i, z_ai_i, z_si_i, z_ab_b, z_ab_z, z_sb_b, z_sb_z, z_al_i, z_al_b, z_pu_s, z_pu_n, nI_toN, z_inN, true_and, and_true, nI_add, pk_mul, vu_eq, vu_ne, nI_leI, nI_ltI, nI_eqI, if_true, if_false, ne_eq, not_true_eq_false, not_false_eq_true, nI_m1, r44, r44i, r46, c1, c2']
          exact nxt
      · rw [if_neg (fun q => c1 q.1)] at nxt
        simp (disch := omega) only [i_X8_findAt_75, i_X8_findAt_76, i_X8_findAt_79, i_X8_findAt_81, i_X8_findAt_82, i_X8_findAt_83, i_X8_findAt_86, i_X8_findAt_87, i_X8_findAt_88, i_X8_findAt_107, i_X8_findAt_108, i_X8_findAt_109, i_X8_findAt_112, gh_o32, gh_r44, gh_r45, gh_r46, gh_r62, gf_32_17, gf_32_18, gf_32_20, gf_32_38, z_o_i, z_ai_i, z_si_i, z_ab_b, z_ab_z, z_sb_b, z_sb_z, z_al_i, z_al_b, z_pu_s, z_pu_n, nI_toN, z_inN, true_and, and_true, nI_add, pk_mul, vu_eq, vu_ne, nI_leI, nI_ltI, nI_eqI, if_true, if_false, ne_eq, not_true_eq_false, not_false_eq_true, nI_m1, r44, r44i, c1]
        exact nxt
    by_cases g0 : a 45 i = 0
    · have m0 : (nI 0 - nI 1 : Int32) = -1 := by decide
      rw [g0, m0] at r45
      by_cases c : a 46 k = a 46 i
      · have c' : a 46 k - 1 = a 46 i - 1 := by omega
        simp (disch := omega) only [i_X8_findAt_48, i_X8_findAt_49, i_X8_findAt_52, i_X8_findAt_53, i_X8_findAt_56, i_X8_findAt_57, i_X8_findAt_58, i_X8_findAt_59, i_X8_findAt_62, i_X8_findAt_63, i_X8_findAt_66, i_X8_findAt_68, i_X8_findAt_69, i_X8_findAt_70, i_X8_findAt_73, i_X8_findAt_74, gh_o32, gh_r44, gh_r45, gh_r46, gh_r62, gf_32_17, gf_32_18, gf_32_20, gf_32_38, z_o_i, z_ai_i, z_si_i, z_ab_b, z_ab_z, z_sb_b, z_sb_z, z_al_i, z_al_b, z_pu_s, z_pu_n, nI_toN, z_inN, true_and, and_true, nI_add, pk_mul, vu_eq, vu_ne, nI_leI, nI_ltI, nI_eqI, if_true, if_false, ne_eq, not_true_eq_false, not_false_eq_true, nI_m1, r45, r46, le, c']
        exact hY g0 ((an_iff _ _).mpr ⟨k, by omega, by omega, by simpa using c⟩)
      · have c' : ¬ a 46 k - 1 = a 46 i - 1 := by omega
        simp (disch := omega) only [i_X8_findAt_48, i_X8_findAt_49, i_X8_findAt_52, i_X8_findAt_53, i_X8_findAt_56, i_X8_findAt_57, i_X8_findAt_58, i_X8_findAt_59, i_X8_findAt_62, i_X8_findAt_63, i_X8_findAt_66, i_X8_findAt_68, i_X8_findAt_69, i_X8_findAt_70, gh_o32, gh_r44, gh_r45, gh_r46, gh_r62, gf_32_17, gf_32_18, gf_32_20, gf_32_38, z_o_i, z_ai_i, z_si_i, z_ab_b, z_ab_z, z_sb_b, z_sb_z, z_al_i, z_al_b, z_pu_s, z_pu_n, nI_toN, z_inN, true_and, and_true, nI_add, pk_mul, vu_eq, vu_ne, nI_leI, nI_ltI, nI_eqI, if_true, if_false, ne_eq, not_true_eq_false, not_false_eq_true, nI_m1, r45, r46, le, c']
        exact go (fun _ => c)
    · rw [pk_sub (by omega)] at r45
      simp (disch := omega) only [i_X8_findAt_48, i_X8_findAt_49, i_X8_findAt_52, i_X8_findAt_53, i_X8_findAt_56, i_X8_findAt_57, i_X8_findAt_58, i_X8_findAt_59, gh_o32, gh_r44, gh_r45, gh_r46, gh_r62, gf_32_17, gf_32_18, gf_32_20, gf_32_38, z_o_i, z_ai_i, z_si_i, z_ab_b, z_ab_z, z_sb_b, z_sb_z, z_al_i, z_al_b, z_pu_s, z_pu_n, nI_toN, z_inN, true_and, and_true, nI_add, pk_mul, vu_eq, vu_ne, nI_leI, nI_ltI, nI_eqI, if_true, if_false, ne_eq, not_true_eq_false, not_false_eq_true, nI_m1, r45, le]
      exact go (fun q => absurd q g0)
end MAt
