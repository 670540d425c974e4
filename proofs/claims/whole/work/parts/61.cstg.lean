/-! THE CLASS: stages -/
def stF (x : Nat) : Nat → Value := fun j => match j with
  | 0 => .ref (x + 1)
  | 1 => .ref (x + 2)
  | _ => .null
theorem stF_0 {x : Nat} : stF x 0 = .ref (x + 1) := rfl
theorem stF_1 {x : Nat} : stF x 1 = .ref (x + 2) := rfl
def Sx (x : Nat) : Prop := x = 12 ∨ x = 15 ∨ x = 18 ∨ x = 21
section GStg
variable {A : Nat → Nat → Int32} {P : Nat → Nat → Nat} {dy : z_H} {x : Nat} {f : Nat → Int32}
theorem gh_st (hx : Sx x) : GH A P dy x = .inr (.inl (5, stF x)) := by
  rcases hx with rfl | rfl | rfl | rfl
  · rw [gh_o12]; congr 3
  · rw [gh_o15]; congr 3
  · rw [gh_o18]; congr 3
  · rw [gh_o21]; congr 3
theorem gh_s1 (hx : Sx x) : GH A P dy (x + 1) = .inl (0, 27, A (x + 1)) := by rcases hx with rfl | rfl | rfl | rfl <;> rfl
theorem gh_s2 (hx : Sx x) : GH A P dy (x + 2) = .inl (0, 27, A (x + 2)) := by rcases hx with rfl | rfl | rfl | rfl <;> rfl
theorem gh_t1 (hx : Sx x) : va_up (GH A P dy) (x + 1) (.inl (0, 27, f)) = GH (va_up A (x + 1) f) P dy := by
  rcases hx with rfl | rfl | rfl | rfl
  · exact gh_w13
  · exact gh_w16
  · exact gh_w19
  · exact gh_w22
theorem gh_t2 (hx : Sx x) : va_up (GH A P dy) (x + 2) (.inl (0, 27, f)) = GH (va_up A (x + 2) f) P dy := by
  rcases hx with rfl | rfl | rfl | rfl
  · exact gh_w14
  · exact gh_w17
  · exact gh_w20
  · exact gh_w23
end GStg
/-- only the rows of a stage differ -/
def Fg1 (x : Nat) (A B : Nat → Nat → Int32) : Prop := ∀ k, k ≠ x + 1 → k ≠ x + 2 → B k = A k
theorem Fg1.refl {x : Nat} {A : Nat → Nat → Int32} : Fg1 x A A := fun _ _ _ => rfl
theorem Fg1.trans {x : Nat} {A B C : Nat → Nat → Int32} (h : Fg1 x A B) (g : Fg1 x B C) : Fg1 x A C := fun k h1 h2 => (g k h1 h2).trans (h k h1 h2)
theorem tu_0 {S : Nat → Nat × Nat} {k c : Nat} : tu S k 0 c = S := by
  unfold tu tk
  rw [if_pos rfl]
  exact vu_self rfl
theorem Rs.b {F B n : Nat} {s : Nat → Nat × Nat} {M L : Nat → Int32} {C : Nat} (h : Rs F B n s M L) (hC : B ≤ C) : Rs F C n s M L := ⟨h.1, fun k => ⟨(h.2 k).1, Nat.le_trans (h.2 k).2 hC⟩⟩
section CStg
variable {A : Nat → Nat → Int32} {P : Nat → Nat → Nat} {dy : z_H} {d nx bc bs : Nat} {Q : z_Q} {x y : Nat}
theorem l_empty (hx : Sx x) (hQ : ∀ B, Fg1 x A B → Rs 1000000 0 27 (fun _ => (0, 0)) (B (x + 1)) (B (x + 2)) → Q none (GH B P dy) nx) : ∀ (m k : Nat) (B : Nat → Nat → Int32), k + m = 27 → Fg1 x A B → (∀ j, j < k → B (x + 1) j = nI 0 ∧ B (x + 2) j = nI 1000000) → X d m_X5_empty 2 [some (.ref x), some (.int (nI k))] [] (GH B P dy) nx bc bs Q := by
  have gs : ∀ {A : Nat → Nat → Int32} {P : Nat → Nat → Nat}, GH A P dy x = .inr (.inl (5, stF x)) := gh_st hx; have g1 : ∀ {A : Nat → Nat → Int32} {P : Nat → Nat → Nat}, GH A P dy (x + 1) = .inl (0, 27, A (x + 1)) := gh_s1 hx; have g2 : ∀ {A : Nat → Nat → Int32} {P : Nat → Nat → Nat}, GH A P dy (x + 2) = .inl (0, 27, A (x + 2)) := gh_s2 hx; have u1 : ∀ {A : Nat → Nat → Int32} {P : Nat → Nat → Nat} {f : Nat → Int32}, va_up (GH A P dy) (x + 1) (.inl (0, 27, f)) = GH (va_up A (x + 1) f) P dy := gh_t1 hx; have u2 : ∀ {A : Nat → Nat → Int32} {P : Nat → Nat → Nat} {f : Nat → Int32}, va_up (GH A P dy) (x + 2) (.inl (0, 27, f)) = GH (va_up A (x + 2) f) P dy := gh_t2 hx
  intro m
  induction m with
  | zero =>
    intro k B hk hF h
    have e : k = 27 := by omega
    subst e
    simp (disch := omega) only [i_X5_empty_2, i_X5_empty_3, i_X5_empty_5, i_X5_empty_29, stF_0, stF_1, gs, g1, g2, u1, u2, z_o_i, z_ai_i, z_si_i, z_ab_b, z_ab_z, z_sb_b, z_sb_z, z_al_i, z_al_b, z_pu_s, z_pu_n, nI_toN, z_inN, true_and, and_true, nI_add, pk_mul, vu_eq, vu_ne, nI_leI, nI_ltI, nI_eqI, nI_eq0, nI_le0, ↓ok_0, ↓ok_1, if_true, if_false, nI_lt0, nI_ge0, ne_eq, not_true_eq_false, not_false_eq_true, Nat.le_refl]
    exact hQ B hF ⟨fun j hj => h j hj, fun j => ⟨Nat.zero_le _, Nat.zero_le _⟩⟩
  | succ m ih =>
    intro k B hk hF h
    have le : ¬ 27 ≤ k := by omega
    rw [i_X5_empty_2]
    simp (disch := omega) only [i_X5_empty_3, i_X5_empty_5, i_X5_empty_8, i_X5_empty_9, i_X5_empty_12, i_X5_empty_13, i_X5_empty_14, i_X5_empty_15, i_X5_empty_16, i_X5_empty_19, i_X5_empty_20, i_X5_empty_22, i_X5_empty_23, i_X5_empty_26, stF_0, stF_1, gs, g1, g2, u1, u2, z_o_i, z_ai_i, z_si_i, z_ab_b, z_ab_z, z_sb_b, z_sb_z, z_al_i, z_al_b, z_pu_s, z_pu_n, nI_toN, z_inN, true_and, and_true, nI_add, pk_mul, vu_eq, vu_ne, nI_leI, nI_ltI, nI_eqI, nI_eq0, nI_le0, ↓ok_0, ↓ok_1, if_true, if_false, nI_lt0, nI_ge0, ne_eq, not_true_eq_false, not_false_eq_true, le]
    refine ih (k + 1) _ (by omega) (fun q h1 h2 => by rw [vu_ne h2, vu_ne h1]; exact hF q h1 h2) (fun j hj => ?_)
    rw [vu_eq, vu_ne (by omega), vu_eq, vu_if, vu_if]
    by_cases e : j = k
    · rw [if_pos e, if_pos e]; exact ⟨rfl, rfl⟩
    · rw [if_neg e, if_neg e]; exact h j (by omega)
theorem k_empty (hx : Sx x) (hQ : ∀ B, Fg1 x A B → Rs 1000000 0 27 (fun _ => (0, 0)) (B (x + 1)) (B (x + 2)) → Q none (GH B P dy) nx) : XC d m_X5_empty [.ref x] (GH A P dy) nx Q := by
  show X d m_X5_empty 0 [some (.ref x), none] [] (GH A P dy) nx 0 0 Q
  rw [i_X5_empty_0, i_X5_empty_1]
  exact l_empty hx hQ 27 0 A (by omega) Fg1.refl (fun j hj => absurd hj (Nat.not_lt_zero j))
theorem k_take {S : Nat → Nat × Nat} {k n c B : Nat} {v : Int32} (hx : Sx x) (hk : k < 27) (hn : n ≤ 1000000) (hc : ¬ n = 0 → v = nI c ∧ c ≤ B) (hB : B ≤ 2000) (hr : Rs 1000000 B 27 S (A (x + 1)) (A (x + 2))) (hQ : ∀ C, Fg1 x A C → Rs 1000000 B 27 (tu S k n c) (C (x + 1)) (C (x + 2)) → Q none (GH C P dy) nx) : XC d m_X5_take [.ref x, .int (nI k), .int (nI n), .int v] (GH A P dy) nx Q := by
  show X d m_X5_take 0 [some (.ref x), some (.int (nI k)), some (.int (nI n)), some (.int v), none] [] (GH A P dy) nx 0 0 Q
  have gs : ∀ {A : Nat → Nat → Int32} {P : Nat → Nat → Nat}, GH A P dy x = .inr (.inl (5, stF x)) := gh_st hx; have g1 : ∀ {A : Nat → Nat → Int32} {P : Nat → Nat → Nat}, GH A P dy (x + 1) = .inl (0, 27, A (x + 1)) := gh_s1 hx; have g2 : ∀ {A : Nat → Nat → Int32} {P : Nat → Nat → Nat}, GH A P dy (x + 2) = .inl (0, 27, A (x + 2)) := gh_s2 hx; have u1 : ∀ {A : Nat → Nat → Int32} {P : Nat → Nat → Nat} {f : Nat → Int32}, va_up (GH A P dy) (x + 1) (.inl (0, 27, f)) = GH (va_up A (x + 1) f) P dy := gh_t1 hx; have u2 : ∀ {A : Nat → Nat → Int32} {P : Nat → Nat → Nat} {f : Nat → Int32}, va_up (GH A P dy) (x + 2) (.inl (0, 27, f)) = GH (va_up A (x + 2) f) P dy := gh_t2 hx
  by_cases n0 : n ≤ 0
  · have n0' : n = 0 := by omega
    subst n0'
    rw [tu_0] at hQ
    simp (disch := omega) only [i_X5_take_0, i_X5_take_1, i_X5_take_14, stF_0, stF_1, gs, g1, g2, u1, u2, z_o_i, z_ai_i, z_si_i, z_ab_b, z_ab_z, z_sb_b, z_sb_z, z_al_i, z_al_b, z_pu_s, z_pu_n, nI_toN, z_inN, true_and, and_true, nI_add, pk_mul, vu_eq, vu_ne, nI_leI, nI_ltI, nI_eqI, nI_eq0, nI_le0, ↓ok_0, ↓ok_1, if_true, if_false, nI_lt0, nI_ge0, ne_eq, not_true_eq_false, not_false_eq_true, Nat.le_refl]
    exact hQ A Fg1.refl hr
  · obtain ⟨rfl, hcB⟩ := hc (by omega)
    obtain ⟨h1, h2⟩ := hr
    obtain ⟨q1, q2⟩ := h1 k hk
    obtain ⟨b1, b2⟩ := h2 k
    have bl : lo 1000000 (S k) ≤ 1000000 := by
      unfold lo
      by_cases z : (S k).1 = 0
      · rw [if_pos z]; omega
      · rw [if_neg z]; omega
    have zn : ¬ n = 0 := by omega
    have t1 : (tk (S k) n c).1 = min ((S k).1 + n) 1000000 := by simp only [tk, zn, if_false]
    have t2 : lo 1000000 (tk (S k) n c) = min c (lo 1000000 (S k)) := by
      have : ¬ (tk (S k) n c).1 = 0 := by rw [t1]; omega
      rw [lo, if_neg this]
      simp only [tk, zn, if_false, lo]
      by_cases z : (S k).1 = 0
      · simp only [z, if_true]; omega
      · simp only [z, if_false]
    have key : ∀ C : Nat → Nat → Int32, Fg1 x A C → (∀ j, C (x + 1) j = va_up (A (x + 1)) k (nI (min ((S k).1 + n) 1000000)) j) → (∀ j, C (x + 2) j = va_up (A (x + 2)) k (nI (min c (lo 1000000 (S k)))) j) → Q none (GH C P dy) nx := by
      intro C hC e1 e2
      refine hQ C hC ⟨fun j hj => ?_, fun j => ?_⟩
      · rw [e1, e2, tu, vu_if, vu_if, vu_if]
        by_cases e : j = k
        · rw [if_pos e, if_pos e, if_pos e, t1, t2]; exact ⟨rfl, rfl⟩
        · rw [if_neg e, if_neg e, if_neg e]; exact h1 j hj
      · rw [tu, vu_if]
        by_cases e : j = k
        · rw [if_pos e]; exact tk_b (h2 k) hcB
        · rw [if_neg e]; exact h2 j
    have e1 : ∀ {f : Nat → Int32}, va_up A (x + 1) f (x + 2) = A (x + 2) := fun {f} => vu_ne (by omega)
    have fr : ∀ {f g : Nat → Int32}, Fg1 x A (va_up (va_up A (x + 1) f) (x + 2) g) := fun {f g} q h1 h2 => by rw [vu_ne h2, vu_ne h1]
    have fr1 : ∀ {f : Nat → Int32}, Fg1 x A (va_up A (x + 1) f) := fun {f} q h1 h2 => by rw [vu_ne h1]
    by_cases le : (S k).1 + n ≤ 1000000
    · have m1 : min ((S k).1 + n) 1000000 = (S k).1 + n := by omega
      by_cases lt : lo 1000000 (S k) ≤ c
      · have m2 : min c (lo 1000000 (S k)) = lo 1000000 (S k) := by omega
        simp (disch := omega) only [i_X5_take_0, i_X5_take_1, i_X5_take_4, i_X5_take_5, i_X5_take_8, i_X5_take_9, i_X5_take_11, i_X5_take_15, i_X5_take_16, i_X5_take_19, i_X5_take_20, i_X5_take_21, i_X5_take_22, i_X5_take_23, i_X5_take_25, i_X5_take_26, i_X5_take_29, i_X5_take_30, i_X5_take_32, i_X5_take_34, i_X5_take_42, i_X5_take_44, i_X5_take_45, i_X5_take_46, i_X5_take_47, i_X5_take_50, i_X5_take_51, i_X5_take_52, i_X5_take_62, stF_0, stF_1, gs, g1, g2, u1, u2, z_o_i, z_ai_i, z_si_i, z_ab_b, z_ab_z, z_sb_b, z_sb_z, z_al_i, z_al_b, z_pu_s, z_pu_n, nI_toN, z_inN, true_and, and_true, nI_add, pk_mul, vu_eq, vu_ne, nI_leI, nI_ltI, nI_eqI, nI_eq0, nI_le0, ↓ok_0, ↓ok_1, if_true, if_false, nI_lt0, nI_ge0, ne_eq, not_true_eq_false, not_false_eq_true, n0, hk, q1, q2, le, lt, e1]
        refine key _ fr1 (fun j => by rw [vu_eq, m1]) (fun j => ?_)
        rw [e1, m2, vu_self q2.symm]
      · have m2 : min c (lo 1000000 (S k)) = c := by omega
        simp (disch := omega) only [i_X5_take_0, i_X5_take_1, i_X5_take_4, i_X5_take_5, i_X5_take_8, i_X5_take_9, i_X5_take_11, i_X5_take_15, i_X5_take_16, i_X5_take_19, i_X5_take_20, i_X5_take_21, i_X5_take_22, i_X5_take_23, i_X5_take_25, i_X5_take_26, i_X5_take_29, i_X5_take_30, i_X5_take_32, i_X5_take_34, i_X5_take_42, i_X5_take_44, i_X5_take_45, i_X5_take_46, i_X5_take_47, i_X5_take_50, i_X5_take_51, i_X5_take_52, i_X5_take_55, i_X5_take_56, i_X5_take_59, i_X5_take_60, i_X5_take_61, i_X5_take_62, stF_0, stF_1, gs, g1, g2, u1, u2, z_o_i, z_ai_i, z_si_i, z_ab_b, z_ab_z, z_sb_b, z_sb_z, z_al_i, z_al_b, z_pu_s, z_pu_n, nI_toN, z_inN, true_and, and_true, nI_add, pk_mul, vu_eq, vu_ne, nI_leI, nI_ltI, nI_eqI, nI_eq0, nI_le0, ↓ok_0, ↓ok_1, if_true, if_false, nI_lt0, nI_ge0, ne_eq, not_true_eq_false, not_false_eq_true, n0, hk, q1, q2, le, lt, e1]
        exact key _ fr (fun j => by rw [vu_ne (by omega), vu_eq, m1]) (fun j => by rw [vu_eq, m2])
    · have m1 : min ((S k).1 + n) 1000000 = 1000000 := by omega
      by_cases lt : lo 1000000 (S k) ≤ c
      · have m2 : min c (lo 1000000 (S k)) = lo 1000000 (S k) := by omega
        simp (disch := omega) only [i_X5_take_0, i_X5_take_1, i_X5_take_4, i_X5_take_5, i_X5_take_8, i_X5_take_9, i_X5_take_11, i_X5_take_15, i_X5_take_16, i_X5_take_19, i_X5_take_20, i_X5_take_21, i_X5_take_22, i_X5_take_23, i_X5_take_25, i_X5_take_26, i_X5_take_29, i_X5_take_30, i_X5_take_32, i_X5_take_34, i_X5_take_37, i_X5_take_39, i_X5_take_44, i_X5_take_45, i_X5_take_46, i_X5_take_47, i_X5_take_50, i_X5_take_51, i_X5_take_52, i_X5_take_62, stF_0, stF_1, gs, g1, g2, u1, u2, z_o_i, z_ai_i, z_si_i, z_ab_b, z_ab_z, z_sb_b, z_sb_z, z_al_i, z_al_b, z_pu_s, z_pu_n, nI_toN, z_inN, true_and, and_true, nI_add, pk_mul, vu_eq, vu_ne, nI_leI, nI_ltI, nI_eqI, nI_eq0, nI_le0, ↓ok_0, ↓ok_1, if_true, if_false, nI_lt0, nI_ge0, ne_eq, not_true_eq_false, not_false_eq_true, n0, hk, q1, q2, le, lt, e1]
        refine key _ fr1 (fun j => by rw [vu_eq, m1]) (fun j => ?_)
        rw [e1, m2, vu_self q2.symm]
      · have m2 : min c (lo 1000000 (S k)) = c := by omega
        simp (disch := omega) only [i_X5_take_0, i_X5_take_1, i_X5_take_4, i_X5_take_5, i_X5_take_8, i_X5_take_9, i_X5_take_11, i_X5_take_15, i_X5_take_16, i_X5_take_19, i_X5_take_20, i_X5_take_21, i_X5_take_22, i_X5_take_23, i_X5_take_25, i_X5_take_26, i_X5_take_29, i_X5_take_30, i_X5_take_32, i_X5_take_34, i_X5_take_37, i_X5_take_39, i_X5_take_44, i_X5_take_45, i_X5_take_46, i_X5_take_47, i_X5_take_50, i_X5_take_51, i_X5_take_52, i_X5_take_55, i_X5_take_56, i_X5_take_59, i_X5_take_60, i_X5_take_61, i_X5_take_62, stF_0, stF_1, gs, g1, g2, u1, u2, z_o_i, z_ai_i, z_si_i, z_ab_b, z_ab_z, z_sb_b, z_sb_z, z_al_i, z_al_b, z_pu_s, z_pu_n, nI_toN, z_inN, true_and, and_true, nI_add, pk_mul, vu_eq, vu_ne, nI_leI, nI_ltI, nI_eqI, nI_eq0, nI_le0, ↓ok_0, ↓ok_1, if_true, if_false, nI_lt0, nI_ge0, ne_eq, not_true_eq_false, not_false_eq_true, n0, hk, q1, q2, le, lt, e1]
        exact key _ fr (fun j => by rw [vu_ne (by omega), vu_eq, m1]) (fun j => by rw [vu_eq, m2])
theorem l_takeAll {S T : Nat → Nat × Nat} {B : Nat} (hx : Sx x) (hy : Sx y) (hxy : x ≠ y) (hB : B ≤ 2000) (hT : Rs 1000000 B 27 T (A (y + 1)) (A (y + 2))) (hQ : ∀ C, Fg1 x A C → Rs 1000000 B 27 (jn S T 27) (C (x + 1)) (C (x + 2)) → Q none (GH C P dy) nx) : ∀ (m k : Nat) (C : Nat → Nat → Int32), k + m = 27 → Fg1 x A C → Rs 1000000 B 27 (jn S T k) (C (x + 1)) (C (x + 2)) → X (d + 1) m_X5_takeAll 2 [some (.ref x), some (.ref y), some (.int (nI k))] [] (GH C P dy) nx bc bs Q := by
  have gs : ∀ {A : Nat → Nat → Int32} {P : Nat → Nat → Nat}, GH A P dy y = .inr (.inl (5, stF y)) := gh_st hy
  have gs' : ∀ {A : Nat → Nat → Int32} {P : Nat → Nat → Nat}, GH A P dy x = .inr (.inl (5, stF x)) := gh_st hx
  have g1 : ∀ {A : Nat → Nat → Int32} {P : Nat → Nat → Nat}, GH A P dy (y + 1) = .inl (0, 27, A (y + 1)) := gh_s1 hy
  have g2 : ∀ {A : Nat → Nat → Int32} {P : Nat → Nat → Nat}, GH A P dy (y + 2) = .inl (0, 27, A (y + 2)) := gh_s2 hy
  have ne : y + 1 ≠ x + 1 ∧ y + 1 ≠ x + 2 ∧ y + 2 ≠ x + 1 ∧ y + 2 ≠ x + 2 := by
    unfold Sx at hx hy; omega
  intro m
  induction m with
  | zero =>
    intro k C hk hF hr
    have e : k = 27 := by omega
    subst e
    simp (disch := omega) only [i_X5_takeAll_2, i_X5_takeAll_3, i_X5_takeAll_5, i_X5_takeAll_31, stF_0, stF_1, gs, g1, g2, z_o_i, z_ai_i, z_si_i, z_ab_b, z_ab_z, z_sb_b, z_sb_z, z_al_i, z_al_b, z_pu_s, z_pu_n, nI_toN, z_inN, true_and, and_true, nI_add, pk_mul, vu_eq, vu_ne, nI_leI, if_true, Nat.le_refl]
    exact hQ C hF hr
  | succ m ih =>
    intro k C hk hF hr
    have le : ¬ 27 ≤ k := by omega
    have c1 : C (y + 1) = A (y + 1) := hF _ ne.1 ne.2.1
    have c2 : C (y + 2) = A (y + 2) := hF _ ne.2.2.1 ne.2.2.2
    have q1 : C (y + 1) k = nI (T k).1 := by rw [c1]; exact (hT.1 k (by omega)).1
    have q2 : C (y + 2) k = nI (lo 1000000 (T k)) := by rw [c2]; exact (hT.1 k (by omega)).2
    have bT := hT.2 k
    rw [i_X5_takeAll_2]
    simp (disch := omega) only [i_X5_takeAll_3, i_X5_takeAll_5, i_X5_takeAll_8, i_X5_takeAll_9, i_X5_takeAll_10, i_X5_takeAll_11, i_X5_takeAll_14, i_X5_takeAll_15, i_X5_takeAll_16, i_X5_takeAll_17, i_X5_takeAll_20, i_X5_takeAll_21, i_X5_takeAll_22, stF_0, stF_1, gs, gs', g1, g2, z_o_i, z_ai_i, z_si_i, z_ab_b, z_ab_z, z_sb_b, z_sb_z, z_al_i, z_al_b, z_pu_s, z_pu_n, nI_toN, z_inN, true_and, and_true, nI_add, pk_mul, vu_eq, vu_ne, nI_leI, if_false, le, q1, q2]
    refine k_take (c := (T k).2) hx (by omega) bT.1 (fun z => ⟨by rw [lo, if_neg z], bT.2⟩) hB hr (fun D hD rD => ?_)
    simp (disch := omega) only [i_X5_takeAll_25, i_X5_takeAll_28, z_o_i, z_ai_i, z_si_i, z_ab_b, z_ab_z, z_sb_b, z_sb_z, z_al_i, z_al_b, z_pu_s, z_pu_n, nI_toN, z_inN, true_and, and_true, nI_add, pk_mul, vu_eq, vu_ne]
    refine ih (k + 1) D (by omega) (hF.trans hD) ?_
    have e : tu (jn S T k) k (T k).1 (T k).2 = jn S T (k + 1) := by
      funext j
      simp only [tu, vu_if, jn]
      by_cases e : j = k
      · subst e
        rw [if_pos rfl, if_neg (Nat.lt_irrefl _), if_pos (Nat.lt_succ_self _)]
      · rw [if_neg e]
        by_cases l : j < k
        · rw [if_pos l, if_pos (by omega)]
        · rw [if_neg l, if_neg (by omega)]
    rw [← e]
    exact rD
theorem k_takeAll {S T : Nat → Nat × Nat} {B : Nat} (hx : Sx x) (hy : Sx y) (hxy : x ≠ y) (hB : B ≤ 2000) (hS : Rs 1000000 B 27 S (A (x + 1)) (A (x + 2))) (hT : Rs 1000000 B 27 T (A (y + 1)) (A (y + 2))) (hQ : ∀ C, Fg1 x A C → Rs 1000000 B 27 (jn S T 27) (C (x + 1)) (C (x + 2)) → Q none (GH C P dy) nx) : XC (d + 1) m_X5_takeAll [.ref x, .ref y] (GH A P dy) nx Q := by
  show X (d + 1) m_X5_takeAll 0 [some (.ref x), some (.ref y), none] [] (GH A P dy) nx 0 0 Q
  rw [i_X5_takeAll_0, i_X5_takeAll_1]
  refine l_takeAll hx hy hxy hB hT hQ 27 0 A (by omega) Fg1.refl ?_
  have e : jn S T 0 = S := by funext j; exact if_neg (Nat.not_lt_zero j)
  rw [e]
  exact hS
theorem k_becomes {S : Nat → Nat × Nat} {B : Nat} (hx : Sx x) (hy : Sx y) (hxy : x ≠ y) (hS : Rs 1000000 B 27 S (A (y + 1)) (A (y + 2))) (hQ : ∀ C, Fg1 x A C → Rs 1000000 B 27 S (C (x + 1)) (C (x + 2)) → Q none (GH C P dy) nx) : XC (d + 1) m_X5_becomes [.ref x, .ref y] (GH A P dy) nx Q := by
  show X (d + 1) m_X5_becomes 0 [some (.ref x), some (.ref y)] [] (GH A P dy) nx 0 0 Q
  have gs : ∀ {A : Nat → Nat → Int32} {P : Nat → Nat → Nat}, GH A P dy x = .inr (.inl (5, stF x)) := gh_st hx; have g1 : ∀ {A : Nat → Nat → Int32} {P : Nat → Nat → Nat}, GH A P dy (x + 1) = .inl (0, 27, A (x + 1)) := gh_s1 hx; have g2 : ∀ {A : Nat → Nat → Int32} {P : Nat → Nat → Nat}, GH A P dy (x + 2) = .inl (0, 27, A (x + 2)) := gh_s2 hx; have u1 : ∀ {A : Nat → Nat → Int32} {P : Nat → Nat → Nat} {f : Nat → Int32}, va_up (GH A P dy) (x + 1) (.inl (0, 27, f)) = GH (va_up A (x + 1) f) P dy := gh_t1 hx; have u2 : ∀ {A : Nat → Nat → Int32} {P : Nat → Nat → Nat} {f : Nat → Int32}, va_up (GH A P dy) (x + 2) (.inl (0, 27, f)) = GH (va_up A (x + 2) f) P dy := gh_t2 hx
  have gs' : ∀ {A : Nat → Nat → Int32} {P : Nat → Nat → Nat}, GH A P dy y = .inr (.inl (5, stF y)) := gh_st hy
  have g1' : ∀ {A : Nat → Nat → Int32} {P : Nat → Nat → Nat}, GH A P dy (y + 1) = .inl (0, 27, A (y + 1)) := gh_s1 hy
  have g2' : ∀ {A : Nat → Nat → Int32} {P : Nat → Nat → Nat}, GH A P dy (y + 2) = .inl (0, 27, A (y + 2)) := gh_s2 hy
  have ne : y + 1 ≠ x + 1 ∧ y + 1 ≠ x + 2 ∧ y + 2 ≠ x + 1 ∧ y + 2 ≠ x + 2 := by
    unfold Sx at hx hy; omega
  have t27 : (nI 27 : Int32).toNatClampNeg = 27 := by decide
  have t0 : (nI 0 : Int32).toNatClampNeg = 0 := by decide
  simp (disch := omega) only [i_X5_becomes_0, i_X5_becomes_1, i_X5_becomes_4, i_X5_becomes_5, i_X5_becomes_6, i_X5_becomes_9, i_X5_becomes_10, stF_0, stF_1, gs, g1, g2, u1, u2, z_o_i, z_ai_i, z_si_i, z_ab_b, z_ab_z, z_sb_b, z_sb_z, z_al_i, z_al_b, z_pu_s, z_pu_n, nI_toN, z_inN, true_and, and_true, nI_add, pk_mul, vu_eq, vu_ne, nI_leI, nI_ltI, nI_eqI, nI_eq0, nI_le0, ↓ok_0, ↓ok_1, if_true, if_false, nI_lt0, nI_ge0, ne_eq, not_true_eq_false, not_false_eq_true, gs']
  rw [X_copyi (M := m_X5_becomes) (pc := 12) (cp := 19) (k := 0) (n0 := 27) (n1 := 27) (by decide +kernel) rfl rfl rfl (by decide) g1' g1 (Or.inl rfl) (by decide) (by decide) (by decide) (by decide) (by decide), u1, t27, t0, i_X5_becomes_15]
  simp (disch := omega) only [i_X5_becomes_16, i_X5_becomes_19, i_X5_becomes_20, i_X5_becomes_21, i_X5_becomes_24, i_X5_becomes_25, stF_0, stF_1, gs, g1, g2, u1, u2, z_o_i, z_ai_i, z_si_i, z_ab_b, z_ab_z, z_sb_b, z_sb_z, z_al_i, z_al_b, z_pu_s, z_pu_n, nI_toN, z_inN, true_and, and_true, nI_add, pk_mul, vu_eq, vu_ne, nI_leI, nI_ltI, nI_eqI, nI_eq0, nI_le0, ↓ok_0, ↓ok_1, if_true, if_false, nI_lt0, nI_ge0, ne_eq, not_true_eq_false, not_false_eq_true, gs']
  rw [X_copyi (M := m_X5_becomes) (pc := 27) (cp := 19) (k := 0) (n0 := 27) (n1 := 27) (by decide +kernel) rfl rfl rfl (by decide) g2' g2 (Or.inl rfl) (by decide) (by decide) (by decide) (by decide) (by decide), u2, t27, t0, i_X5_becomes_30]
  refine hQ _ (fun q h1 h2 => by rw [vu_ne h2, vu_ne h1]) ⟨fun j hj => ?_, hS.2⟩
  rw [vu_eq, vu_ne (by omega), vu_eq, vu_ne ne.2.2.1]
  simp only [va_cpy, Nat.zero_le, true_and, Nat.zero_add, hj, if_true, Nat.sub_zero]
  exact hS.1 j hj
end CStg
