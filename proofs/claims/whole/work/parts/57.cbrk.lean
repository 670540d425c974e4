/-! THE CLASS: broken rhymes, eye rhymes; how, rhyme, cost, near, speech, told -/
/-- the tail of two sayings, one behind the other -/
theorem jt_is {s : z_S} {t0 t1 : Nat} (hI : Iv s) (G0 : Gd s.1 t0) (G1 : Gd s.1 t1) : jt s.1 t0 t1 = if ss s.1 t0 (tl s.1 t0) ≤ (if ss s.1 t1 (tl s.1 t1) = 2 then 1 else 0) then s.1 35 t0 + (if ss s.1 t1 (tl s.1 t1) = 2 then tl s.1 t1 else lvw (hs s.1 t1) (s.1 35 t1)) else tl s.1 t0 := by
  have h0 := hI.tl G0
  have h1 := hI.tl G1
  have b : bt (hs s.1 t1) (fun i => ss s.1 t1 i - 1) (s.1 35 t1) = some (if ss s.1 t1 (tl s.1 t1) = 2 then tl s.1 t1 else lvw (hs s.1 t1) (s.1 35 t1)) := bt_less (g := ss s.1 t1) (fun i => hI.b37 (12 * t1 + i)) h1.1
  have j := bt_join (f1 := hs s.1 t1) (g1 := fun i => ss s.1 t1 i - 1) h0.1 (s.1 35 t1)
  rw [b] at j
  have m := bt_max _ _ h1.1
  unfold jt
  rw [show bt (jh s.1 t0 t1) (js s.1 t0 t1) (s.1 35 t0 + s.1 35 t1) = _ from j]
  have e : (fun i => ss s.1 t1 i - 1) (if ss s.1 t1 (tl s.1 t1) = 2 then tl s.1 t1 else lvw (hs s.1 t1) (s.1 35 t1)) = if ss s.1 t1 (tl s.1 t1) = 2 then 1 else 0 := by
    by_cases q : ss s.1 t1 (tl s.1 t1) = 2
    · simp only [q, if_true]
    · simp only [q, if_false]
      obtain ⟨l1, l2, l3⟩ := lvw_sp (f := hs s.1 t1) (s.1 35 t1) ⟨_, h1.2.1, h1.2.2⟩
      have x := m.2.2.1 _ l1 l2
      have y : ss s.1 t1 (tl s.1 t1) ≤ 2 := hI.b37 _
      omega
  simp only [] at e ⊢
  rw [e]
  by_cases q : ss s.1 t0 (tl s.1 t0) ≤ (if ss s.1 t1 (tl s.1 t1) = 2 then 1 else 0)
  · rw [if_pos q, if_pos q]; rfl
  · rw [if_neg q, if_neg q]; rfl
theorem jh_l {a : Nat → Nat → Nat} {t0 t1 i : Nat} (h : i < a 35 t0) : jh a t0 t1 i = hs a t0 i := if_pos h
theorem jh_r {a : Nat → Nat → Nat} {t0 t1 i : Nat} : jh a t0 t1 (a 35 t0 + i) = hs a t1 i := by
  unfold jh hj; rw [if_neg (by omega)]; congr 1; omega
/-- what other cells of the class are -/
def Fz (A B : Nat → Nat → Int32) : Prop := ∀ k, 32 ≤ k → B k = A k
theorem Fz.refl {A : Nat → Nat → Int32} : Fz A A := fun _ _ => rfl
theorem Fz.trans {A B C : Nat → Nat → Int32} (h : Fz A B) (g : Fz B C) : Fz A C := fun k hk => (g k hk).trans (h k hk)
theorem Fz.up {A B : Nat → Nat → Int32} {q : Nat} {f : Nat → Int32} (h : Fz A B) (hq : q < 32) : Fz A (va_up B q f) := fun k hk => by rw [vu_ne (by omega)]; exact h k hk
theorem Fe.fz {A B : Nat → Nat → Int32} {P R : Nat → Nat → Nat} (h : Fe A B P R) : Fz A B := fun k hk => h.1 k (by omega) (by omega)
/-- the class's cells stand for the state -/
def Cl (s : z_S) (A : Nat → Nat → Int32) (P : Nat → Nat → Nat) (dy : z_H) (nx : Nat) : Prop := Rc s A P ∧ ∃ wd ln, Rd s A P dy nx wd ln
theorem Fe.cl {s : z_S} {A B : Nat → Nat → Int32} {P R : Nat → Nat → Nat} {dy : z_H} {nx : Nat} (h : Fe A B P R) (hK : Cl s A P dy nx) : Cl s B R dy nx := by
  obtain ⟨h1, wd, ln, h2⟩ := hK
  exact ⟨h.rc h1, wd, ln, h.rd h2⟩
section CBrk
variable {s : z_S} {A : Nat → Nat → Int32} {P : Nat → Nat → Nat} {dy : z_H} {d nx nz bc bs : Nat} {Q : z_Q} {ρ : Nat → Nat} {p0 p1 p2 t0 t1 t2 : Nat} {wd ln : Nat → Nat}
theorem l_both {R : Bool} (hI : Iv s) (hC : Rc s A P) (S0 : Sg dy nz ρ p0 (s.1 35 t0) (rs s.1 t0) (ss s.1 t0)) (S1 : Sg dy nz ρ p1 (s.1 35 t1) (rs s.1 t1) (ss s.1 t1)) (S2 : Sg dy nz ρ p2 (s.1 35 t2) (rs s.1 t2) (ss s.1 t2)) (G0 : Gd s.1 t0) (G1 : Gd s.1 t1) (hl : s.1 35 t0 - tl s.1 t0 = s.1 35 t1 - tl s.1 t1 + s.1 35 t2)
    (hR : R = true ↔ (∀ i, i < s.1 35 t1 - tl s.1 t1 → hs s.1 t0 (tl s.1 t0 + i) = hs s.1 t1 (tl s.1 t1 + i)) ∧ taq (s.1 35 t0) (tl s.1 t0 + (s.1 35 t1 - tl s.1 t1)) (hs s.1 t0) (s.1 35 t2) 0 (hs s.1 t2) = true) :
    ∀ (m k : Nat), k + m = s.1 35 t1 - tl s.1 t1 → (∀ i, i < k → hs s.1 t0 (tl s.1 t0 + i) = hs s.1 t1 (tl s.1 t1 + i)) → X (d + 1) m_X0_isTailOfBoth 61 [some (.ref 6), some (.ref p0), some (.ref p1), some (.ref p2), some (.int (nI (s.1 35 t1 - tl s.1 t1))), some (.int (nI k))] [] (GH A P dy) nx bc bs Q = Q (some (.int (bI (R = true)))) (GH A P dy) nx := by
  have h0 := hI.tl G0
  have h1 := hI.tl G1
  have b0 := hI.b35 t0
  have b1 := hI.b35 t1
  obtain ⟨so, vo, st, r0⟩ := S0.rd (A := A) (P := P) hI
  obtain ⟨so', vo', st', r1⟩ := S1.rd (A := A) (P := P) hI
  have kh : ∀ {d nx : Nat} {Q : z_Q} {i : Nat}, i < s.1 35 t0 → XC d m_X0_heardAt [.ref 6, .ref p0, .int (nI i)] (GH A P dy) nx Q = Q (some (.int (nI (hs s.1 t0 i)))) (GH A P dy) nx := fun h => k_heardAt hC.1.1 (S0.q (A := A) (P := P)) b0 (fun i => hI.b36 _) h
  have kh' : ∀ {d nx : Nat} {Q : z_Q} {i : Nat}, i < s.1 35 t1 → XC d m_X0_heardAt [.ref 6, .ref p1, .int (nI i)] (GH A P dy) nx Q = Q (some (.int (nI (hs s.1 t1 i)))) (GH A P dy) nx := fun h => k_heardAt hC.1.1 (S1.q (A := A) (P := P)) b1 (fun i => hI.b36 _) h
  intro m
  induction m with
  | zero =>
    intro k hk hq
    have e : k = s.1 35 t1 - tl s.1 t1 := by omega
    subst e
    have kA : ∀ {d nx : Nat} {Q : z_Q}, XC d m_X0_areAlikeFrom [.ref 6, .ref p0, .int (nI (tl s.1 t0 + (s.1 35 t1 - tl s.1 t1))), .ref p2, .int (nI 0)] (GH A P dy) nx Q = _ := k_alikeS hI hC S0 S2 (by omega) (Nat.zero_le _)
    have e : (R = true) = (taq (s.1 35 t0) (tl s.1 t0 + (s.1 35 t1 - tl s.1 t1)) (hs s.1 t0) (s.1 35 t2) 0 (hs s.1 t2) = true) := propext ⟨fun z => (hR.mp z).2, fun z => hR.mpr ⟨hq, z⟩⟩
    simp (disch := omega) only [i_X0_isTailOfBoth_61, i_X0_isTailOfBoth_63, i_X0_isTailOfBoth_65, i_X0_isTailOfBoth_103, i_X0_isTailOfBoth_104, i_X0_isTailOfBoth_105, i_X0_isTailOfBoth_106, i_X0_isTailOfBoth_109, i_X0_isTailOfBoth_111, i_X0_isTailOfBoth_112, i_X0_isTailOfBoth_113, i_X0_isTailOfBoth_114, i_X0_isTailOfBoth_117, gh_o3, gh_o6, gh_r7, gh_w7, gh_u6, gp_6_1, gf_3_0, gf_3_1, gf_3_2, gf_6_0, gf_6_1, sgF_0, sgF_1, sgF_2, sgF_5, sgF_6, sgF_7, sgF_9, sgF_10, wdF_0, wdF_1, wdF_2, wdF_3, lsF_0, lsF_1, lsF_2, z_o_i, z_ai_i, z_si_i, z_ab_b, z_ab_z, z_sb_b, z_sb_z, z_al_i, z_al_b, z_pu_s, z_pu_n, nI_toN, z_inN, true_and, and_true, nI_add, pk_mul, vu_eq, vu_ne, nI_leI, nI_ltI, nI_eqI, nI_eq0, ↓ok_0, ↓ok_1, ↓bI_ok, if_true, if_false, nI_lt0, nI_ge0, ne_eq, not_true_eq_false, not_false_eq_true, bI_eq0, bI_ne0, bI_T, bI_F, Bool.false_eq_true, Nat.one_ne_zero, Nat.zero_ne_one, nI_m1, r0, kA, Nat.le_refl]
    by_cases c : R = true
    · rw [bI_t c, bI_t (e ▸ c)]
    · rw [bI_f c, bI_f (e ▸ c)]
  | succ m ih =>
    intro k hk hq
    have le : ¬ s.1 35 t1 - tl s.1 t1 ≤ k := by omega
    have c0 : hs s.1 t0 (tl s.1 t0 + k) < 40 := hI.b40 _
    have c1 : hs s.1 t1 (tl s.1 t1 + k) < 40 := hI.b40 _
    rw [i_X0_isTailOfBoth_61]
    by_cases c : hs s.1 t0 (tl s.1 t0 + k) = hs s.1 t1 (tl s.1 t1 + k)
    · simp (disch := omega) only [i_X0_isTailOfBoth_63, i_X0_isTailOfBoth_65, i_X0_isTailOfBoth_68, i_X0_isTailOfBoth_69, i_X0_isTailOfBoth_70, i_X0_isTailOfBoth_71, i_X0_isTailOfBoth_74, i_X0_isTailOfBoth_76, i_X0_isTailOfBoth_77, i_X0_isTailOfBoth_80, i_X0_isTailOfBoth_81, i_X0_isTailOfBoth_82, i_X0_isTailOfBoth_83, i_X0_isTailOfBoth_86, i_X0_isTailOfBoth_88, i_X0_isTailOfBoth_89, i_X0_isTailOfBoth_92, i_X0_isTailOfBoth_97, i_X0_isTailOfBoth_100, gh_o3, gh_o6, gh_r7, gh_w7, gh_u6, gp_6_1, gf_3_0, gf_3_1, gf_3_2, gf_6_0, gf_6_1, sgF_0, sgF_1, sgF_2, sgF_5, sgF_6, sgF_7, sgF_9, sgF_10, wdF_0, wdF_1, wdF_2, wdF_3, lsF_0, lsF_1, lsF_2, z_o_i, z_ai_i, z_si_i, z_ab_b, z_ab_z, z_sb_b, z_sb_z, z_al_i, z_al_b, z_pu_s, z_pu_n, nI_toN, z_inN, true_and, and_true, nI_add, pk_mul, vu_eq, vu_ne, nI_leI, nI_ltI, nI_eqI, nI_eq0, ↓ok_0, ↓ok_1, ↓bI_ok, if_true, if_false, nI_lt0, nI_ge0, ne_eq, not_true_eq_false, not_false_eq_true, bI_eq0, bI_ne0, bI_T, bI_F, Bool.false_eq_true, Nat.one_ne_zero, Nat.zero_ne_one, nI_m1, r0, r1, kh, kh', le, c]
      exact ih (k + 1) (by omega) (fun i hi => by
        by_cases e : i = k
        · rw [e]; exact c
        · exact hq i (by omega))
    · rw [bI_f (c := R = true) (fun z => c ((hR.mp z).1 k (by omega)))]
      simp (disch := omega) only [i_X0_isTailOfBoth_63, i_X0_isTailOfBoth_65, i_X0_isTailOfBoth_68, i_X0_isTailOfBoth_69, i_X0_isTailOfBoth_70, i_X0_isTailOfBoth_71, i_X0_isTailOfBoth_74, i_X0_isTailOfBoth_76, i_X0_isTailOfBoth_77, i_X0_isTailOfBoth_80, i_X0_isTailOfBoth_81, i_X0_isTailOfBoth_82, i_X0_isTailOfBoth_83, i_X0_isTailOfBoth_86, i_X0_isTailOfBoth_88, i_X0_isTailOfBoth_89, i_X0_isTailOfBoth_92, i_X0_isTailOfBoth_95, i_X0_isTailOfBoth_96, gh_o3, gh_o6, gh_r7, gh_w7, gh_u6, gp_6_1, gf_3_0, gf_3_1, gf_3_2, gf_6_0, gf_6_1, sgF_0, sgF_1, sgF_2, sgF_5, sgF_6, sgF_7, sgF_9, sgF_10, wdF_0, wdF_1, wdF_2, wdF_3, lsF_0, lsF_1, lsF_2, z_o_i, z_ai_i, z_si_i, z_ab_b, z_ab_z, z_sb_b, z_sb_z, z_al_i, z_al_b, z_pu_s, z_pu_n, nI_toN, z_inN, true_and, and_true, nI_add, pk_mul, vu_eq, vu_ne, nI_leI, nI_ltI, nI_eqI, nI_eq0, ↓ok_0, ↓ok_1, ↓bI_ok, if_true, if_false, nI_lt0, nI_ge0, ne_eq, not_true_eq_false, not_false_eq_true, bI_eq0, bI_ne0, bI_T, bI_F, Bool.false_eq_true, Nat.one_ne_zero, Nat.zero_ne_one, nI_m1, r0, r1, kh, kh', le, c]
theorem k_both (hI : Iv s) (hC : Rc s A P) (S0 : Sg dy nz ρ p0 (s.1 35 t0) (rs s.1 t0) (ss s.1 t0)) (S1 : Sg dy nz ρ p1 (s.1 35 t1) (rs s.1 t1) (ss s.1 t1)) (S2 : Sg dy nz ρ p2 (s.1 35 t2) (rs s.1 t2) (ss s.1 t2)) (G0 : Gd s.1 t0) (G1 : Gd s.1 t1) (G2 : Gd s.1 t2) : XC (d + 1) m_X0_isTailOfBoth [.ref 6, .ref p0, .ref p1, .ref p2] (GH A P dy) nx Q = Q (some (.int (bI (bkq s.1 t0 t1 t2 = true)))) (GH A P dy) nx := by
  show X (d + 1) m_X0_isTailOfBoth 0 [some (.ref 6), some (.ref p0), some (.ref p1), some (.ref p2), none, none] [] (GH A P dy) nx 0 0 Q = _
  have h0 := hI.tl G0
  have h1 := hI.tl G1
  have h2 := hI.tl G2
  have b0 := hI.b35 t0
  have b1 := hI.b35 t1
  have b2 := hI.b35 t2
  obtain ⟨so, vo, st, r0⟩ := S0.rd (A := A) (P := P) hI
  obtain ⟨so', vo', st', r1⟩ := S1.rd (A := A) (P := P) hI
  obtain ⟨so2, vo2, st2, r2⟩ := S2.rd (A := A) (P := P) hI
  have jt := jt_is hI G1 G2
  obtain ⟨l1, l2, l3⟩ := lvw_sp (f := hs s.1 t2) (s.1 35 t2) ⟨_, h2.2.1, h2.2.2⟩
  have g1 : ss s.1 t1 (tl s.1 t1) ≤ 2 := hI.b37 _
  have tb1 : (if ss s.1 t2 (tl s.1 t2) = 2 then 1 else 0) ≤ 1 := by split <;> omega
  have hlb : (if ss s.1 t2 (tl s.1 t2) = 2 then tl s.1 t2 else lvw (hs s.1 t2) (s.1 35 t2)) < s.1 35 t2 := by split <;> omega
  generalize (if ss s.1 t2 (tl s.1 t2) = 2 then 1 else 0) = tb at r2 jt tb1
  generalize (if ss s.1 t2 (tl s.1 t2) = 2 then tl s.1 t2 else lvw (hs s.1 t2) (s.1 35 t2)) = tlb at r2 jt hlb
  obtain ⟨R, hR⟩ : ∃ R, bkq s.1 t0 t1 t2 = R := ⟨_, rfl⟩
  rw [hR]
  unfold bkq at hR
  rw [jt] at hR
  by_cases c : tb < ss s.1 t1 (tl s.1 t1)
  · rw [if_neg (by omega)] at hR
    have s1 : (nI (s.1 35 t1) - nI (tl s.1 t1) : Int32) = nI (s.1 35 t1 - tl s.1 t1) := pk_sub (by omega)
    have s0 : (nI (s.1 35 t0) - nI (tl s.1 t0) : Int32) = nI (s.1 35 t0 - tl s.1 t0) := pk_sub (by omega)
    by_cases hl : s.1 35 t0 - tl s.1 t0 = s.1 35 t1 - tl s.1 t1 + s.1 35 t2
    · simp (disch := omega) only [i_X0_isTailOfBoth_0, i_X0_isTailOfBoth_1, i_X0_isTailOfBoth_4, i_X0_isTailOfBoth_5, i_X0_isTailOfBoth_8, i_X0_isTailOfBoth_26, i_X0_isTailOfBoth_27, i_X0_isTailOfBoth_30, i_X0_isTailOfBoth_31, i_X0_isTailOfBoth_34, i_X0_isTailOfBoth_35, i_X0_isTailOfBoth_37, i_X0_isTailOfBoth_38, i_X0_isTailOfBoth_41, i_X0_isTailOfBoth_42, i_X0_isTailOfBoth_45, i_X0_isTailOfBoth_46, i_X0_isTailOfBoth_48, i_X0_isTailOfBoth_49, i_X0_isTailOfBoth_52, i_X0_isTailOfBoth_53, i_X0_isTailOfBoth_58, i_X0_isTailOfBoth_59, gh_o3, gh_o6, gh_r7, gh_w7, gh_u6, gp_6_1, gf_3_0, gf_3_1, gf_3_2, gf_6_0, gf_6_1, sgF_0, sgF_1, sgF_2, sgF_5, sgF_6, sgF_7, sgF_9, sgF_10, wdF_0, wdF_1, wdF_2, wdF_3, lsF_0, lsF_1, lsF_2, z_o_i, z_ai_i, z_si_i, z_ab_b, z_ab_z, z_sb_b, z_sb_z, z_al_i, z_al_b, z_pu_s, z_pu_n, nI_toN, z_inN, true_and, and_true, nI_add, pk_mul, vu_eq, vu_ne, nI_leI, nI_ltI, nI_eqI, nI_eq0, ↓ok_0, ↓ok_1, ↓bI_ok, if_true, if_false, nI_lt0, nI_ge0, ne_eq, not_true_eq_false, not_false_eq_true, bI_eq0, bI_ne0, bI_T, bI_F, Bool.false_eq_true, Nat.one_ne_zero, Nat.zero_ne_one, nI_m1, r0, r1, r2, s0, s1, c, hl]
      refine l_both hI hC S0 S1 S2 G0 G1 hl ?_ (s.1 35 t1 - tl s.1 t1) 0 (by omega) (fun i hi => absurd hi (Nat.not_lt_zero i))
      rw [← hR, taq_iff, taq_iff]
      constructor
      · rintro ⟨q1, q2⟩
        refine ⟨fun i hi => ?_, by omega, fun i hi => ?_⟩
        · have := q2 i (by omega)
          rw [jh_l (by omega)] at this
          exact this.symm
        · have := q2 (s.1 35 t1 - tl s.1 t1 + i) (by omega)
          rw [show tl s.1 t1 + (s.1 35 t1 - tl s.1 t1 + i) = s.1 35 t1 + i by omega, jh_r] at this
          rw [Nat.zero_add, this]
          congr 1
          omega
      · rintro ⟨q1, q2, q3⟩
        refine ⟨by omega, fun i hi => ?_⟩
        by_cases z : i < s.1 35 t1 - tl s.1 t1
        · rw [jh_l (by omega)]; exact (q1 i z).symm
        · have := q3 (i - (s.1 35 t1 - tl s.1 t1)) (by omega)
          rw [Nat.zero_add] at this
          rw [show tl s.1 t1 + i = s.1 35 t1 + (i - (s.1 35 t1 - tl s.1 t1)) by omega, jh_r, ← this]
          congr 1
          omega
    · rw [bI_f (c := R = true) (by rw [← hR, taq_iff]; exact fun z => hl (by have := z.1; omega))]
      simp (disch := omega) only [i_X0_isTailOfBoth_0, i_X0_isTailOfBoth_1, i_X0_isTailOfBoth_4, i_X0_isTailOfBoth_5, i_X0_isTailOfBoth_8, i_X0_isTailOfBoth_26, i_X0_isTailOfBoth_27, i_X0_isTailOfBoth_30, i_X0_isTailOfBoth_31, i_X0_isTailOfBoth_34, i_X0_isTailOfBoth_35, i_X0_isTailOfBoth_37, i_X0_isTailOfBoth_38, i_X0_isTailOfBoth_41, i_X0_isTailOfBoth_42, i_X0_isTailOfBoth_45, i_X0_isTailOfBoth_46, i_X0_isTailOfBoth_48, i_X0_isTailOfBoth_49, i_X0_isTailOfBoth_52, i_X0_isTailOfBoth_53, i_X0_isTailOfBoth_56, i_X0_isTailOfBoth_57, gh_o3, gh_o6, gh_r7, gh_w7, gh_u6, gp_6_1, gf_3_0, gf_3_1, gf_3_2, gf_6_0, gf_6_1, sgF_0, sgF_1, sgF_2, sgF_5, sgF_6, sgF_7, sgF_9, sgF_10, wdF_0, wdF_1, wdF_2, wdF_3, lsF_0, lsF_1, lsF_2, z_o_i, z_ai_i, z_si_i, z_ab_b, z_ab_z, z_sb_b, z_sb_z, z_al_i, z_al_b, z_pu_s, z_pu_n, nI_toN, z_inN, true_and, and_true, nI_add, pk_mul, vu_eq, vu_ne, nI_leI, nI_ltI, nI_eqI, nI_eq0, ↓ok_0, ↓ok_1, ↓bI_ok, if_true, if_false, nI_lt0, nI_ge0, ne_eq, not_true_eq_false, not_false_eq_true, bI_eq0, bI_ne0, bI_T, bI_F, Bool.false_eq_true, Nat.one_ne_zero, Nat.zero_ne_one, nI_m1, r0, r1, r2, s0, s1, c, hl]
  · rw [if_pos (by omega)] at hR
    have kA : ∀ {d nx : Nat} {Q : z_Q}, XC d m_X0_areAlikeFrom [.ref 6, .ref p0, .int (nI (tl s.1 t0)), .ref p2, .int (nI tlb)] (GH A P dy) nx Q = _ := k_alikeS hI hC S0 S2 (by omega) (by omega)
    have e : (R = true) = (taq (s.1 35 t0) (tl s.1 t0) (hs s.1 t0) (s.1 35 t2) tlb (hs s.1 t2) = true) := by
      rw [← hR, taq_iff, taq_iff]
      apply propext
      constructor
      · rintro ⟨q1, q2⟩
        refine ⟨by omega, fun i hi => ?_⟩
        have := q2 i (by omega)
        rw [Nat.add_assoc, jh_r] at this
        exact this.symm
      · rintro ⟨q1, q2⟩
        refine ⟨by omega, fun i hi => ?_⟩
        rw [Nat.add_assoc, jh_r]
        exact (q2 i (by omega)).symm
    simp (disch := omega) only [i_X0_isTailOfBoth_0, i_X0_isTailOfBoth_1, i_X0_isTailOfBoth_4, i_X0_isTailOfBoth_5, i_X0_isTailOfBoth_8, i_X0_isTailOfBoth_11, i_X0_isTailOfBoth_12, i_X0_isTailOfBoth_13, i_X0_isTailOfBoth_14, i_X0_isTailOfBoth_17, i_X0_isTailOfBoth_18, i_X0_isTailOfBoth_19, i_X0_isTailOfBoth_22, i_X0_isTailOfBoth_25, gh_o3, gh_o6, gh_r7, gh_w7, gh_u6, gp_6_1, gf_3_0, gf_3_1, gf_3_2, gf_6_0, gf_6_1, sgF_0, sgF_1, sgF_2, sgF_5, sgF_6, sgF_7, sgF_9, sgF_10, wdF_0, wdF_1, wdF_2, wdF_3, lsF_0, lsF_1, lsF_2, z_o_i, z_ai_i, z_si_i, z_ab_b, z_ab_z, z_sb_b, z_sb_z, z_al_i, z_al_b, z_pu_s, z_pu_n, nI_toN, z_inN, true_and, and_true, nI_add, pk_mul, vu_eq, vu_ne, nI_leI, nI_ltI, nI_eqI, nI_eq0, ↓ok_0, ↓ok_1, ↓bI_ok, if_true, if_false, nI_lt0, nI_ge0, ne_eq, not_true_eq_false, not_false_eq_true, bI_eq0, bI_ne0, bI_T, bI_F, Bool.false_eq_true, Nat.one_ne_zero, Nat.zero_ne_one, nI_m1, r0, r1, r2, kA, c]
    by_cases z : R = true
    · rw [bI_t z, bI_t (e ▸ z)]
    · rw [bI_f z, bI_f (e ▸ z)]
theorem bk3_iff {a : Nat → Nat → Nat} {w u v : Nat} : bk3 a w u v = true ↔ ∃ p q r, p < a 34 w ∧ q < a 34 u ∧ r < a 34 v ∧ bkq a (3 * w + p) (3 * u + q) (3 * v + r) = true := by
  unfold bk3
  simp only [an_iff]
  constructor
  · rintro ⟨p, _, h1, q, _, h2, r, _, h3, h4⟩; exact ⟨p, q, r, by omega, by omega, by omega, h4⟩
  · rintro ⟨p, q, r, h1, h2, h3, h4⟩; exact ⟨p, by omega, by omega, q, by omega, by omega, r, by omega, by omega, h4⟩
theorem l_br3 {w u v pw pu pv i j : Nat} (hI : Iv s) (hC : Rc s A P) (W0 : Wq s dy nz ρ w pw) (W1 : Wq s dy nz ρ u pu) (W2 : Wq s dy nz ρ v pv) (hw : w < s.1 32 1) (hu : u < s.1 32 1) (hv : v < s.1 32 1) (hi : i < s.1 34 u) (hj : j < s.1 34 v)
    (hY : bk3 s.1 w u v = true → Q (some (.int (nI 1))) (GH A P dy) nx) (hN : (∀ r, r < s.1 34 w → ¬ bkq s.1 (3 * w + r) (3 * u + i) (3 * v + j) = true) → ∀ x6, X (d + 3) m_X0_isBrokenRhyme 18 [some (.ref 6), some (.ref pw), some (.ref pu), some (.ref pv), some (.int (nI i)), some (.int (nI (j + 1))), x6] [] (GH A P dy) nx bc bs Q) :
    ∀ (m k : Nat), k + m = s.1 34 w → (∀ r, r < k → ¬ bkq s.1 (3 * w + r) (3 * u + i) (3 * v + j) = true) → X (d + 3) m_X0_isBrokenRhyme 33 [some (.ref 6), some (.ref pw), some (.ref pu), some (.ref pv), some (.int (nI i)), some (.int (nI j)), some (.int (nI k))] [] (GH A P dy) nx bc bs Q := by
  obtain ⟨l, b, e, c, mm, g, K, w1, w2, w3, w4, w5, w6, w7, w8⟩ := W0
  obtain ⟨l', b', e', c', mm', g', K', v1, v2, v3, v4, v5, v6, v7, v8⟩ := W1
  obtain ⟨l2, b2, e2, c2, m2, g2, K2, u1, u2, u3, u4, u5, u6, u7, u8⟩ := W2
  have b34 := hI.b34 w
  have c34 := hI.b34 u
  have d34 := hI.b34 v
  have cs : ∀ {d nx : Nat} {Q : z_Q}, XC d m_Jx4a65c_size_8abf5 [.ref l] (GH A P dy) nx Q = Q (some (.int (nI (s.1 34 w)))) (GH A P dy) nx := c_size w2
  obtain ⟨q1, a1, S1⟩ := v8 i hi
  obtain ⟨q2, a2, S2⟩ := u8 j hj
  obtain ⟨_, _, _, r1⟩ := S1.rd (A := A) (P := P) hI
  obtain ⟨_, _, _, r2⟩ := S2.rd (A := A) (P := P) hI
  have cg1 : ∀ {d nx : Nat} {Q : z_Q}, XC (d + 2) m_Jx4a65c_get_915e3 [.ref l', .int (nI i)] (GH A P dy) nx Q = Q (some (.ref q1)) (GH A P dy) nx := c_get v2 v3 hi v6 (by omega) a1
  have cg2 : ∀ {d nx : Nat} {Q : z_Q}, XC (d + 2) m_Jx4a65c_get_915e3 [.ref l2, .int (nI j)] (GH A P dy) nx Q = Q (some (.ref q2)) (GH A P dy) nx := c_get u2 u3 hj u6 (by omega) a2
  intro m
  induction m with
  | zero =>
    intro k hk hq
    have le : s.1 34 w ≤ k := by omega
    simp (disch := omega) only [i_X0_isBrokenRhyme_33, i_X0_isBrokenRhyme_35, i_X0_isBrokenRhyme_36, i_X0_isBrokenRhyme_39, i_X0_isBrokenRhyme_42, i_X0_isBrokenRhyme_96, i_X0_isBrokenRhyme_99, gh_o3, gh_o6, gh_r7, gh_w7, gh_u6, gp_6_1, gf_3_0, gf_3_1, gf_3_2, gf_6_0, gf_6_1, sgF_0, sgF_1, sgF_2, sgF_5, sgF_6, sgF_7, sgF_9, sgF_10, wdF_0, wdF_1, wdF_2, wdF_3, lsF_0, lsF_1, lsF_2, z_o_i, z_ai_i, z_si_i, z_ab_b, z_ab_z, z_sb_b, z_sb_z, z_al_i, z_al_b, z_pu_s, z_pu_n, nI_toN, z_inN, true_and, and_true, nI_add, pk_mul, vu_eq, vu_ne, nI_leI, nI_ltI, nI_eqI, nI_eq0, ↓ok_0, ↓ok_1, ↓bI_ok, if_true, if_false, nI_lt0, nI_ge0, ne_eq, not_true_eq_false, not_false_eq_true, bI_eq0, bI_ne0, bI_T, bI_F, Bool.false_eq_true, Nat.one_ne_zero, Nat.zero_ne_one, nI_m1, w1, w2, cs, le]
    exact hN (fun r hr => hq r (by omega)) _
  | succ m ih =>
    intro k hk hq
    have le : ¬ s.1 34 w ≤ k := by omega
    obtain ⟨q0, a0, S0⟩ := w8 k (by omega)
    obtain ⟨_, _, _, r0⟩ := S0.rd (A := A) (P := P) hI
    have cg0 : ∀ {d nx : Nat} {Q : z_Q}, XC (d + 2) m_Jx4a65c_get_915e3 [.ref l, .int (nI k)] (GH A P dy) nx Q = Q (some (.ref q0)) (GH A P dy) nx := c_get w2 w3 (by omega) w6 (by omega) a0
    have kB : ∀ {d nx : Nat} {Q : z_Q}, XC (d + 1) m_X0_isTailOfBoth [.ref 6, .ref q0, .ref q1, .ref q2] (GH A P dy) nx Q = _ := k_both hI hC S0 S1 S2 (hI.gd hw (by omega)) (hI.gd hu hi) (hI.gd hv hj)
    rw [i_X0_isBrokenRhyme_33]
    by_cases c : bkq s.1 (3 * w + k) (3 * u + i) (3 * v + j) = true
    · simp (disch := omega) only [i_X0_isBrokenRhyme_35, i_X0_isBrokenRhyme_36, i_X0_isBrokenRhyme_39, i_X0_isBrokenRhyme_42, i_X0_isBrokenRhyme_45, i_X0_isBrokenRhyme_46, i_X0_isBrokenRhyme_47, i_X0_isBrokenRhyme_50, i_X0_isBrokenRhyme_52, i_X0_isBrokenRhyme_55, i_X0_isBrokenRhyme_58, i_X0_isBrokenRhyme_59, i_X0_isBrokenRhyme_62, i_X0_isBrokenRhyme_64, i_X0_isBrokenRhyme_67, i_X0_isBrokenRhyme_70, i_X0_isBrokenRhyme_71, i_X0_isBrokenRhyme_74, i_X0_isBrokenRhyme_76, i_X0_isBrokenRhyme_79, i_X0_isBrokenRhyme_82, i_X0_isBrokenRhyme_85, i_X0_isBrokenRhyme_88, i_X0_isBrokenRhyme_89, gh_o3, gh_o6, gh_r7, gh_w7, gh_u6, gp_6_1, gf_3_0, gf_3_1, gf_3_2, gf_6_0, gf_6_1, sgF_0, sgF_1, sgF_2, sgF_5, sgF_6, sgF_7, sgF_9, sgF_10, wdF_0, wdF_1, wdF_2, wdF_3, lsF_0, lsF_1, lsF_2, z_o_i, z_ai_i, z_si_i, z_ab_b, z_ab_z, z_sb_b, z_sb_z, z_al_i, z_al_b, z_pu_s, z_pu_n, nI_toN, z_inN, true_and, and_true, nI_add, pk_mul, vu_eq, vu_ne, nI_leI, nI_ltI, nI_eqI, nI_eq0, ↓ok_0, ↓ok_1, ↓bI_ok, if_true, if_false, nI_lt0, nI_ge0, ne_eq, not_true_eq_false, not_false_eq_true, bI_eq0, bI_ne0, bI_T, bI_F, Bool.false_eq_true, Nat.one_ne_zero, Nat.zero_ne_one, nI_m1, w1, w2, v1, v2, u1, u2, cs, cg0, cg1, cg2, r0, r1, r2, kB, le, c]
      exact hY (bk3_iff.mpr ⟨k, i, j, by omega, hi, hj, c⟩)
    · simp (disch := omega) only [i_X0_isBrokenRhyme_35, i_X0_isBrokenRhyme_36, i_X0_isBrokenRhyme_39, i_X0_isBrokenRhyme_42, i_X0_isBrokenRhyme_45, i_X0_isBrokenRhyme_46, i_X0_isBrokenRhyme_47, i_X0_isBrokenRhyme_50, i_X0_isBrokenRhyme_52, i_X0_isBrokenRhyme_55, i_X0_isBrokenRhyme_58, i_X0_isBrokenRhyme_59, i_X0_isBrokenRhyme_62, i_X0_isBrokenRhyme_64, i_X0_isBrokenRhyme_67, i_X0_isBrokenRhyme_70, i_X0_isBrokenRhyme_71, i_X0_isBrokenRhyme_74, i_X0_isBrokenRhyme_76, i_X0_isBrokenRhyme_79, i_X0_isBrokenRhyme_82, i_X0_isBrokenRhyme_85, i_X0_isBrokenRhyme_90, i_X0_isBrokenRhyme_93, gh_o3, gh_o6, gh_r7, gh_w7, gh_u6, gp_6_1, gf_3_0, gf_3_1, gf_3_2, gf_6_0, gf_6_1, sgF_0, sgF_1, sgF_2, sgF_5, sgF_6, sgF_7, sgF_9, sgF_10, wdF_0, wdF_1, wdF_2, wdF_3, lsF_0, lsF_1, lsF_2, z_o_i, z_ai_i, z_si_i, z_ab_b, z_ab_z, z_sb_b, z_sb_z, z_al_i, z_al_b, z_pu_s, z_pu_n, nI_toN, z_inN, true_and, and_true, nI_add, pk_mul, vu_eq, vu_ne, nI_leI, nI_ltI, nI_eqI, nI_eq0, ↓ok_0, ↓ok_1, ↓bI_ok, if_true, if_false, nI_lt0, nI_ge0, ne_eq, not_true_eq_false, not_false_eq_true, bI_eq0, bI_ne0, bI_T, bI_F, Bool.false_eq_true, Nat.one_ne_zero, Nat.zero_ne_one, nI_m1, w1, w2, v1, v2, u1, u2, cs, cg0, cg1, cg2, r0, r1, r2, kB, le, c]
      exact ih (k + 1) (by omega) (fun r hr => by
        by_cases e : r = k
        · rw [e]; exact c
        · exact hq r (by omega))
theorem l_br2 {w u v pw pu pv i : Nat} (hI : Iv s) (hC : Rc s A P) (W0 : Wq s dy nz ρ w pw) (W1 : Wq s dy nz ρ u pu) (W2 : Wq s dy nz ρ v pv) (hw : w < s.1 32 1) (hu : u < s.1 32 1) (hv : v < s.1 32 1) (hi : i < s.1 34 u)
    (hY : bk3 s.1 w u v = true → Q (some (.int (nI 1))) (GH A P dy) nx) (hN : (∀ q, q < s.1 34 v → ∀ r, r < s.1 34 w → ¬ bkq s.1 (3 * w + r) (3 * u + i) (3 * v + q) = true) → ∀ x5 x6, X (d + 3) m_X0_isBrokenRhyme 3 [some (.ref 6), some (.ref pw), some (.ref pu), some (.ref pv), some (.int (nI (i + 1))), x5, x6] [] (GH A P dy) nx bc bs Q) :
    ∀ (m j : Nat) (x6 : Option Value), j + m = s.1 34 v → (∀ q, q < j → ∀ r, r < s.1 34 w → ¬ bkq s.1 (3 * w + r) (3 * u + i) (3 * v + q) = true) → X (d + 3) m_X0_isBrokenRhyme 18 [some (.ref 6), some (.ref pw), some (.ref pu), some (.ref pv), some (.int (nI i)), some (.int (nI j)), x6] [] (GH A P dy) nx bc bs Q := by
  have W2' := W2
  obtain ⟨l2, b2, e2, c2, m2, g2, K2, u1, u2, u3, u4, u5, u6, u7, u8⟩ := W2
  have d34 := hI.b34 v
  have c34 := hI.b34 u
  have cs : ∀ {d nx : Nat} {Q : z_Q}, XC d m_Jx4a65c_size_8abf5 [.ref l2] (GH A P dy) nx Q = Q (some (.int (nI (s.1 34 v)))) (GH A P dy) nx := c_size u2
  intro m
  induction m with
  | zero =>
    intro j x6 hj hq
    have le : s.1 34 v ≤ j := by omega
    simp (disch := omega) only [i_X0_isBrokenRhyme_18, i_X0_isBrokenRhyme_20, i_X0_isBrokenRhyme_21, i_X0_isBrokenRhyme_24, i_X0_isBrokenRhyme_27, i_X0_isBrokenRhyme_102, i_X0_isBrokenRhyme_105, gh_o3, gh_o6, gh_r7, gh_w7, gh_u6, gp_6_1, gf_3_0, gf_3_1, gf_3_2, gf_6_0, gf_6_1, sgF_0, sgF_1, sgF_2, sgF_5, sgF_6, sgF_7, sgF_9, sgF_10, wdF_0, wdF_1, wdF_2, wdF_3, lsF_0, lsF_1, lsF_2, z_o_i, z_ai_i, z_si_i, z_ab_b, z_ab_z, z_sb_b, z_sb_z, z_al_i, z_al_b, z_pu_s, z_pu_n, nI_toN, z_inN, true_and, and_true, nI_add, pk_mul, vu_eq, vu_ne, nI_leI, nI_ltI, nI_eqI, nI_eq0, ↓ok_0, ↓ok_1, ↓bI_ok, if_true, if_false, nI_lt0, nI_ge0, ne_eq, not_true_eq_false, not_false_eq_true, bI_eq0, bI_ne0, bI_T, bI_F, Bool.false_eq_true, Nat.one_ne_zero, Nat.zero_ne_one, nI_m1, u1, u2, cs, le]
    exact hN (fun q hq2 => hq q (by omega)) _ _
  | succ m ih =>
    intro j x6 hj hq
    have le : ¬ s.1 34 v ≤ j := by omega
    rw [i_X0_isBrokenRhyme_18]
    simp (disch := omega) only [i_X0_isBrokenRhyme_20, i_X0_isBrokenRhyme_21, i_X0_isBrokenRhyme_24, i_X0_isBrokenRhyme_27, i_X0_isBrokenRhyme_30, i_X0_isBrokenRhyme_31, gh_o3, gh_o6, gh_r7, gh_w7, gh_u6, gp_6_1, gf_3_0, gf_3_1, gf_3_2, gf_6_0, gf_6_1, sgF_0, sgF_1, sgF_2, sgF_5, sgF_6, sgF_7, sgF_9, sgF_10, wdF_0, wdF_1, wdF_2, wdF_3, lsF_0, lsF_1, lsF_2, z_o_i, z_ai_i, z_si_i, z_ab_b, z_ab_z, z_sb_b, z_sb_z, z_al_i, z_al_b, z_pu_s, z_pu_n, nI_toN, z_inN, true_and, and_true, nI_add, pk_mul, vu_eq, vu_ne, nI_leI, nI_ltI, nI_eqI, nI_eq0, ↓ok_0, ↓ok_1, ↓bI_ok, if_true, if_false, nI_lt0, nI_ge0, ne_eq, not_true_eq_false, not_false_eq_true, bI_eq0, bI_ne0, bI_T, bI_F, Bool.false_eq_true, Nat.one_ne_zero, Nat.zero_ne_one, nI_m1, u1, u2, cs, le]
    refine l_br3 hI hC W0 W1 W2' hw hu hv hi (by omega) hY (fun hn x6 => ?_) (s.1 34 w) 0 (by omega) (fun r hr => absurd hr (Nat.not_lt_zero r))
    exact ih (j + 1) x6 (by omega) (fun q hq2 r hr => by
      by_cases e : q = j
      · rw [e]; exact hn r hr
      · exact hq q (by omega) r hr)
theorem l_br1 {w u v pw pu pv : Nat} (hI : Iv s) (hC : Rc s A P) (W0 : Wq s dy nz ρ w pw) (W1 : Wq s dy nz ρ u pu) (W2 : Wq s dy nz ρ v pv) (hw : w < s.1 32 1) (hu : u < s.1 32 1) (hv : v < s.1 32 1)
    (hQ : Q (some (.int (bI (bk3 s.1 w u v = true)))) (GH A P dy) nx) :
    ∀ (m i : Nat) (x5 x6 : Option Value), i + m = s.1 34 u → (∀ p, p < i → ∀ q, q < s.1 34 v → ∀ r, r < s.1 34 w → ¬ bkq s.1 (3 * w + r) (3 * u + p) (3 * v + q) = true) → X (d + 3) m_X0_isBrokenRhyme 3 [some (.ref 6), some (.ref pw), some (.ref pu), some (.ref pv), some (.int (nI i)), x5, x6] [] (GH A P dy) nx bc bs Q := by
  have W1' := W1
  obtain ⟨l2, b2, e2, c2, m2, g2, K2, u1, u2, u3, u4, u5, u6, u7, u8⟩ := W1
  have c34 := hI.b34 u
  have cs : ∀ {d nx : Nat} {Q : z_Q}, XC d m_Jx4a65c_size_8abf5 [.ref l2] (GH A P dy) nx Q = Q (some (.int (nI (s.1 34 u)))) (GH A P dy) nx := c_size u2
  intro m
  induction m with
  | zero =>
    intro i x5 x6 hi hq
    have le : s.1 34 u ≤ i := by omega
    have no : ¬ bk3 s.1 w u v = true := fun z => by
      obtain ⟨p, q, r, h1, h2, h3, h4⟩ := bk3_iff.mp z
      exact hq q (by omega) r h3 p h1 h4
    rw [bI_f no] at hQ
    simp (disch := omega) only [i_X0_isBrokenRhyme_3, i_X0_isBrokenRhyme_5, i_X0_isBrokenRhyme_6, i_X0_isBrokenRhyme_9, i_X0_isBrokenRhyme_12, i_X0_isBrokenRhyme_108, i_X0_isBrokenRhyme_109, gh_o3, gh_o6, gh_r7, gh_w7, gh_u6, gp_6_1, gf_3_0, gf_3_1, gf_3_2, gf_6_0, gf_6_1, sgF_0, sgF_1, sgF_2, sgF_5, sgF_6, sgF_7, sgF_9, sgF_10, wdF_0, wdF_1, wdF_2, wdF_3, lsF_0, lsF_1, lsF_2, z_o_i, z_ai_i, z_si_i, z_ab_b, z_ab_z, z_sb_b, z_sb_z, z_al_i, z_al_b, z_pu_s, z_pu_n, nI_toN, z_inN, true_and, and_true, nI_add, pk_mul, vu_eq, vu_ne, nI_leI, nI_ltI, nI_eqI, nI_eq0, ↓ok_0, ↓ok_1, ↓bI_ok, if_true, if_false, nI_lt0, nI_ge0, ne_eq, not_true_eq_false, not_false_eq_true, bI_eq0, bI_ne0, bI_T, bI_F, Bool.false_eq_true, Nat.one_ne_zero, Nat.zero_ne_one, nI_m1, u1, u2, cs, le]
    exact hQ
  | succ m ih =>
    intro i x5 x6 hi hq
    have le : ¬ s.1 34 u ≤ i := by omega
    rw [i_X0_isBrokenRhyme_3]
    simp (disch := omega) only [i_X0_isBrokenRhyme_5, i_X0_isBrokenRhyme_6, i_X0_isBrokenRhyme_9, i_X0_isBrokenRhyme_12, i_X0_isBrokenRhyme_15, i_X0_isBrokenRhyme_16, gh_o3, gh_o6, gh_r7, gh_w7, gh_u6, gp_6_1, gf_3_0, gf_3_1, gf_3_2, gf_6_0, gf_6_1, sgF_0, sgF_1, sgF_2, sgF_5, sgF_6, sgF_7, sgF_9, sgF_10, wdF_0, wdF_1, wdF_2, wdF_3, lsF_0, lsF_1, lsF_2, z_o_i, z_ai_i, z_si_i, z_ab_b, z_ab_z, z_sb_b, z_sb_z, z_al_i, z_al_b, z_pu_s, z_pu_n, nI_toN, z_inN, true_and, and_true, nI_add, pk_mul, vu_eq, vu_ne, nI_leI, nI_ltI, nI_eqI, nI_eq0, ↓ok_0, ↓ok_1, ↓bI_ok, if_true, if_false, nI_lt0, nI_ge0, ne_eq, not_true_eq_false, not_false_eq_true, bI_eq0, bI_ne0, bI_T, bI_F, Bool.false_eq_true, Nat.one_ne_zero, Nat.zero_ne_one, nI_m1, u1, u2, cs, le]
    refine l_br2 hI hC W0 W1' W2 hw hu hv (by omega) (fun z => by rw [bI_t z] at hQ; exact hQ) (fun hn x5 x6 => ?_) (s.1 34 v) 0 _ (by omega) (fun q hq => absurd hq (Nat.not_lt_zero q))
    exact ih (i + 1) x5 x6 (by omega) (fun p hp q hq2 r hr => by
      by_cases e : p = i
      · rw [e]; exact hn q hq2 r hr
      · exact hq p (by omega) q hq2 r hr)
theorem k_brk {w u v pw pu pv : Nat} (hI : Iv s) (hC : Rc s A P) (W0 : Wq s dy nz ρ w pw) (W1 : Wq s dy nz ρ u pu) (W2 : Wq s dy nz ρ v pv) (hw : w < s.1 32 1) (hu : u < s.1 32 1) (hv : v < s.1 32 1) (hQ : Q (some (.int (bI (bk3 s.1 w u v = true)))) (GH A P dy) nx) : XC (d + 3) m_X0_isBrokenRhyme [.ref 6, .ref pw, .ref pu, .ref pv] (GH A P dy) nx Q := by
  show X (d + 3) m_X0_isBrokenRhyme 0 [some (.ref 6), some (.ref pw), some (.ref pu), some (.ref pv), none, none, none] [] (GH A P dy) nx 0 0 Q
  rw [i_X0_isBrokenRhyme_0, i_X0_isBrokenRhyme_1]
  exact l_br1 hI hC W0 W1 W2 hw hu hv hQ (s.1 34 u) 0 none none (by omega) (fun p hp => absurd hp (Nat.not_lt_zero p))
/-- eye rhymes -/
theorem k_eye {w u pw pu : Nat} (hI : Iv s) (W0 : Wq s dy nz ρ w pw) (W1 : Wq s dy nz ρ u pu) : XC d m_X6_looksLike [.ref pw, .ref pu] (GH A P dy) nx Q = Q (some (.int (bI (eyq s.1 s.2 w u = true)))) (GH A P dy) nx := by
  show X d m_X6_looksLike 0 [some (.ref pw), some (.ref pu), none] [] (GH A P dy) nx 0 0 Q = _
  obtain ⟨l, b, e, c, mm, g, K, w1, w2, w3, w4, w5, w6, w7, w8⟩ := W0
  obtain ⟨l', b', e', c', mm', g', K', v1, v2, v3, v4, v5, v6, v7, v8⟩ := W1
  have b38 := hI.b38 w
  have c38 := hI.b38 u
  have m3 : ((nI 0 - nI 1 : Int32) < nI 3) = True := by simp only [eq_iff_iff, iff_true]; decide
  have m4 : (nI 3 ≤ (nI 0 - nI 1 : Int32)) = False := by simp only [eq_iff_iff, iff_false]; decide
  obtain ⟨E, hE⟩ : ∃ E, eyq s.1 s.2 w u = E := ⟨_, rfl⟩
  rw [hE]
  have hE' : E = true ↔ 4 ≤ s.1 38 w ∧ 4 ≤ s.1 38 u ∧ s.2 (8 * w + (s.1 38 w - 1) - 1) = s.2 (8 * u + (s.1 38 u - 1) - 1) ∧ s.2 (8 * w + (s.1 38 w - 1) - (1 + 1)) = s.2 (8 * u + (s.1 38 u - 1) - (1 + 1)) ∧ s.2 (8 * w + (s.1 38 w - 1) - (1 + 1 + 1)) = s.2 (8 * u + (s.1 38 u - 1) - (1 + 1 + 1)) := by
    rw [← hE, eyq, decide_eq_true_eq]
  by_cases z0 : s.1 38 w = 0
  · have w1' : GH A P dy pw = .inr (.inl (6, wdF (nI (s.1 33 w)) l b (nI 0 - nI 1))) := by rw [w1, z0]
    rw [bI_f (c := E = true) (by rw [hE']; omega)]
    simp (disch := omega) only [i_X6_looksLike_0, i_X6_looksLike_1, i_X6_looksLike_4, i_X6_looksLike_5, i_X6_looksLike_16, i_X6_looksLike_17, gh_o3, gh_o6, gh_r7, gh_w7, gh_u6, gp_6_1, gf_3_0, gf_3_1, gf_3_2, gf_6_0, gf_6_1, sgF_0, sgF_1, sgF_2, sgF_5, sgF_6, sgF_7, sgF_9, sgF_10, wdF_0, wdF_1, wdF_2, wdF_3, lsF_0, lsF_1, lsF_2, z_o_i, z_ai_i, z_si_i, z_ab_b, z_ab_z, z_sb_b, z_sb_z, z_al_i, z_al_b, z_pu_s, z_pu_n, nI_toN, z_inN, true_and, and_true, nI_add, pk_mul, vu_eq, vu_ne, nI_leI, nI_ltI, nI_eqI, nI_eq0, ↓ok_0, ↓ok_1, ↓bI_ok, if_true, if_false, nI_lt0, nI_ge0, ne_eq, not_true_eq_false, not_false_eq_true, bI_eq0, bI_ne0, bI_T, bI_F, Bool.false_eq_true, Nat.one_ne_zero, Nat.zero_ne_one, nI_m1, w1', m3]
  · have w1' : GH A P dy pw = .inr (.inl (6, wdF (nI (s.1 33 w)) l b (nI (s.1 38 w - 1)))) := by rw [w1, pk_sub (by omega)]
    by_cases y0 : s.1 38 w - 1 < 3
    · rw [bI_f (c := E = true) (by rw [hE']; omega)]
      simp (disch := omega) only [i_X6_looksLike_0, i_X6_looksLike_1, i_X6_looksLike_4, i_X6_looksLike_5, i_X6_looksLike_16, i_X6_looksLike_17, gh_o3, gh_o6, gh_r7, gh_w7, gh_u6, gp_6_1, gf_3_0, gf_3_1, gf_3_2, gf_6_0, gf_6_1, sgF_0, sgF_1, sgF_2, sgF_5, sgF_6, sgF_7, sgF_9, sgF_10, wdF_0, wdF_1, wdF_2, wdF_3, lsF_0, lsF_1, lsF_2, z_o_i, z_ai_i, z_si_i, z_ab_b, z_ab_z, z_sb_b, z_sb_z, z_al_i, z_al_b, z_pu_s, z_pu_n, nI_toN, z_inN, true_and, and_true, nI_add, pk_mul, vu_eq, vu_ne, nI_leI, nI_ltI, nI_eqI, nI_eq0, ↓ok_0, ↓ok_1, ↓bI_ok, if_true, if_false, nI_lt0, nI_ge0, ne_eq, not_true_eq_false, not_false_eq_true, bI_eq0, bI_ne0, bI_T, bI_F, Bool.false_eq_true, Nat.one_ne_zero, Nat.zero_ne_one, nI_m1, w1', y0]
    · by_cases z1 : s.1 38 u = 0
      · have v1' : GH A P dy pu = .inr (.inl (6, wdF (nI (s.1 33 u)) l' b' (nI 0 - nI 1))) := by rw [v1, z1]
        rw [bI_f (c := E = true) (by rw [hE']; omega)]
        simp (disch := omega) only [i_X6_looksLike_0, i_X6_looksLike_1, i_X6_looksLike_4, i_X6_looksLike_5, i_X6_looksLike_8, i_X6_looksLike_9, i_X6_looksLike_12, i_X6_looksLike_13, i_X6_looksLike_16, i_X6_looksLike_17, gh_o3, gh_o6, gh_r7, gh_w7, gh_u6, gp_6_1, gf_3_0, gf_3_1, gf_3_2, gf_6_0, gf_6_1, sgF_0, sgF_1, sgF_2, sgF_5, sgF_6, sgF_7, sgF_9, sgF_10, wdF_0, wdF_1, wdF_2, wdF_3, lsF_0, lsF_1, lsF_2, z_o_i, z_ai_i, z_si_i, z_ab_b, z_ab_z, z_sb_b, z_sb_z, z_al_i, z_al_b, z_pu_s, z_pu_n, nI_toN, z_inN, true_and, and_true, nI_add, pk_mul, vu_eq, vu_ne, nI_leI, nI_ltI, nI_eqI, nI_eq0, ↓ok_0, ↓ok_1, ↓bI_ok, if_true, if_false, nI_lt0, nI_ge0, ne_eq, not_true_eq_false, not_false_eq_true, bI_eq0, bI_ne0, bI_T, bI_F, Bool.false_eq_true, Nat.one_ne_zero, Nat.zero_ne_one, nI_m1, w1', v1', y0, m4]
      · have v1' : GH A P dy pu = .inr (.inl (6, wdF (nI (s.1 33 u)) l' b' (nI (s.1 38 u - 1)))) := by rw [v1, pk_sub (by omega)]
        by_cases y1 : 3 ≤ s.1 38 u - 1
        · have step : ∀ k, 1 ≤ k → k ≤ 3 → X d m_X6_looksLike 20 [some (.ref pw), some (.ref pu), some (.int (nI k))] [] (GH A P dy) nx 0 0 Q = if s.2 (8 * w + (s.1 38 w - 1) - k) = s.2 (8 * u + (s.1 38 u - 1) - k) then X d m_X6_looksLike 20 [some (.ref pw), some (.ref pu), some (.int (nI (k + 1)))] [] (GH A P dy) nx 0 0 Q else Q (some (.int (nI 0))) (GH A P dy) nx := by
            intro k k1 k3
            have n3 : ¬ 3 < k := by omega
            have q0 := w5 z0 (s.1 38 w - 1 - k) (by omega)
            have q1 := v5 z1 (s.1 38 u - 1 - k) (by omega)
            have s0 : (nI (s.1 38 w - 1) - nI k : Int32) = nI (s.1 38 w - 1 - k) := pk_sub (by omega)
            have s1 : (nI (s.1 38 u - 1) - nI k : Int32) = nI (s.1 38 u - 1 - k) := pk_sub (by omega)
            rw [show 8 * w + (s.1 38 w - 1) - k = 8 * w + (s.1 38 w - 1 - k) by omega, show 8 * u + (s.1 38 u - 1) - k = 8 * u + (s.1 38 u - 1 - k) by omega]
            rw [i_X6_looksLike_20]
            simp (disch := omega) only [i_X6_looksLike_21, i_X6_looksLike_22, i_X6_looksLike_25, i_X6_looksLike_26, i_X6_looksLike_29, i_X6_looksLike_30, i_X6_looksLike_33, i_X6_looksLike_34, i_X6_looksLike_35, i_X6_looksLike_36, i_X6_looksLike_37, i_X6_looksLike_40, i_X6_looksLike_41, i_X6_looksLike_44, i_X6_looksLike_45, i_X6_looksLike_46, i_X6_looksLike_47, i_X6_looksLike_50, i_X6_looksLike_51, i_X6_looksLike_52, i_X6_looksLike_55, gh_o3, gh_o6, gh_r7, gh_w7, gh_u6, gp_6_1, gf_3_0, gf_3_1, gf_3_2, gf_6_0, gf_6_1, sgF_0, sgF_1, sgF_2, sgF_5, sgF_6, sgF_7, sgF_9, sgF_10, wdF_0, wdF_1, wdF_2, wdF_3, lsF_0, lsF_1, lsF_2, z_o_i, z_ai_i, z_si_i, z_ab_b, z_ab_z, z_sb_b, z_sb_z, z_al_i, z_al_b, z_pu_s, z_pu_n, nI_toN, z_inN, true_and, and_true, nI_add, pk_mul, vu_eq, vu_ne, nI_leI, nI_ltI, nI_eqI, nI_eq0, ↓ok_0, ↓ok_1, ↓bI_ok, if_true, if_false, nI_lt0, nI_ge0, ne_eq, not_true_eq_false, not_false_eq_true, bI_eq0, bI_ne0, bI_T, bI_F, Bool.false_eq_true, Nat.one_ne_zero, Nat.zero_ne_one, nI_m1, w1', v1', w4, v4, n3, s0, s1, q0, q1]
          simp (disch := omega) only [i_X6_looksLike_0, i_X6_looksLike_1, i_X6_looksLike_4, i_X6_looksLike_5, i_X6_looksLike_8, i_X6_looksLike_9, i_X6_looksLike_12, i_X6_looksLike_13, i_X6_looksLike_18, i_X6_looksLike_19, gh_o3, gh_o6, gh_r7, gh_w7, gh_u6, gp_6_1, gf_3_0, gf_3_1, gf_3_2, gf_6_0, gf_6_1, sgF_0, sgF_1, sgF_2, sgF_5, sgF_6, sgF_7, sgF_9, sgF_10, wdF_0, wdF_1, wdF_2, wdF_3, lsF_0, lsF_1, lsF_2, z_o_i, z_ai_i, z_si_i, z_ab_b, z_ab_z, z_sb_b, z_sb_z, z_al_i, z_al_b, z_pu_s, z_pu_n, nI_toN, z_inN, true_and, and_true, nI_add, pk_mul, vu_eq, vu_ne, nI_leI, nI_ltI, nI_eqI, nI_eq0, ↓ok_0, ↓ok_1, ↓bI_ok, if_true, if_false, nI_lt0, nI_ge0, ne_eq, not_true_eq_false, not_false_eq_true, bI_eq0, bI_ne0, bI_T, bI_F, Bool.false_eq_true, Nat.one_ne_zero, Nat.zero_ne_one, nI_m1, w1', v1', y0, y1]
          have fin : X d m_X6_looksLike 20 [some (.ref pw), some (.ref pu), some (.int (nI (1 + 1 + 1 + 1)))] [] (GH A P dy) nx 0 0 Q = Q (some (.int (nI 1))) (GH A P dy) nx := by
            have n3 : 3 < 1 + 1 + 1 + 1 := by omega
            simp (disch := omega) only [i_X6_looksLike_20, i_X6_looksLike_21, i_X6_looksLike_22, i_X6_looksLike_58, i_X6_looksLike_59, gh_o3, gh_o6, gh_r7, gh_w7, gh_u6, gp_6_1, gf_3_0, gf_3_1, gf_3_2, gf_6_0, gf_6_1, sgF_0, sgF_1, sgF_2, sgF_5, sgF_6, sgF_7, sgF_9, sgF_10, wdF_0, wdF_1, wdF_2, wdF_3, lsF_0, lsF_1, lsF_2, z_o_i, z_ai_i, z_si_i, z_ab_b, z_ab_z, z_sb_b, z_sb_z, z_al_i, z_al_b, z_pu_s, z_pu_n, nI_toN, z_inN, true_and, and_true, nI_add, pk_mul, vu_eq, vu_ne, nI_leI, nI_ltI, nI_eqI, nI_eq0, ↓ok_0, ↓ok_1, ↓bI_ok, if_true, if_false, nI_lt0, nI_ge0, ne_eq, not_true_eq_false, not_false_eq_true, bI_eq0, bI_ne0, bI_T, bI_F, Bool.false_eq_true, Nat.one_ne_zero, Nat.zero_ne_one, nI_m1, n3]
          rw [step 1 (by omega) (by omega), step (1 + 1) (by omega) (by omega), step (1 + 1 + 1) (by omega) (by omega), fin]
          by_cases q1 : s.2 (8 * w + (s.1 38 w - 1) - 1) = s.2 (8 * u + (s.1 38 u - 1) - 1)
          · by_cases q2 : s.2 (8 * w + (s.1 38 w - 1) - (1 + 1)) = s.2 (8 * u + (s.1 38 u - 1) - (1 + 1))
            · by_cases q3 : s.2 (8 * w + (s.1 38 w - 1) - (1 + 1 + 1)) = s.2 (8 * u + (s.1 38 u - 1) - (1 + 1 + 1))
              · rw [if_pos q1, if_pos q2, if_pos q3, bI_t (c := E = true) (by rw [hE']; exact ⟨by omega, by omega, q1, q2, q3⟩)]
              · rw [if_pos q1, if_pos q2, if_neg q3, bI_f (c := E = true) (by rw [hE']; exact fun z => q3 z.2.2.2.2)]
            · rw [if_pos q1, if_neg q2, bI_f (c := E = true) (by rw [hE']; exact fun z => q2 z.2.2.2.1)]
          · rw [if_neg q1, bI_f (c := E = true) (by rw [hE']; exact fun z => q1 z.2.2.1)]
        · rw [bI_f (c := E = true) (by rw [hE']; omega)]
          simp (disch := omega) only [i_X6_looksLike_0, i_X6_looksLike_1, i_X6_looksLike_4, i_X6_looksLike_5, i_X6_looksLike_8, i_X6_looksLike_9, i_X6_looksLike_12, i_X6_looksLike_13, i_X6_looksLike_16, i_X6_looksLike_17, gh_o3, gh_o6, gh_r7, gh_w7, gh_u6, gp_6_1, gf_3_0, gf_3_1, gf_3_2, gf_6_0, gf_6_1, sgF_0, sgF_1, sgF_2, sgF_5, sgF_6, sgF_7, sgF_9, sgF_10, wdF_0, wdF_1, wdF_2, wdF_3, lsF_0, lsF_1, lsF_2, z_o_i, z_ai_i, z_si_i, z_ab_b, z_ab_z, z_sb_b, z_sb_z, z_al_i, z_al_b, z_pu_s, z_pu_n, nI_toN, z_inN, true_and, and_true, nI_add, pk_mul, vu_eq, vu_ne, nI_leI, nI_ltI, nI_eqI, nI_eq0, ↓ok_0, ↓ok_1, ↓bI_ok, if_true, if_false, nI_lt0, nI_ge0, ne_eq, not_true_eq_false, not_false_eq_true, bI_eq0, bI_ne0, bI_T, bI_F, Bool.false_eq_true, Nat.one_ne_zero, Nat.zero_ne_one, nI_m1, w1', v1', y0, y1]
/-- firstPair of two words by number -/
theorem k_fp {w u kind : Nat} (hI : Iv s) (hC : Rc s A P) (hD : Rd s A P dy nz wd ln) (hw : w < s.1 32 1) (hu : u < s.1 32 1) (hk : kind ≤ 6) (hQ : ∀ B U, Fe A B P U → Q (some (.int (oI (hwq s.1 s.2 w u kind)))) (GH B U dy) nx) : XC (d + 4) m_X7_firstPair [.ref 3, .int (nI w), .int (nI u), .int (nI kind)] (GH A P dy) nx Q := by
  show X (d + 4) m_X7_firstPair 0 [some (.ref 3), some (.int (nI w)), some (.int (nI u)), some (.int (nI kind)), none, none] [] (GH A P dy) nx 0 0 Q
  have sc := hI.sc
  have kW : ∀ {d nx : Nat} {Q : z_Q} {w : Nat}, w < s.1 32 1 → XC (d + 3) m_X7_wordAt [.ref 3, .int (nI w)] (GH A P dy) nx Q = Q (some (.ref (wd w))) (GH A P dy) nx := fun h => k_wordAt hD h
  obtain ⟨ρ, c4, c5, _, _, _, _, h5, _⟩ := hD
  have W0 := (h5 w hw).wq
  have W1 := (h5 u hu).wq
  have q := hQ A P (Fe.rf hC)
  by_cases e : w = u
  · rw [hwq, if_pos e] at q
    simp (disch := omega) only [i_X7_firstPair_0, i_X7_firstPair_0n, i_X7_firstPair_1, i_X7_firstPair_2, i_X7_firstPair_5, i_X7_firstPair_5n, i_X7_firstPair_7, i_X7_firstPair_7n, i_X7_firstPair_8, i_X7_firstPair_9, i_X7_firstPair_12, i_X7_firstPair_12n, i_X7_firstPair_14, i_X7_firstPair_15, i_X7_firstPair_16, i_X7_firstPair_29, i_X7_firstPair_30, gh_o3, gh_o6, gh_r7, gh_w7, gh_u6, gp_6_1, gf_3_0, gf_3_1, gf_3_2, gf_6_0, gf_6_1, sgF_0, sgF_1, sgF_2, sgF_5, sgF_6, sgF_7, sgF_9, sgF_10, wdF_0, wdF_1, wdF_2, wdF_3, lsF_0, lsF_1, lsF_2, z_o_i, z_ai_i, z_si_i, z_ab_b, z_ab_z, z_sb_b, z_sb_z, z_al_i, z_al_b, z_pu_s, z_pu_n, nI_toN, z_inN, true_and, and_true, nI_add, pk_mul, vu_eq, vu_ne, nI_leI, nI_ltI, nI_eqI, nI_eq0, ↓ok_0, ↓ok_1, ↓bI_ok, if_true, if_false, nI_lt0, nI_ge0, ne_eq, not_true_eq_false, not_false_eq_true, bI_eq0, bI_ne0, bI_T, bI_F, Bool.false_eq_true, Nat.one_ne_zero, Nat.zero_ne_one, nI_m1, kW, e]
    exact q
  · by_cases k5 : kind = 5
    · rw [hwq, if_neg e, if_pos k5] at q
      subst k5
      have kE : ∀ {d nx : Nat} {Q : z_Q}, XC d m_X6_looksLike [.ref (wd w), .ref (wd u)] (GH A P dy) nx Q = _ := k_eye hI W0 W1
      obtain ⟨l, b, ee, c, mm, g, K, w1, _⟩ := W0
      by_cases c : eyq s.1 s.2 w u = true
      · rw [if_pos c] at q
        simp (disch := omega) only [i_X7_firstPair_0, i_X7_firstPair_0n, i_X7_firstPair_1, i_X7_firstPair_2, i_X7_firstPair_5, i_X7_firstPair_5n, i_X7_firstPair_7, i_X7_firstPair_7n, i_X7_firstPair_8, i_X7_firstPair_9, i_X7_firstPair_12, i_X7_firstPair_12n, i_X7_firstPair_14, i_X7_firstPair_15, i_X7_firstPair_16, i_X7_firstPair_19, i_X7_firstPair_19n, i_X7_firstPair_21, i_X7_firstPair_21n, i_X7_firstPair_24, i_X7_firstPair_24n, i_X7_firstPair_26, i_X7_firstPair_26n, i_X7_firstPair_31, i_X7_firstPair_32, i_X7_firstPair_33, i_X7_firstPair_36, i_X7_firstPair_36n, i_X7_firstPair_38, i_X7_firstPair_38n, i_X7_firstPair_40, i_X7_firstPair_43, i_X7_firstPair_46, i_X7_firstPair_47, i_X7_firstPair_50, i_X7_firstPair_51, gh_o3, gh_o6, gh_r7, gh_w7, gh_u6, gp_6_1, gf_3_0, gf_3_1, gf_3_2, gf_6_0, gf_6_1, sgF_0, sgF_1, sgF_2, sgF_5, sgF_6, sgF_7, sgF_9, sgF_10, wdF_0, wdF_1, wdF_2, wdF_3, lsF_0, lsF_1, lsF_2, z_o_i, z_ai_i, z_si_i, z_ab_b, z_ab_z, z_sb_b, z_sb_z, z_al_i, z_al_b, z_pu_s, z_pu_n, nI_toN, z_inN, true_and, and_true, nI_add, pk_mul, vu_eq, vu_ne, nI_leI, nI_ltI, nI_eqI, nI_eq0, ↓ok_0, ↓ok_1, ↓bI_ok, if_true, if_false, nI_lt0, nI_ge0, ne_eq, not_true_eq_false, not_false_eq_true, bI_eq0, bI_ne0, bI_T, bI_F, Bool.false_eq_true, Nat.one_ne_zero, Nat.zero_ne_one, nI_m1, kW, kE, w1, e, c]
        exact q
      · rw [if_neg c] at q
        simp (disch := omega) only [i_X7_firstPair_0, i_X7_firstPair_0n, i_X7_firstPair_1, i_X7_firstPair_2, i_X7_firstPair_5, i_X7_firstPair_5n, i_X7_firstPair_7, i_X7_firstPair_7n, i_X7_firstPair_8, i_X7_firstPair_9, i_X7_firstPair_12, i_X7_firstPair_12n, i_X7_firstPair_14, i_X7_firstPair_15, i_X7_firstPair_16, i_X7_firstPair_19, i_X7_firstPair_19n, i_X7_firstPair_21, i_X7_firstPair_21n, i_X7_firstPair_24, i_X7_firstPair_24n, i_X7_firstPair_26, i_X7_firstPair_26n, i_X7_firstPair_31, i_X7_firstPair_32, i_X7_firstPair_33, i_X7_firstPair_36, i_X7_firstPair_36n, i_X7_firstPair_38, i_X7_firstPair_38n, i_X7_firstPair_40, i_X7_firstPair_43, i_X7_firstPair_46, i_X7_firstPair_47, i_X7_firstPair_50, i_X7_firstPair_51, gh_o3, gh_o6, gh_r7, gh_w7, gh_u6, gp_6_1, gf_3_0, gf_3_1, gf_3_2, gf_6_0, gf_6_1, sgF_0, sgF_1, sgF_2, sgF_5, sgF_6, sgF_7, sgF_9, sgF_10, wdF_0, wdF_1, wdF_2, wdF_3, lsF_0, lsF_1, lsF_2, z_o_i, z_ai_i, z_si_i, z_ab_b, z_ab_z, z_sb_b, z_sb_z, z_al_i, z_al_b, z_pu_s, z_pu_n, nI_toN, z_inN, true_and, and_true, nI_add, pk_mul, vu_eq, vu_ne, nI_leI, nI_ltI, nI_eqI, nI_eq0, ↓ok_0, ↓ok_1, ↓bI_ok, if_true, if_false, nI_lt0, nI_ge0, ne_eq, not_true_eq_false, not_false_eq_true, bI_eq0, bI_ne0, bI_T, bI_F, Bool.false_eq_true, Nat.one_ne_zero, Nat.zero_ne_one, nI_m1, kW, kE, w1, e, c]
        exact q
    · simp (disch := omega) only [i_X7_firstPair_0, i_X7_firstPair_0n, i_X7_firstPair_1, i_X7_firstPair_2, i_X7_firstPair_5, i_X7_firstPair_5n, i_X7_firstPair_7, i_X7_firstPair_7n, i_X7_firstPair_8, i_X7_firstPair_9, i_X7_firstPair_12, i_X7_firstPair_12n, i_X7_firstPair_14, i_X7_firstPair_15, i_X7_firstPair_16, i_X7_firstPair_19, i_X7_firstPair_19n, i_X7_firstPair_21, i_X7_firstPair_21n, i_X7_firstPair_24, i_X7_firstPair_24n, i_X7_firstPair_26, i_X7_firstPair_26n, i_X7_firstPair_31, i_X7_firstPair_32, i_X7_firstPair_33, i_X7_firstPair_52, i_X7_firstPair_52n, i_X7_firstPair_53, i_X7_firstPair_56, i_X7_firstPair_56n, i_X7_firstPair_58, i_X7_firstPair_58n, i_X7_firstPair_60, i_X7_firstPair_61, gh_o3, gh_o6, gh_r7, gh_w7, gh_u6, gp_6_1, gf_3_0, gf_3_1, gf_3_2, gf_6_0, gf_6_1, sgF_0, sgF_1, sgF_2, sgF_5, sgF_6, sgF_7, sgF_9, sgF_10, wdF_0, wdF_1, wdF_2, wdF_3, lsF_0, lsF_1, lsF_2, z_o_i, z_ai_i, z_si_i, z_ab_b, z_ab_z, z_sb_b, z_sb_z, z_al_i, z_al_b, z_pu_s, z_pu_n, nI_toN, z_inN, true_and, and_true, nI_add, pk_mul, vu_eq, vu_ne, nI_leI, nI_ltI, nI_eqI, nI_eq0, ↓ok_0, ↓ok_1, ↓bI_ok, if_true, if_false, nI_lt0, nI_ge0, ne_eq, not_true_eq_false, not_false_eq_true, bI_eq0, bI_ne0, bI_T, bI_F, Bool.false_eq_true, Nat.one_ne_zero, Nat.zero_ne_one, nI_m1, kW, e, k5]
      refine k_fpE hI hC W0 W1 hw hu hk k5 (fun B U hF => ?_)
      have q2 := hQ B U hF
      rw [hwq, if_neg e, if_neg k5] at q2
      simp (disch := omega) only [i_X7_firstPair_64, gh_o3, gh_o6, gh_r7, gh_w7, gh_u6, gp_6_1, gf_3_0, gf_3_1, gf_3_2, gf_6_0, gf_6_1, sgF_0, sgF_1, sgF_2, sgF_5, sgF_6, sgF_7, sgF_9, sgF_10, wdF_0, wdF_1, wdF_2, wdF_3, lsF_0, lsF_1, lsF_2, z_o_i, z_ai_i, z_si_i, z_ab_b, z_ab_z, z_sb_b, z_sb_z, z_al_i, z_al_b, z_pu_s, z_pu_n, nI_toN, z_inN, true_and, and_true, nI_add, pk_mul, vu_eq, vu_ne, nI_leI, nI_ltI, nI_eqI, nI_eq0, ↓ok_0, ↓ok_1, ↓bI_ok, if_true, if_false, nI_lt0, nI_ge0, ne_eq, not_true_eq_false, not_false_eq_true, bI_eq0, bI_ne0, bI_T, bI_F, Bool.false_eq_true, Nat.one_ne_zero, Nat.zero_ne_one, nI_m1]
      exact q2
theorem k_ask {w u k : Int32} (hI : Iv s) (hD : Rd s A P dy nz wd ln) : XC (d + 4) m_X7_areWordsAndKind [.ref 3, .int w, .int u, .int k] (GH A P dy) nx Q = Q (some (.int (bI (ask s w u k = true)))) (GH A P dy) nx := by
  show X (d + 4) m_X7_areWordsAndKind 0 [some (.ref 3), some (.int w), some (.int u), some (.int k)] [] (GH A P dy) nx 0 0 Q = _
  have sc := hI.sc
  have kW : ∀ {d nx : Nat} {Q : z_Q} {w : Nat}, w < s.1 32 1 → XC (d + 3) m_X7_wordAt [.ref 3, .int (nI w)] (GH A P dy) nx Q = Q (some (.ref (wd w))) (GH A P dy) nx := fun h => k_wordAt hD h
  have kN : ∀ {d nx : Nat} {Q : z_Q} {x : Int32}, ¬ iw x (s.1 32 1) = true → XC (d + 3) m_X7_wordAt [.ref 3, .int x] (GH A P dy) nx Q = Q (some .null) (GH A P dy) nx := fun h => k_wordAtN hD sc.1 h
  by_cases hw : iw w (s.1 32 1) = true
  · obtain ⟨a, h1, rfl⟩ := iw_ex hw
    by_cases hu : iw u (s.1 32 1) = true
    · obtain ⟨b, h2, rfl⟩ := iw_ex hu
      by_cases hk : iw k 7 = true
      · obtain ⟨c, h3, rfl⟩ := iw_ex hk
        have n6 : ¬ 6 < c := by omega
        rw [bI_t (c := ask s (nI a) (nI b) (nI c) = true) (by simp [ask, hw, hu, hk])]
        simp (disch := omega) only [i_X7_areWordsAndKind_0, i_X7_areWordsAndKind_0n, i_X7_areWordsAndKind_1, i_X7_areWordsAndKind_2, i_X7_areWordsAndKind_5, i_X7_areWordsAndKind_5n, i_X7_areWordsAndKind_8, i_X7_areWordsAndKind_8n, i_X7_areWordsAndKind_9, i_X7_areWordsAndKind_10, i_X7_areWordsAndKind_13, i_X7_areWordsAndKind_13n, i_X7_areWordsAndKind_16, i_X7_areWordsAndKind_17, i_X7_areWordsAndKind_20, i_X7_areWordsAndKind_21, i_X7_areWordsAndKind_23, i_X7_areWordsAndKind_26, i_X7_areWordsAndKind_27, i_X7_areWordsAndKind_30, i_X7_areWordsAndKind_31, gh_o3, gh_o6, gh_r7, gh_w7, gh_u6, gp_6_1, gf_3_0, gf_3_1, gf_3_2, gf_6_0, gf_6_1, sgF_0, sgF_1, sgF_2, sgF_5, sgF_6, sgF_7, sgF_9, sgF_10, wdF_0, wdF_1, wdF_2, wdF_3, lsF_0, lsF_1, lsF_2, z_o_i, z_ai_i, z_si_i, z_ab_b, z_ab_z, z_sb_b, z_sb_z, z_al_i, z_al_b, z_pu_s, z_pu_n, nI_toN, z_inN, true_and, and_true, nI_add, pk_mul, vu_eq, vu_ne, nI_leI, nI_ltI, nI_eqI, nI_eq0, ↓ok_0, ↓ok_1, ↓bI_ok, if_true, if_false, nI_lt0, nI_ge0, ne_eq, not_true_eq_false, not_false_eq_true, bI_eq0, bI_ne0, bI_T, bI_F, Bool.false_eq_true, Nat.one_ne_zero, Nat.zero_ne_one, nI_m1, kW, n6]
      · rw [bI_f (c := ask s (nI a) (nI b) k = true) (by simp [ask, hk])]
        by_cases k0 : k < 0
        · simp (disch := omega) only [i_X7_areWordsAndKind_0, i_X7_areWordsAndKind_0n, i_X7_areWordsAndKind_1, i_X7_areWordsAndKind_2, i_X7_areWordsAndKind_5, i_X7_areWordsAndKind_5n, i_X7_areWordsAndKind_8, i_X7_areWordsAndKind_8n, i_X7_areWordsAndKind_9, i_X7_areWordsAndKind_10, i_X7_areWordsAndKind_13, i_X7_areWordsAndKind_13n, i_X7_areWordsAndKind_16, i_X7_areWordsAndKind_17, i_X7_areWordsAndKind_20, i_X7_areWordsAndKind_21, i_X7_areWordsAndKind_23, i_X7_areWordsAndKind_26, i_X7_areWordsAndKind_27, i_X7_areWordsAndKind_30, i_X7_areWordsAndKind_31, gh_o3, gh_o6, gh_r7, gh_w7, gh_u6, gp_6_1, gf_3_0, gf_3_1, gf_3_2, gf_6_0, gf_6_1, sgF_0, sgF_1, sgF_2, sgF_5, sgF_6, sgF_7, sgF_9, sgF_10, wdF_0, wdF_1, wdF_2, wdF_3, lsF_0, lsF_1, lsF_2, z_o_i, z_ai_i, z_si_i, z_ab_b, z_ab_z, z_sb_b, z_sb_z, z_al_i, z_al_b, z_pu_s, z_pu_n, nI_toN, z_inN, true_and, and_true, nI_add, pk_mul, vu_eq, vu_ne, nI_leI, nI_ltI, nI_eqI, nI_eq0, ↓ok_0, ↓ok_1, ↓bI_ok, if_true, if_false, nI_lt0, nI_ge0, ne_eq, not_true_eq_false, not_false_eq_true, bI_eq0, bI_ne0, bI_T, bI_F, Bool.false_eq_true, Nat.one_ne_zero, Nat.zero_ne_one, nI_m1, kW, k0]
        · have k6 : nI 6 < k := by
            have := (iw_lt (by simpa using hk) (by omega)).resolve_left k0
            rw [Int32.le_iff_toInt_le, nI_toInt (by omega)] at this
            rw [Int32.lt_iff_toInt_lt, nI_toInt (by omega)]
            omega
          simp (disch := omega) only [i_X7_areWordsAndKind_0, i_X7_areWordsAndKind_0n, i_X7_areWordsAndKind_1, i_X7_areWordsAndKind_2, i_X7_areWordsAndKind_5, i_X7_areWordsAndKind_5n, i_X7_areWordsAndKind_8, i_X7_areWordsAndKind_8n, i_X7_areWordsAndKind_9, i_X7_areWordsAndKind_10, i_X7_areWordsAndKind_13, i_X7_areWordsAndKind_13n, i_X7_areWordsAndKind_16, i_X7_areWordsAndKind_17, i_X7_areWordsAndKind_20, i_X7_areWordsAndKind_21, i_X7_areWordsAndKind_23, i_X7_areWordsAndKind_26, i_X7_areWordsAndKind_27, i_X7_areWordsAndKind_30, i_X7_areWordsAndKind_31, gh_o3, gh_o6, gh_r7, gh_w7, gh_u6, gp_6_1, gf_3_0, gf_3_1, gf_3_2, gf_6_0, gf_6_1, sgF_0, sgF_1, sgF_2, sgF_5, sgF_6, sgF_7, sgF_9, sgF_10, wdF_0, wdF_1, wdF_2, wdF_3, lsF_0, lsF_1, lsF_2, z_o_i, z_ai_i, z_si_i, z_ab_b, z_ab_z, z_sb_b, z_sb_z, z_al_i, z_al_b, z_pu_s, z_pu_n, nI_toN, z_inN, true_and, and_true, nI_add, pk_mul, vu_eq, vu_ne, nI_leI, nI_ltI, nI_eqI, nI_eq0, ↓ok_0, ↓ok_1, ↓bI_ok, if_true, if_false, nI_lt0, nI_ge0, ne_eq, not_true_eq_false, not_false_eq_true, bI_eq0, bI_ne0, bI_T, bI_F, Bool.false_eq_true, Nat.one_ne_zero, Nat.zero_ne_one, nI_m1, kW, k0, k6]
    · have kNu : ∀ {d nx : Nat} {Q : z_Q}, XC (d + 3) m_X7_wordAt [.ref 3, .int u] (GH A P dy) nx Q = Q (some .null) (GH A P dy) nx := kN hu
      rw [bI_f (c := ask s (nI a) u k = true) (by simp [ask, hu])]
      simp (disch := omega) only [i_X7_areWordsAndKind_0, i_X7_areWordsAndKind_0n, i_X7_areWordsAndKind_1, i_X7_areWordsAndKind_2, i_X7_areWordsAndKind_5, i_X7_areWordsAndKind_5n, i_X7_areWordsAndKind_8, i_X7_areWordsAndKind_8n, i_X7_areWordsAndKind_9, i_X7_areWordsAndKind_10, i_X7_areWordsAndKind_13, i_X7_areWordsAndKind_13n, i_X7_areWordsAndKind_16, i_X7_areWordsAndKind_17, i_X7_areWordsAndKind_20, i_X7_areWordsAndKind_21, i_X7_areWordsAndKind_23, i_X7_areWordsAndKind_26, i_X7_areWordsAndKind_27, i_X7_areWordsAndKind_30, i_X7_areWordsAndKind_31, gh_o3, gh_o6, gh_r7, gh_w7, gh_u6, gp_6_1, gf_3_0, gf_3_1, gf_3_2, gf_6_0, gf_6_1, sgF_0, sgF_1, sgF_2, sgF_5, sgF_6, sgF_7, sgF_9, sgF_10, wdF_0, wdF_1, wdF_2, wdF_3, lsF_0, lsF_1, lsF_2, z_o_i, z_ai_i, z_si_i, z_ab_b, z_ab_z, z_sb_b, z_sb_z, z_al_i, z_al_b, z_pu_s, z_pu_n, nI_toN, z_inN, true_and, and_true, nI_add, pk_mul, vu_eq, vu_ne, nI_leI, nI_ltI, nI_eqI, nI_eq0, ↓ok_0, ↓ok_1, ↓bI_ok, if_true, if_false, nI_lt0, nI_ge0, ne_eq, not_true_eq_false, not_false_eq_true, bI_eq0, bI_ne0, bI_T, bI_F, Bool.false_eq_true, Nat.one_ne_zero, Nat.zero_ne_one, nI_m1, kW, kNu]
  · have kNw : ∀ {d nx : Nat} {Q : z_Q}, XC (d + 3) m_X7_wordAt [.ref 3, .int w] (GH A P dy) nx Q = Q (some .null) (GH A P dy) nx := kN hw
    rw [bI_f (c := ask s w u k = true) (by simp [ask, hw])]
    simp (disch := omega) only [i_X7_areWordsAndKind_0, i_X7_areWordsAndKind_0n, i_X7_areWordsAndKind_1, i_X7_areWordsAndKind_2, i_X7_areWordsAndKind_5, i_X7_areWordsAndKind_5n, i_X7_areWordsAndKind_8, i_X7_areWordsAndKind_8n, i_X7_areWordsAndKind_9, i_X7_areWordsAndKind_10, i_X7_areWordsAndKind_13, i_X7_areWordsAndKind_13n, i_X7_areWordsAndKind_16, i_X7_areWordsAndKind_17, i_X7_areWordsAndKind_20, i_X7_areWordsAndKind_21, i_X7_areWordsAndKind_23, i_X7_areWordsAndKind_26, i_X7_areWordsAndKind_27, i_X7_areWordsAndKind_30, i_X7_areWordsAndKind_31, gh_o3, gh_o6, gh_r7, gh_w7, gh_u6, gp_6_1, gf_3_0, gf_3_1, gf_3_2, gf_6_0, gf_6_1, sgF_0, sgF_1, sgF_2, sgF_5, sgF_6, sgF_7, sgF_9, sgF_10, wdF_0, wdF_1, wdF_2, wdF_3, lsF_0, lsF_1, lsF_2, z_o_i, z_ai_i, z_si_i, z_ab_b, z_ab_z, z_sb_b, z_sb_z, z_al_i, z_al_b, z_pu_s, z_pu_n, nI_toN, z_inN, true_and, and_true, nI_add, pk_mul, vu_eq, vu_ne, nI_leI, nI_ltI, nI_eqI, nI_eq0, ↓ok_0, ↓ok_1, ↓bI_ok, if_true, if_false, nI_lt0, nI_ge0, ne_eq, not_true_eq_false, not_false_eq_true, bI_eq0, bI_ne0, bI_T, bI_F, Bool.false_eq_true, Nat.one_ne_zero, Nat.zero_ne_one, nI_m1, kNw]
theorem x_how {w u k : Int32} (hI : Iv s) (hK : Cl s A P dy nx) (hQ : ∀ B R, Cl s B R dy nx → Fz A B → Q (some (.int (s_how s w u k))) (GH B R dy) nx) : XC (d + 5) m_X7_how [.ref 3, .int w, .int u, .int k] (GH A P dy) nx Q := by
  show X (d + 5) m_X7_how 0 [some (.ref 3), some (.int w), some (.int u), some (.int k)] [] (GH A P dy) nx 0 0 Q
  have hK' := hK
  obtain ⟨hC, wd, ln, hD⟩ := hK
  have kA : ∀ {d nx : Nat} {Q : z_Q}, XC (d + 4) m_X7_areWordsAndKind [.ref 3, .int w, .int u, .int k] (GH A P dy) nx Q = _ := k_ask hI hD
  unfold s_how at hQ
  by_cases h : ask s w u k = true
  · rw [if_pos h] at hQ
    simp (disch := omega) only [i_X7_how_0, i_X7_how_1, i_X7_how_2, i_X7_how_3, i_X7_how_4, i_X7_how_7, i_X7_how_13, i_X7_how_14, i_X7_how_15, i_X7_how_16, i_X7_how_17, gh_o3, gh_o6, gh_r7, gh_w7, gh_u6, gp_6_1, gf_3_0, gf_3_1, gf_3_2, gf_6_0, gf_6_1, sgF_0, sgF_1, sgF_2, sgF_5, sgF_6, sgF_7, sgF_9, sgF_10, wdF_0, wdF_1, wdF_2, wdF_3, lsF_0, lsF_1, lsF_2, z_o_i, z_ai_i, z_si_i, z_ab_b, z_ab_z, z_sb_b, z_sb_z, z_al_i, z_al_b, z_pu_s, z_pu_n, nI_toN, z_inN, true_and, and_true, nI_add, pk_mul, vu_eq, vu_ne, nI_leI, nI_ltI, nI_eqI, nI_eq0, ↓ok_0, ↓ok_1, ↓bI_ok, if_true, if_false, nI_lt0, nI_ge0, ne_eq, not_true_eq_false, not_false_eq_true, bI_eq0, bI_ne0, bI_T, bI_F, Bool.false_eq_true, Nat.one_ne_zero, Nat.zero_ne_one, nI_m1, kA, h]
    obtain ⟨a, b, c, rfl, rfl, rfl, h1, h2, h3⟩ := ask_ex h
    have sc := hI.sc
    rw [nI_toN (by omega), nI_toN (by omega), nI_toN (by omega)] at hQ
    refine k_fp hI hC hD h1 h2 (by omega) (fun B U hF => ?_)
    simp (disch := omega) only [i_X7_how_20, gh_o3, gh_o6, gh_r7, gh_w7, gh_u6, gp_6_1, gf_3_0, gf_3_1, gf_3_2, gf_6_0, gf_6_1, sgF_0, sgF_1, sgF_2, sgF_5, sgF_6, sgF_7, sgF_9, sgF_10, wdF_0, wdF_1, wdF_2, wdF_3, lsF_0, lsF_1, lsF_2, z_o_i, z_ai_i, z_si_i, z_ab_b, z_ab_z, z_sb_b, z_sb_z, z_al_i, z_al_b, z_pu_s, z_pu_n, nI_toN, z_inN, true_and, and_true, nI_add, pk_mul, vu_eq, vu_ne, nI_leI, nI_ltI, nI_eqI, nI_eq0, ↓ok_0, ↓ok_1, ↓bI_ok, if_true, if_false, nI_lt0, nI_ge0, ne_eq, not_true_eq_false, not_false_eq_true, bI_eq0, bI_ne0, bI_T, bI_F, Bool.false_eq_true, Nat.one_ne_zero, Nat.zero_ne_one, nI_m1]
    exact hQ B U (hF.cl hK') hF.fz
  · rw [if_neg h] at hQ
    simp (disch := omega) only [i_X7_how_0, i_X7_how_1, i_X7_how_2, i_X7_how_3, i_X7_how_4, i_X7_how_7, i_X7_how_10, i_X7_how_12, gh_o3, gh_o6, gh_r7, gh_w7, gh_u6, gp_6_1, gf_3_0, gf_3_1, gf_3_2, gf_6_0, gf_6_1, sgF_0, sgF_1, sgF_2, sgF_5, sgF_6, sgF_7, sgF_9, sgF_10, wdF_0, wdF_1, wdF_2, wdF_3, lsF_0, lsF_1, lsF_2, z_o_i, z_ai_i, z_si_i, z_ab_b, z_ab_z, z_sb_b, z_sb_z, z_al_i, z_al_b, z_pu_s, z_pu_n, nI_toN, z_inN, true_and, and_true, nI_add, pk_mul, vu_eq, vu_ne, nI_leI, nI_ltI, nI_eqI, nI_eq0, ↓ok_0, ↓ok_1, ↓bI_ok, if_true, if_false, nI_lt0, nI_ge0, ne_eq, not_true_eq_false, not_false_eq_true, bI_eq0, bI_ne0, bI_T, bI_F, Bool.false_eq_true, Nat.one_ne_zero, Nat.zero_ne_one, nI_m1, kA, h]
    exact hQ A P hK' Fz.refl
theorem x_rhyme {w u k : Int32} (hI : Iv s) (hK : Cl s A P dy nx) (hQ : ∀ B R, Cl s B R dy nx → Fz A B → Q (some (.int (s_rhyme s w u k))) (GH B R dy) nx) : XC (d + 5) m_X7_rhyme [.ref 3, .int w, .int u, .int k] (GH A P dy) nx Q := by
  show X (d + 5) m_X7_rhyme 0 [some (.ref 3), some (.int w), some (.int u), some (.int k)] [] (GH A P dy) nx 0 0 Q
  have hK' := hK
  obtain ⟨hC, wd, ln, hD⟩ := hK
  have kA : ∀ {d nx : Nat} {Q : z_Q}, XC (d + 4) m_X7_areWordsAndKind [.ref 3, .int w, .int u, .int k] (GH A P dy) nx Q = _ := k_ask hI hD
  unfold s_rhyme at hQ
  by_cases h : ask s w u k = true
  · rw [if_pos h] at hQ
    simp (disch := omega) only [i_X7_rhyme_0, i_X7_rhyme_1, i_X7_rhyme_2, i_X7_rhyme_3, i_X7_rhyme_4, i_X7_rhyme_7, i_X7_rhyme_13, i_X7_rhyme_14, i_X7_rhyme_15, i_X7_rhyme_16, i_X7_rhyme_17, gh_o3, gh_o6, gh_r7, gh_w7, gh_u6, gp_6_1, gf_3_0, gf_3_1, gf_3_2, gf_6_0, gf_6_1, sgF_0, sgF_1, sgF_2, sgF_5, sgF_6, sgF_7, sgF_9, sgF_10, wdF_0, wdF_1, wdF_2, wdF_3, lsF_0, lsF_1, lsF_2, z_o_i, z_ai_i, z_si_i, z_ab_b, z_ab_z, z_sb_b, z_sb_z, z_al_i, z_al_b, z_pu_s, z_pu_n, nI_toN, z_inN, true_and, and_true, nI_add, pk_mul, vu_eq, vu_ne, nI_leI, nI_ltI, nI_eqI, nI_eq0, ↓ok_0, ↓ok_1, ↓bI_ok, if_true, if_false, nI_lt0, nI_ge0, ne_eq, not_true_eq_false, not_false_eq_true, bI_eq0, bI_ne0, bI_T, bI_F, Bool.false_eq_true, Nat.one_ne_zero, Nat.zero_ne_one, nI_m1, kA, h]
    obtain ⟨a, b, c, rfl, rfl, rfl, h1, h2, h3⟩ := ask_ex h
    have sc := hI.sc
    rw [nI_toN (by omega), nI_toN (by omega), nI_toN (by omega)] at hQ
    refine k_fp hI hC hD h1 h2 (by omega) (fun B U hF => ?_)
    have om : (oI (hwq s.1 s.2 a b c) = -1) = (hwq s.1 s.2 a b c = none) := oI_m1 (fun y hy => hwq_lt hI.b34 hy)
    have q := hQ B U (hF.cl hK') hF.fz
    by_cases z : hwq s.1 s.2 a b c = none
    · rw [if_pos z] at q
      simp (disch := omega) only [i_X7_rhyme_20, i_X7_rhyme_21, i_X7_rhyme_24, i_X7_rhyme_25, i_X7_rhyme_28, i_X7_rhyme_29, gh_o3, gh_o6, gh_r7, gh_w7, gh_u6, gp_6_1, gf_3_0, gf_3_1, gf_3_2, gf_6_0, gf_6_1, sgF_0, sgF_1, sgF_2, sgF_5, sgF_6, sgF_7, sgF_9, sgF_10, wdF_0, wdF_1, wdF_2, wdF_3, lsF_0, lsF_1, lsF_2, z_o_i, z_ai_i, z_si_i, z_ab_b, z_ab_z, z_sb_b, z_sb_z, z_al_i, z_al_b, z_pu_s, z_pu_n, nI_toN, z_inN, true_and, and_true, nI_add, pk_mul, vu_eq, vu_ne, nI_leI, nI_ltI, nI_eqI, nI_eq0, ↓ok_0, ↓ok_1, ↓bI_ok, if_true, if_false, nI_lt0, nI_ge0, ne_eq, not_true_eq_false, not_false_eq_true, bI_eq0, bI_ne0, bI_T, bI_F, Bool.false_eq_true, Nat.one_ne_zero, Nat.zero_ne_one, nI_m1, om, z]
      exact q
    · rw [if_neg z] at q
      simp (disch := omega) only [i_X7_rhyme_20, i_X7_rhyme_21, i_X7_rhyme_24, i_X7_rhyme_25, i_X7_rhyme_28, i_X7_rhyme_29, gh_o3, gh_o6, gh_r7, gh_w7, gh_u6, gp_6_1, gf_3_0, gf_3_1, gf_3_2, gf_6_0, gf_6_1, sgF_0, sgF_1, sgF_2, sgF_5, sgF_6, sgF_7, sgF_9, sgF_10, wdF_0, wdF_1, wdF_2, wdF_3, lsF_0, lsF_1, lsF_2, z_o_i, z_ai_i, z_si_i, z_ab_b, z_ab_z, z_sb_b, z_sb_z, z_al_i, z_al_b, z_pu_s, z_pu_n, nI_toN, z_inN, true_and, and_true, nI_add, pk_mul, vu_eq, vu_ne, nI_leI, nI_ltI, nI_eqI, nI_eq0, ↓ok_0, ↓ok_1, ↓bI_ok, if_true, if_false, nI_lt0, nI_ge0, ne_eq, not_true_eq_false, not_false_eq_true, bI_eq0, bI_ne0, bI_T, bI_F, Bool.false_eq_true, Nat.one_ne_zero, Nat.zero_ne_one, nI_m1, om, z]
      exact q
  · rw [if_neg h] at hQ
    simp (disch := omega) only [i_X7_rhyme_0, i_X7_rhyme_1, i_X7_rhyme_2, i_X7_rhyme_3, i_X7_rhyme_4, i_X7_rhyme_7, i_X7_rhyme_10, i_X7_rhyme_12, gh_o3, gh_o6, gh_r7, gh_w7, gh_u6, gp_6_1, gf_3_0, gf_3_1, gf_3_2, gf_6_0, gf_6_1, sgF_0, sgF_1, sgF_2, sgF_5, sgF_6, sgF_7, sgF_9, sgF_10, wdF_0, wdF_1, wdF_2, wdF_3, lsF_0, lsF_1, lsF_2, z_o_i, z_ai_i, z_si_i, z_ab_b, z_ab_z, z_sb_b, z_sb_z, z_al_i, z_al_b, z_pu_s, z_pu_n, nI_toN, z_inN, true_and, and_true, nI_add, pk_mul, vu_eq, vu_ne, nI_leI, nI_ltI, nI_eqI, nI_eq0, ↓ok_0, ↓ok_1, ↓bI_ok, if_true, if_false, nI_lt0, nI_ge0, ne_eq, not_true_eq_false, not_false_eq_true, bI_eq0, bI_ne0, bI_T, bI_F, Bool.false_eq_true, Nat.one_ne_zero, Nat.zero_ne_one, nI_m1, kA, h]
    exact hQ A P hK' Fz.refl
theorem x_cost {w u : Int32} (hI : Iv s) (hK : Cl s A P dy nx) (hQ : ∀ B R, Cl s B R dy nx → Fz A B → Q (some (.int (s_cost s w u))) (GH B R dy) nx) : XC (d + 4) m_X7_cost [.ref 3, .int w, .int u] (GH A P dy) nx Q := by
  show X (d + 4) m_X7_cost 0 [some (.ref 3), some (.int w), some (.int u), none, none] [] (GH A P dy) nx 0 0 Q
  have hK' := hK
  obtain ⟨hC, wd, ln, hD⟩ := hK
  have sc := hI.sc
  have kW : ∀ {d nx : Nat} {Q : z_Q} {w : Nat}, w < s.1 32 1 → XC (d + 3) m_X7_wordAt [.ref 3, .int (nI w)] (GH A P dy) nx Q = Q (some (.ref (wd w))) (GH A P dy) nx := fun h => k_wordAt hD h
  have kN : ∀ {d nx : Nat} {Q : z_Q} {x : Int32}, ¬ iw x (s.1 32 1) = true → XC (d + 3) m_X7_wordAt [.ref 3, .int x] (GH A P dy) nx Q = Q (some .null) (GH A P dy) nx := fun h => k_wordAtN hD sc.1 h
  unfold s_cost at hQ
  by_cases hw : iw w (s.1 32 1) = true
  · obtain ⟨a, h1, rfl⟩ := iw_ex hw
    by_cases hu : iw u (s.1 32 1) = true
    · rw [if_pos ⟨hw, hu⟩] at hQ
      obtain ⟨b, h2, rfl⟩ := iw_ex hu
      rw [nI_toN (by omega), nI_toN (by omega)] at hQ
      obtain ⟨ρ, c4, c5, _, _, _, _, h5, _⟩ := hD
      simp (disch := omega) only [i_X7_cost_0, i_X7_cost_0n, i_X7_cost_1, i_X7_cost_2, i_X7_cost_5, i_X7_cost_5n, i_X7_cost_6, i_X7_cost_6n, i_X7_cost_7, i_X7_cost_8, i_X7_cost_11, i_X7_cost_11n, i_X7_cost_13, i_X7_cost_13n, i_X7_cost_14, i_X7_cost_14n, i_X7_cost_17, i_X7_cost_17n, i_X7_cost_19, i_X7_cost_19n, i_X7_cost_25, i_X7_cost_25n, i_X7_cost_26, i_X7_cost_29, i_X7_cost_29n, i_X7_cost_30, i_X7_cost_30n, i_X7_cost_32, gh_o3, gh_o6, gh_r7, gh_w7, gh_u6, gp_6_1, gf_3_0, gf_3_1, gf_3_2, gf_6_0, gf_6_1, sgF_0, sgF_1, sgF_2, sgF_5, sgF_6, sgF_7, sgF_9, sgF_10, wdF_0, wdF_1, wdF_2, wdF_3, lsF_0, lsF_1, lsF_2, z_o_i, z_ai_i, z_si_i, z_ab_b, z_ab_z, z_sb_b, z_sb_z, z_al_i, z_al_b, z_pu_s, z_pu_n, nI_toN, z_inN, true_and, and_true, nI_add, pk_mul, vu_eq, vu_ne, nI_leI, nI_ltI, nI_eqI, nI_eq0, ↓ok_0, ↓ok_1, ↓bI_ok, if_true, if_false, nI_lt0, nI_ge0, ne_eq, not_true_eq_false, not_false_eq_true, bI_eq0, bI_ne0, bI_T, bI_F, Bool.false_eq_true, Nat.one_ne_zero, Nat.zero_ne_one, nI_m1, kW]
      refine k_lcE hI hC (h5 a h1).wq (h5 b h2).wq h1 h2 (fun B U hF => ?_)
      simp (disch := omega) only [i_X7_cost_35, gh_o3, gh_o6, gh_r7, gh_w7, gh_u6, gp_6_1, gf_3_0, gf_3_1, gf_3_2, gf_6_0, gf_6_1, sgF_0, sgF_1, sgF_2, sgF_5, sgF_6, sgF_7, sgF_9, sgF_10, wdF_0, wdF_1, wdF_2, wdF_3, lsF_0, lsF_1, lsF_2, z_o_i, z_ai_i, z_si_i, z_ab_b, z_ab_z, z_sb_b, z_sb_z, z_al_i, z_al_b, z_pu_s, z_pu_n, nI_toN, z_inN, true_and, and_true, nI_add, pk_mul, vu_eq, vu_ne, nI_leI, nI_ltI, nI_eqI, nI_eq0, ↓ok_0, ↓ok_1, ↓bI_ok, if_true, if_false, nI_lt0, nI_ge0, ne_eq, not_true_eq_false, not_false_eq_true, bI_eq0, bI_ne0, bI_T, bI_F, Bool.false_eq_true, Nat.one_ne_zero, Nat.zero_ne_one, nI_m1]
      exact hQ B U (hF.cl hK') hF.fz
    · rw [if_neg (fun q => hu q.2)] at hQ
      have kNu : ∀ {d nx : Nat} {Q : z_Q}, XC (d + 3) m_X7_wordAt [.ref 3, .int u] (GH A P dy) nx Q = Q (some .null) (GH A P dy) nx := kN hu
      simp (disch := omega) only [i_X7_cost_0, i_X7_cost_0n, i_X7_cost_1, i_X7_cost_2, i_X7_cost_5, i_X7_cost_5n, i_X7_cost_6, i_X7_cost_6n, i_X7_cost_7, i_X7_cost_8, i_X7_cost_11, i_X7_cost_11n, i_X7_cost_13, i_X7_cost_13n, i_X7_cost_14, i_X7_cost_14n, i_X7_cost_17, i_X7_cost_17n, i_X7_cost_19, i_X7_cost_19n, i_X7_cost_22, i_X7_cost_24, gh_o3, gh_o6, gh_r7, gh_w7, gh_u6, gp_6_1, gf_3_0, gf_3_1, gf_3_2, gf_6_0, gf_6_1, sgF_0, sgF_1, sgF_2, sgF_5, sgF_6, sgF_7, sgF_9, sgF_10, wdF_0, wdF_1, wdF_2, wdF_3, lsF_0, lsF_1, lsF_2, z_o_i, z_ai_i, z_si_i, z_ab_b, z_ab_z, z_sb_b, z_sb_z, z_al_i, z_al_b, z_pu_s, z_pu_n, nI_toN, z_inN, true_and, and_true, nI_add, pk_mul, vu_eq, vu_ne, nI_leI, nI_ltI, nI_eqI, nI_eq0, ↓ok_0, ↓ok_1, ↓bI_ok, if_true, if_false, nI_lt0, nI_ge0, ne_eq, not_true_eq_false, not_false_eq_true, bI_eq0, bI_ne0, bI_T, bI_F, Bool.false_eq_true, Nat.one_ne_zero, Nat.zero_ne_one, nI_m1, kW, kNu]
      exact hQ A P hK' Fz.refl
  · rw [if_neg (fun q => hw q.1)] at hQ
    have kNw : ∀ {d nx : Nat} {Q : z_Q}, XC (d + 3) m_X7_wordAt [.ref 3, .int w] (GH A P dy) nx Q = Q (some .null) (GH A P dy) nx := kN hw
    by_cases hu : iw u (s.1 32 1) = true
    · obtain ⟨b, h2, rfl⟩ := iw_ex hu
      simp (disch := omega) only [i_X7_cost_0, i_X7_cost_0n, i_X7_cost_1, i_X7_cost_2, i_X7_cost_5, i_X7_cost_5n, i_X7_cost_6, i_X7_cost_6n, i_X7_cost_7, i_X7_cost_8, i_X7_cost_11, i_X7_cost_11n, i_X7_cost_13, i_X7_cost_13n, i_X7_cost_14, i_X7_cost_14n, i_X7_cost_22, i_X7_cost_24, gh_o3, gh_o6, gh_r7, gh_w7, gh_u6, gp_6_1, gf_3_0, gf_3_1, gf_3_2, gf_6_0, gf_6_1, sgF_0, sgF_1, sgF_2, sgF_5, sgF_6, sgF_7, sgF_9, sgF_10, wdF_0, wdF_1, wdF_2, wdF_3, lsF_0, lsF_1, lsF_2, z_o_i, z_ai_i, z_si_i, z_ab_b, z_ab_z, z_sb_b, z_sb_z, z_al_i, z_al_b, z_pu_s, z_pu_n, nI_toN, z_inN, true_and, and_true, nI_add, pk_mul, vu_eq, vu_ne, nI_leI, nI_ltI, nI_eqI, nI_eq0, ↓ok_0, ↓ok_1, ↓bI_ok, if_true, if_false, nI_lt0, nI_ge0, ne_eq, not_true_eq_false, not_false_eq_true, bI_eq0, bI_ne0, bI_T, bI_F, Bool.false_eq_true, Nat.one_ne_zero, Nat.zero_ne_one, nI_m1, kW, kNw]
      exact hQ A P hK' Fz.refl
    · have kNu : ∀ {d nx : Nat} {Q : z_Q}, XC (d + 3) m_X7_wordAt [.ref 3, .int u] (GH A P dy) nx Q = Q (some .null) (GH A P dy) nx := kN hu
      simp (disch := omega) only [i_X7_cost_0, i_X7_cost_0n, i_X7_cost_1, i_X7_cost_2, i_X7_cost_5, i_X7_cost_5n, i_X7_cost_6, i_X7_cost_6n, i_X7_cost_7, i_X7_cost_8, i_X7_cost_11, i_X7_cost_11n, i_X7_cost_13, i_X7_cost_13n, i_X7_cost_14, i_X7_cost_14n, i_X7_cost_22, i_X7_cost_24, gh_o3, gh_o6, gh_r7, gh_w7, gh_u6, gp_6_1, gf_3_0, gf_3_1, gf_3_2, gf_6_0, gf_6_1, sgF_0, sgF_1, sgF_2, sgF_5, sgF_6, sgF_7, sgF_9, sgF_10, wdF_0, wdF_1, wdF_2, wdF_3, lsF_0, lsF_1, lsF_2, z_o_i, z_ai_i, z_si_i, z_ab_b, z_ab_z, z_sb_b, z_sb_z, z_al_i, z_al_b, z_pu_s, z_pu_n, nI_toN, z_inN, true_and, and_true, nI_add, pk_mul, vu_eq, vu_ne, nI_leI, nI_ltI, nI_eqI, nI_eq0, ↓ok_0, ↓ok_1, ↓bI_ok, if_true, if_false, nI_lt0, nI_ge0, ne_eq, not_true_eq_false, not_false_eq_true, bI_eq0, bI_ne0, bI_T, bI_F, Bool.false_eq_true, Nat.one_ne_zero, Nat.zero_ne_one, nI_m1, kNu, kNw]
      exact hQ A P hK' Fz.refl
theorem x_near {x : Int32} (hI : Iv s) (hK : Cl s A P dy nx) (hQ : ∀ B R, Cl (s_near s x).2 B R dy nx → Fz A B → Q (some (.int (s_near s x).1)) (GH B R dy) nx) : XC d m_X7_near [.ref 3, .int x] (GH A P dy) nx Q := by
  show X d m_X7_near 0 [some (.ref 3), some (.int x), none] [] (GH A P dy) nx 0 0 Q
  have sc := hI.sc
  unfold s_near at hQ
  by_cases hx : iw x 101 = true
  · rw [if_pos hx] at hQ
    obtain ⟨h, hh, rfl⟩ := iw_ex hx
    rw [nI_toN (by omega)] at hQ
    have nr := hK.1.1.2.1
    have le : h ≤ 100 := by omega
    simp (disch := omega) only [i_X7_near_0, i_X7_near_1, i_X7_near_4, i_X7_near_5, i_X7_near_7, i_X7_near_13, i_X7_near_14, i_X7_near_17, i_X7_near_20, i_X7_near_21, i_X7_near_22, i_X7_near_25, i_X7_near_26, i_X7_near_29, i_X7_near_30, gh_o3, gh_o6, gh_r7, gh_w7, gh_u6, gp_6_1, gf_3_0, gf_3_1, gf_3_2, gf_6_0, gf_6_1, sgF_0, sgF_1, sgF_2, sgF_5, sgF_6, sgF_7, sgF_9, sgF_10, wdF_0, wdF_1, wdF_2, wdF_3, lsF_0, lsF_1, lsF_2, z_o_i, z_ai_i, z_si_i, z_ab_b, z_ab_z, z_sb_b, z_sb_z, z_al_i, z_al_b, z_pu_s, z_pu_n, nI_toN, z_inN, true_and, and_true, nI_add, pk_mul, vu_eq, vu_ne, nI_leI, nI_ltI, nI_eqI, nI_eq0, ↓ok_0, ↓ok_1, ↓bI_ok, if_true, if_false, nI_lt0, nI_ge0, ne_eq, not_true_eq_false, not_false_eq_true, bI_eq0, bI_ne0, bI_T, bI_F, Bool.false_eq_true, Nat.one_ne_zero, Nat.zero_ne_one, nI_m1, nr, le]
    refine hQ _ _ ⟨⟨⟨hK.1.1.1, by rw [vu_eq, vu_eq]; rfl, hK.1.1.2.2⟩, hK.1.2⟩, ?_⟩ (Fz.refl.up (by omega))
    obtain ⟨_, wd, ln, hD⟩ := hK
    exact ⟨wd, ln, hD.of rfl rfl rfl rfl⟩
  · rw [if_neg hx] at hQ
    by_cases x0 : x < 0
    · simp (disch := omega) only [i_X7_near_0, i_X7_near_1, i_X7_near_10, i_X7_near_12, gh_o3, gh_o6, gh_r7, gh_w7, gh_u6, gp_6_1, gf_3_0, gf_3_1, gf_3_2, gf_6_0, gf_6_1, sgF_0, sgF_1, sgF_2, sgF_5, sgF_6, sgF_7, sgF_9, sgF_10, wdF_0, wdF_1, wdF_2, wdF_3, lsF_0, lsF_1, lsF_2, z_o_i, z_ai_i, z_si_i, z_ab_b, z_ab_z, z_sb_b, z_sb_z, z_al_i, z_al_b, z_pu_s, z_pu_n, nI_toN, z_inN, true_and, and_true, nI_add, pk_mul, vu_eq, vu_ne, nI_leI, nI_ltI, nI_eqI, nI_eq0, ↓ok_0, ↓ok_1, ↓bI_ok, if_true, if_false, nI_lt0, nI_ge0, ne_eq, not_true_eq_false, not_false_eq_true, bI_eq0, bI_ne0, bI_T, bI_F, Bool.false_eq_true, Nat.one_ne_zero, Nat.zero_ne_one, nI_m1, x0]
      exact hQ A P hK Fz.refl
    · have x1 : ¬ x ≤ nI 100 := by
        have := (iw_lt (by simpa using hx) (by omega)).resolve_left x0
        rw [Int32.le_iff_toInt_le, nI_toInt (by omega)] at this
        rw [Int32.le_iff_toInt_le, nI_toInt (by omega)]
        omega
      simp (disch := omega) only [i_X7_near_0, i_X7_near_1, i_X7_near_4, i_X7_near_5, i_X7_near_7, i_X7_near_10, i_X7_near_12, gh_o3, gh_o6, gh_r7, gh_w7, gh_u6, gp_6_1, gf_3_0, gf_3_1, gf_3_2, gf_6_0, gf_6_1, sgF_0, sgF_1, sgF_2, sgF_5, sgF_6, sgF_7, sgF_9, sgF_10, wdF_0, wdF_1, wdF_2, wdF_3, lsF_0, lsF_1, lsF_2, z_o_i, z_ai_i, z_si_i, z_ab_b, z_ab_z, z_sb_b, z_sb_z, z_al_i, z_al_b, z_pu_s, z_pu_n, nI_toN, z_inN, true_and, and_true, nI_add, pk_mul, vu_eq, vu_ne, nI_leI, nI_ltI, nI_eqI, nI_eq0, ↓ok_0, ↓ok_1, ↓bI_ok, if_true, if_false, nI_lt0, nI_ge0, ne_eq, not_true_eq_false, not_false_eq_true, bI_eq0, bI_ne0, bI_T, bI_F, Bool.false_eq_true, Nat.one_ne_zero, Nat.zero_ne_one, nI_m1, x0, x1]
      exact hQ A P hK Fz.refl
end CBrk
