/-! THE MODEL: findLines, doLinesRhyme -/
theorem fi_lt {P : Nat → Bool} : ∀ (m j k : Nat), fi P m j = some k → k < j + m := by
  intro m
  induction m with
  | zero => intro j k h; cases h
  | succ m ih =>
    intro j k h
    rw [fi] at h
    by_cases e : P j = true
    · rw [if_pos e] at h; cases h; omega
    · rw [if_neg e] at h; have := ih (j + 1) k h; omega
theorem fo_lt {P : Nat → Nat → Bool} {n : Nat} : ∀ (m i v : Nat), fo P n m i = some v → v < 3 * (i + m) + n := by
  intro m
  induction m with
  | zero => intro i v h; cases h
  | succ m ih =>
    intro i v h
    rw [fo] at h
    cases e : fi (P i) n 0 with
    | none => rw [e] at h; have := ih (i + 1) v h; omega
    | some j =>
      rw [e] at h
      have := fi_lt _ _ _ e
      cases h
      omega
theorem hwq_lt {a : Nat → Nat → Nat} {L : Nat → Int32} {w u kind v : Nat} (hb : ∀ i, a 34 i ≤ 3) (h : hwq a L w u kind = some v) : v < 100 := by
  unfold hwq at h
  by_cases e : w = u
  · rw [if_pos e] at h; cases h
  · rw [if_neg e] at h
    by_cases k5 : kind = 5
    · rw [if_pos k5] at h
      by_cases q : eyq a L w u = true
      · rw [if_pos q] at h; cases h; omega
      · rw [if_neg q] at h; cases h
    · rw [if_neg k5] at h
      have := fo_lt _ _ _ h
      have h1 := hb w
      have h2 := hb u
      omega
theorem oI_m1 {r : Option Nat} (h : ∀ y, r = some y → y < 100) : (oI r = -1) = (r = none) := by
  cases r with
  | none => exact propext ⟨fun _ => rfl, fun _ => rfl⟩
  | some y =>
    have := h y rfl
    rw [show oI (some y) = nI y from rfl, nI_m1 (by omega)]
    simp only [eq_iff_iff, false_iff]
    intro q
    cases q
/-- the last word of a line -/
def lw (a : Nat → Nat → Nat) (l : Nat) : Nat := a 43 (8 * l + a 42 l - 1)
def Wl (a : Nat → Nat → Nat) : Prop := ∀ l, l < a 32 13 → 1 ≤ a 42 l ∧ ∀ i, i < a 42 l → a 43 (8 * l + i) < a 32 1
def dlq (a : Nat → Nat → Nat) (L : Nat → Int32) (l m : Nat) : Bool := (hwq a L (lw a l) (lw a m) 6).isSome || (decide (a 32 19 = 1) && ((hwq a L (lw a l) (lw a m) 2).isSome || (hwq a L (lw a l) (lw a m) 4).isSome))
theorem lw_lt {a : Nat → Nat → Nat} {l : Nat} (h : Wl a) (hl : l < a 32 13) : lw a l < a 32 1 := by
  obtain ⟨h1, h2⟩ := h l hl
  have := h2 (a 42 l - 1) (by omega)
  unfold lw
  rw [show 8 * l + a 42 l - 1 = 8 * l + (a 42 l - 1) by omega]
  exact this
section MLine
variable {a : Nat → Nat → Nat} {A : Nat → Nat → Int32} {P : Nat → Nat → Nat} {dy : z_H} {d nx bc bs : Nat} {Q : z_Q}
theorem c_lastOf {l : Nat} (hR : Rp a A) (hl : l < 16) (h1 : 1 ≤ a 42 l) : XC d m_X8_lastOf [.ref 32, .int (nI l)] (GH A P dy) nx Q = Q (some (.int (nI (lw a l)))) (GH A P dy) nx := by
  show X d m_X8_lastOf 0 [some (.ref 32), some (.int (nI l))] [] (GH A P dy) nx 0 0 Q = _
  have hb := hR.2.2.1
  have b42 := (hb l).2.2.2.2.2.2.2.1
  have r42 : A 42 l = nI (a 42 l) := hR.1.2.2.2.2.2.2.2.1 l
  have r43 : A 43 (8 * l + a 42 l - 1) = nI (a 43 (8 * l + a 42 l - 1)) := hR.1.2.2.2.2.2.2.2.2.1 _
  simp (disch := omega) only [i_X8_lastOf_0, i_X8_lastOf_1, i_X8_lastOf_4, i_X8_lastOf_6, i_X8_lastOf_7, i_X8_lastOf_8, i_X8_lastOf_9, i_X8_lastOf_12, i_X8_lastOf_13, i_X8_lastOf_14, i_X8_lastOf_15, i_X8_lastOf_16, i_X8_lastOf_17, i_X8_lastOf_18, gh_o32, gh_r42, gh_r43, gf_32_13, gf_32_14, gf_32_15, gf_32_19, gf_32_36, gf_32_38, z_o_i, z_ai_i, z_si_i, z_ab_b, z_ab_z, z_sb_b, z_sb_z, z_al_i, z_al_b, z_pu_s, z_pu_n, nI_toN, z_inN, true_and, and_true, nI_add, pk_mul, vu_eq, vu_ne, nI_leI, nI_ltI, nI_eqI, nI_eq0, ↓ok_0, ↓ok_1, bI_eq0, bI_ne0, ↓bI_ok, Nat.one_ne_zero, if_true, if_false, ne_eq, not_true_eq_false, not_false_eq_true, nI_1ne, nI_0eq, nI_le0, pk_sub, bI_T, bI_F, Nat.zero_ne_one, Bool.false_eq_true, r42, r43, lw]
theorem c_doLinesRhyme {l m : Nat} (hR : Rp a A) (hW : Wa a) (hL : Wl a) (hl : l < a 32 13) (hm : m < a 32 13) (hQ : ∀ B, Fr A B → Q (some (.int (bI (dlq a (A 39) l m = true)))) (GH B P dy) nx) : XC (d + 5) m_X8_doLinesRhyme [.ref 32, .int (nI l), .int (nI m)] (GH A P dy) nx Q := by
  show X (d + 5) m_X8_doLinesRhyme 0 [some (.ref 32), some (.int (nI l)), some (.int (nI m)), none, none] [] (GH A P dy) nx 0 0 Q
  have hb := hR.2.2.1
  have hsc := hR.2.2.2
  have w0 := lw_lt hL hl
  have w1 := lw_lt hL hm
  have k0 : ∀ {d nx : Nat} {Q : z_Q}, XC d m_X8_lastOf [.ref 32, .int (nI l)] (GH A P dy) nx Q = Q (some (.int (nI (lw a l)))) (GH A P dy) nx := c_lastOf hR (by omega) (hL l hl).1
  have k1 : ∀ {d nx : Nat} {Q : z_Q}, XC d m_X8_lastOf [.ref 32, .int (nI m)] (GH A P dy) nx Q = Q (some (.int (nI (lw a m)))) (GH A P dy) nx := c_lastOf hR (by omega) (hL m hm).1
  have om : ∀ kind, (oI (hwq a (A 39) (lw a l) (lw a m) kind) = -1) = (hwq a (A 39) (lw a l) (lw a m) kind = none) := fun kind => oI_m1 (fun y hy => hwq_lt (fun i => (hb i).2.1) hy)
  simp (disch := omega) only [i_X8_doLinesRhyme_0, i_X8_doLinesRhyme_1, i_X8_doLinesRhyme_2, i_X8_doLinesRhyme_5, i_X8_doLinesRhyme_6, i_X8_doLinesRhyme_7, i_X8_doLinesRhyme_8, i_X8_doLinesRhyme_11, i_X8_doLinesRhyme_13, i_X8_doLinesRhyme_14, i_X8_doLinesRhyme_15, i_X8_doLinesRhyme_17, i_X8_doLinesRhyme_19, gh_o32, gh_r42, gh_r43, gf_32_13, gf_32_14, gf_32_15, gf_32_19, gf_32_36, gf_32_38, z_o_i, z_ai_i, z_si_i, z_ab_b, z_ab_z, z_sb_b, z_sb_z, z_al_i, z_al_b, z_pu_s, z_pu_n, nI_toN, z_inN, true_and, and_true, nI_add, pk_mul, vu_eq, vu_ne, nI_leI, nI_ltI, nI_eqI, nI_eq0, ↓ok_0, ↓ok_1, bI_eq0, bI_ne0, ↓bI_ok, Nat.one_ne_zero, if_true, if_false, ne_eq, not_true_eq_false, not_false_eq_true, nI_1ne, nI_0eq, nI_le0, pk_sub, bI_T, bI_F, Nat.zero_ne_one, Bool.false_eq_true, k0, k1]
  refine c_howOf hR hW w0 w1 (by omega) (fun B hB => ?_)
  cases e6 : hwq a (A 39) (lw a l) (lw a m) 6 with
  | some y =>
    have o := om 6
    rw [e6] at o
    have q := hQ B hB
    rw [bI_t (by simp [dlq, e6])] at q
    simp (disch := omega) only [i_X8_doLinesRhyme_22, i_X8_doLinesRhyme_23, i_X8_doLinesRhyme_57, i_X8_doLinesRhyme_58, i_X8_doLinesRhyme_62, gh_o32, gh_r42, gh_r43, gf_32_13, gf_32_14, gf_32_15, gf_32_19, gf_32_36, gf_32_38, z_o_i, z_ai_i, z_si_i, z_ab_b, z_ab_z, z_sb_b, z_sb_z, z_al_i, z_al_b, z_pu_s, z_pu_n, nI_toN, z_inN, true_and, and_true, nI_add, pk_mul, vu_eq, vu_ne, nI_leI, nI_ltI, nI_eqI, nI_eq0, ↓ok_0, ↓ok_1, bI_eq0, bI_ne0, ↓bI_ok, Nat.one_ne_zero, if_true, if_false, ne_eq, not_true_eq_false, not_false_eq_true, nI_1ne, nI_0eq, nI_le0, pk_sub, bI_T, bI_F, Nat.zero_ne_one, Bool.false_eq_true, o, reduceCtorEq]
    exact q
  | none =>
    have o := om 6
    rw [e6] at o
    have hRB := hB.rp hR
    have r19 : B 32 19 = nI (a 32 19) := hRB.2.1.2.2.2.2.2
    by_cases z : a 32 19 = 0
    · have q := hQ B hB
      rw [bI_f (by simp [dlq, e6, z])] at q
      simp (disch := omega) only [i_X8_doLinesRhyme_22, i_X8_doLinesRhyme_23, i_X8_doLinesRhyme_26, i_X8_doLinesRhyme_27, i_X8_doLinesRhyme_30, i_X8_doLinesRhyme_61, i_X8_doLinesRhyme_62, gh_o32, gh_r42, gh_r43, gf_32_13, gf_32_14, gf_32_15, gf_32_19, gf_32_36, gf_32_38, z_o_i, z_ai_i, z_si_i, z_ab_b, z_ab_z, z_sb_b, z_sb_z, z_al_i, z_al_b, z_pu_s, z_pu_n, nI_toN, z_inN, true_and, and_true, nI_add, pk_mul, vu_eq, vu_ne, nI_leI, nI_ltI, nI_eqI, nI_eq0, ↓ok_0, ↓ok_1, bI_eq0, bI_ne0, ↓bI_ok, Nat.one_ne_zero, if_true, if_false, ne_eq, not_true_eq_false, not_false_eq_true, nI_1ne, nI_0eq, nI_le0, pk_sub, bI_T, bI_F, Nat.zero_ne_one, Bool.false_eq_true, o, r19, z]
      exact q
    · have z1 : a 32 19 = 1 := by omega
      have g39 : B 39 = A 39 := hB 39 (by omega)
      simp (disch := omega) only [i_X8_doLinesRhyme_22, i_X8_doLinesRhyme_23, i_X8_doLinesRhyme_26, i_X8_doLinesRhyme_27, i_X8_doLinesRhyme_30, i_X8_doLinesRhyme_33, i_X8_doLinesRhyme_34, i_X8_doLinesRhyme_35, i_X8_doLinesRhyme_37, i_X8_doLinesRhyme_38, gh_o32, gh_r42, gh_r43, gf_32_13, gf_32_14, gf_32_15, gf_32_19, gf_32_36, gf_32_38, z_o_i, z_ai_i, z_si_i, z_ab_b, z_ab_z, z_sb_b, z_sb_z, z_al_i, z_al_b, z_pu_s, z_pu_n, nI_toN, z_inN, true_and, and_true, nI_add, pk_mul, vu_eq, vu_ne, nI_leI, nI_ltI, nI_eqI, nI_eq0, ↓ok_0, ↓ok_1, bI_eq0, bI_ne0, ↓bI_ok, Nat.one_ne_zero, if_true, if_false, ne_eq, not_true_eq_false, not_false_eq_true, nI_1ne, nI_0eq, nI_le0, pk_sub, bI_T, bI_F, Nat.zero_ne_one, Bool.false_eq_true, o, r19, z]
      refine c_howOf hRB hW w0 w1 (by omega) (fun C hC => ?_)
      rw [g39]
      have hAC := hB.trans hC
      cases e2 : hwq a (A 39) (lw a l) (lw a m) 2 with
      | some y =>
        have o := om 2
        rw [e2] at o
        have q := hQ C hAC
        rw [bI_t (by simp [dlq, e2, z1])] at q
        simp (disch := omega) only [i_X8_doLinesRhyme_41, i_X8_doLinesRhyme_42, i_X8_doLinesRhyme_57, i_X8_doLinesRhyme_58, i_X8_doLinesRhyme_62, gh_o32, gh_r42, gh_r43, gf_32_13, gf_32_14, gf_32_15, gf_32_19, gf_32_36, gf_32_38, z_o_i, z_ai_i, z_si_i, z_ab_b, z_ab_z, z_sb_b, z_sb_z, z_al_i, z_al_b, z_pu_s, z_pu_n, nI_toN, z_inN, true_and, and_true, nI_add, pk_mul, vu_eq, vu_ne, nI_leI, nI_ltI, nI_eqI, nI_eq0, ↓ok_0, ↓ok_1, bI_eq0, bI_ne0, ↓bI_ok, Nat.one_ne_zero, if_true, if_false, ne_eq, not_true_eq_false, not_false_eq_true, nI_1ne, nI_0eq, nI_le0, pk_sub, bI_T, bI_F, Nat.zero_ne_one, Bool.false_eq_true, o, reduceCtorEq]
        exact q
      | none =>
        have o := om 2
        rw [e2] at o
        simp (disch := omega) only [i_X8_doLinesRhyme_41, i_X8_doLinesRhyme_42, i_X8_doLinesRhyme_45, i_X8_doLinesRhyme_46, i_X8_doLinesRhyme_47, i_X8_doLinesRhyme_49, i_X8_doLinesRhyme_50, gh_o32, gh_r42, gh_r43, gf_32_13, gf_32_14, gf_32_15, gf_32_19, gf_32_36, gf_32_38, z_o_i, z_ai_i, z_si_i, z_ab_b, z_ab_z, z_sb_b, z_sb_z, z_al_i, z_al_b, z_pu_s, z_pu_n, nI_toN, z_inN, true_and, and_true, nI_add, pk_mul, vu_eq, vu_ne, nI_leI, nI_ltI, nI_eqI, nI_eq0, ↓ok_0, ↓ok_1, bI_eq0, bI_ne0, ↓bI_ok, Nat.one_ne_zero, if_true, if_false, ne_eq, not_true_eq_false, not_false_eq_true, nI_1ne, nI_0eq, nI_le0, pk_sub, bI_T, bI_F, Nat.zero_ne_one, Bool.false_eq_true, o]
        refine c_howOf (hAC.rp hR) hW w0 w1 (by omega) (fun D hD => ?_)
        rw [hAC 39 (by omega)]
        have hAD := hAC.trans hD
        have q := hQ D hAD
        cases e4 : hwq a (A 39) (lw a l) (lw a m) 4 with
        | some y =>
          have o := om 4
          rw [e4] at o
          rw [bI_t (by simp [dlq, e4, z1])] at q
          simp (disch := omega) only [i_X8_doLinesRhyme_53, i_X8_doLinesRhyme_54, i_X8_doLinesRhyme_57, i_X8_doLinesRhyme_58, i_X8_doLinesRhyme_61, i_X8_doLinesRhyme_62, gh_o32, gh_r42, gh_r43, gf_32_13, gf_32_14, gf_32_15, gf_32_19, gf_32_36, gf_32_38, z_o_i, z_ai_i, z_si_i, z_ab_b, z_ab_z, z_sb_b, z_sb_z, z_al_i, z_al_b, z_pu_s, z_pu_n, nI_toN, z_inN, true_and, and_true, nI_add, pk_mul, vu_eq, vu_ne, nI_leI, nI_ltI, nI_eqI, nI_eq0, ↓ok_0, ↓ok_1, bI_eq0, bI_ne0, ↓bI_ok, Nat.one_ne_zero, if_true, if_false, ne_eq, not_true_eq_false, not_false_eq_true, nI_1ne, nI_0eq, nI_le0, pk_sub, bI_T, bI_F, Nat.zero_ne_one, Bool.false_eq_true, o, reduceCtorEq]
          exact q
        | none =>
          have o := om 4
          rw [e4] at o
          rw [bI_f (by simp [dlq, e6, e2, e4])] at q
          simp (disch := omega) only [i_X8_doLinesRhyme_53, i_X8_doLinesRhyme_54, i_X8_doLinesRhyme_57, i_X8_doLinesRhyme_58, i_X8_doLinesRhyme_61, i_X8_doLinesRhyme_62, gh_o32, gh_r42, gh_r43, gf_32_13, gf_32_14, gf_32_15, gf_32_19, gf_32_36, gf_32_38, z_o_i, z_ai_i, z_si_i, z_ab_b, z_ab_z, z_sb_b, z_sb_z, z_al_i, z_al_b, z_pu_s, z_pu_n, nI_toN, z_inN, true_and, and_true, nI_add, pk_mul, vu_eq, vu_ne, nI_leI, nI_ltI, nI_eqI, nI_eq0, ↓ok_0, ↓ok_1, bI_eq0, bI_ne0, ↓bI_ok, Nat.one_ne_zero, if_true, if_false, ne_eq, not_true_eq_false, not_false_eq_true, nI_1ne, nI_0eq, nI_le0, pk_sub, bI_T, bI_F, Nat.zero_ne_one, Bool.false_eq_true, o]
          exact q
end MLine
