/-! THE MODEL'S CALLS: form, place, loose, set, check, complete, stands, count -/
/-- a number, or NONE, as one more -/
def gN (g : Int32) : Nat := if g = -1 then 0 else g.toNatClampNeg + 1
theorem gN_ex {g : Int32} {n : Nat} (hn : n < 1000000) (h : g = -1 ∨ iw g n = true) : g = nI (gN g) - nI 1 ∧ gN g ≤ n := by
  by_cases e : g = -1
  · rw [gN, if_pos e, e]
    exact ⟨by decide, Nat.zero_le _⟩
  · rcases h with h | h
    · exact absurd h e
    · obtain ⟨m, hm, rfl⟩ := iw_ex h
      rw [gN, if_neg e, nI_toN (by omega), pk_sub (by omega)]
      exact ⟨rfl, hm⟩
theorem c_inG {d : Nat} {h : z_H} {nx : Nat} {Q : z_Q} {x : Int32} {n : Nat} (hn : n < 1000000) : XC d m_X8_in [.long x.toInt64, .long (-1), .long (nI n - nI 1).toInt64] h nx Q = Q (some (.int (bI (x = -1 ∨ iw x n = true)))) h nx := by
  rw [c_in]
  have e : (¬ x.toInt64 < -1 ∧ ¬ (nI n - nI 1).toInt64 < x.toInt64) = (x = -1 ∨ iw x n = true) := by
    simp only [iw, decide_eq_true_eq, Int64.lt_iff_toInt_lt, Int32.toInt_toInt64, ← Int32.toInt_inj]
    rw [pk_sub_toInt (by omega) (by omega), show (-1 : Int64).toInt = -1 by decide, show (-1 : Int32).toInt = -1 by decide]
    simp only [eq_iff_iff]
    omega
  by_cases q : x = -1 ∨ iw x n = true
  · rw [bI_t q, bI_t (e ▸ q)]
  · rw [bI_f q, bI_f (e ▸ q)]
/-- how many below n -/
def ctN (p : Nat → Bool) : Nat → Nat
  | 0 => 0
  | n + 1 => ctN p n + if p n = true then 1 else 0
theorem ctN_le {p : Nat → Bool} : ∀ n, ctN p n ≤ n := by
  intro n
  induction n with
  | zero => exact Nat.le_refl _
  | succ n ih => rw [ctN]; split <;> omega
def smN (f : Nat → Nat) : Nat → Nat
  | 0 => 0
  | n + 1 => smN f n + f n
theorem smN_le {f : Nat → Nat} (h : ∀ i, f i ≤ 3) : ∀ n, smN f n ≤ 3 * n := by
  intro n
  induction n with
  | zero => exact Nat.le_refl _
  | succ n ih => have := h n; rw [smN]; omega
/-- which lines can lie -/
def okl (a : Nat → Nat → Nat) (l : Nat) : Bool := decide (0 < (lyq a l none 0).1)
theorem gl_le {a : Nat → Nat → Nat} {L : Nat → Int32} {ok : Nat → Bool} {F : (Nat → Nat) → Nat → Nat × (Nat → Nat) × Nat} {i N M : Nat} {S : Nat → Nat} (hF : ∀ S t, (∀ k, k < M → S k ≤ N) → ∀ k, k < M → (F S t).2.1 k ≤ N) (hS : ∀ k, k < M → S k ≤ N) : ∀ (n l t : Nat), l + n ≤ N → ∀ k, k < M → (gl a L ok F i S n l t).2.1 k ≤ N := by
  intro n
  induction n with
  | zero => intro l t _ k hk; exact hS k hk
  | succ n ih =>
    intro l t hl k hk
    rw [gl]
    split
    · exact hS k hk
    · split
      · split
        · exact ih (l + 1) _ (by omega) k hk
        · exact hF _ _ (vs_lk hS (by omega)) k hk
      · exact ih (l + 1) _ (by omega) k hk
theorem gq_le {a : Nat → Nat → Nat} {L : Nat → Int32} {ok : Nat → Bool} (hf : Wf a) : ∀ (m i : Nat) (S : Nat → Nat) (t : Nat), i + m = a 32 16 → (∀ k, k < a 32 16 → S k ≤ a 32 13) → ∀ k, k < a 32 16 → (gq a L ok m i S t).2.1 k ≤ a 32 13 := by
  intro m
  induction m with
  | zero => intro i S t _ hS k hk; exact hS k hk
  | succ m ih =>
    intro i S t hi hS k hk
    have g := hf i (by omega)
    rw [gq]
    split
    · split
      · exact ih _ _ _ (by omega) hS k hk
      · exact hS k hk
    · split
      · split
        · exact ih _ _ _ (by omega) (vs_lk hS (hS _ (by omega))) k hk
        · exact hS k hk
      · exact gl_le (fun S t h => ih (i + 1) S t (by omega) h) hS _ _ _ (by omega) k hk
section MPub6
variable {s : z_S} {A : Nat → Nat → Int32} {P : Nat → Nat → Nat} {dy : z_H} {d nx bc bs : Nat} {Q : z_Q}
theorem c_isPlace {x : Int32} (hM : Mo s A) : XC (d + 1) m_X8_isPlace [.ref 32, .int x] (GH A P dy) nx Q = Q (some (.int (bI (iw x (s.1 32 16) = true)))) (GH A P dy) nx := by
  show X (d + 1) m_X8_isPlace 0 [some (.ref 32), some (.int x)] [] (GH A P dy) nx 0 0 Q = _
  have sc := hM.1.sc
  have r1 := hM.1.q16
  simp (disch := omega) only [i_X8_isPlace_0, i_X8_isPlace_1, i_X8_isPlace_2, i_X8_isPlace_3, i_X8_isPlace_4, i_X8_isPlace_7, i_X8_isPlace_8, i_X8_isPlace_9, i_X8_isPlace_10, i_X8_isPlace_13, gh_o32, gf_32_16, z_o_i, z_ai_i, z_si_i, z_ab_b, z_ab_z, z_sb_b, z_sb_z, z_al_i, z_al_b, z_pu_s, z_pu_n, nI_toN, z_inN, true_and, and_true, nI_add, pk_mul, vu_eq, vu_ne, r1, c_inN, ↓bI_ok]
def nF (a : Nat → Nat → Nat) (n : Nat) : Nat → Nat → Nat := va_up (va_up (va_up (va_up (va_up a 32 (va_up (a 32) 16 n)) 32 (va_up (va_up (a 32) 16 n) 19 0)) 44 (pt (a 44) (fun _ => 0) 0 14)) 45 (pt (a 45) (fun _ => 0) 0 14)) 46 (pt (a 46) (fun _ => 0) 0 14)
def s_form (s : z_S) (x : Int32) : Int32 × z_S := if iw x 15 = true then (x, (nF s.1 x.toNatClampNeg, s.2)) else (-3, s)
theorem l_form {n : Nat} {f g h : Nat → Int32} {A : Nat → Nat → Int32} (hQ : Q (some (.int (nI n))) (GH (va_up (va_up (va_up A 44 (pt f (fun _ => nI 0) 0 14)) 45 (pt g (fun _ => -1) 0 14)) 46 (pt h (fun _ => -1) 0 14)) P dy) nx) : ∀ (m k : Nat), k + m = 14 → X (d + 1) m_X8_form 32 [some (.ref 32), some (.int (nI n)), some (.int (nI k))] [] (GH (va_up (va_up (va_up A 44 (pt f (fun _ => nI 0) 0 k)) 45 (pt g (fun _ => -1) 0 k)) 46 (pt h (fun _ => -1) 0 k)) P dy) nx bc bs Q := by
  intro m
  induction m with
  | zero =>
    intro k hk
    have e : k = 14 := by omega
    subst e
    simp (disch := omega) only [i_X8_form_32, i_X8_form_33, i_X8_form_35, i_X8_form_65, i_X8_form_66, gh_o32, gh_r34, gh_r38, gh_r44, gh_r45, gh_r46, gh_w44, gh_w45, gh_w46, gh_u32, gp_32_0, gp_32_16, gp_32_19, gp_32_39, gp_32_40, gf_32_1, gf_32_3, gf_32_7, gf_32_11, gf_32_13, gf_32_16, gf_32_17, gf_32_18, gf_32_19, gf_32_20, gf_32_39, gf_32_40, z_o_i, z_ai_i, z_si_i, z_ab_b, z_ab_z, z_sb_b, z_sb_z, z_al_i, z_al_b, z_pu_s, z_pu_n, nI_toN, z_inN, true_and, and_true, nI_add, pk_mul, vu_eq, vu_ne, nI_leI, nI_ltI, nI_eqI, nI_eq0, nI_le0, ↓ok_0, ↓ok_1, ↓bI_ok, if_true, if_false, ne_eq, not_true_eq_false, not_false_eq_true, nI_m1, nI_1ne, nI_0eq, bI_eq0, bI_ne0, Bool.false_eq_true, iw_nI, decide_true, decide_false, Nat.add_sub_cancel, nI_ge0, nI_lt0, nm_lt, nm_ge, bI_T, bI_F, Nat.one_ne_zero, Nat.zero_ne_one, z_fit0, z_fit1, Nat.le_refl]
    exact hQ
  | succ m ih =>
    intro k hk
    have le : ¬ 14 ≤ k := by omega
    have p1 := pt_succ f (fun _ => nI 0) 0 k (v := nI 0) rfl
    have p2 := pt_succ g (fun _ => (-1 : Int32)) 0 k (v := -1) rfl
    have p3 := pt_succ h (fun _ => (-1 : Int32)) 0 k (v := -1) rfl
    rw [Nat.zero_add] at p1 p2 p3
    rw [i_X8_form_32]
    simp (disch := omega) only [i_X8_form_33, i_X8_form_35, i_X8_form_38, i_X8_form_39, i_X8_form_42, i_X8_form_43, i_X8_form_44, i_X8_form_45, i_X8_form_46, i_X8_form_49, i_X8_form_50, i_X8_form_51, i_X8_form_52, i_X8_form_53, i_X8_form_56, i_X8_form_57, i_X8_form_58, i_X8_form_59, i_X8_form_62, gh_o32, gh_r34, gh_r38, gh_r44, gh_r45, gh_r46, gh_w44, gh_w45, gh_w46, gh_u32, gp_32_0, gp_32_16, gp_32_19, gp_32_39, gp_32_40, gf_32_1, gf_32_3, gf_32_7, gf_32_11, gf_32_13, gf_32_16, gf_32_17, gf_32_18, gf_32_19, gf_32_20, gf_32_39, gf_32_40, z_o_i, z_ai_i, z_si_i, z_ab_b, z_ab_z, z_sb_b, z_sb_z, z_al_i, z_al_b, z_pu_s, z_pu_n, nI_toN, z_inN, true_and, and_true, nI_add, pk_mul, vu_eq, vu_ne, nI_leI, nI_ltI, nI_eqI, nI_eq0, nI_le0, ↓ok_0, ↓ok_1, ↓bI_ok, if_true, if_false, ne_eq, not_true_eq_false, not_false_eq_true, nI_m1, nI_1ne, nI_0eq, bI_eq0, bI_ne0, Bool.false_eq_true, iw_nI, decide_true, decide_false, Nat.add_sub_cancel, nI_ge0, nI_lt0, nm_lt, nm_ge, bI_T, bI_F, Nat.one_ne_zero, Nat.zero_ne_one, z_fit0, z_fit1, le, p1, p2, p3]
    have q := ih (k + 1) (by omega)
    have e : va_up (va_up (va_up (va_up (va_up (va_up A 44 (pt f (fun _ => nI 0) 0 k)) 45 (pt g (fun _ => -1) 0 k)) 46 (pt h (fun _ => -1) 0 k)) 44 (pt f (fun _ => nI 0) 0 (k + 1))) 45 (pt g (fun _ => -1) 0 (k + 1))) 46 (pt h (fun _ => -1) 0 (k + 1)) = va_up (va_up (va_up A 44 (pt f (fun _ => nI 0) 0 (k + 1))) 45 (pt g (fun _ => -1) 0 (k + 1))) 46 (pt h (fun _ => -1) 0 (k + 1)) := by
      funext x
      simp only [vu_if]
      by_cases x6 : x = 46
      · simp only [x6, if_true]
      · by_cases x5 : x = 45
        · simp only [x6, x5, if_true, if_false]
        · by_cases x4 : x = 44
          · simp only [x4, if_true, if_false]
          · simp only [x4, x5, x6, if_false]
    rw [e]
    exact q
theorem m_form {x : Int32} (hM : Mo s A) (hQ : ∀ B, Mo (s_form s x).2 B → Fk A B → Q (some (.int (s_form s x).1)) (GH B P dy) nx) : XC (d + 1) m_X8_form [.ref 32, .int x] (GH A P dy) nx Q := by
  show X (d + 1) m_X8_form 0 [some (.ref 32), some (.int x), none] [] (GH A P dy) nx 0 0 Q
  obtain ⟨B, eB, hB, fB⟩ := t0_ex hM
  simp (disch := omega) only [i_X8_form_0, i_X8_form_1, i_X8_form_2, gh_o32, gh_r34, gh_r38, gh_r44, gh_r45, gh_r46, gh_w44, gh_w45, gh_w46, gh_u32, gp_32_0, gp_32_16, gp_32_19, gp_32_39, gp_32_40, gf_32_1, gf_32_3, gf_32_7, gf_32_11, gf_32_13, gf_32_16, gf_32_17, gf_32_18, gf_32_19, gf_32_20, gf_32_39, gf_32_40, z_o_i, z_ai_i, z_si_i, z_ab_b, z_ab_z, z_sb_b, z_sb_z, z_al_i, z_al_b, z_pu_s, z_pu_n, nI_toN, z_inN, true_and, and_true, nI_add, pk_mul, vu_eq, vu_ne, nI_leI, nI_ltI, nI_eqI, nI_eq0, nI_le0, ↓ok_0, ↓ok_1, ↓bI_ok, if_true, if_false, ne_eq, not_true_eq_false, not_false_eq_true, nI_m1, nI_1ne, nI_0eq, bI_eq0, bI_ne0, Bool.false_eq_true, iw_nI, decide_true, decide_false, Nat.add_sub_cancel, nI_ge0, nI_lt0, nm_lt, nm_ge, bI_T, bI_F, Nat.one_ne_zero, Nat.zero_ne_one, z_fit0, z_fit1, eB]
  unfold s_form at hQ
  by_cases hx : iw x 15 = true
  · rw [if_pos hx] at hQ
    obtain ⟨n, hn, rfl⟩ := iw_ex hx
    rw [nI_toN (by omega)] at hQ
    simp (disch := omega) only [i_X8_form_5, i_X8_form_6, i_X8_form_7, i_X8_form_8, i_X8_form_11, i_X8_form_14, i_X8_form_20, i_X8_form_21, i_X8_form_22, i_X8_form_25, i_X8_form_26, i_X8_form_27, i_X8_form_30, i_X8_form_31, gh_o32, gh_r34, gh_r38, gh_r44, gh_r45, gh_r46, gh_w44, gh_w45, gh_w46, gh_u32, gp_32_0, gp_32_16, gp_32_19, gp_32_39, gp_32_40, gf_32_1, gf_32_3, gf_32_7, gf_32_11, gf_32_13, gf_32_16, gf_32_17, gf_32_18, gf_32_19, gf_32_20, gf_32_39, gf_32_40, z_o_i, z_ai_i, z_si_i, z_ab_b, z_ab_z, z_sb_b, z_sb_z, z_al_i, z_al_b, z_pu_s, z_pu_n, nI_toN, z_inN, true_and, and_true, nI_add, pk_mul, vu_eq, vu_ne, nI_leI, nI_ltI, nI_eqI, nI_eq0, nI_le0, ↓ok_0, ↓ok_1, ↓bI_ok, if_true, if_false, ne_eq, not_true_eq_false, not_false_eq_true, nI_m1, nI_1ne, nI_0eq, bI_eq0, bI_ne0, Bool.false_eq_true, iw_nI, decide_true, decide_false, Nat.add_sub_cancel, nI_ge0, nI_lt0, nm_lt, nm_ge, bI_T, bI_F, Nat.one_ne_zero, Nat.zero_ne_one, z_fit0, z_fit1, c_inK, hn]
    have e1 : ∀ C : Nat → Nat → Int32, va_up (va_up (va_up C 44 (pt (C 44) (fun _ => nI 0) 0 0)) 45 (pt (C 45) (fun _ => -1) 0 0)) 46 (pt (C 46) (fun _ => -1) 0 0) = C := fun C => by
      rw [pt_0, pt_0, pt_0, vu_self rfl, vu_self rfl, vu_self rfl]
    have hC1 := (hB.1.f16 (v := n) (by omega)).f19 (v := 0) (by omega)
    have fC : Fk A (va_up (va_up B 32 (va_up (B 32) 16 (nI n))) 32 (va_up (va_up (B 32) 16 (nI n)) 19 (nI 0))) := (fB.up (by omega)).up (by omega)
    have c39 : va_up (va_up B 32 (va_up (B 32) 16 (nI n))) 32 (va_up (va_up (B 32) 16 (nI n)) 19 (nI 0)) 39 = s.2 := hB.2.1
    replace hC1 : Rp (va_up (va_up s.1 32 (va_up (s.1 32) 16 n)) 32 (va_up (va_up (s.1 32) 16 n) 19 0)) (va_up (va_up B 32 (va_up (B 32) 16 (nI n))) 32 (va_up (va_up (B 32) 16 (nI n)) 19 (nI 0))) := hC1
    generalize va_up (va_up B 32 (va_up (B 32) 16 (nI n))) 32 (va_up (va_up (B 32) 16 (nI n)) 19 (nI 0)) = C at hC1 fC c39 ⊢
    rw [← e1 C]
    have ptR : ∀ {f : Nat → Int32} {g : Nat → Nat}, (∀ i, f i = nI (g i)) → ∀ i, pt f (fun _ => nI 0) 0 14 i = nI (pt g (fun _ => 0) 0 14 i) := fun {f g} h i => by
      unfold pt
      by_cases e : 0 ≤ i ∧ i < 0 + 14
      · rw [if_pos e, if_pos e]
      · rw [if_neg e, if_neg e]; exact h i
    have ptM : ∀ {f : Nat → Int32} {g : Nat → Nat}, (∀ i, f i = nI (g i) - nI 1) → ∀ i, pt f (fun _ => -1) 0 14 i = nI (pt g (fun _ => 0) 0 14 i) - nI 1 := fun {f g} h i => by
      unfold pt
      by_cases e : 0 ≤ i ∧ i < 0 + 14
      · rw [if_pos e, if_pos e]; exact (by decide : (-1 : Int32) = nI 0 - nI 1)
      · rw [if_neg e, if_neg e]; exact h i
    have ptB : ∀ {g : Nat → Nat} {N : Nat}, (∀ i, g i ≤ N) → ∀ i, pt g (fun _ => 0) 0 14 i ≤ N := fun {g N} h i => by
      unfold pt
      by_cases e : 0 ≤ i ∧ i < 0 + 14
      · rw [if_pos e]; exact Nat.zero_le _
      · rw [if_neg e]; exact h i
    refine l_form (hQ (va_up (va_up (va_up C 44 (pt (C 44) (fun _ => nI 0) 0 14)) 45 (pt (C 45) (fun _ => -1) 0 14)) 46 (pt (C 46) (fun _ => -1) 0 14)) ⟨?_, c39, ?_⟩ (((fC.up (by omega)).up (by omega)).up (by omega))) 14 0 (by omega)
    · exact ((hC1.u44 (ptR hC1.r44) (ptB hB.1.b44)).u45 (ptM hC1.r45) (ptB hB.1.b45)).u46 (ptM hC1.s46) (ptB hB.1.b46)
    · obtain ⟨h1, h2, h3, h4, h5⟩ := hB.2.2
      refine ⟨h1, h2, fun k hk => ?_, fun k hk => ?_, h5⟩
      rotate_left
      · have hk' : k < n := hk
        show pt (s.1 46) (fun _ => 0) 0 14 k ≤ _
        rw [pt_in (by omega) (by omega)]
        exact Nat.zero_le _
      have hk' : k < n := hk
      show pt (s.1 45) (fun _ => 0) 0 14 k ≤ k
      rw [pt_in (by omega) (by omega)]
      exact Nat.zero_le _
  · rw [if_neg hx] at hQ
    simp (disch := omega) only [i_X8_form_5, i_X8_form_6, i_X8_form_7, i_X8_form_8, i_X8_form_11, i_X8_form_14, i_X8_form_17, i_X8_form_19, gh_o32, gh_r34, gh_r38, gh_r44, gh_r45, gh_r46, gh_w44, gh_w45, gh_w46, gh_u32, gp_32_0, gp_32_16, gp_32_19, gp_32_39, gp_32_40, gf_32_1, gf_32_3, gf_32_7, gf_32_11, gf_32_13, gf_32_16, gf_32_17, gf_32_18, gf_32_19, gf_32_20, gf_32_39, gf_32_40, z_o_i, z_ai_i, z_si_i, z_ab_b, z_ab_z, z_sb_b, z_sb_z, z_al_i, z_al_b, z_pu_s, z_pu_n, nI_toN, z_inN, true_and, and_true, nI_add, pk_mul, vu_eq, vu_ne, nI_leI, nI_ltI, nI_eqI, nI_eq0, nI_le0, ↓ok_0, ↓ok_1, ↓bI_ok, if_true, if_false, ne_eq, not_true_eq_false, not_false_eq_true, nI_m1, nI_1ne, nI_0eq, bI_eq0, bI_ne0, Bool.false_eq_true, iw_nI, decide_true, decide_false, Nat.add_sub_cancel, nI_ge0, nI_lt0, nm_lt, nm_ge, bI_T, bI_F, Nat.one_ne_zero, Nat.zero_ne_one, z_fit0, z_fit1, c_inK, hx]
    exact hQ B hB fB
def s_place (s : z_S) (i l g : Int32) : Int32 × z_S := if iw i (s.1 32 16) = true ∧ iw l 8 = true ∧ (g = -1 ∨ iw g i.toNatClampNeg = true) then
  (nI 0, (va_up (va_up s.1 44 (va_up (s.1 44) i.toNatClampNeg l.toNatClampNeg)) 45 (va_up (s.1 45) i.toNatClampNeg (gN g)), s.2)) else (-3, s)
theorem m_place {i l g : Int32} (hM : Mo s A) (hQ : ∀ B, Mo (s_place s i l g).2 B → Fk A B → Q (some (.int (s_place s i l g).1)) (GH B P dy) nx) : XC (d + 2) m_X8_place [.ref 32, .int i, .int l, .int g] (GH A P dy) nx Q := by
  show X (d + 2) m_X8_place 0 [some (.ref 32), some (.int i), some (.int l), some (.int g)] [] (GH A P dy) nx 0 0 Q
  obtain ⟨B, eB, hB, fB⟩ := t0_ex hM
  simp (disch := omega) only [i_X8_place_0, i_X8_place_1, i_X8_place_2, gh_o32, gh_r34, gh_r38, gh_r44, gh_r45, gh_r46, gh_w44, gh_w45, gh_w46, gh_u32, gp_32_0, gp_32_16, gp_32_19, gp_32_39, gp_32_40, gf_32_1, gf_32_3, gf_32_7, gf_32_11, gf_32_13, gf_32_16, gf_32_17, gf_32_18, gf_32_19, gf_32_20, gf_32_39, gf_32_40, z_o_i, z_ai_i, z_si_i, z_ab_b, z_ab_z, z_sb_b, z_sb_z, z_al_i, z_al_b, z_pu_s, z_pu_n, nI_toN, z_inN, true_and, and_true, nI_add, pk_mul, vu_eq, vu_ne, nI_leI, nI_ltI, nI_eqI, nI_eq0, nI_le0, ↓ok_0, ↓ok_1, ↓bI_ok, if_true, if_false, ne_eq, not_true_eq_false, not_false_eq_true, nI_m1, nI_1ne, nI_0eq, bI_eq0, bI_ne0, Bool.false_eq_true, iw_nI, decide_true, decide_false, Nat.add_sub_cancel, nI_ge0, nI_lt0, nm_lt, nm_ge, bI_T, bI_F, Nat.one_ne_zero, Nat.zero_ne_one, z_fit0, z_fit1, eB]
  have iP : ∀ {d nx : Nat} {Q : z_Q} {x : Int32}, XC (d + 1) m_X8_isPlace [.ref 32, .int x] (GH B P dy) nx Q = Q (some (.int (bI (iw x (s.1 32 16) = true)))) (GH B P dy) nx := c_isPlace hB
  have sc := hB.1.sc
  unfold s_place at hQ
  by_cases hi : iw i (s.1 32 16) = true
  · obtain ⟨k, hk, rfl⟩ := iw_ex hi
    rw [nI_toN (by omega)] at hQ
    by_cases hl : iw l 8 = true
    · by_cases hg : g = -1 ∨ iw g k = true
      · rw [if_pos ⟨hi, hl, hg⟩] at hQ
        obtain ⟨m, hm, rfl⟩ := iw_ex hl
        rw [nI_toN (by omega)] at hQ
        have gx := gN_ex (by omega) hg
        simp (disch := omega) only [i_X8_place_5, i_X8_place_6, i_X8_place_7, i_X8_place_10, i_X8_place_13, i_X8_place_14, i_X8_place_15, i_X8_place_16, i_X8_place_19, i_X8_place_22, i_X8_place_25, i_X8_place_26, i_X8_place_27, i_X8_place_30, i_X8_place_31, i_X8_place_32, i_X8_place_33, i_X8_place_34, i_X8_place_37, i_X8_place_43, i_X8_place_44, i_X8_place_47, i_X8_place_48, i_X8_place_49, i_X8_place_50, i_X8_place_51, i_X8_place_54, i_X8_place_55, i_X8_place_56, i_X8_place_57, i_X8_place_58, gh_o32, gh_r34, gh_r38, gh_r44, gh_r45, gh_r46, gh_w44, gh_w45, gh_w46, gh_u32, gp_32_0, gp_32_16, gp_32_19, gp_32_39, gp_32_40, gf_32_1, gf_32_3, gf_32_7, gf_32_11, gf_32_13, gf_32_16, gf_32_17, gf_32_18, gf_32_19, gf_32_20, gf_32_39, gf_32_40, z_o_i, z_ai_i, z_si_i, z_ab_b, z_ab_z, z_sb_b, z_sb_z, z_al_i, z_al_b, z_pu_s, z_pu_n, nI_toN, z_inN, true_and, and_true, nI_add, pk_mul, vu_eq, vu_ne, nI_leI, nI_ltI, nI_eqI, nI_eq0, nI_le0, ↓ok_0, ↓ok_1, ↓bI_ok, if_true, if_false, ne_eq, not_true_eq_false, not_false_eq_true, nI_m1, nI_1ne, nI_0eq, bI_eq0, bI_ne0, Bool.false_eq_true, iw_nI, decide_true, decide_false, Nat.add_sub_cancel, nI_ge0, nI_lt0, nm_lt, nm_ge, bI_T, bI_F, Nat.one_ne_zero, Nat.zero_ne_one, z_fit0, z_fit1, iP, c_inK, c_inG, hk, hm, hg]
        refine hQ _ ⟨(hB.1.u44 (vs_rn hB.1.r44 rfl) (vs_le hB.1.b44 (by omega))).u45 (vs_rm hB.1.r45 gx.1) (vs_le hB.1.b45 (by omega)), hB.2.1, ?_⟩ ((fB.up (by omega)).up (by omega))
        obtain ⟨h1, h2, h3, h4, h5⟩ := hB.2.2
        refine ⟨h1, h2, fun j hj => ?_, h4, h5⟩
        have hj' : j < s.1 32 16 := hj
        show va_up (s.1 45) k (gN g) j ≤ j
        rw [vu_if]
        by_cases e : j = k
        · rw [if_pos e]; omega
        · rw [if_neg e]; exact h3 j hj'
      · rw [if_neg (fun q => hg q.2.2)] at hQ
        simp (disch := omega) only [i_X8_place_5, i_X8_place_6, i_X8_place_7, i_X8_place_10, i_X8_place_13, i_X8_place_14, i_X8_place_15, i_X8_place_16, i_X8_place_19, i_X8_place_22, i_X8_place_25, i_X8_place_26, i_X8_place_27, i_X8_place_30, i_X8_place_31, i_X8_place_32, i_X8_place_33, i_X8_place_34, i_X8_place_37, i_X8_place_40, i_X8_place_42, gh_o32, gh_r34, gh_r38, gh_r44, gh_r45, gh_r46, gh_w44, gh_w45, gh_w46, gh_u32, gp_32_0, gp_32_16, gp_32_19, gp_32_39, gp_32_40, gf_32_1, gf_32_3, gf_32_7, gf_32_11, gf_32_13, gf_32_16, gf_32_17, gf_32_18, gf_32_19, gf_32_20, gf_32_39, gf_32_40, z_o_i, z_ai_i, z_si_i, z_ab_b, z_ab_z, z_sb_b, z_sb_z, z_al_i, z_al_b, z_pu_s, z_pu_n, nI_toN, z_inN, true_and, and_true, nI_add, pk_mul, vu_eq, vu_ne, nI_leI, nI_ltI, nI_eqI, nI_eq0, nI_le0, ↓ok_0, ↓ok_1, ↓bI_ok, if_true, if_false, ne_eq, not_true_eq_false, not_false_eq_true, nI_m1, nI_1ne, nI_0eq, bI_eq0, bI_ne0, Bool.false_eq_true, iw_nI, decide_true, decide_false, Nat.add_sub_cancel, nI_ge0, nI_lt0, nm_lt, nm_ge, bI_T, bI_F, Nat.one_ne_zero, Nat.zero_ne_one, z_fit0, z_fit1, iP, c_inK, c_inG, hk, hl, hg]
        exact hQ B hB fB
    · rw [if_neg (fun q => hl q.2.1)] at hQ
      simp (disch := omega) only [i_X8_place_5, i_X8_place_6, i_X8_place_7, i_X8_place_10, i_X8_place_13, i_X8_place_14, i_X8_place_15, i_X8_place_16, i_X8_place_19, i_X8_place_22, i_X8_place_40, i_X8_place_42, gh_o32, gh_r34, gh_r38, gh_r44, gh_r45, gh_r46, gh_w44, gh_w45, gh_w46, gh_u32, gp_32_0, gp_32_16, gp_32_19, gp_32_39, gp_32_40, gf_32_1, gf_32_3, gf_32_7, gf_32_11, gf_32_13, gf_32_16, gf_32_17, gf_32_18, gf_32_19, gf_32_20, gf_32_39, gf_32_40, z_o_i, z_ai_i, z_si_i, z_ab_b, z_ab_z, z_sb_b, z_sb_z, z_al_i, z_al_b, z_pu_s, z_pu_n, nI_toN, z_inN, true_and, and_true, nI_add, pk_mul, vu_eq, vu_ne, nI_leI, nI_ltI, nI_eqI, nI_eq0, nI_le0, ↓ok_0, ↓ok_1, ↓bI_ok, if_true, if_false, ne_eq, not_true_eq_false, not_false_eq_true, nI_m1, nI_1ne, nI_0eq, bI_eq0, bI_ne0, Bool.false_eq_true, iw_nI, decide_true, decide_false, Nat.add_sub_cancel, nI_ge0, nI_lt0, nm_lt, nm_ge, bI_T, bI_F, Nat.one_ne_zero, Nat.zero_ne_one, z_fit0, z_fit1, iP, c_inK, hk, hl]
      exact hQ B hB fB
  · rw [if_neg (fun q => hi q.1)] at hQ
    simp (disch := omega) only [i_X8_place_5, i_X8_place_6, i_X8_place_7, i_X8_place_10, i_X8_place_40, i_X8_place_42, gh_o32, gh_r34, gh_r38, gh_r44, gh_r45, gh_r46, gh_w44, gh_w45, gh_w46, gh_u32, gp_32_0, gp_32_16, gp_32_19, gp_32_39, gp_32_40, gf_32_1, gf_32_3, gf_32_7, gf_32_11, gf_32_13, gf_32_16, gf_32_17, gf_32_18, gf_32_19, gf_32_20, gf_32_39, gf_32_40, z_o_i, z_ai_i, z_si_i, z_ab_b, z_ab_z, z_sb_b, z_sb_z, z_al_i, z_al_b, z_pu_s, z_pu_n, nI_toN, z_inN, true_and, and_true, nI_add, pk_mul, vu_eq, vu_ne, nI_leI, nI_ltI, nI_eqI, nI_eq0, nI_le0, ↓ok_0, ↓ok_1, ↓bI_ok, if_true, if_false, ne_eq, not_true_eq_false, not_false_eq_true, nI_m1, nI_1ne, nI_0eq, bI_eq0, bI_ne0, Bool.false_eq_true, iw_nI, decide_true, decide_false, Nat.add_sub_cancel, nI_ge0, nI_lt0, nm_lt, nm_ge, bI_T, bI_F, Nat.one_ne_zero, Nat.zero_ne_one, z_fit0, z_fit1, iP, hi]
    exact hQ B hB fB
def s_loose (s : z_S) (x : Int32) : Int32 × z_S := if iw x 2 = true then (nI (s.1 32 19), (va_up s.1 32 (va_up (s.1 32) 19 x.toNatClampNeg), s.2)) else (-3, s)
theorem m_loose {x : Int32} (hM : Mo s A) (hQ : ∀ B, Mo (s_loose s x).2 B → Fk A B → Q (some (.int (s_loose s x).1)) (GH B P dy) nx) : XC (d + 1) m_X8_loose [.ref 32, .int x] (GH A P dy) nx Q := by
  show X (d + 1) m_X8_loose 0 [some (.ref 32), some (.int x), none] [] (GH A P dy) nx 0 0 Q
  obtain ⟨B, eB, hB, fB⟩ := t0_ex hM
  simp (disch := omega) only [i_X8_loose_0, i_X8_loose_1, i_X8_loose_2, gh_o32, gh_r34, gh_r38, gh_r44, gh_r45, gh_r46, gh_w44, gh_w45, gh_w46, gh_u32, gp_32_0, gp_32_16, gp_32_19, gp_32_39, gp_32_40, gf_32_1, gf_32_3, gf_32_7, gf_32_11, gf_32_13, gf_32_16, gf_32_17, gf_32_18, gf_32_19, gf_32_20, gf_32_39, gf_32_40, z_o_i, z_ai_i, z_si_i, z_ab_b, z_ab_z, z_sb_b, z_sb_z, z_al_i, z_al_b, z_pu_s, z_pu_n, nI_toN, z_inN, true_and, and_true, nI_add, pk_mul, vu_eq, vu_ne, nI_leI, nI_ltI, nI_eqI, nI_eq0, nI_le0, ↓ok_0, ↓ok_1, ↓bI_ok, if_true, if_false, ne_eq, not_true_eq_false, not_false_eq_true, nI_m1, nI_1ne, nI_0eq, bI_eq0, bI_ne0, Bool.false_eq_true, iw_nI, decide_true, decide_false, Nat.add_sub_cancel, nI_ge0, nI_lt0, nm_lt, nm_ge, bI_T, bI_F, Nat.one_ne_zero, Nat.zero_ne_one, z_fit0, z_fit1, eB]
  have sc := hB.1.sc
  have r19 := hB.1.q19
  unfold s_loose at hQ
  by_cases hx : iw x 2 = true
  · rw [if_pos hx] at hQ
    obtain ⟨n, hn, rfl⟩ := iw_ex hx
    rw [nI_toN (by omega)] at hQ
    have key := hQ _ ⟨hB.1.f19 (v := n) (by omega), hB.2.1, hB.2.2⟩ (fB.up (by omega))
    have on : n = 0 ∨ n = 1 := by omega
    have ol : s.1 32 19 = 0 ∨ s.1 32 19 = 1 := by omega
    rcases on with rfl | rfl <;> rcases ol with ol | ol <;> rw [ol] at r19 key <;> simp (disch := omega) only [i_X8_loose_5, i_X8_loose_6, i_X8_loose_7, i_X8_loose_8, i_X8_loose_9, i_X8_loose_12, i_X8_loose_18, i_X8_loose_19, i_X8_loose_22, i_X8_loose_25, i_X8_loose_26, i_X8_loose_29, i_X8_loose_30, i_X8_loose_31, i_X8_loose_32, i_X8_loose_33, i_X8_loose_34, i_X8_loose_37, i_X8_loose_38, i_X8_loose_41, i_X8_loose_42, i_X8_loose_45, i_X8_loose_46, gh_o32, gh_r34, gh_r38, gh_r44, gh_r45, gh_r46, gh_w44, gh_w45, gh_w46, gh_u32, gp_32_0, gp_32_16, gp_32_19, gp_32_39, gp_32_40, gf_32_1, gf_32_3, gf_32_7, gf_32_11, gf_32_13, gf_32_16, gf_32_17, gf_32_18, gf_32_19, gf_32_20, gf_32_39, gf_32_40, z_o_i, z_ai_i, z_si_i, z_ab_b, z_ab_z, z_sb_b, z_sb_z, z_al_i, z_al_b, z_pu_s, z_pu_n, nI_toN, z_inN, true_and, and_true, nI_add, pk_mul, vu_eq, vu_ne, nI_leI, nI_ltI, nI_eqI, nI_eq0, nI_le0, ↓ok_0, ↓ok_1, ↓bI_ok, if_true, if_false, ne_eq, not_true_eq_false, not_false_eq_true, nI_m1, nI_1ne, nI_0eq, bI_eq0, bI_ne0, Bool.false_eq_true, iw_nI, decide_true, decide_false, Nat.add_sub_cancel, nI_ge0, nI_lt0, nm_lt, nm_ge, bI_T, bI_F, Nat.one_ne_zero, Nat.zero_ne_one, z_fit0, z_fit1, c_inK, hn, r19] <;> exact key
  · rw [if_neg hx] at hQ
    simp (disch := omega) only [i_X8_loose_5, i_X8_loose_6, i_X8_loose_7, i_X8_loose_8, i_X8_loose_9, i_X8_loose_12, i_X8_loose_15, i_X8_loose_17, gh_o32, gh_r34, gh_r38, gh_r44, gh_r45, gh_r46, gh_w44, gh_w45, gh_w46, gh_u32, gp_32_0, gp_32_16, gp_32_19, gp_32_39, gp_32_40, gf_32_1, gf_32_3, gf_32_7, gf_32_11, gf_32_13, gf_32_16, gf_32_17, gf_32_18, gf_32_19, gf_32_20, gf_32_39, gf_32_40, z_o_i, z_ai_i, z_si_i, z_ab_b, z_ab_z, z_sb_b, z_sb_z, z_al_i, z_al_b, z_pu_s, z_pu_n, nI_toN, z_inN, true_and, and_true, nI_add, pk_mul, vu_eq, vu_ne, nI_leI, nI_ltI, nI_eqI, nI_eq0, nI_le0, ↓ok_0, ↓ok_1, ↓bI_ok, if_true, if_false, ne_eq, not_true_eq_false, not_false_eq_true, nI_m1, nI_1ne, nI_0eq, bI_eq0, bI_ne0, Bool.false_eq_true, iw_nI, decide_true, decide_false, Nat.add_sub_cancel, nI_ge0, nI_lt0, nm_lt, nm_ge, bI_T, bI_F, Nat.one_ne_zero, Nat.zero_ne_one, z_fit0, z_fit1, c_inK, hx]
    exact hQ B hB fB
def s_set (s : z_S) (i l : Int32) : Int32 × z_S := if iw i (s.1 32 16) = true ∧ (l = -1 ∨ iw l (s.1 32 13) = true) then
  (nI (s.1 46 i.toNatClampNeg) - nI 1, (va_up s.1 46 (va_up (s.1 46) i.toNatClampNeg (gN l)), s.2)) else (-3, s)
theorem m_set {i l : Int32} (hM : Mo s A) (hQ : ∀ B, Mo (s_set s i l).2 B → Fk A B → Q (some (.int (s_set s i l).1)) (GH B P dy) nx) : XC (d + 2) m_X8_set [.ref 32, .int i, .int l] (GH A P dy) nx Q := by
  show X (d + 2) m_X8_set 0 [some (.ref 32), some (.int i), some (.int l), none] [] (GH A P dy) nx 0 0 Q
  obtain ⟨B, eB, hB, fB⟩ := t0_ex hM
  simp (disch := omega) only [i_X8_set_0, i_X8_set_1, i_X8_set_2, gh_o32, gh_r34, gh_r38, gh_r44, gh_r45, gh_r46, gh_w44, gh_w45, gh_w46, gh_u32, gp_32_0, gp_32_16, gp_32_19, gp_32_39, gp_32_40, gf_32_1, gf_32_3, gf_32_7, gf_32_11, gf_32_13, gf_32_16, gf_32_17, gf_32_18, gf_32_19, gf_32_20, gf_32_39, gf_32_40, z_o_i, z_ai_i, z_si_i, z_ab_b, z_ab_z, z_sb_b, z_sb_z, z_al_i, z_al_b, z_pu_s, z_pu_n, nI_toN, z_inN, true_and, and_true, nI_add, pk_mul, vu_eq, vu_ne, nI_leI, nI_ltI, nI_eqI, nI_eq0, nI_le0, ↓ok_0, ↓ok_1, ↓bI_ok, if_true, if_false, ne_eq, not_true_eq_false, not_false_eq_true, nI_m1, nI_1ne, nI_0eq, bI_eq0, bI_ne0, Bool.false_eq_true, iw_nI, decide_true, decide_false, Nat.add_sub_cancel, nI_ge0, nI_lt0, nm_lt, nm_ge, bI_T, bI_F, Nat.one_ne_zero, Nat.zero_ne_one, z_fit0, z_fit1, eB]
  have iP : ∀ {d nx : Nat} {Q : z_Q} {x : Int32}, XC (d + 1) m_X8_isPlace [.ref 32, .int x] (GH B P dy) nx Q = Q (some (.int (bI (iw x (s.1 32 16) = true)))) (GH B P dy) nx := c_isPlace hB
  have iL : ∀ {d nx : Nat} {Q : z_Q} {x : Int32}, XC (d + 1) m_X8_isLine [.ref 32, .int x] (GH B P dy) nx Q = Q (some (.int (bI (iw x (s.1 32 13) = true)))) (GH B P dy) nx := c_isLine hB
  have sc := hB.1.sc
  unfold s_set at hQ
  by_cases hi : iw i (s.1 32 16) = true
  · obtain ⟨k, hk, rfl⟩ := iw_ex hi
    rw [nI_toN (by omega)] at hQ
    have r46 := hB.1.s46 k
    by_cases hl : l = -1 ∨ iw l (s.1 32 13) = true
    · rw [if_pos ⟨hi, hl⟩] at hQ
      have gx := gN_ex (by omega) hl
      have key := hQ _ ⟨hB.1.u46 (vs_rm (i := k) hB.1.s46 gx.1) (vs_le hB.1.b46 (by omega)), hB.2.1, ?_⟩ (fB.up (by omega))
      · by_cases l1 : l = -1
        · simp (disch := omega) only [i_X8_set_5, i_X8_set_6, i_X8_set_7, i_X8_set_10, i_X8_set_13, i_X8_set_14, i_X8_set_15, i_X8_set_29, i_X8_set_30, i_X8_set_33, i_X8_set_34, i_X8_set_35, i_X8_set_36, i_X8_set_37, i_X8_set_40, i_X8_set_41, i_X8_set_42, i_X8_set_43, i_X8_set_44, gh_o32, gh_r34, gh_r38, gh_r44, gh_r45, gh_r46, gh_w44, gh_w45, gh_w46, gh_u32, gp_32_0, gp_32_16, gp_32_19, gp_32_39, gp_32_40, gf_32_1, gf_32_3, gf_32_7, gf_32_11, gf_32_13, gf_32_16, gf_32_17, gf_32_18, gf_32_19, gf_32_20, gf_32_39, gf_32_40, z_o_i, z_ai_i, z_si_i, z_ab_b, z_ab_z, z_sb_b, z_sb_z, z_al_i, z_al_b, z_pu_s, z_pu_n, nI_toN, z_inN, true_and, and_true, nI_add, pk_mul, vu_eq, vu_ne, nI_leI, nI_ltI, nI_eqI, nI_eq0, nI_le0, ↓ok_0, ↓ok_1, ↓bI_ok, if_true, if_false, ne_eq, not_true_eq_false, not_false_eq_true, nI_m1, nI_1ne, nI_0eq, bI_eq0, bI_ne0, Bool.false_eq_true, iw_nI, decide_true, decide_false, Nat.add_sub_cancel, nI_ge0, nI_lt0, nm_lt, nm_ge, bI_T, bI_F, Nat.one_ne_zero, Nat.zero_ne_one, z_fit0, z_fit1, iP, hk, l1, r46]
          rw [l1] at key
          exact key
        · have l2 : iw l (s.1 32 13) = true := hl.resolve_left l1
          simp (disch := omega) only [i_X8_set_5, i_X8_set_6, i_X8_set_7, i_X8_set_10, i_X8_set_13, i_X8_set_14, i_X8_set_15, i_X8_set_18, i_X8_set_19, i_X8_set_20, i_X8_set_23, i_X8_set_29, i_X8_set_30, i_X8_set_33, i_X8_set_34, i_X8_set_35, i_X8_set_36, i_X8_set_37, i_X8_set_40, i_X8_set_41, i_X8_set_42, i_X8_set_43, i_X8_set_44, gh_o32, gh_r34, gh_r38, gh_r44, gh_r45, gh_r46, gh_w44, gh_w45, gh_w46, gh_u32, gp_32_0, gp_32_16, gp_32_19, gp_32_39, gp_32_40, gf_32_1, gf_32_3, gf_32_7, gf_32_11, gf_32_13, gf_32_16, gf_32_17, gf_32_18, gf_32_19, gf_32_20, gf_32_39, gf_32_40, z_o_i, z_ai_i, z_si_i, z_ab_b, z_ab_z, z_sb_b, z_sb_z, z_al_i, z_al_b, z_pu_s, z_pu_n, nI_toN, z_inN, true_and, and_true, nI_add, pk_mul, vu_eq, vu_ne, nI_leI, nI_ltI, nI_eqI, nI_eq0, nI_le0, ↓ok_0, ↓ok_1, ↓bI_ok, if_true, if_false, ne_eq, not_true_eq_false, not_false_eq_true, nI_m1, nI_1ne, nI_0eq, bI_eq0, bI_ne0, Bool.false_eq_true, iw_nI, decide_true, decide_false, Nat.add_sub_cancel, nI_ge0, nI_lt0, nm_lt, nm_ge, bI_T, bI_F, Nat.one_ne_zero, Nat.zero_ne_one, z_fit0, z_fit1, iP, iL, hk, l1, l2, r46]
          exact key
      · obtain ⟨h1, h2, h3, h4, h5⟩ := hB.2.2
        exact ⟨h1, h2, h3, vs_lk h4 gx.2, h5⟩
    · rw [if_neg (fun q => hl q.2)] at hQ
      have l1 : ¬ l = -1 := fun q => hl (Or.inl q)
      have l2 : ¬ iw l (s.1 32 13) = true := fun q => hl (Or.inr q)
      simp (disch := omega) only [i_X8_set_5, i_X8_set_6, i_X8_set_7, i_X8_set_10, i_X8_set_13, i_X8_set_14, i_X8_set_15, i_X8_set_18, i_X8_set_19, i_X8_set_20, i_X8_set_23, i_X8_set_26, i_X8_set_28, gh_o32, gh_r34, gh_r38, gh_r44, gh_r45, gh_r46, gh_w44, gh_w45, gh_w46, gh_u32, gp_32_0, gp_32_16, gp_32_19, gp_32_39, gp_32_40, gf_32_1, gf_32_3, gf_32_7, gf_32_11, gf_32_13, gf_32_16, gf_32_17, gf_32_18, gf_32_19, gf_32_20, gf_32_39, gf_32_40, z_o_i, z_ai_i, z_si_i, z_ab_b, z_ab_z, z_sb_b, z_sb_z, z_al_i, z_al_b, z_pu_s, z_pu_n, nI_toN, z_inN, true_and, and_true, nI_add, pk_mul, vu_eq, vu_ne, nI_leI, nI_ltI, nI_eqI, nI_eq0, nI_le0, ↓ok_0, ↓ok_1, ↓bI_ok, if_true, if_false, ne_eq, not_true_eq_false, not_false_eq_true, nI_m1, nI_1ne, nI_0eq, bI_eq0, bI_ne0, Bool.false_eq_true, iw_nI, decide_true, decide_false, Nat.add_sub_cancel, nI_ge0, nI_lt0, nm_lt, nm_ge, bI_T, bI_F, Nat.one_ne_zero, Nat.zero_ne_one, z_fit0, z_fit1, iP, iL, hk, l1, l2]
      exact hQ B hB fB
  · rw [if_neg (fun q => hi q.1)] at hQ
    simp (disch := omega) only [i_X8_set_5, i_X8_set_6, i_X8_set_7, i_X8_set_10, i_X8_set_26, i_X8_set_28, gh_o32, gh_r34, gh_r38, gh_r44, gh_r45, gh_r46, gh_w44, gh_w45, gh_w46, gh_u32, gp_32_0, gp_32_16, gp_32_19, gp_32_39, gp_32_40, gf_32_1, gf_32_3, gf_32_7, gf_32_11, gf_32_13, gf_32_16, gf_32_17, gf_32_18, gf_32_19, gf_32_20, gf_32_39, gf_32_40, z_o_i, z_ai_i, z_si_i, z_ab_b, z_ab_z, z_sb_b, z_sb_z, z_al_i, z_al_b, z_pu_s, z_pu_n, nI_toN, z_inN, true_and, and_true, nI_add, pk_mul, vu_eq, vu_ne, nI_leI, nI_ltI, nI_eqI, nI_eq0, nI_le0, ↓ok_0, ↓ok_1, ↓bI_ok, if_true, if_false, ne_eq, not_true_eq_false, not_false_eq_true, nI_m1, nI_1ne, nI_0eq, bI_eq0, bI_ne0, Bool.false_eq_true, iw_nI, decide_true, decide_false, Nat.add_sub_cancel, nI_ge0, nI_lt0, nm_lt, nm_ge, bI_T, bI_F, Nat.one_ne_zero, Nat.zero_ne_one, z_fit0, z_fit1, iP, hi]
    exact hQ B hB fB
def s_stands (s : z_S) (i : Int32) : Int32 := if iw i (s.1 32 16) = true then nI (s.1 46 i.toNatClampNeg) - nI 1 else -3
theorem m_stands {i : Int32} (hM : Mo s A) (hQ : ∀ B, Mo s B → Fk A B → Q (some (.int (s_stands s i))) (GH B P dy) nx) : XC (d + 2) m_X8_stands [.ref 32, .int i] (GH A P dy) nx Q := by
  show X (d + 2) m_X8_stands 0 [some (.ref 32), some (.int i)] [] (GH A P dy) nx 0 0 Q
  obtain ⟨B, eB, hB, fB⟩ := t0_ex hM
  simp (disch := omega) only [i_X8_stands_0, i_X8_stands_1, i_X8_stands_2, gh_o32, gh_r34, gh_r38, gh_r44, gh_r45, gh_r46, gh_w44, gh_w45, gh_w46, gh_u32, gp_32_0, gp_32_16, gp_32_19, gp_32_39, gp_32_40, gf_32_1, gf_32_3, gf_32_7, gf_32_11, gf_32_13, gf_32_16, gf_32_17, gf_32_18, gf_32_19, gf_32_20, gf_32_39, gf_32_40, z_o_i, z_ai_i, z_si_i, z_ab_b, z_ab_z, z_sb_b, z_sb_z, z_al_i, z_al_b, z_pu_s, z_pu_n, nI_toN, z_inN, true_and, and_true, nI_add, pk_mul, vu_eq, vu_ne, nI_leI, nI_ltI, nI_eqI, nI_eq0, nI_le0, ↓ok_0, ↓ok_1, ↓bI_ok, if_true, if_false, ne_eq, not_true_eq_false, not_false_eq_true, nI_m1, nI_1ne, nI_0eq, bI_eq0, bI_ne0, Bool.false_eq_true, iw_nI, decide_true, decide_false, Nat.add_sub_cancel, nI_ge0, nI_lt0, nm_lt, nm_ge, bI_T, bI_F, Nat.one_ne_zero, Nat.zero_ne_one, z_fit0, z_fit1, eB]
  have iP : ∀ {d nx : Nat} {Q : z_Q} {x : Int32}, XC (d + 1) m_X8_isPlace [.ref 32, .int x] (GH B P dy) nx Q = Q (some (.int (bI (iw x (s.1 32 16) = true)))) (GH B P dy) nx := c_isPlace hB
  have sc := hB.1.sc
  unfold s_stands at hQ
  by_cases hi : iw i (s.1 32 16) = true
  · rw [if_pos hi] at hQ
    obtain ⟨k, hk, rfl⟩ := iw_ex hi
    rw [nI_toN (by omega)] at hQ
    have r46 := hB.1.s46 k
    simp (disch := omega) only [i_X8_stands_5, i_X8_stands_6, i_X8_stands_7, i_X8_stands_10, i_X8_stands_13, i_X8_stands_14, i_X8_stands_17, i_X8_stands_18, i_X8_stands_19, i_X8_stands_24, gh_o32, gh_r34, gh_r38, gh_r44, gh_r45, gh_r46, gh_w44, gh_w45, gh_w46, gh_u32, gp_32_0, gp_32_16, gp_32_19, gp_32_39, gp_32_40, gf_32_1, gf_32_3, gf_32_7, gf_32_11, gf_32_13, gf_32_16, gf_32_17, gf_32_18, gf_32_19, gf_32_20, gf_32_39, gf_32_40, z_o_i, z_ai_i, z_si_i, z_ab_b, z_ab_z, z_sb_b, z_sb_z, z_al_i, z_al_b, z_pu_s, z_pu_n, nI_toN, z_inN, true_and, and_true, nI_add, pk_mul, vu_eq, vu_ne, nI_leI, nI_ltI, nI_eqI, nI_eq0, nI_le0, ↓ok_0, ↓ok_1, ↓bI_ok, if_true, if_false, ne_eq, not_true_eq_false, not_false_eq_true, nI_m1, nI_1ne, nI_0eq, bI_eq0, bI_ne0, Bool.false_eq_true, iw_nI, decide_true, decide_false, Nat.add_sub_cancel, nI_ge0, nI_lt0, nm_lt, nm_ge, bI_T, bI_F, Nat.one_ne_zero, Nat.zero_ne_one, z_fit0, z_fit1, iP, hk, r46]
    exact hQ B hB fB
  · rw [if_neg hi] at hQ
    simp (disch := omega) only [i_X8_stands_5, i_X8_stands_6, i_X8_stands_7, i_X8_stands_10, i_X8_stands_22, i_X8_stands_24, gh_o32, gh_r34, gh_r38, gh_r44, gh_r45, gh_r46, gh_w44, gh_w45, gh_w46, gh_u32, gp_32_0, gp_32_16, gp_32_19, gp_32_39, gp_32_40, gf_32_1, gf_32_3, gf_32_7, gf_32_11, gf_32_13, gf_32_16, gf_32_17, gf_32_18, gf_32_19, gf_32_20, gf_32_39, gf_32_40, z_o_i, z_ai_i, z_si_i, z_ab_b, z_ab_z, z_sb_b, z_sb_z, z_al_i, z_al_b, z_pu_s, z_pu_n, nI_toN, z_inN, true_and, and_true, nI_add, pk_mul, vu_eq, vu_ne, nI_leI, nI_ltI, nI_eqI, nI_eq0, nI_le0, ↓ok_0, ↓ok_1, ↓bI_ok, if_true, if_false, ne_eq, not_true_eq_false, not_false_eq_true, nI_m1, nI_1ne, nI_0eq, bI_eq0, bI_ne0, Bool.false_eq_true, iw_nI, decide_true, decide_false, Nat.add_sub_cancel, nI_ge0, nI_lt0, nm_lt, nm_ge, bI_T, bI_F, Nat.one_ne_zero, Nat.zero_ne_one, z_fit0, z_fit1, iP, hi]
    exact hQ B hB fB
/-- the check -/
def ckF (a : Nat → Nat → Nat) (L : Nat → Int32) (ok : Nat → Bool) : Nat → Nat → Nat
  | 0, _ => 0
  | m + 1, i => if fat a L ok i = 0 then ckF a L ok m (i + 1) else 10 * i + fat a L ok i
theorem fat_nz {a : Nat → Nat → Nat} {L : Nat → Int32} {ok : Nat → Bool} {i : Nat} (h : fat a L ok i = 0) : 1 ≤ a 46 i := by
  unfold fat at h
  by_cases z : a 46 i = 0
  · rw [if_pos z] at h; cases h
  · omega
theorem l_check {R : Nat} (hM : Mo s A) (h62 : ∀ l, l < s.1 32 13 → A 62 l = bI (okl s.1 l = true)) (hQ : ∀ B, Fr A B → Q (some (.int (nI R))) (GH B P dy) nx) : ∀ (m i : Nat) (B : Nat → Nat → Int32) (x2 : Option Value), i + m = s.1 32 16 → Fr A B → (∀ k, k < i → 1 ≤ s.1 46 k) → ckF s.1 s.2 (okl s.1) m i = R → X (d + 7) m_X8_check 11 [some (.ref 32), some (.int (nI i)), x2] [] (GH B P dy) nx bc bs Q := by
  have sc := hM.1.sc
  intro m
  induction m with
  | zero =>
    intro i B x2 hi hF hz hR
    have r16 := (hF.rp hM.1).q16
    have le : s.1 32 16 ≤ i := by omega
    have q := hQ B hF
    rw [← hR] at q
    simp (disch := omega) only [i_X8_check_11, i_X8_check_12, i_X8_check_13, i_X8_check_16, i_X8_check_42, i_X8_check_43, gh_o32, gh_r34, gh_r38, gh_r44, gh_r45, gh_r46, gh_w44, gh_w45, gh_w46, gh_u32, gp_32_0, gp_32_16, gp_32_19, gp_32_39, gp_32_40, gf_32_1, gf_32_3, gf_32_7, gf_32_11, gf_32_13, gf_32_16, gf_32_17, gf_32_18, gf_32_19, gf_32_20, gf_32_39, gf_32_40, z_o_i, z_ai_i, z_si_i, z_ab_b, z_ab_z, z_sb_b, z_sb_z, z_al_i, z_al_b, z_pu_s, z_pu_n, nI_toN, z_inN, true_and, and_true, nI_add, pk_mul, vu_eq, vu_ne, nI_leI, nI_ltI, nI_eqI, nI_eq0, nI_le0, ↓ok_0, ↓ok_1, ↓bI_ok, if_true, if_false, ne_eq, not_true_eq_false, not_false_eq_true, nI_m1, nI_1ne, nI_0eq, bI_eq0, bI_ne0, Bool.false_eq_true, iw_nI, decide_true, decide_false, Nat.add_sub_cancel, nI_ge0, nI_lt0, nm_lt, nm_ge, bI_T, bI_F, Nat.one_ne_zero, Nat.zero_ne_one, z_fit0, z_fit1, r16, le]
    exact q
  | succ m ih =>
    intro i B x2 hi hF hz hR
    have hB := hF.mo hM
    have r16 := hB.1.q16
    have le : ¬ s.1 32 16 ≤ i := by omega
    rw [ckF] at hR
    rw [i_X8_check_11]
    simp (disch := omega) only [i_X8_check_12, i_X8_check_13, i_X8_check_16, i_X8_check_19, i_X8_check_20, i_X8_check_21, gh_o32, gh_r34, gh_r38, gh_r44, gh_r45, gh_r46, gh_w44, gh_w45, gh_w46, gh_u32, gp_32_0, gp_32_16, gp_32_19, gp_32_39, gp_32_40, gf_32_1, gf_32_3, gf_32_7, gf_32_11, gf_32_13, gf_32_16, gf_32_17, gf_32_18, gf_32_19, gf_32_20, gf_32_39, gf_32_40, z_o_i, z_ai_i, z_si_i, z_ab_b, z_ab_z, z_sb_b, z_sb_z, z_al_i, z_al_b, z_pu_s, z_pu_n, nI_toN, z_inN, true_and, and_true, nI_add, pk_mul, vu_eq, vu_ne, nI_leI, nI_ltI, nI_eqI, nI_eq0, nI_le0, ↓ok_0, ↓ok_1, ↓bI_ok, if_true, if_false, ne_eq, not_true_eq_false, not_false_eq_true, nI_m1, nI_1ne, nI_0eq, bI_eq0, bI_ne0, Bool.false_eq_true, iw_nI, decide_true, decide_false, Nat.add_sub_cancel, nI_ge0, nI_lt0, nm_lt, nm_ge, bI_T, bI_F, Nat.one_ne_zero, Nat.zero_ne_one, z_fit0, z_fit1, r16, le]
    refine c_findAt (ok := okl s.1) hB.1 hB.2.2.1 hB.2.2.2.1 (by omega) hz (fun k hk => hB.2.2.2.2.2.1 k (by omega)) (hB.2.2.2.2.1 i (by omega)) (by rw [hF 62 (by omega)]; exact h62) (fun C hC => ?_)
    rw [hB.2.1]
    have fl := fat_le (a := s.1) (L := s.2) (ok := okl s.1) (i := i)
    by_cases f0 : fat s.1 s.2 (okl s.1) i = 0
    · rw [if_pos f0] at hR
      simp (disch := omega) only [i_X8_check_24, i_X8_check_25, i_X8_check_26, i_X8_check_36, i_X8_check_39, gh_o32, gh_r34, gh_r38, gh_r44, gh_r45, gh_r46, gh_w44, gh_w45, gh_w46, gh_u32, gp_32_0, gp_32_16, gp_32_19, gp_32_39, gp_32_40, gf_32_1, gf_32_3, gf_32_7, gf_32_11, gf_32_13, gf_32_16, gf_32_17, gf_32_18, gf_32_19, gf_32_20, gf_32_39, gf_32_40, z_o_i, z_ai_i, z_si_i, z_ab_b, z_ab_z, z_sb_b, z_sb_z, z_al_i, z_al_b, z_pu_s, z_pu_n, nI_toN, z_inN, true_and, and_true, nI_add, pk_mul, vu_eq, vu_ne, nI_leI, nI_ltI, nI_eqI, nI_eq0, nI_le0, ↓ok_0, ↓ok_1, ↓bI_ok, if_true, if_false, ne_eq, not_true_eq_false, not_false_eq_true, nI_m1, nI_1ne, nI_0eq, bI_eq0, bI_ne0, Bool.false_eq_true, iw_nI, decide_true, decide_false, Nat.add_sub_cancel, nI_ge0, nI_lt0, nm_lt, nm_ge, bI_T, bI_F, Nat.one_ne_zero, Nat.zero_ne_one, z_fit0, z_fit1, f0]
      refine ih (i + 1) C _ (by omega) (hF.trans hC) (fun k hk => ?_) hR
      rcases Nat.lt_or_ge k i with y | y
      · exact hz k y
      · rw [show k = i by omega]; exact fat_nz f0
    · rw [if_neg f0] at hR
      have q := hQ C (hF.trans hC)
      rw [← hR] at q
      simp (disch := omega) only [i_X8_check_24, i_X8_check_25, i_X8_check_26, i_X8_check_29, i_X8_check_31, i_X8_check_32, i_X8_check_33, i_X8_check_34, i_X8_check_35, gh_o32, gh_r34, gh_r38, gh_r44, gh_r45, gh_r46, gh_w44, gh_w45, gh_w46, gh_u32, gp_32_0, gp_32_16, gp_32_19, gp_32_39, gp_32_40, gf_32_1, gf_32_3, gf_32_7, gf_32_11, gf_32_13, gf_32_16, gf_32_17, gf_32_18, gf_32_19, gf_32_20, gf_32_39, gf_32_40, z_o_i, z_ai_i, z_si_i, z_ab_b, z_ab_z, z_sb_b, z_sb_z, z_al_i, z_al_b, z_pu_s, z_pu_n, nI_toN, z_inN, true_and, and_true, nI_add, pk_mul, vu_eq, vu_ne, nI_leI, nI_ltI, nI_eqI, nI_eq0, nI_le0, ↓ok_0, ↓ok_1, ↓bI_ok, if_true, if_false, ne_eq, not_true_eq_false, not_false_eq_true, nI_m1, nI_1ne, nI_0eq, bI_eq0, bI_ne0, Bool.false_eq_true, iw_nI, decide_true, decide_false, Nat.add_sub_cancel, nI_ge0, nI_lt0, nm_lt, nm_ge, bI_T, bI_F, Nat.one_ne_zero, Nat.zero_ne_one, z_fit0, z_fit1, f0]
      exact q
def s_check (s : z_S) : Int32 := nI (ckF s.1 s.2 (okl s.1) (s.1 32 16) 0)
theorem m_check (hM : Mo s A) (hQ : ∀ B, Mo s B → Fk A B → Q (some (.int (s_check s))) (GH B P dy) nx) : XC (d + 7) m_X8_check [.ref 32] (GH A P dy) nx Q := by
  show X (d + 7) m_X8_check 0 [some (.ref 32), none, none] [] (GH A P dy) nx 0 0 Q
  obtain ⟨B, eB, hB, fB⟩ := t0_ex hM
  simp (disch := omega) only [i_X8_check_0, i_X8_check_1, i_X8_check_2, i_X8_check_5, i_X8_check_6, gh_o32, gh_r34, gh_r38, gh_r44, gh_r45, gh_r46, gh_w44, gh_w45, gh_w46, gh_u32, gp_32_0, gp_32_16, gp_32_19, gp_32_39, gp_32_40, gf_32_1, gf_32_3, gf_32_7, gf_32_11, gf_32_13, gf_32_16, gf_32_17, gf_32_18, gf_32_19, gf_32_20, gf_32_39, gf_32_40, z_o_i, z_ai_i, z_si_i, z_ab_b, z_ab_z, z_sb_b, z_sb_z, z_al_i, z_al_b, z_pu_s, z_pu_n, nI_toN, z_inN, true_and, and_true, nI_add, pk_mul, vu_eq, vu_ne, nI_leI, nI_ltI, nI_eqI, nI_eq0, nI_le0, ↓ok_0, ↓ok_1, ↓bI_ok, if_true, if_false, ne_eq, not_true_eq_false, not_false_eq_true, nI_m1, nI_1ne, nI_0eq, bI_eq0, bI_ne0, Bool.false_eq_true, iw_nI, decide_true, decide_false, Nat.add_sub_cancel, nI_ge0, nI_lt0, nm_lt, nm_ge, bI_T, bI_F, Nat.one_ne_zero, Nat.zero_ne_one, z_fit0, z_fit1, eB]
  refine c_findLines (d := d + 1) hB.1 (fun C hC c62 => ?_)
  simp (disch := omega) only [i_X8_check_9, i_X8_check_10, gh_o32, gh_r34, gh_r38, gh_r44, gh_r45, gh_r46, gh_w44, gh_w45, gh_w46, gh_u32, gp_32_0, gp_32_16, gp_32_19, gp_32_39, gp_32_40, gf_32_1, gf_32_3, gf_32_7, gf_32_11, gf_32_13, gf_32_16, gf_32_17, gf_32_18, gf_32_19, gf_32_20, gf_32_39, gf_32_40, z_o_i, z_ai_i, z_si_i, z_ab_b, z_ab_z, z_sb_b, z_sb_z, z_al_i, z_al_b, z_pu_s, z_pu_n, nI_toN, z_inN, true_and, and_true, nI_add, pk_mul, vu_eq, vu_ne, nI_leI, nI_ltI, nI_eqI, nI_eq0, nI_le0, ↓ok_0, ↓ok_1, ↓bI_ok, if_true, if_false, ne_eq, not_true_eq_false, not_false_eq_true, nI_m1, nI_1ne, nI_0eq, bI_eq0, bI_ne0, Bool.false_eq_true, iw_nI, decide_true, decide_false, Nat.add_sub_cancel, nI_ge0, nI_lt0, nm_lt, nm_ge, bI_T, bI_F, Nat.one_ne_zero, Nat.zero_ne_one, z_fit0, z_fit1]
  refine l_check (R := ckF s.1 s.2 (okl s.1) (s.1 32 16) 0) (hC.fy.mo hB) (fun l hl => ?_) (fun D hD => hQ D (hD.mo (hC.fy.mo hB)) ((fB.trans hC.fy.fk).trans hD.fk)) (s.1 32 16) 0 C none (by omega) Fr.refl (fun k hk => absurd hk (Nat.not_lt_zero k)) rfl
  rw [c62 l hl]
  by_cases z : 0 < (lyq s.1 l none 0).1
  · rw [bI_t z, bI_t (by simpa [okl] using z)]
  · rw [bI_f z, bI_f (by simpa [okl] using z)]
def s_complete (s : z_S) (t : Int32) : Int32 × z_S := if ir t 1 20000 = true then
  (if (gq s.1 s.2 (okl s.1) (s.1 32 16) 0 (s.1 46) t.toNatClampNeg).1 = 1 then (nI 1, (va_up s.1 46 (gq s.1 s.2 (okl s.1) (s.1 32 16) 0 (s.1 46) t.toNatClampNeg).2.1, s.2))
  else (if (gq s.1 s.2 (okl s.1) (s.1 32 16) 0 (s.1 46) t.toNatClampNeg).1 = 2 then -6 else nI 0, s)) else (-3, s)
theorem m_complete {t : Int32} (hM : Mo s A) (hQ : ∀ B, Mo (s_complete s t).2 B → Fk A B → Q (some (.int (s_complete s t).1)) (GH B P dy) nx) : XC (d + 30) m_X8_complete [.ref 32, .int t] (GH A P dy) nx Q := by
  show X (d + 30) m_X8_complete 0 [some (.ref 32), some (.int t), none] [] (GH A P dy) nx 0 0 Q
  obtain ⟨B, eB, hB, fB⟩ := t0_ex hM
  simp (disch := omega) only [i_X8_complete_0, i_X8_complete_1, i_X8_complete_2, gh_o32, gh_r34, gh_r38, gh_r44, gh_r45, gh_r46, gh_w44, gh_w45, gh_w46, gh_u32, gp_32_0, gp_32_16, gp_32_19, gp_32_39, gp_32_40, gf_32_1, gf_32_3, gf_32_7, gf_32_11, gf_32_13, gf_32_16, gf_32_17, gf_32_18, gf_32_19, gf_32_20, gf_32_39, gf_32_40, z_o_i, z_ai_i, z_si_i, z_ab_b, z_ab_z, z_sb_b, z_sb_z, z_al_i, z_al_b, z_pu_s, z_pu_n, nI_toN, z_inN, true_and, and_true, nI_add, pk_mul, vu_eq, vu_ne, nI_leI, nI_ltI, nI_eqI, nI_eq0, nI_le0, ↓ok_0, ↓ok_1, ↓bI_ok, if_true, if_false, ne_eq, not_true_eq_false, not_false_eq_true, nI_m1, nI_1ne, nI_0eq, bI_eq0, bI_ne0, Bool.false_eq_true, iw_nI, decide_true, decide_false, Nat.add_sub_cancel, nI_ge0, nI_lt0, nm_lt, nm_ge, bI_T, bI_F, Nat.one_ne_zero, Nat.zero_ne_one, z_fit0, z_fit1, eB]
  have sc := hB.1.sc
  unfold s_complete at hQ
  by_cases ht : ir t 1 20000 = true
  · rw [if_pos ht] at hQ
    obtain ⟨k, k1, k2, rfl⟩ := ir_ex ht
    rw [nI_toN (by omega)] at hQ
    simp (disch := omega) only [i_X8_complete_5, i_X8_complete_6, i_X8_complete_7, i_X8_complete_8, i_X8_complete_11, i_X8_complete_14, i_X8_complete_20, i_X8_complete_21, i_X8_complete_22, i_X8_complete_25, i_X8_complete_26, i_X8_complete_27, i_X8_complete_30, i_X8_complete_31, gh_o32, gh_r34, gh_r38, gh_r44, gh_r45, gh_r46, gh_w44, gh_w45, gh_w46, gh_u32, gp_32_0, gp_32_16, gp_32_19, gp_32_39, gp_32_40, gf_32_1, gf_32_3, gf_32_7, gf_32_11, gf_32_13, gf_32_16, gf_32_17, gf_32_18, gf_32_19, gf_32_20, gf_32_39, gf_32_40, z_o_i, z_ai_i, z_si_i, z_ab_b, z_ab_z, z_sb_b, z_sb_z, z_al_i, z_al_b, z_pu_s, z_pu_n, nI_toN, z_inN, true_and, and_true, nI_add, pk_mul, vu_eq, vu_ne, nI_leI, nI_ltI, nI_eqI, nI_eq0, nI_le0, ↓ok_0, ↓ok_1, ↓bI_ok, if_true, if_false, ne_eq, not_true_eq_false, not_false_eq_true, nI_m1, nI_1ne, nI_0eq, bI_eq0, bI_ne0, Bool.false_eq_true, iw_nI, decide_true, decide_false, Nat.add_sub_cancel, nI_ge0, nI_lt0, nm_lt, nm_ge, bI_T, bI_F, Nat.one_ne_zero, Nat.zero_ne_one, z_fit0, z_fit1, c_inL, ht]
    have hB2 : Mo s (va_up (va_up B 32 (va_up (B 32) 39 (nI k))) 32 (va_up (va_up (B 32) 39 (nI k)) 40 (nI 0))) := by
      have h1 := (hB.1.fl (j := 39) (v := nI k) (by omega)).fl (j := 40) (v := nI 0) (by omega)
      exact ⟨h1, hB.2.1, hB.2.2⟩
    have fB2 : Fk A (va_up (va_up B 32 (va_up (B 32) 39 (nI k))) 32 (va_up (va_up (B 32) 39 (nI k)) 40 (nI 0))) := (fB.up (by omega)).up (by omega)
    have b39 : va_up (va_up B 32 (va_up (B 32) 39 (nI k))) 32 (va_up (va_up (B 32) 39 (nI k)) 40 (nI 0)) 32 39 = nI k := rfl
    have b40 : va_up (va_up B 32 (va_up (B 32) 39 (nI k))) 32 (va_up (va_up (B 32) 39 (nI k)) 40 (nI 0)) 32 40 = nI 0 := rfl
    generalize va_up (va_up B 32 (va_up (B 32) 39 (nI k))) 32 (va_up (va_up (B 32) 39 (nI k)) 40 (nI 0)) = C at hB2 fB2 b39 b40 ⊢
    refine c_findLines (d := d + 24) hB2.1 (fun D hD d62 => ?_)
    simp (disch := omega) only [i_X8_complete_34, i_X8_complete_35, i_X8_complete_36, gh_o32, gh_r34, gh_r38, gh_r44, gh_r45, gh_r46, gh_w44, gh_w45, gh_w46, gh_u32, gp_32_0, gp_32_16, gp_32_19, gp_32_39, gp_32_40, gf_32_1, gf_32_3, gf_32_7, gf_32_11, gf_32_13, gf_32_16, gf_32_17, gf_32_18, gf_32_19, gf_32_20, gf_32_39, gf_32_40, z_o_i, z_ai_i, z_si_i, z_ab_b, z_ab_z, z_sb_b, z_sb_z, z_al_i, z_al_b, z_pu_s, z_pu_n, nI_toN, z_inN, true_and, and_true, nI_add, pk_mul, vu_eq, vu_ne, nI_leI, nI_ltI, nI_eqI, nI_eq0, nI_le0, ↓ok_0, ↓ok_1, ↓bI_ok, if_true, if_false, ne_eq, not_true_eq_false, not_false_eq_true, nI_m1, nI_1ne, nI_0eq, bI_eq0, bI_ne0, Bool.false_eq_true, iw_nI, decide_true, decide_false, Nat.add_sub_cancel, nI_ge0, nI_lt0, nm_lt, nm_ge, bI_T, bI_F, Nat.one_ne_zero, Nat.zero_ne_one, z_fit0, z_fit1]
    have hDM := hD.fy.mo hB2
    obtain ⟨h1, h2, h3, h4, h5⟩ := hB.2.2
    have es : va_up s.1 46 (s.1 46) = s.1 := vu_self rfl
    refine c_go (P := P) (dy := dy) (L := s.2) (ok := okl s.1) h1 h2 h3 (s.1 32 16) 0 (d + 29) (by omega) (by omega) D (s.1 46) k nx _ (by rw [es]; exact hDM.1) hDM.2.1 (fun j hj => absurd hj (Nat.not_lt_zero j)) h4 (fun l hl => ?_) (by rw [hD.2 39 (by omega) (by omega)]; exact b39) k2 (by rw [hD.2 40 (by omega) (by omega)]; exact b40) (fun E hE cb r1 r0 et eb ee => ?_)
    · rw [d62 l hl]
      by_cases z : 0 < (lyq s.1 l none 0).1
      · rw [bI_t z, bI_t (by simpa [okl] using z)]
      · rw [bI_f z, bI_f (by simpa [okl] using z)]
    · have fE : Fk A E := (fB2.trans hD.fy.fk).trans (fun k hk => hE.1 k (by omega) (by omega))
      have e39 : E 39 = s.2 := by rw [hE.1 39 (by omega) (by omega)]; exact hDM.2.1
      have gb := gq_le (L := s.2) (ok := okl s.1) h3 (s.1 32 16) 0 (s.1 46) k (by omega) h4
      replace ee : E 32 40 = bI ((gq s.1 s.2 (okl s.1) (s.1 32 16) 0 (s.1 46) k).1 = 2) := ee
      replace cb : (gq s.1 s.2 (okl s.1) (s.1 32 16) 0 (s.1 46) k).1 ≤ 2 := cb
      replace r1 : (gq s.1 s.2 (okl s.1) (s.1 32 16) 0 (s.1 46) k).1 = 1 → Rp (va_up s.1 46 (gq s.1 s.2 (okl s.1) (s.1 32 16) 0 (s.1 46) k).2.1) E := r1
      replace r0 : ¬ (gq s.1 s.2 (okl s.1) (s.1 32 16) 0 (s.1 46) k).1 = 1 → Rp (va_up s.1 46 (s.1 46)) E := r0
      show X (d + 30) m_X8_complete 39 [some (.ref 32), some (.int (nI k)), none] (z_pu (some (.int (bI ((gq s.1 s.2 (okl s.1) (s.1 32 16) 0 (s.1 46) k).1 = 1)))) []) (GH E P dy) nx 0 0 Q
      generalize gq s.1 s.2 (okl s.1) (s.1 32 16) 0 (s.1 46) k = R at hQ cb r1 r0 ee gb ⊢
      by_cases c1 : R.1 = 1
      · rw [if_pos c1] at hQ
        simp (disch := omega) only [i_X8_complete_39, i_X8_complete_40, i_X8_complete_41, i_X8_complete_44, i_X8_complete_45, i_X8_complete_61, gh_o32, gh_r34, gh_r38, gh_r44, gh_r45, gh_r46, gh_w44, gh_w45, gh_w46, gh_u32, gp_32_0, gp_32_16, gp_32_19, gp_32_39, gp_32_40, gf_32_1, gf_32_3, gf_32_7, gf_32_11, gf_32_13, gf_32_16, gf_32_17, gf_32_18, gf_32_19, gf_32_20, gf_32_39, gf_32_40, z_o_i, z_ai_i, z_si_i, z_ab_b, z_ab_z, z_sb_b, z_sb_z, z_al_i, z_al_b, z_pu_s, z_pu_n, nI_toN, z_inN, true_and, and_true, nI_add, pk_mul, vu_eq, vu_ne, nI_leI, nI_ltI, nI_eqI, nI_eq0, nI_le0, ↓ok_0, ↓ok_1, ↓bI_ok, if_true, if_false, ne_eq, not_true_eq_false, not_false_eq_true, nI_m1, nI_1ne, nI_0eq, bI_eq0, bI_ne0, Bool.false_eq_true, iw_nI, decide_true, decide_false, Nat.add_sub_cancel, nI_ge0, nI_lt0, nm_lt, nm_ge, bI_T, bI_F, Nat.one_ne_zero, Nat.zero_ne_one, z_fit0, z_fit1, c1]
        exact hQ E ⟨r1 c1, e39, h1, h2, h3, gb, h5⟩ fE
      · rw [if_neg c1] at hQ
        have rE := r0 c1
        rw [es] at rE
        by_cases c2 : R.1 = 2
        · rw [if_pos c2] at hQ
          rw [bI_t c2] at ee
          simp (disch := omega) only [i_X8_complete_39, i_X8_complete_40, i_X8_complete_41, i_X8_complete_48, i_X8_complete_49, i_X8_complete_52, i_X8_complete_55, i_X8_complete_57, i_X8_complete_61, gh_o32, gh_r34, gh_r38, gh_r44, gh_r45, gh_r46, gh_w44, gh_w45, gh_w46, gh_u32, gp_32_0, gp_32_16, gp_32_19, gp_32_39, gp_32_40, gf_32_1, gf_32_3, gf_32_7, gf_32_11, gf_32_13, gf_32_16, gf_32_17, gf_32_18, gf_32_19, gf_32_20, gf_32_39, gf_32_40, z_o_i, z_ai_i, z_si_i, z_ab_b, z_ab_z, z_sb_b, z_sb_z, z_al_i, z_al_b, z_pu_s, z_pu_n, nI_toN, z_inN, true_and, and_true, nI_add, pk_mul, vu_eq, vu_ne, nI_leI, nI_ltI, nI_eqI, nI_eq0, nI_le0, ↓ok_0, ↓ok_1, ↓bI_ok, if_true, if_false, ne_eq, not_true_eq_false, not_false_eq_true, nI_m1, nI_1ne, nI_0eq, bI_eq0, bI_ne0, Bool.false_eq_true, iw_nI, decide_true, decide_false, Nat.add_sub_cancel, nI_ge0, nI_lt0, nm_lt, nm_ge, bI_T, bI_F, Nat.one_ne_zero, Nat.zero_ne_one, z_fit0, z_fit1, c1, ee]
          exact hQ E ⟨rE, e39, hB.2.2⟩ fE
        · rw [if_neg c2] at hQ
          rw [bI_f c2] at ee
          simp (disch := omega) only [i_X8_complete_39, i_X8_complete_40, i_X8_complete_41, i_X8_complete_48, i_X8_complete_49, i_X8_complete_52, i_X8_complete_60, i_X8_complete_61, gh_o32, gh_r34, gh_r38, gh_r44, gh_r45, gh_r46, gh_w44, gh_w45, gh_w46, gh_u32, gp_32_0, gp_32_16, gp_32_19, gp_32_39, gp_32_40, gf_32_1, gf_32_3, gf_32_7, gf_32_11, gf_32_13, gf_32_16, gf_32_17, gf_32_18, gf_32_19, gf_32_20, gf_32_39, gf_32_40, z_o_i, z_ai_i, z_si_i, z_ab_b, z_ab_z, z_sb_b, z_sb_z, z_al_i, z_al_b, z_pu_s, z_pu_n, nI_toN, z_inN, true_and, and_true, nI_add, pk_mul, vu_eq, vu_ne, nI_leI, nI_ltI, nI_eqI, nI_eq0, nI_le0, ↓ok_0, ↓ok_1, ↓bI_ok, if_true, if_false, ne_eq, not_true_eq_false, not_false_eq_true, nI_m1, nI_1ne, nI_0eq, bI_eq0, bI_ne0, Bool.false_eq_true, iw_nI, decide_true, decide_false, Nat.add_sub_cancel, nI_ge0, nI_lt0, nm_lt, nm_ge, bI_T, bI_F, Nat.one_ne_zero, Nat.zero_ne_one, z_fit0, z_fit1, c1, ee]
          exact hQ E ⟨rE, e39, hB.2.2⟩ fE
  · rw [if_neg ht] at hQ
    simp (disch := omega) only [i_X8_complete_5, i_X8_complete_6, i_X8_complete_7, i_X8_complete_8, i_X8_complete_11, i_X8_complete_14, i_X8_complete_17, i_X8_complete_19, gh_o32, gh_r34, gh_r38, gh_r44, gh_r45, gh_r46, gh_w44, gh_w45, gh_w46, gh_u32, gp_32_0, gp_32_16, gp_32_19, gp_32_39, gp_32_40, gf_32_1, gf_32_3, gf_32_7, gf_32_11, gf_32_13, gf_32_16, gf_32_17, gf_32_18, gf_32_19, gf_32_20, gf_32_39, gf_32_40, z_o_i, z_ai_i, z_si_i, z_ab_b, z_ab_z, z_sb_b, z_sb_z, z_al_i, z_al_b, z_pu_s, z_pu_n, nI_toN, z_inN, true_and, and_true, nI_add, pk_mul, vu_eq, vu_ne, nI_leI, nI_ltI, nI_eqI, nI_eq0, nI_le0, ↓ok_0, ↓ok_1, ↓bI_ok, if_true, if_false, ne_eq, not_true_eq_false, not_false_eq_true, nI_m1, nI_1ne, nI_0eq, bI_eq0, bI_ne0, Bool.false_eq_true, iw_nI, decide_true, decide_false, Nat.add_sub_cancel, nI_ge0, nI_lt0, nm_lt, nm_ge, bI_T, bI_F, Nat.one_ne_zero, Nat.zero_ne_one, z_fit0, z_fit1, c_inL, ht]
    exact hQ B hB fB
def s_count (s : z_S) (x : Int32) : Int32 := if x = nI 0 then nI (s.1 32 1) else if x = nI 1 then nI (smN (s.1 34) (s.1 32 1)) else if x = nI 2 then nI (s.1 32 13) else if x = nI 3 then nI (s.1 32 11) else if x = nI 4 then nI (s.1 32 16)
  else if x = nI 5 then nI (ctN (fun i => decide (s.1 46 i = 0)) (s.1 32 16)) else if x = nI 6 then nI (ctN (fun i => decide (¬ s.1 38 i = 0)) (s.1 32 1)) else -3
theorem l_cn1 {x1 : Option Value} (hM : Mo s A) (hQ : Q (some (.int (nI (smN (s.1 34) (s.1 32 1))))) (GH A P dy) nx) : ∀ (m i : Nat), i + m = s.1 32 1 → X d m_X8_count 59 [some (.ref 32), x1, some (.int (nI (smN (s.1 34) i))), some (.int (nI i))] [] (GH A P dy) nx bc bs Q := by
  have sc := hM.1.sc
  have r1 := hM.1.q1
  intro m
  induction m with
  | zero =>
    intro i hi
    have e : i = s.1 32 1 := by omega
    subst e
    simp (disch := omega) only [i_X8_count_59, i_X8_count_60, i_X8_count_61, i_X8_count_64, i_X8_count_82, i_X8_count_83, gh_o32, gh_r34, gh_r38, gh_r44, gh_r45, gh_r46, gh_w44, gh_w45, gh_w46, gh_u32, gp_32_0, gp_32_16, gp_32_19, gp_32_39, gp_32_40, gf_32_1, gf_32_3, gf_32_7, gf_32_11, gf_32_13, gf_32_16, gf_32_17, gf_32_18, gf_32_19, gf_32_20, gf_32_39, gf_32_40, z_o_i, z_ai_i, z_si_i, z_ab_b, z_ab_z, z_sb_b, z_sb_z, z_al_i, z_al_b, z_pu_s, z_pu_n, nI_toN, z_inN, true_and, and_true, nI_add, pk_mul, vu_eq, vu_ne, nI_leI, nI_ltI, nI_eqI, nI_eq0, nI_le0, ↓ok_0, ↓ok_1, ↓bI_ok, if_true, if_false, ne_eq, not_true_eq_false, not_false_eq_true, nI_m1, nI_1ne, nI_0eq, bI_eq0, bI_ne0, Bool.false_eq_true, iw_nI, decide_true, decide_false, Nat.add_sub_cancel, nI_ge0, nI_lt0, nm_lt, nm_ge, bI_T, bI_F, Nat.one_ne_zero, Nat.zero_ne_one, z_fit0, z_fit1, r1, Nat.le_refl]
    exact hQ
  | succ m ih =>
    intro i hi
    have le : ¬ s.1 32 1 ≤ i := by omega
    have r34 := hM.1.r34 i
    have q := ih (i + 1) (by omega)
    rw [smN] at q
    rw [i_X8_count_59]
    simp (disch := omega) only [i_X8_count_60, i_X8_count_61, i_X8_count_64, i_X8_count_67, i_X8_count_68, i_X8_count_69, i_X8_count_72, i_X8_count_73, i_X8_count_74, i_X8_count_75, i_X8_count_76, i_X8_count_79, gh_o32, gh_r34, gh_r38, gh_r44, gh_r45, gh_r46, gh_w44, gh_w45, gh_w46, gh_u32, gp_32_0, gp_32_16, gp_32_19, gp_32_39, gp_32_40, gf_32_1, gf_32_3, gf_32_7, gf_32_11, gf_32_13, gf_32_16, gf_32_17, gf_32_18, gf_32_19, gf_32_20, gf_32_39, gf_32_40, z_o_i, z_ai_i, z_si_i, z_ab_b, z_ab_z, z_sb_b, z_sb_z, z_al_i, z_al_b, z_pu_s, z_pu_n, nI_toN, z_inN, true_and, and_true, nI_add, pk_mul, vu_eq, vu_ne, nI_leI, nI_ltI, nI_eqI, nI_eq0, nI_le0, ↓ok_0, ↓ok_1, ↓bI_ok, if_true, if_false, ne_eq, not_true_eq_false, not_false_eq_true, nI_m1, nI_1ne, nI_0eq, bI_eq0, bI_ne0, Bool.false_eq_true, iw_nI, decide_true, decide_false, Nat.add_sub_cancel, nI_ge0, nI_lt0, nm_lt, nm_ge, bI_T, bI_F, Nat.one_ne_zero, Nat.zero_ne_one, z_fit0, z_fit1, r1, le, r34]
    exact q
theorem l_cn5 {x1 : Option Value} (hM : Mo s A) (hQ : Q (some (.int (nI (ctN (fun i => decide (s.1 46 i = 0)) (s.1 32 16))))) (GH A P dy) nx) : ∀ (m i : Nat), i + m = s.1 32 16 → X d m_X8_count 101 [some (.ref 32), x1, some (.int (nI (ctN (fun i => decide (s.1 46 i = 0)) i))), some (.int (nI i))] [] (GH A P dy) nx bc bs Q := by
  have sc := hM.1.sc
  have r1 := hM.1.q16
  intro m
  induction m with
  | zero =>
    intro i hi
    have e : i = s.1 32 16 := by omega
    subst e
    simp (disch := omega) only [i_X8_count_101, i_X8_count_102, i_X8_count_103, i_X8_count_106, i_X8_count_133, i_X8_count_134, gh_o32, gh_r34, gh_r38, gh_r44, gh_r45, gh_r46, gh_w44, gh_w45, gh_w46, gh_u32, gp_32_0, gp_32_16, gp_32_19, gp_32_39, gp_32_40, gf_32_1, gf_32_3, gf_32_7, gf_32_11, gf_32_13, gf_32_16, gf_32_17, gf_32_18, gf_32_19, gf_32_20, gf_32_39, gf_32_40, z_o_i, z_ai_i, z_si_i, z_ab_b, z_ab_z, z_sb_b, z_sb_z, z_al_i, z_al_b, z_pu_s, z_pu_n, nI_toN, z_inN, true_and, and_true, nI_add, pk_mul, vu_eq, vu_ne, nI_leI, nI_ltI, nI_eqI, nI_eq0, nI_le0, ↓ok_0, ↓ok_1, ↓bI_ok, if_true, if_false, ne_eq, not_true_eq_false, not_false_eq_true, nI_m1, nI_1ne, nI_0eq, bI_eq0, bI_ne0, Bool.false_eq_true, iw_nI, decide_true, decide_false, Nat.add_sub_cancel, nI_ge0, nI_lt0, nm_lt, nm_ge, bI_T, bI_F, Nat.one_ne_zero, Nat.zero_ne_one, z_fit0, z_fit1, r1, Nat.le_refl]
    exact hQ
  | succ m ih =>
    intro i hi
    have le : ¬ s.1 32 16 ≤ i := by omega
    have r46 := hM.1.s46 i
    have b46 := hM.1.b46 i
    have q := ih (i + 1) (by omega)
    rw [ctN] at q
    rw [i_X8_count_101]
    by_cases z : s.1 46 i = 0
    · rw [if_pos (by simpa using z)] at q
      rw [z, show (nI 0 - nI 1 : Int32) = -1 by decide] at r46
      simp (disch := omega) only [i_X8_count_102, i_X8_count_103, i_X8_count_106, i_X8_count_109, i_X8_count_110, i_X8_count_111, i_X8_count_114, i_X8_count_115, i_X8_count_116, i_X8_count_117, i_X8_count_120, i_X8_count_121, i_X8_count_124, i_X8_count_125, i_X8_count_126, i_X8_count_127, i_X8_count_130, gh_o32, gh_r34, gh_r38, gh_r44, gh_r45, gh_r46, gh_w44, gh_w45, gh_w46, gh_u32, gp_32_0, gp_32_16, gp_32_19, gp_32_39, gp_32_40, gf_32_1, gf_32_3, gf_32_7, gf_32_11, gf_32_13, gf_32_16, gf_32_17, gf_32_18, gf_32_19, gf_32_20, gf_32_39, gf_32_40, z_o_i, z_ai_i, z_si_i, z_ab_b, z_ab_z, z_sb_b, z_sb_z, z_al_i, z_al_b, z_pu_s, z_pu_n, nI_toN, z_inN, true_and, and_true, nI_add, pk_mul, vu_eq, vu_ne, nI_leI, nI_ltI, nI_eqI, nI_eq0, nI_le0, ↓ok_0, ↓ok_1, ↓bI_ok, if_true, if_false, ne_eq, not_true_eq_false, not_false_eq_true, nI_m1, nI_1ne, nI_0eq, bI_eq0, bI_ne0, Bool.false_eq_true, iw_nI, decide_true, decide_false, Nat.add_sub_cancel, nI_ge0, nI_lt0, nm_lt, nm_ge, bI_T, bI_F, Nat.one_ne_zero, Nat.zero_ne_one, z_fit0, z_fit1, r1, le, r46]
      exact q
    · rw [if_neg (by simpa using z)] at q
      rw [pk_sub (by omega)] at r46
      simp (disch := omega) only [i_X8_count_102, i_X8_count_103, i_X8_count_106, i_X8_count_109, i_X8_count_110, i_X8_count_111, i_X8_count_114, i_X8_count_115, i_X8_count_116, i_X8_count_117, i_X8_count_120, i_X8_count_121, i_X8_count_124, i_X8_count_125, i_X8_count_126, i_X8_count_127, i_X8_count_130, gh_o32, gh_r34, gh_r38, gh_r44, gh_r45, gh_r46, gh_w44, gh_w45, gh_w46, gh_u32, gp_32_0, gp_32_16, gp_32_19, gp_32_39, gp_32_40, gf_32_1, gf_32_3, gf_32_7, gf_32_11, gf_32_13, gf_32_16, gf_32_17, gf_32_18, gf_32_19, gf_32_20, gf_32_39, gf_32_40, z_o_i, z_ai_i, z_si_i, z_ab_b, z_ab_z, z_sb_b, z_sb_z, z_al_i, z_al_b, z_pu_s, z_pu_n, nI_toN, z_inN, true_and, and_true, nI_add, pk_mul, vu_eq, vu_ne, nI_leI, nI_ltI, nI_eqI, nI_eq0, nI_le0, ↓ok_0, ↓ok_1, ↓bI_ok, if_true, if_false, ne_eq, not_true_eq_false, not_false_eq_true, nI_m1, nI_1ne, nI_0eq, bI_eq0, bI_ne0, Bool.false_eq_true, iw_nI, decide_true, decide_false, Nat.add_sub_cancel, nI_ge0, nI_lt0, nm_lt, nm_ge, bI_T, bI_F, Nat.one_ne_zero, Nat.zero_ne_one, z_fit0, z_fit1, r1, le, r46]
      exact q
theorem l_cn6 {x1 : Option Value} (hM : Mo s A) (hQ : Q (some (.int (nI (ctN (fun i => decide (¬ s.1 38 i = 0)) (s.1 32 1))))) (GH A P dy) nx) : ∀ (m i : Nat), i + m = s.1 32 1 → X d m_X8_count 137 [some (.ref 32), x1, some (.int (nI (ctN (fun i => decide (¬ s.1 38 i = 0)) i))), some (.int (nI i))] [] (GH A P dy) nx bc bs Q := by
  have sc := hM.1.sc
  have r1 := hM.1.q1
  intro m
  induction m with
  | zero =>
    intro i hi
    have e : i = s.1 32 1 := by omega
    subst e
    simp (disch := omega) only [i_X8_count_137, i_X8_count_138, i_X8_count_139, i_X8_count_142, i_X8_count_168, i_X8_count_169, gh_o32, gh_r34, gh_r38, gh_r44, gh_r45, gh_r46, gh_w44, gh_w45, gh_w46, gh_u32, gp_32_0, gp_32_16, gp_32_19, gp_32_39, gp_32_40, gf_32_1, gf_32_3, gf_32_7, gf_32_11, gf_32_13, gf_32_16, gf_32_17, gf_32_18, gf_32_19, gf_32_20, gf_32_39, gf_32_40, z_o_i, z_ai_i, z_si_i, z_ab_b, z_ab_z, z_sb_b, z_sb_z, z_al_i, z_al_b, z_pu_s, z_pu_n, nI_toN, z_inN, true_and, and_true, nI_add, pk_mul, vu_eq, vu_ne, nI_leI, nI_ltI, nI_eqI, nI_eq0, nI_le0, ↓ok_0, ↓ok_1, ↓bI_ok, if_true, if_false, ne_eq, not_true_eq_false, not_false_eq_true, nI_m1, nI_1ne, nI_0eq, bI_eq0, bI_ne0, Bool.false_eq_true, iw_nI, decide_true, decide_false, Nat.add_sub_cancel, nI_ge0, nI_lt0, nm_lt, nm_ge, bI_T, bI_F, Nat.one_ne_zero, Nat.zero_ne_one, z_fit0, z_fit1, r1, Nat.le_refl]
    exact hQ
  | succ m ih =>
    intro i hi
    have le : ¬ s.1 32 1 ≤ i := by omega
    have r38 := hM.1.r38 i
    have b38 := hM.1.b38 i
    have q := ih (i + 1) (by omega)
    rw [ctN] at q
    rw [i_X8_count_137]
    by_cases z : s.1 38 i = 0
    · rw [if_neg (by simpa using z)] at q
      rw [z, show (nI 0 - nI 1 : Int32) = -1 by decide] at r38
      simp (disch := omega) only [i_X8_count_138, i_X8_count_139, i_X8_count_142, i_X8_count_145, i_X8_count_146, i_X8_count_147, i_X8_count_150, i_X8_count_151, i_X8_count_152, i_X8_count_155, i_X8_count_156, i_X8_count_159, i_X8_count_160, i_X8_count_161, i_X8_count_162, i_X8_count_165, gh_o32, gh_r34, gh_r38, gh_r44, gh_r45, gh_r46, gh_w44, gh_w45, gh_w46, gh_u32, gp_32_0, gp_32_16, gp_32_19, gp_32_39, gp_32_40, gf_32_1, gf_32_3, gf_32_7, gf_32_11, gf_32_13, gf_32_16, gf_32_17, gf_32_18, gf_32_19, gf_32_20, gf_32_39, gf_32_40, z_o_i, z_ai_i, z_si_i, z_ab_b, z_ab_z, z_sb_b, z_sb_z, z_al_i, z_al_b, z_pu_s, z_pu_n, nI_toN, z_inN, true_and, and_true, nI_add, pk_mul, vu_eq, vu_ne, nI_leI, nI_ltI, nI_eqI, nI_eq0, nI_le0, ↓ok_0, ↓ok_1, ↓bI_ok, if_true, if_false, ne_eq, not_true_eq_false, not_false_eq_true, nI_m1, nI_1ne, nI_0eq, bI_eq0, bI_ne0, Bool.false_eq_true, iw_nI, decide_true, decide_false, Nat.add_sub_cancel, nI_ge0, nI_lt0, nm_lt, nm_ge, bI_T, bI_F, Nat.one_ne_zero, Nat.zero_ne_one, z_fit0, z_fit1, r1, le, r38]
      exact q
    · rw [if_pos (by simpa using z)] at q
      rw [pk_sub (by omega)] at r38
      simp (disch := omega) only [i_X8_count_138, i_X8_count_139, i_X8_count_142, i_X8_count_145, i_X8_count_146, i_X8_count_147, i_X8_count_150, i_X8_count_151, i_X8_count_152, i_X8_count_155, i_X8_count_156, i_X8_count_159, i_X8_count_160, i_X8_count_161, i_X8_count_162, i_X8_count_165, gh_o32, gh_r34, gh_r38, gh_r44, gh_r45, gh_r46, gh_w44, gh_w45, gh_w46, gh_u32, gp_32_0, gp_32_16, gp_32_19, gp_32_39, gp_32_40, gf_32_1, gf_32_3, gf_32_7, gf_32_11, gf_32_13, gf_32_16, gf_32_17, gf_32_18, gf_32_19, gf_32_20, gf_32_39, gf_32_40, z_o_i, z_ai_i, z_si_i, z_ab_b, z_ab_z, z_sb_b, z_sb_z, z_al_i, z_al_b, z_pu_s, z_pu_n, nI_toN, z_inN, true_and, and_true, nI_add, pk_mul, vu_eq, vu_ne, nI_leI, nI_ltI, nI_eqI, nI_eq0, nI_le0, ↓ok_0, ↓ok_1, ↓bI_ok, if_true, if_false, ne_eq, not_true_eq_false, not_false_eq_true, nI_m1, nI_1ne, nI_0eq, bI_eq0, bI_ne0, Bool.false_eq_true, iw_nI, decide_true, decide_false, Nat.add_sub_cancel, nI_ge0, nI_lt0, nm_lt, nm_ge, bI_T, bI_F, Nat.one_ne_zero, Nat.zero_ne_one, z_fit0, z_fit1, r1, le, r38]
      exact q
theorem m_count {x : Int32} (hM : Mo s A) (hQ : ∀ B, Mo s B → Fk A B → Q (some (.int (s_count s x))) (GH B P dy) nx) : XC d m_X8_count [.ref 32, .int x] (GH A P dy) nx Q := by
  show X d m_X8_count 0 [some (.ref 32), some (.int x), none, none] [] (GH A P dy) nx 0 0 Q
  obtain ⟨B, eB, hB, fB⟩ := t0_ex hM
  simp (disch := omega) only [i_X8_count_0, i_X8_count_1, i_X8_count_2, i_X8_count_5, i_X8_count_6, i_X8_count_7, gh_o32, gh_r34, gh_r38, gh_r44, gh_r45, gh_r46, gh_w44, gh_w45, gh_w46, gh_u32, gp_32_0, gp_32_16, gp_32_19, gp_32_39, gp_32_40, gf_32_1, gf_32_3, gf_32_7, gf_32_11, gf_32_13, gf_32_16, gf_32_17, gf_32_18, gf_32_19, gf_32_20, gf_32_39, gf_32_40, z_o_i, z_ai_i, z_si_i, z_ab_b, z_ab_z, z_sb_b, z_sb_z, z_al_i, z_al_b, z_pu_s, z_pu_n, nI_toN, z_inN, true_and, and_true, nI_add, pk_mul, vu_eq, vu_ne, nI_leI, nI_ltI, nI_eqI, nI_eq0, nI_le0, ↓ok_0, ↓ok_1, ↓bI_ok, if_true, if_false, ne_eq, not_true_eq_false, not_false_eq_true, nI_m1, nI_1ne, nI_0eq, bI_eq0, bI_ne0, Bool.false_eq_true, iw_nI, decide_true, decide_false, Nat.add_sub_cancel, nI_ge0, nI_lt0, nm_lt, nm_ge, bI_T, bI_F, Nat.one_ne_zero, Nat.zero_ne_one, z_fit0, z_fit1, eB]
  have sc := hB.1.sc
  have q := hQ B hB fB
  have r1 := hB.1.q1
  have r13 := hB.1.q13
  have r11 := hB.1.q11
  have r16 := hB.1.q16
  unfold s_count at q
  by_cases x0 : x = nI 0
  · rw [if_pos x0] at q
    subst x0
    simp (disch := omega) only [i_X8_count_8_0, i_X8_count_8_1, i_X8_count_8_2, i_X8_count_8_3, i_X8_count_8_4, i_X8_count_8_5, i_X8_count_8_6, i_X8_count_52, i_X8_count_53, i_X8_count_56, gh_o32, gh_r34, gh_r38, gh_r44, gh_r45, gh_r46, gh_w44, gh_w45, gh_w46, gh_u32, gp_32_0, gp_32_16, gp_32_19, gp_32_39, gp_32_40, gf_32_1, gf_32_3, gf_32_7, gf_32_11, gf_32_13, gf_32_16, gf_32_17, gf_32_18, gf_32_19, gf_32_20, gf_32_39, gf_32_40, z_o_i, z_ai_i, z_si_i, z_ab_b, z_ab_z, z_sb_b, z_sb_z, z_al_i, z_al_b, z_pu_s, z_pu_n, nI_toN, z_inN, true_and, and_true, nI_add, pk_mul, vu_eq, vu_ne, nI_leI, nI_ltI, nI_eqI, nI_eq0, nI_le0, ↓ok_0, ↓ok_1, ↓bI_ok, if_true, if_false, ne_eq, not_true_eq_false, not_false_eq_true, nI_m1, nI_1ne, nI_0eq, bI_eq0, bI_ne0, Bool.false_eq_true, iw_nI, decide_true, decide_false, Nat.add_sub_cancel, nI_ge0, nI_lt0, nm_lt, nm_ge, bI_T, bI_F, Nat.one_ne_zero, Nat.zero_ne_one, z_fit0, z_fit1, r1]
    exact q
  rw [if_neg x0] at q
  by_cases x1 : x = nI 1
  · rw [if_pos x1] at q
    subst x1
    simp (disch := omega) only [i_X8_count_8_0, i_X8_count_8_1, i_X8_count_8_2, i_X8_count_8_3, i_X8_count_8_4, i_X8_count_8_5, i_X8_count_8_6, i_X8_count_57, i_X8_count_58, gh_o32, gh_r34, gh_r38, gh_r44, gh_r45, gh_r46, gh_w44, gh_w45, gh_w46, gh_u32, gp_32_0, gp_32_16, gp_32_19, gp_32_39, gp_32_40, gf_32_1, gf_32_3, gf_32_7, gf_32_11, gf_32_13, gf_32_16, gf_32_17, gf_32_18, gf_32_19, gf_32_20, gf_32_39, gf_32_40, z_o_i, z_ai_i, z_si_i, z_ab_b, z_ab_z, z_sb_b, z_sb_z, z_al_i, z_al_b, z_pu_s, z_pu_n, nI_toN, z_inN, true_and, and_true, nI_add, pk_mul, vu_eq, vu_ne, nI_leI, nI_ltI, nI_eqI, nI_eq0, nI_le0, ↓ok_0, ↓ok_1, ↓bI_ok, if_true, if_false, ne_eq, not_true_eq_false, not_false_eq_true, nI_m1, nI_1ne, nI_0eq, bI_eq0, bI_ne0, Bool.false_eq_true, iw_nI, decide_true, decide_false, Nat.add_sub_cancel, nI_ge0, nI_lt0, nm_lt, nm_ge, bI_T, bI_F, Nat.one_ne_zero, Nat.zero_ne_one, z_fit0, z_fit1]
    exact l_cn1 hB q (s.1 32 1) 0 (by omega)
  rw [if_neg x1] at q
  by_cases x2 : x = nI 2
  · rw [if_pos x2] at q
    subst x2
    simp (disch := omega) only [i_X8_count_8_0, i_X8_count_8_1, i_X8_count_8_2, i_X8_count_8_3, i_X8_count_8_4, i_X8_count_8_5, i_X8_count_8_6, i_X8_count_84, i_X8_count_85, i_X8_count_88, gh_o32, gh_r34, gh_r38, gh_r44, gh_r45, gh_r46, gh_w44, gh_w45, gh_w46, gh_u32, gp_32_0, gp_32_16, gp_32_19, gp_32_39, gp_32_40, gf_32_1, gf_32_3, gf_32_7, gf_32_11, gf_32_13, gf_32_16, gf_32_17, gf_32_18, gf_32_19, gf_32_20, gf_32_39, gf_32_40, z_o_i, z_ai_i, z_si_i, z_ab_b, z_ab_z, z_sb_b, z_sb_z, z_al_i, z_al_b, z_pu_s, z_pu_n, nI_toN, z_inN, true_and, and_true, nI_add, pk_mul, vu_eq, vu_ne, nI_leI, nI_ltI, nI_eqI, nI_eq0, nI_le0, ↓ok_0, ↓ok_1, ↓bI_ok, if_true, if_false, ne_eq, not_true_eq_false, not_false_eq_true, nI_m1, nI_1ne, nI_0eq, bI_eq0, bI_ne0, Bool.false_eq_true, iw_nI, decide_true, decide_false, Nat.add_sub_cancel, nI_ge0, nI_lt0, nm_lt, nm_ge, bI_T, bI_F, Nat.one_ne_zero, Nat.zero_ne_one, z_fit0, z_fit1, r13]
    exact q
  rw [if_neg x2] at q
  by_cases x3 : x = nI 3
  · rw [if_pos x3] at q
    subst x3
    simp (disch := omega) only [i_X8_count_8_0, i_X8_count_8_1, i_X8_count_8_2, i_X8_count_8_3, i_X8_count_8_4, i_X8_count_8_5, i_X8_count_8_6, i_X8_count_89, i_X8_count_90, i_X8_count_93, gh_o32, gh_r34, gh_r38, gh_r44, gh_r45, gh_r46, gh_w44, gh_w45, gh_w46, gh_u32, gp_32_0, gp_32_16, gp_32_19, gp_32_39, gp_32_40, gf_32_1, gf_32_3, gf_32_7, gf_32_11, gf_32_13, gf_32_16, gf_32_17, gf_32_18, gf_32_19, gf_32_20, gf_32_39, gf_32_40, z_o_i, z_ai_i, z_si_i, z_ab_b, z_ab_z, z_sb_b, z_sb_z, z_al_i, z_al_b, z_pu_s, z_pu_n, nI_toN, z_inN, true_and, and_true, nI_add, pk_mul, vu_eq, vu_ne, nI_leI, nI_ltI, nI_eqI, nI_eq0, nI_le0, ↓ok_0, ↓ok_1, ↓bI_ok, if_true, if_false, ne_eq, not_true_eq_false, not_false_eq_true, nI_m1, nI_1ne, nI_0eq, bI_eq0, bI_ne0, Bool.false_eq_true, iw_nI, decide_true, decide_false, Nat.add_sub_cancel, nI_ge0, nI_lt0, nm_lt, nm_ge, bI_T, bI_F, Nat.one_ne_zero, Nat.zero_ne_one, z_fit0, z_fit1, r11]
    exact q
  rw [if_neg x3] at q
  by_cases x4 : x = nI 4
  · rw [if_pos x4] at q
    subst x4
    simp (disch := omega) only [i_X8_count_8_0, i_X8_count_8_1, i_X8_count_8_2, i_X8_count_8_3, i_X8_count_8_4, i_X8_count_8_5, i_X8_count_8_6, i_X8_count_94, i_X8_count_95, i_X8_count_98, gh_o32, gh_r34, gh_r38, gh_r44, gh_r45, gh_r46, gh_w44, gh_w45, gh_w46, gh_u32, gp_32_0, gp_32_16, gp_32_19, gp_32_39, gp_32_40, gf_32_1, gf_32_3, gf_32_7, gf_32_11, gf_32_13, gf_32_16, gf_32_17, gf_32_18, gf_32_19, gf_32_20, gf_32_39, gf_32_40, z_o_i, z_ai_i, z_si_i, z_ab_b, z_ab_z, z_sb_b, z_sb_z, z_al_i, z_al_b, z_pu_s, z_pu_n, nI_toN, z_inN, true_and, and_true, nI_add, pk_mul, vu_eq, vu_ne, nI_leI, nI_ltI, nI_eqI, nI_eq0, nI_le0, ↓ok_0, ↓ok_1, ↓bI_ok, if_true, if_false, ne_eq, not_true_eq_false, not_false_eq_true, nI_m1, nI_1ne, nI_0eq, bI_eq0, bI_ne0, Bool.false_eq_true, iw_nI, decide_true, decide_false, Nat.add_sub_cancel, nI_ge0, nI_lt0, nm_lt, nm_ge, bI_T, bI_F, Nat.one_ne_zero, Nat.zero_ne_one, z_fit0, z_fit1, r16]
    exact q
  rw [if_neg x4] at q
  by_cases x5 : x = nI 5
  · rw [if_pos x5] at q
    subst x5
    simp (disch := omega) only [i_X8_count_8_0, i_X8_count_8_1, i_X8_count_8_2, i_X8_count_8_3, i_X8_count_8_4, i_X8_count_8_5, i_X8_count_8_6, i_X8_count_99, i_X8_count_100, gh_o32, gh_r34, gh_r38, gh_r44, gh_r45, gh_r46, gh_w44, gh_w45, gh_w46, gh_u32, gp_32_0, gp_32_16, gp_32_19, gp_32_39, gp_32_40, gf_32_1, gf_32_3, gf_32_7, gf_32_11, gf_32_13, gf_32_16, gf_32_17, gf_32_18, gf_32_19, gf_32_20, gf_32_39, gf_32_40, z_o_i, z_ai_i, z_si_i, z_ab_b, z_ab_z, z_sb_b, z_sb_z, z_al_i, z_al_b, z_pu_s, z_pu_n, nI_toN, z_inN, true_and, and_true, nI_add, pk_mul, vu_eq, vu_ne, nI_leI, nI_ltI, nI_eqI, nI_eq0, nI_le0, ↓ok_0, ↓ok_1, ↓bI_ok, if_true, if_false, ne_eq, not_true_eq_false, not_false_eq_true, nI_m1, nI_1ne, nI_0eq, bI_eq0, bI_ne0, Bool.false_eq_true, iw_nI, decide_true, decide_false, Nat.add_sub_cancel, nI_ge0, nI_lt0, nm_lt, nm_ge, bI_T, bI_F, Nat.one_ne_zero, Nat.zero_ne_one, z_fit0, z_fit1]
    exact l_cn5 hB q (s.1 32 16) 0 (by omega)
  rw [if_neg x5] at q
  by_cases x6 : x = nI 6
  · rw [if_pos x6] at q
    subst x6
    simp (disch := omega) only [i_X8_count_8_0, i_X8_count_8_1, i_X8_count_8_2, i_X8_count_8_3, i_X8_count_8_4, i_X8_count_8_5, i_X8_count_8_6, i_X8_count_135, i_X8_count_136, gh_o32, gh_r34, gh_r38, gh_r44, gh_r45, gh_r46, gh_w44, gh_w45, gh_w46, gh_u32, gp_32_0, gp_32_16, gp_32_19, gp_32_39, gp_32_40, gf_32_1, gf_32_3, gf_32_7, gf_32_11, gf_32_13, gf_32_16, gf_32_17, gf_32_18, gf_32_19, gf_32_20, gf_32_39, gf_32_40, z_o_i, z_ai_i, z_si_i, z_ab_b, z_ab_z, z_sb_b, z_sb_z, z_al_i, z_al_b, z_pu_s, z_pu_n, nI_toN, z_inN, true_and, and_true, nI_add, pk_mul, vu_eq, vu_ne, nI_leI, nI_ltI, nI_eqI, nI_eq0, nI_le0, ↓ok_0, ↓ok_1, ↓bI_ok, if_true, if_false, ne_eq, not_true_eq_false, not_false_eq_true, nI_m1, nI_1ne, nI_0eq, bI_eq0, bI_ne0, Bool.false_eq_true, iw_nI, decide_true, decide_false, Nat.add_sub_cancel, nI_ge0, nI_lt0, nm_lt, nm_ge, bI_T, bI_F, Nat.one_ne_zero, Nat.zero_ne_one, z_fit0, z_fit1]
    exact l_cn6 hB q (s.1 32 1) 0 (by omega)
  rw [if_neg x6] at q
  rw [i_X8_count_8_out (by
    rw [← Int32.toInt_inj, nI_toInt (by omega)] at x0 x1 x2 x3 x4 x5 x6
    omega), i_X8_count_170, i_X8_count_172]
  exact q
end MPub6
