/-! THE CONSTRUCTORS -/
def z_h0 (L : Nat) (xs : Nat → Int32) : z_H := fun k => match k with
  | 0 => .inl (3, L, xs)
  | 1 => .inr (.inr (0, fun _ => none))
  | _ => z_no
/-- the numbers at the start -/
def iA : Nat → Nat → Int32 := fun k => match k with
  | 6 => fun j => if j = 1 then nI 10 else nI 0
  | 7 => pt (fun _ => 0) nI 0 40
  | 10 => fun j => if j = 0 then nI 1 else if j = 2 then nI 1 else nI 0
  | 32 => fun j => if j = 10 then nI 10 else if j = 11 then nI 1 else nI 0
  | 40 => pt (fun _ => 0) nI 0 40
  | _ => fun _ => 0
def iP : Nat → Nat → Nat := fun k j => match k with
  | 4 => 1
  | 5 => 1
  | 6 => if j = 2 then 8 else 9
  | 10 => if j = 3 then 12 else if j = 4 then 15 else if j = 5 then 18 else 21
  | _ => 0
/-- the heap when the class is made -/
def iH (L : Nat) (xs : Nat → Int32) : z_H := fun k => if 32 ≤ k then z_no else GH iA iP (z_h0 L xs) k
theorem mk_12 : va_up (va_up (z_df 5) 0 (.ref 13)) 1 (.ref 14) = oF12 (iA 12) (iP 12) := by
  funext j
  match j with
  | 0 => rfl
  | 1 => rfl
  | (k + 2) =>
    rw [vu_ne (by omega), vu_ne (by omega)]
    exact if_neg (by show ¬ k + 2 < 2; omega)
theorem mk_15 : va_up (va_up (z_df 5) 0 (.ref 16)) 1 (.ref 17) = oF15 (iA 15) (iP 15) := by
  funext j
  match j with
  | 0 => rfl
  | 1 => rfl
  | (k + 2) =>
    rw [vu_ne (by omega), vu_ne (by omega)]
    exact if_neg (by show ¬ k + 2 < 2; omega)
theorem mk_18 : va_up (va_up (z_df 5) 0 (.ref 19)) 1 (.ref 20) = oF18 (iA 18) (iP 18) := by
  funext j
  match j with
  | 0 => rfl
  | 1 => rfl
  | (k + 2) =>
    rw [vu_ne (by omega), vu_ne (by omega)]
    exact if_neg (by show ¬ k + 2 < 2; omega)
theorem mk_21 : va_up (va_up (z_df 5) 0 (.ref 22)) 1 (.ref 23) = oF21 (iA 21) (iP 21) := by
  funext j
  match j with
  | 0 => rfl
  | 1 => rfl
  | (k + 2) =>
    rw [vu_ne (by omega), vu_ne (by omega)]
    exact if_neg (by show ¬ k + 2 < 2; omega)
theorem mk_6 : va_up (va_up (va_up (va_up (z_df 0) 0 (.ref 7)) 1 (.int (nI 10))) 2 (.ref 8)) 3 (.ref 9) = oF6 (iA 6) (iP 6) := by
  funext j
  match j with
  | 0 => rfl
  | 1 => rfl
  | 2 => rfl
  | 3 => rfl
  | (k + 4) =>
    rw [vu_ne (by omega), vu_ne (by omega), vu_ne (by omega), vu_ne (by omega)]
    exact if_neg (by show ¬ k + 4 < 4; omega)
theorem mk_10 : va_up (va_up (va_up (va_up (va_up (va_up (va_up (z_df 4) 1 (.ref 11)) 0 (.int (nI 1))) 2 (.int (nI 1))) 3 (.ref 12)) 4 (.ref 15)) 5 (.ref 18)) 6 (.ref 21) = oF10 (iA 10) (iP 10) := by
  funext j
  match j with
  | 0 => rfl
  | 1 => rfl
  | 2 => rfl
  | 3 => rfl
  | 4 => rfl
  | 5 => rfl
  | 6 => rfl
  | (k + 7) =>
    rw [vu_ne (by omega), vu_ne (by omega), vu_ne (by omega), vu_ne (by omega), vu_ne (by omega), vu_ne (by omega), vu_ne (by omega)]
    exact if_neg (by show ¬ k + 7 < 7; omega)
theorem mk_24 : va_up (va_up (va_up (va_up (va_up (va_up (z_df 1) 2 (.ref 25)) 3 (.ref 26)) 4 (.ref 27)) 5 (.ref 28)) 0 (.int (nI 0))) 1 (.int (nI 0)) = oF24 (iA 24) (iP 24) := by
  funext j
  match j with
  | 0 => rfl
  | 1 => rfl
  | 2 => rfl
  | 3 => rfl
  | 4 => rfl
  | 5 => rfl
  | (k + 6) =>
    rw [vu_ne (by omega), vu_ne (by omega), vu_ne (by omega), vu_ne (by omega), vu_ne (by omega), vu_ne (by omega)]
    exact if_neg (by show ¬ k + 6 < 6; omega)
theorem mk_3 : va_up (va_up (va_up (va_up (va_up (va_up (va_up (va_up (va_up (z_df 7) 0 (.ref 4)) 1 (.ref 5)) 2 (.ref 6)) 3 (.ref 10)) 4 (.ref 24)) 5 (.ref 29)) 6 (.ref 30)) 7 (.ref 31)) 8 (.int (nI 0)) = oF3 (iA 3) (iP 3) := by
  funext j
  match j with
  | 0 => rfl
  | 1 => rfl
  | 2 => rfl
  | 3 => rfl
  | 4 => rfl
  | 5 => rfl
  | 6 => rfl
  | 7 => rfl
  | 8 => rfl
  | (k + 9) =>
    rw [vu_ne (by omega), vu_ne (by omega), vu_ne (by omega), vu_ne (by omega), vu_ne (by omega), vu_ne (by omega), vu_ne (by omega), vu_ne (by omega), vu_ne (by omega)]
    exact if_neg (by show ¬ k + 9 < 9; omega)
theorem mk_32 : va_up (va_up (va_up (va_up (va_up (va_up (va_up (va_up (va_up (va_up (va_up (va_up (va_up (va_up (va_up (va_up (va_up (va_up (va_up (va_up (va_up (va_up (va_up (va_up (va_up (va_up (va_up (va_up (va_up (va_up (va_up (va_up (z_df 8) 2 (.ref 33)) 3 (.ref 34)) 4 (.ref 35)) 5 (.ref 36)) 6 (.ref 37)) 7 (.ref 38)) 8 (.ref 39)) 9 (.ref 40)) 10 (.int (nI 10))) 11 (.int (nI 1))) 12 (.ref 41)) 14 (.ref 42)) 15 (.ref 43)) 17 (.ref 44)) 18 (.ref 45)) 20 (.ref 46)) 21 (.ref 47)) 22 (.ref 48)) 23 (.ref 49)) 24 (.ref 50)) 25 (.ref 51)) 26 (.ref 52)) 27 (.ref 53)) 28 (.ref 54)) 29 (.ref 55)) 30 (.ref 56)) 31 (.ref 57)) 32 (.ref 58)) 33 (.ref 59)) 34 (.ref 60)) 35 (.ref 61)) 38 (.ref 62) = oF32 (iA 32) (iP 32) := by
  funext j
  match j with
  | 0 => rfl
  | 1 => rfl
  | 2 => rfl
  | 3 => rfl
  | 4 => rfl
  | 5 => rfl
  | 6 => rfl
  | 7 => rfl
  | 8 => rfl
  | 9 => rfl
  | 10 => rfl
  | 11 => rfl
  | 12 => rfl
  | 13 => rfl
  | 14 => rfl
  | 15 => rfl
  | 16 => rfl
  | 17 => rfl
  | 18 => rfl
  | 19 => rfl
  | 20 => rfl
  | 21 => rfl
  | 22 => rfl
  | 23 => rfl
  | 24 => rfl
  | 25 => rfl
  | 26 => rfl
  | 27 => rfl
  | 28 => rfl
  | 29 => rfl
  | 30 => rfl
  | 31 => rfl
  | 32 => rfl
  | 33 => rfl
  | 34 => rfl
  | 35 => rfl
  | 36 => rfl
  | 37 => rfl
  | 38 => rfl
  | 39 => rfl
  | 40 => rfl
  | (k + 41) =>
    rw [vu_ne (by omega), vu_ne (by omega), vu_ne (by omega), vu_ne (by omega), vu_ne (by omega), vu_ne (by omega), vu_ne (by omega), vu_ne (by omega), vu_ne (by omega), vu_ne (by omega), vu_ne (by omega), vu_ne (by omega), vu_ne (by omega), vu_ne (by omega), vu_ne (by omega), vu_ne (by omega), vu_ne (by omega), vu_ne (by omega), vu_ne (by omega), vu_ne (by omega), vu_ne (by omega), vu_ne (by omega), vu_ne (by omega), vu_ne (by omega), vu_ne (by omega), vu_ne (by omega), vu_ne (by omega), vu_ne (by omega), vu_ne (by omega), vu_ne (by omega), vu_ne (by omega), vu_ne (by omega)]
    exact if_neg (by show ¬ k + 41 < 41; omega)
section CIni
variable {d nx bc bs : Nat} {Q : z_Q} {h : z_H}
theorem hp_to {h g : z_H} {n m : Nat} (hQ : Q none g m) (e : h = g) (e2 : n = m) : Q none h n := by subst e; subst e2; exact hQ
theorem l_ear {p q : Nat} {F : Nat → Value} (hpq : p ≠ q) (hp : h p = .inr (.inl (0, F))) (hF : F 0 = .ref q) (hQ : X d m_X0_init 33 [some (.ref p), some (.int (nI 40))] [] (va_up h q (.inl (0, 40, pt (fun _ => 0) nI 0 40))) nx bc bs Q) : ∀ (m k : Nat), k + m = 40 → X d m_X0_init 14 [some (.ref p), some (.int (nI k))] [] (va_up h q (.inl (0, 40, pt (fun _ => 0) nI 0 k))) nx bc bs Q := by
  intro m
  induction m with
  | zero =>
    intro k hk
    have e : k = 40 := by omega
    subst e
    simp (disch := omega) only [i_X0_init_14, i_X0_init_15, i_X0_init_17, vu_eq, vu_ne, z_o_i, z_pu_n, z_fit1, true_and, z_o_i, z_ai_i, z_si_i, z_ab_b, z_ab_z, z_sb_b, z_sb_z, z_al_i, z_al_b, z_pu_s, z_pu_n, nI_toN, z_inN, true_and, and_true, nI_add, pk_mul, vu_eq, vu_ne, nI_leI, Nat.le_refl, if_true]
    exact hQ
  | succ m ih =>
    intro k hk
    have l1 : ¬ 40 ≤ k := by omega
    have lt : k < 40 := by omega
    have p1 := pt_succ (fun _ => (0 : Int32)) nI 0 k (v := nI k) rfl
    rw [Nat.zero_add] at p1
    rw [i_X0_init_14]
    simp (disch := omega) only [i_X0_init_15, i_X0_init_17, i_X0_init_20, i_X0_init_21, i_X0_init_24, i_X0_init_25, i_X0_init_26, i_X0_init_27, i_X0_init_30, vu_eq, vu_ne, z_o_i, z_pu_n, z_fit1, true_and, z_o_i, z_ai_i, z_si_i, z_ab_b, z_ab_z, z_sb_b, z_sb_z, z_al_i, z_al_b, z_pu_s, z_pu_n, nI_toN, z_inN, true_and, and_true, nI_add, pk_mul, vu_eq, vu_ne, nI_leI, l1, if_false, hp, hF, lt, if_true, ↓ok_0, ↓ok_1]
    rw [p1, vu_vu]
    exact ih (k + 1) (by omega)
theorem l_mod {p q : Nat} {F : Nat → Value} (hpq : p ≠ q) (hp : h p = .inr (.inl (8, F))) (hF : F 9 = .ref q) (hQ : Q none (va_up h q (.inl (0, 40, pt (fun _ => 0) nI 0 40))) nx) : ∀ (m k : Nat), k + m = 40 → X d m_X8_init 260 [some (.ref p), some (.int (nI k))] [] (va_up h q (.inl (0, 40, pt (fun _ => 0) nI 0 k))) nx bc bs Q := by
  intro m
  induction m with
  | zero =>
    intro k hk
    have e : k = 40 := by omega
    subst e
    simp (disch := omega) only [i_X8_init_260, i_X8_init_261, i_X8_init_263, i_X8_init_279, vu_eq, vu_ne, z_o_i, z_pu_n, z_fit1, true_and, z_o_i, z_ai_i, z_si_i, z_ab_b, z_ab_z, z_sb_b, z_sb_z, z_al_i, z_al_b, z_pu_s, z_pu_n, nI_toN, z_inN, true_and, and_true, nI_add, pk_mul, vu_eq, vu_ne, nI_leI, Nat.le_refl, if_true]
    exact hQ
  | succ m ih =>
    intro k hk
    have l1 : ¬ 40 ≤ k := by omega
    have lt : k < 40 := by omega
    have p1 := pt_succ (fun _ => (0 : Int32)) nI 0 k (v := nI k) rfl
    rw [Nat.zero_add] at p1
    rw [i_X8_init_260]
    simp (disch := omega) only [i_X8_init_261, i_X8_init_263, i_X8_init_266, i_X8_init_267, i_X8_init_270, i_X8_init_271, i_X8_init_272, i_X8_init_273, i_X8_init_276, vu_eq, vu_ne, z_o_i, z_pu_n, z_fit1, true_and, z_o_i, z_ai_i, z_si_i, z_ab_b, z_ab_z, z_sb_b, z_sb_z, z_al_i, z_al_b, z_pu_s, z_pu_n, nI_toN, z_inN, true_and, and_true, nI_add, pk_mul, vu_eq, vu_ne, nI_leI, l1, if_false, hp, hF, lt, if_true, ↓ok_0, ↓ok_1]
    rw [p1, vu_vu]
    exact ih (k + 1) (by omega)
theorem k_earl {p q : Nat} {F : Nat → Value} (hpq : p ≠ q) (hp : h p = .inr (.inl (0, F))) (hF : F 0 = .ref q) (hq : h q = .inl (0, 40, fun _ => 0)) (hQ : X d m_X0_init 33 [some (.ref p), some (.int (nI 40))] [] (va_up h q (.inl (0, 40, pt (fun _ => 0) nI 0 40))) nx bc bs Q) : X d m_X0_init 14 [some (.ref p), some (.int (nI 0))] [] h nx bc bs Q := by
  have lp := l_ear hpq hp hF hQ 40 0 rfl
  rw [pt_0, ← hq, vu_self rfl] at lp
  exact lp
theorem k_modl {p q : Nat} {F : Nat → Value} (hpq : p ≠ q) (hp : h p = .inr (.inl (8, F))) (hF : F 9 = .ref q) (hq : h q = .inl (0, 40, fun _ => 0)) (hQ : Q none (va_up h q (.inl (0, 40, pt (fun _ => 0) nI 0 40))) nx) : X d m_X8_init 260 [some (.ref p), some (.int (nI 0))] [] h nx bc bs Q := by
  have lp := l_mod (d := d) (bc := bc) (bs := bs) hpq hp hF hQ 40 0 rfl
  rw [pt_0, ← hq, vu_self rfl] at lp
  exact lp
theorem k_i7 {L : Nat} {xs : Nat → Int32} (hQ : Q none (iH L xs) 32) : XC (d + 6) m_X7_init [.ref 3] (va_up (z_h0 L xs) 3 (.inr (.inl (7, z_df 7)))) 4 Q := by
  have hp_3 : ∀ g n, g = iH L xs → n = 32 → Q none g n := fun g n e1 e2 => by rw [e1, e2]; exact hQ
  clear hQ
  show X (d + 6) m_X7_init 0 [some (.ref 3)] [] (va_up (z_h0 L xs) 3 (.inr (.inl (7, z_df 7)))) 4 28 677 Q
  simp (disch := omega) only [i_X7_init_0, i_X7_init_1, i_X7_init_4, vu_eq, vu_ne, z_o_i, z_pu_n, z_fit1, true_and, z_o_i, z_ai_i, z_si_i, z_ab_b, z_ab_z, z_sb_b, z_sb_z, z_al_i, z_al_b, z_pu_s, z_pu_n, nI_toN, z_inN, true_and, and_true, nI_add, pk_mul, vu_eq, vu_ne]
  rw [i_X7_init_5]
  refine ⟨⟨by omega, by omega⟩, ?_⟩
  simp (disch := omega) only [i_X7_init_8, vu_eq, vu_ne, z_o_i, z_pu_n, z_fit1, true_and, z_o_i, z_ai_i, z_si_i, z_ab_b, z_ab_z, z_sb_b, z_sb_z, z_al_i, z_al_b, z_pu_s, z_pu_n, nI_toN, z_inN, true_and, and_true, nI_add, pk_mul, vu_eq, vu_ne]
  rw [i_X7_init_9]
  refine c_lsinit (d := d + 2) (by simp (disch := omega) only [vu_eq, vu_ne]) ?_
  simp (disch := omega) only [i_X7_init_12, i_X7_init_15, vu_eq, vu_ne, z_o_i, z_pu_n, z_fit1, true_and, z_o_i, z_ai_i, z_si_i, z_ab_b, z_ab_z, z_sb_b, z_sb_z, z_al_i, z_al_b, z_pu_s, z_pu_n, nI_toN, z_inN, true_and, and_true, nI_add, pk_mul, vu_eq, vu_ne]
  rw [i_X7_init_16]
  refine ⟨⟨by omega, by omega⟩, ?_⟩
  simp (disch := omega) only [i_X7_init_19, vu_eq, vu_ne, z_o_i, z_pu_n, z_fit1, true_and, z_o_i, z_ai_i, z_si_i, z_ab_b, z_ab_z, z_sb_b, z_sb_z, z_al_i, z_al_b, z_pu_s, z_pu_n, nI_toN, z_inN, true_and, and_true, nI_add, pk_mul, vu_eq, vu_ne]
  rw [i_X7_init_20]
  refine c_lsinit (d := d + 2) (by simp (disch := omega) only [vu_eq, vu_ne]) ?_
  simp (disch := omega) only [i_X7_init_23, i_X7_init_26, vu_eq, vu_ne, z_o_i, z_pu_n, z_fit1, true_and, z_o_i, z_ai_i, z_si_i, z_ab_b, z_ab_z, z_sb_b, z_sb_z, z_al_i, z_al_b, z_pu_s, z_pu_n, nI_toN, z_inN, true_and, and_true, nI_add, pk_mul, vu_eq, vu_ne]
  rw [i_X7_init_27]
  refine ⟨⟨by omega, by omega⟩, ?_⟩
  simp (disch := omega) only [i_X7_init_30, vu_eq, vu_ne, z_o_i, z_pu_n, z_fit1, true_and, z_o_i, z_ai_i, z_si_i, z_ab_b, z_ab_z, z_sb_b, z_sb_z, z_al_i, z_al_b, z_pu_s, z_pu_n, nI_toN, z_inN, true_and, and_true, nI_add, pk_mul, vu_eq, vu_ne]
  rw [i_X7_init_31]
  refine ⟨⟨by omega, by omega⟩, ?_⟩
  show X _ m_X0_init 0 [some (.ref _), none] [] _ _ 3 66 _
  simp (disch := omega) only [i_X0_init_0, i_X0_init_1, i_X0_init_4, i_X0_init_5, vu_eq, vu_ne, z_o_i, z_pu_n, z_fit1, true_and, z_o_i, z_ai_i, z_si_i, z_ab_b, z_ab_z, z_sb_b, z_sb_z, z_al_i, z_al_b, z_pu_s, z_pu_n, nI_toN, z_inN, true_and, and_true, nI_add, pk_mul, vu_eq, vu_ne]
  rw [i_X0_init_7, show (nI 40 : Int32).toNatClampNeg = 40 by decide]
  refine ⟨⟨by decide, by omega, by omega, by omega⟩, ?_⟩
  simp (disch := omega) only [i_X0_init_9, i_X0_init_12, i_X0_init_13, vu_eq, vu_ne, z_o_i, z_pu_n, z_fit1, true_and, z_o_i, z_ai_i, z_si_i, z_ab_b, z_ab_z, z_sb_b, z_sb_z, z_al_i, z_al_b, z_pu_s, z_pu_n, nI_toN, z_inN, true_and, and_true, nI_add, pk_mul, vu_eq, vu_ne]
  refine k_earl (by omega) vu_eq vu_eq ((vu_ne (by omega)).trans vu_eq) ?_
  simp (disch := omega) only [i_X0_init_33, i_X0_init_34, i_X0_init_36, i_X0_init_39, i_X0_init_40, vu_eq, vu_ne, z_o_i, z_pu_n, z_fit1, true_and, z_o_i, z_ai_i, z_si_i, z_ab_b, z_ab_z, z_sb_b, z_sb_z, z_al_i, z_al_b, z_pu_s, z_pu_n, nI_toN, z_inN, true_and, and_true, nI_add, pk_mul, vu_eq, vu_ne]
  rw [i_X0_init_42, show (nI 13 : Int32).toNatClampNeg = 13 by decide]
  refine ⟨⟨by decide, by omega, by omega, by omega⟩, ?_⟩
  simp (disch := omega) only [i_X0_init_44, i_X0_init_47, i_X0_init_48, vu_eq, vu_ne, z_o_i, z_pu_n, z_fit1, true_and, z_o_i, z_ai_i, z_si_i, z_ab_b, z_ab_z, z_sb_b, z_sb_z, z_al_i, z_al_b, z_pu_s, z_pu_n, nI_toN, z_inN, true_and, and_true, nI_add, pk_mul, vu_eq, vu_ne]
  rw [i_X0_init_50, show (nI 13 : Int32).toNatClampNeg = 13 by decide]
  refine ⟨⟨by decide, by omega, by omega, by omega⟩, ?_⟩
  simp (disch := omega) only [i_X0_init_52, i_X0_init_55, vu_eq, vu_ne, z_o_i, z_pu_n, z_fit1, true_and, z_o_i, z_ai_i, z_si_i, z_ab_b, z_ab_z, z_sb_b, z_sb_z, z_al_i, z_al_b, z_pu_s, z_pu_n, nI_toN, z_inN, true_and, and_true, nI_add, pk_mul, vu_eq, vu_ne]
  simp (disch := omega) only [i_X7_init_34, i_X7_init_37, vu_eq, vu_ne, z_o_i, z_pu_n, z_fit1, true_and, z_o_i, z_ai_i, z_si_i, z_ab_b, z_ab_z, z_sb_b, z_sb_z, z_al_i, z_al_b, z_pu_s, z_pu_n, nI_toN, z_inN, true_and, and_true, nI_add, pk_mul, vu_eq, vu_ne]
  rw [i_X7_init_38]
  refine ⟨⟨by omega, by omega⟩, ?_⟩
  simp (disch := omega) only [i_X7_init_41, vu_eq, vu_ne, z_o_i, z_pu_n, z_fit1, true_and, z_o_i, z_ai_i, z_si_i, z_ab_b, z_ab_z, z_sb_b, z_sb_z, z_al_i, z_al_b, z_pu_s, z_pu_n, nI_toN, z_inN, true_and, and_true, nI_add, pk_mul, vu_eq, vu_ne]
  rw [i_X7_init_42]
  refine ⟨⟨by omega, by omega⟩, ?_⟩
  show X _ m_X4_init 0 [some (.ref _)] [] _ _ 13 236 _
  simp (disch := omega) only [i_X4_init_0, i_X4_init_1, i_X4_init_4, i_X4_init_5, vu_eq, vu_ne, z_o_i, z_pu_n, z_fit1, true_and, z_o_i, z_ai_i, z_si_i, z_ab_b, z_ab_z, z_sb_b, z_sb_z, z_al_i, z_al_b, z_pu_s, z_pu_n, nI_toN, z_inN, true_and, and_true, nI_add, pk_mul, vu_eq, vu_ne]
  rw [i_X4_init_7, show (nI 12 : Int32).toNatClampNeg = 12 by decide]
  refine ⟨⟨by decide, by omega, by omega, by omega⟩, ?_⟩
  simp (disch := omega) only [i_X4_init_9, i_X4_init_12, i_X4_init_13, i_X4_init_14, i_X4_init_17, i_X4_init_18, i_X4_init_19, i_X4_init_22, vu_eq, vu_ne, z_o_i, z_pu_n, z_fit1, true_and, z_o_i, z_ai_i, z_si_i, z_ab_b, z_ab_z, z_sb_b, z_sb_z, z_al_i, z_al_b, z_pu_s, z_pu_n, nI_toN, z_inN, true_and, and_true, nI_add, pk_mul, vu_eq, vu_ne]
  rw [i_X4_init_23]
  refine ⟨⟨by omega, by omega⟩, ?_⟩
  simp (disch := omega) only [i_X4_init_26, vu_eq, vu_ne, z_o_i, z_pu_n, z_fit1, true_and, z_o_i, z_ai_i, z_si_i, z_ab_b, z_ab_z, z_sb_b, z_sb_z, z_al_i, z_al_b, z_pu_s, z_pu_n, nI_toN, z_inN, true_and, and_true, nI_add, pk_mul, vu_eq, vu_ne]
  rw [i_X4_init_27]
  refine ⟨⟨by omega, by omega⟩, ?_⟩
  show X _ m_X5_init 0 [some (.ref _)] [] _ _ 2 54 _
  simp (disch := omega) only [i_X5_init_0, i_X5_init_1, i_X5_init_4, i_X5_init_5, vu_eq, vu_ne, z_o_i, z_pu_n, z_fit1, true_and, z_o_i, z_ai_i, z_si_i, z_ab_b, z_ab_z, z_sb_b, z_sb_z, z_al_i, z_al_b, z_pu_s, z_pu_n, nI_toN, z_inN, true_and, and_true, nI_add, pk_mul, vu_eq, vu_ne]
  rw [i_X5_init_7, show (nI 27 : Int32).toNatClampNeg = 27 by decide]
  refine ⟨⟨by decide, by omega, by omega, by omega⟩, ?_⟩
  simp (disch := omega) only [i_X5_init_9, i_X5_init_12, i_X5_init_13, vu_eq, vu_ne, z_o_i, z_pu_n, z_fit1, true_and, z_o_i, z_ai_i, z_si_i, z_ab_b, z_ab_z, z_sb_b, z_sb_z, z_al_i, z_al_b, z_pu_s, z_pu_n, nI_toN, z_inN, true_and, and_true, nI_add, pk_mul, vu_eq, vu_ne]
  rw [i_X5_init_15, show (nI 27 : Int32).toNatClampNeg = 27 by decide]
  refine ⟨⟨by decide, by omega, by omega, by omega⟩, ?_⟩
  simp (disch := omega) only [i_X5_init_17, i_X5_init_20, vu_eq, vu_ne, z_o_i, z_pu_n, z_fit1, true_and, z_o_i, z_ai_i, z_si_i, z_ab_b, z_ab_z, z_sb_b, z_sb_z, z_al_i, z_al_b, z_pu_s, z_pu_n, nI_toN, z_inN, true_and, and_true, nI_add, pk_mul, vu_eq, vu_ne]
  simp (disch := omega) only [i_X4_init_30, i_X4_init_33, vu_eq, vu_ne, z_o_i, z_pu_n, z_fit1, true_and, z_o_i, z_ai_i, z_si_i, z_ab_b, z_ab_z, z_sb_b, z_sb_z, z_al_i, z_al_b, z_pu_s, z_pu_n, nI_toN, z_inN, true_and, and_true, nI_add, pk_mul, vu_eq, vu_ne]
  rw [i_X4_init_34]
  refine ⟨⟨by omega, by omega⟩, ?_⟩
  simp (disch := omega) only [i_X4_init_37, vu_eq, vu_ne, z_o_i, z_pu_n, z_fit1, true_and, z_o_i, z_ai_i, z_si_i, z_ab_b, z_ab_z, z_sb_b, z_sb_z, z_al_i, z_al_b, z_pu_s, z_pu_n, nI_toN, z_inN, true_and, and_true, nI_add, pk_mul, vu_eq, vu_ne]
  rw [i_X4_init_38]
  refine ⟨⟨by omega, by omega⟩, ?_⟩
  show X _ m_X5_init 0 [some (.ref _)] [] _ _ 2 54 _
  simp (disch := omega) only [i_X5_init_0, i_X5_init_1, i_X5_init_4, i_X5_init_5, vu_eq, vu_ne, z_o_i, z_pu_n, z_fit1, true_and, z_o_i, z_ai_i, z_si_i, z_ab_b, z_ab_z, z_sb_b, z_sb_z, z_al_i, z_al_b, z_pu_s, z_pu_n, nI_toN, z_inN, true_and, and_true, nI_add, pk_mul, vu_eq, vu_ne]
  rw [i_X5_init_7, show (nI 27 : Int32).toNatClampNeg = 27 by decide]
  refine ⟨⟨by decide, by omega, by omega, by omega⟩, ?_⟩
  simp (disch := omega) only [i_X5_init_9, i_X5_init_12, i_X5_init_13, vu_eq, vu_ne, z_o_i, z_pu_n, z_fit1, true_and, z_o_i, z_ai_i, z_si_i, z_ab_b, z_ab_z, z_sb_b, z_sb_z, z_al_i, z_al_b, z_pu_s, z_pu_n, nI_toN, z_inN, true_and, and_true, nI_add, pk_mul, vu_eq, vu_ne]
  rw [i_X5_init_15, show (nI 27 : Int32).toNatClampNeg = 27 by decide]
  refine ⟨⟨by decide, by omega, by omega, by omega⟩, ?_⟩
  simp (disch := omega) only [i_X5_init_17, i_X5_init_20, vu_eq, vu_ne, z_o_i, z_pu_n, z_fit1, true_and, z_o_i, z_ai_i, z_si_i, z_ab_b, z_ab_z, z_sb_b, z_sb_z, z_al_i, z_al_b, z_pu_s, z_pu_n, nI_toN, z_inN, true_and, and_true, nI_add, pk_mul, vu_eq, vu_ne]
  simp (disch := omega) only [i_X4_init_41, i_X4_init_44, vu_eq, vu_ne, z_o_i, z_pu_n, z_fit1, true_and, z_o_i, z_ai_i, z_si_i, z_ab_b, z_ab_z, z_sb_b, z_sb_z, z_al_i, z_al_b, z_pu_s, z_pu_n, nI_toN, z_inN, true_and, and_true, nI_add, pk_mul, vu_eq, vu_ne]
  rw [i_X4_init_45]
  refine ⟨⟨by omega, by omega⟩, ?_⟩
  simp (disch := omega) only [i_X4_init_48, vu_eq, vu_ne, z_o_i, z_pu_n, z_fit1, true_and, z_o_i, z_ai_i, z_si_i, z_ab_b, z_ab_z, z_sb_b, z_sb_z, z_al_i, z_al_b, z_pu_s, z_pu_n, nI_toN, z_inN, true_and, and_true, nI_add, pk_mul, vu_eq, vu_ne]
  rw [i_X4_init_49]
  refine ⟨⟨by omega, by omega⟩, ?_⟩
  show X _ m_X5_init 0 [some (.ref _)] [] _ _ 2 54 _
  simp (disch := omega) only [i_X5_init_0, i_X5_init_1, i_X5_init_4, i_X5_init_5, vu_eq, vu_ne, z_o_i, z_pu_n, z_fit1, true_and, z_o_i, z_ai_i, z_si_i, z_ab_b, z_ab_z, z_sb_b, z_sb_z, z_al_i, z_al_b, z_pu_s, z_pu_n, nI_toN, z_inN, true_and, and_true, nI_add, pk_mul, vu_eq, vu_ne]
  rw [i_X5_init_7, show (nI 27 : Int32).toNatClampNeg = 27 by decide]
  refine ⟨⟨by decide, by omega, by omega, by omega⟩, ?_⟩
  simp (disch := omega) only [i_X5_init_9, i_X5_init_12, i_X5_init_13, vu_eq, vu_ne, z_o_i, z_pu_n, z_fit1, true_and, z_o_i, z_ai_i, z_si_i, z_ab_b, z_ab_z, z_sb_b, z_sb_z, z_al_i, z_al_b, z_pu_s, z_pu_n, nI_toN, z_inN, true_and, and_true, nI_add, pk_mul, vu_eq, vu_ne]
  rw [i_X5_init_15, show (nI 27 : Int32).toNatClampNeg = 27 by decide]
  refine ⟨⟨by decide, by omega, by omega, by omega⟩, ?_⟩
  simp (disch := omega) only [i_X5_init_17, i_X5_init_20, vu_eq, vu_ne, z_o_i, z_pu_n, z_fit1, true_and, z_o_i, z_ai_i, z_si_i, z_ab_b, z_ab_z, z_sb_b, z_sb_z, z_al_i, z_al_b, z_pu_s, z_pu_n, nI_toN, z_inN, true_and, and_true, nI_add, pk_mul, vu_eq, vu_ne]
  simp (disch := omega) only [i_X4_init_52, i_X4_init_55, vu_eq, vu_ne, z_o_i, z_pu_n, z_fit1, true_and, z_o_i, z_ai_i, z_si_i, z_ab_b, z_ab_z, z_sb_b, z_sb_z, z_al_i, z_al_b, z_pu_s, z_pu_n, nI_toN, z_inN, true_and, and_true, nI_add, pk_mul, vu_eq, vu_ne]
  rw [i_X4_init_56]
  refine ⟨⟨by omega, by omega⟩, ?_⟩
  simp (disch := omega) only [i_X4_init_59, vu_eq, vu_ne, z_o_i, z_pu_n, z_fit1, true_and, z_o_i, z_ai_i, z_si_i, z_ab_b, z_ab_z, z_sb_b, z_sb_z, z_al_i, z_al_b, z_pu_s, z_pu_n, nI_toN, z_inN, true_and, and_true, nI_add, pk_mul, vu_eq, vu_ne]
  rw [i_X4_init_60]
  refine ⟨⟨by omega, by omega⟩, ?_⟩
  show X _ m_X5_init 0 [some (.ref _)] [] _ _ 2 54 _
  simp (disch := omega) only [i_X5_init_0, i_X5_init_1, i_X5_init_4, i_X5_init_5, vu_eq, vu_ne, z_o_i, z_pu_n, z_fit1, true_and, z_o_i, z_ai_i, z_si_i, z_ab_b, z_ab_z, z_sb_b, z_sb_z, z_al_i, z_al_b, z_pu_s, z_pu_n, nI_toN, z_inN, true_and, and_true, nI_add, pk_mul, vu_eq, vu_ne]
  rw [i_X5_init_7, show (nI 27 : Int32).toNatClampNeg = 27 by decide]
  refine ⟨⟨by decide, by omega, by omega, by omega⟩, ?_⟩
  simp (disch := omega) only [i_X5_init_9, i_X5_init_12, i_X5_init_13, vu_eq, vu_ne, z_o_i, z_pu_n, z_fit1, true_and, z_o_i, z_ai_i, z_si_i, z_ab_b, z_ab_z, z_sb_b, z_sb_z, z_al_i, z_al_b, z_pu_s, z_pu_n, nI_toN, z_inN, true_and, and_true, nI_add, pk_mul, vu_eq, vu_ne]
  rw [i_X5_init_15, show (nI 27 : Int32).toNatClampNeg = 27 by decide]
  refine ⟨⟨by decide, by omega, by omega, by omega⟩, ?_⟩
  simp (disch := omega) only [i_X5_init_17, i_X5_init_20, vu_eq, vu_ne, z_o_i, z_pu_n, z_fit1, true_and, z_o_i, z_ai_i, z_si_i, z_ab_b, z_ab_z, z_sb_b, z_sb_z, z_al_i, z_al_b, z_pu_s, z_pu_n, nI_toN, z_inN, true_and, and_true, nI_add, pk_mul, vu_eq, vu_ne]
  simp (disch := omega) only [i_X4_init_63, i_X4_init_66, vu_eq, vu_ne, z_o_i, z_pu_n, z_fit1, true_and, z_o_i, z_ai_i, z_si_i, z_ab_b, z_ab_z, z_sb_b, z_sb_z, z_al_i, z_al_b, z_pu_s, z_pu_n, nI_toN, z_inN, true_and, and_true, nI_add, pk_mul, vu_eq, vu_ne]
  simp (disch := omega) only [i_X7_init_45, i_X7_init_48, vu_eq, vu_ne, z_o_i, z_pu_n, z_fit1, true_and, z_o_i, z_ai_i, z_si_i, z_ab_b, z_ab_z, z_sb_b, z_sb_z, z_al_i, z_al_b, z_pu_s, z_pu_n, nI_toN, z_inN, true_and, and_true, nI_add, pk_mul, vu_eq, vu_ne]
  rw [i_X7_init_49]
  refine ⟨⟨by omega, by omega⟩, ?_⟩
  simp (disch := omega) only [i_X7_init_52, vu_eq, vu_ne, z_o_i, z_pu_n, z_fit1, true_and, z_o_i, z_ai_i, z_si_i, z_ab_b, z_ab_z, z_sb_b, z_sb_z, z_al_i, z_al_b, z_pu_s, z_pu_n, nI_toN, z_inN, true_and, and_true, nI_add, pk_mul, vu_eq, vu_ne]
  rw [i_X7_init_53]
  refine ⟨⟨by omega, by omega⟩, ?_⟩
  show X _ m_X1_init 0 [some (.ref _)] [] _ _ 4 56 _
  simp (disch := omega) only [i_X1_init_0, i_X1_init_1, i_X1_init_4, i_X1_init_5, vu_eq, vu_ne, z_o_i, z_pu_n, z_fit1, true_and, z_o_i, z_ai_i, z_si_i, z_ab_b, z_ab_z, z_sb_b, z_sb_z, z_al_i, z_al_b, z_pu_s, z_pu_n, nI_toN, z_inN, true_and, and_true, nI_add, pk_mul, vu_eq, vu_ne]
  rw [i_X1_init_7, show (nI 14 : Int32).toNatClampNeg = 14 by decide]
  refine ⟨⟨by decide, by omega, by omega, by omega⟩, ?_⟩
  simp (disch := omega) only [i_X1_init_9, i_X1_init_12, i_X1_init_13, vu_eq, vu_ne, z_o_i, z_pu_n, z_fit1, true_and, z_o_i, z_ai_i, z_si_i, z_ab_b, z_ab_z, z_sb_b, z_sb_z, z_al_i, z_al_b, z_pu_s, z_pu_n, nI_toN, z_inN, true_and, and_true, nI_add, pk_mul, vu_eq, vu_ne]
  rw [i_X1_init_15, show (nI 14 : Int32).toNatClampNeg = 14 by decide]
  refine ⟨⟨by decide, by omega, by omega, by omega⟩, ?_⟩
  simp (disch := omega) only [i_X1_init_17, i_X1_init_20, i_X1_init_21, vu_eq, vu_ne, z_o_i, z_pu_n, z_fit1, true_and, z_o_i, z_ai_i, z_si_i, z_ab_b, z_ab_z, z_sb_b, z_sb_z, z_al_i, z_al_b, z_pu_s, z_pu_n, nI_toN, z_inN, true_and, and_true, nI_add, pk_mul, vu_eq, vu_ne]
  rw [i_X1_init_23, show (nI 14 : Int32).toNatClampNeg = 14 by decide]
  refine ⟨⟨by decide, by omega, by omega, by omega⟩, ?_⟩
  simp (disch := omega) only [i_X1_init_25, i_X1_init_28, i_X1_init_29, vu_eq, vu_ne, z_o_i, z_pu_n, z_fit1, true_and, z_o_i, z_ai_i, z_si_i, z_ab_b, z_ab_z, z_sb_b, z_sb_z, z_al_i, z_al_b, z_pu_s, z_pu_n, nI_toN, z_inN, true_and, and_true, nI_add, pk_mul, vu_eq, vu_ne]
  rw [i_X1_init_31, show (nI 14 : Int32).toNatClampNeg = 14 by decide]
  refine ⟨⟨by decide, by omega, by omega, by omega⟩, ?_⟩
  simp (disch := omega) only [i_X1_init_33, i_X1_init_36, i_X1_init_37, i_X1_init_38, i_X1_init_41, i_X1_init_42, i_X1_init_43, i_X1_init_46, vu_eq, vu_ne, z_o_i, z_pu_n, z_fit1, true_and, z_o_i, z_ai_i, z_si_i, z_ab_b, z_ab_z, z_sb_b, z_sb_z, z_al_i, z_al_b, z_pu_s, z_pu_n, nI_toN, z_inN, true_and, and_true, nI_add, pk_mul, vu_eq, vu_ne]
  simp (disch := omega) only [i_X7_init_56, i_X7_init_59, i_X7_init_60, vu_eq, vu_ne, z_o_i, z_pu_n, z_fit1, true_and, z_o_i, z_ai_i, z_si_i, z_ab_b, z_ab_z, z_sb_b, z_sb_z, z_al_i, z_al_b, z_pu_s, z_pu_n, nI_toN, z_inN, true_and, and_true, nI_add, pk_mul, vu_eq, vu_ne]
  rw [i_X7_init_62, show (nI 24 : Int32).toNatClampNeg = 24 by decide]
  refine ⟨⟨by decide, by omega, by omega, by omega⟩, ?_⟩
  simp (disch := omega) only [i_X7_init_64, i_X7_init_67, i_X7_init_68, vu_eq, vu_ne, z_o_i, z_pu_n, z_fit1, true_and, z_o_i, z_ai_i, z_si_i, z_ab_b, z_ab_z, z_sb_b, z_sb_z, z_al_i, z_al_b, z_pu_s, z_pu_n, nI_toN, z_inN, true_and, and_true, nI_add, pk_mul, vu_eq, vu_ne]
  rw [i_X7_init_70, show (nI 16 : Int32).toNatClampNeg = 16 by decide]
  refine ⟨⟨by decide, by omega, by omega, by omega⟩, ?_⟩
  simp (disch := omega) only [i_X7_init_72, i_X7_init_75, i_X7_init_76, vu_eq, vu_ne, z_o_i, z_pu_n, z_fit1, true_and, z_o_i, z_ai_i, z_si_i, z_ab_b, z_ab_z, z_sb_b, z_sb_z, z_al_i, z_al_b, z_pu_s, z_pu_n, nI_toN, z_inN, true_and, and_true, nI_add, pk_mul, vu_eq, vu_ne]
  rw [i_X7_init_79, show (nI 256 : Int32).toNatClampNeg = 256 by decide]
  refine ⟨⟨by decide, by omega, by omega, by omega⟩, ?_⟩
  simp (disch := omega) only [i_X7_init_81, i_X7_init_84, i_X7_init_85, i_X7_init_86, i_X7_init_89, vu_eq, vu_ne, z_o_i, z_pu_n, z_fit1, true_and, z_o_i, z_ai_i, z_si_i, z_ab_b, z_ab_z, z_sb_b, z_sb_z, z_al_i, z_al_b, z_pu_s, z_pu_n, nI_toN, z_inN, true_and, and_true, nI_add, pk_mul, vu_eq, vu_ne]
  refine hp_3 _ _ ?_ rfl
  funext k
  by_cases k32 : 32 ≤ k
  · rw [show iH L xs k = z_no from if_pos k32]
    iterate 54 rw [vu_ne (by omega)]
    match k, k32 with
    | (m + 32), _ => rfl
  · have lt : k < 32 := by omega
    clear k32 hp_3
    match k, lt with
    | 0, _ => rfl
    | 1, _ => rfl
    | 2, _ => rfl
    | 3, _ => exact congrArg (fun F => (Sum.inr (Sum.inl (7, F)) : z_C)) mk_3
    | 4, _ => exact congrArg (fun F => (Sum.inr (Sum.inl (9, F)) : z_C)) (o4_ls (a := iA 4) (p := iP 4)).symm
    | 5, _ => exact congrArg (fun F => (Sum.inr (Sum.inl (9, F)) : z_C)) (o5_ls (a := iA 5) (p := iP 5)).symm
    | 6, _ => exact congrArg (fun F => (Sum.inr (Sum.inl (0, F)) : z_C)) mk_6
    | 7, _ => rfl
    | 8, _ => rfl
    | 9, _ => rfl
    | 10, _ => exact congrArg (fun F => (Sum.inr (Sum.inl (4, F)) : z_C)) mk_10
    | 11, _ => rfl
    | 12, _ => exact congrArg (fun F => (Sum.inr (Sum.inl (5, F)) : z_C)) mk_12
    | 13, _ => rfl
    | 14, _ => rfl
    | 15, _ => exact congrArg (fun F => (Sum.inr (Sum.inl (5, F)) : z_C)) mk_15
    | 16, _ => rfl
    | 17, _ => rfl
    | 18, _ => exact congrArg (fun F => (Sum.inr (Sum.inl (5, F)) : z_C)) mk_18
    | 19, _ => rfl
    | 20, _ => rfl
    | 21, _ => exact congrArg (fun F => (Sum.inr (Sum.inl (5, F)) : z_C)) mk_21
    | 22, _ => rfl
    | 23, _ => rfl
    | 24, _ => exact congrArg (fun F => (Sum.inr (Sum.inl (1, F)) : z_C)) mk_24
    | 25, _ => rfl
    | 26, _ => rfl
    | 27, _ => rfl
    | 28, _ => rfl
    | 29, _ => rfl
    | 30, _ => rfl
    | 31, _ => rfl
    | (m + 32), lt => exact absurd lt (by omega)
theorem k_i8 {L : Nat} {xs : Nat → Int32} (hQ : Q none (GH iA iP (z_h0 L xs)) 63) : XC (d + 6) m_X8_init [.ref 32] (va_up (iH L xs) 32 (.inr (.inl (8, z_df 8)))) 33 Q := by
  have hp_3 : ∀ g n, g = GH iA iP (z_h0 L xs) → n = 63 → Q none g n := fun g n e1 e2 => by rw [e1, e2]; exact hQ
  clear hQ
  show X (d + 6) m_X8_init 0 [some (.ref 32), none] [] (va_up (iH L xs) 32 (.inr (.inl (8, z_df 8)))) 33 30 4062 Q
  simp (disch := omega) only [i_X8_init_0, i_X8_init_1, i_X8_init_4, i_X8_init_5, vu_eq, vu_ne, z_o_i, z_pu_n, z_fit1, true_and, z_o_i, z_ai_i, z_si_i, z_ab_b, z_ab_z, z_sb_b, z_sb_z, z_al_i, z_al_b, z_pu_s, z_pu_n, nI_toN, z_inN, true_and, and_true, nI_add, pk_mul, vu_eq, vu_ne]
  rw [i_X8_init_7, show (nI 24 : Int32).toNatClampNeg = 24 by decide]
  refine ⟨⟨by decide, by omega, by omega, by omega⟩, ?_⟩
  simp (disch := omega) only [i_X8_init_9, i_X8_init_12, i_X8_init_13, vu_eq, vu_ne, z_o_i, z_pu_n, z_fit1, true_and, z_o_i, z_ai_i, z_si_i, z_ab_b, z_ab_z, z_sb_b, z_sb_z, z_al_i, z_al_b, z_pu_s, z_pu_n, nI_toN, z_inN, true_and, and_true, nI_add, pk_mul, vu_eq, vu_ne]
  rw [i_X8_init_15, show (nI 24 : Int32).toNatClampNeg = 24 by decide]
  refine ⟨⟨by decide, by omega, by omega, by omega⟩, ?_⟩
  simp (disch := omega) only [i_X8_init_17, i_X8_init_20, i_X8_init_21, vu_eq, vu_ne, z_o_i, z_pu_n, z_fit1, true_and, z_o_i, z_ai_i, z_si_i, z_ab_b, z_ab_z, z_sb_b, z_sb_z, z_al_i, z_al_b, z_pu_s, z_pu_n, nI_toN, z_inN, true_and, and_true, nI_add, pk_mul, vu_eq, vu_ne]
  rw [i_X8_init_23, show (nI 72 : Int32).toNatClampNeg = 72 by decide]
  refine ⟨⟨by decide, by omega, by omega, by omega⟩, ?_⟩
  simp (disch := omega) only [i_X8_init_25, i_X8_init_28, i_X8_init_29, vu_eq, vu_ne, z_o_i, z_pu_n, z_fit1, true_and, z_o_i, z_ai_i, z_si_i, z_ab_b, z_ab_z, z_sb_b, z_sb_z, z_al_i, z_al_b, z_pu_s, z_pu_n, nI_toN, z_inN, true_and, and_true, nI_add, pk_mul, vu_eq, vu_ne]
  rw [i_X8_init_32, show (nI 864 : Int32).toNatClampNeg = 864 by decide]
  refine ⟨⟨by decide, by omega, by omega, by omega⟩, ?_⟩
  simp (disch := omega) only [i_X8_init_34, i_X8_init_37, i_X8_init_38, vu_eq, vu_ne, z_o_i, z_pu_n, z_fit1, true_and, z_o_i, z_ai_i, z_si_i, z_ab_b, z_ab_z, z_sb_b, z_sb_z, z_al_i, z_al_b, z_pu_s, z_pu_n, nI_toN, z_inN, true_and, and_true, nI_add, pk_mul, vu_eq, vu_ne]
  rw [i_X8_init_41, show (nI 864 : Int32).toNatClampNeg = 864 by decide]
  refine ⟨⟨by decide, by omega, by omega, by omega⟩, ?_⟩
  simp (disch := omega) only [i_X8_init_43, i_X8_init_46, i_X8_init_47, vu_eq, vu_ne, z_o_i, z_pu_n, z_fit1, true_and, z_o_i, z_ai_i, z_si_i, z_ab_b, z_ab_z, z_sb_b, z_sb_z, z_al_i, z_al_b, z_pu_s, z_pu_n, nI_toN, z_inN, true_and, and_true, nI_add, pk_mul, vu_eq, vu_ne]
  rw [i_X8_init_49, show (nI 24 : Int32).toNatClampNeg = 24 by decide]
  refine ⟨⟨by decide, by omega, by omega, by omega⟩, ?_⟩
  simp (disch := omega) only [i_X8_init_51, i_X8_init_54, i_X8_init_55, vu_eq, vu_ne, z_o_i, z_pu_n, z_fit1, true_and, z_o_i, z_ai_i, z_si_i, z_ab_b, z_ab_z, z_sb_b, z_sb_z, z_al_i, z_al_b, z_pu_s, z_pu_n, nI_toN, z_inN, true_and, and_true, nI_add, pk_mul, vu_eq, vu_ne]
  rw [i_X8_init_58, show (nI 192 : Int32).toNatClampNeg = 192 by decide]
  refine ⟨⟨by decide, by omega, by omega, by omega⟩, ?_⟩
  simp (disch := omega) only [i_X8_init_60, i_X8_init_63, i_X8_init_64, vu_eq, vu_ne, z_o_i, z_pu_n, z_fit1, true_and, z_o_i, z_ai_i, z_si_i, z_ab_b, z_ab_z, z_sb_b, z_sb_z, z_al_i, z_al_b, z_pu_s, z_pu_n, nI_toN, z_inN, true_and, and_true, nI_add, pk_mul, vu_eq, vu_ne]
  rw [i_X8_init_66, show (nI 40 : Int32).toNatClampNeg = 40 by decide]
  refine ⟨⟨by decide, by omega, by omega, by omega⟩, ?_⟩
  simp (disch := omega) only [i_X8_init_68, i_X8_init_71, i_X8_init_72, i_X8_init_74, i_X8_init_77, i_X8_init_78, i_X8_init_79, i_X8_init_82, i_X8_init_83, vu_eq, vu_ne, z_o_i, z_pu_n, z_fit1, true_and, z_o_i, z_ai_i, z_si_i, z_ab_b, z_ab_z, z_sb_b, z_sb_z, z_al_i, z_al_b, z_pu_s, z_pu_n, nI_toN, z_inN, true_and, and_true, nI_add, pk_mul, vu_eq, vu_ne]
  rw [i_X8_init_85, show (nI 12 : Int32).toNatClampNeg = 12 by decide]
  refine ⟨⟨by decide, by omega, by omega, by omega⟩, ?_⟩
  simp (disch := omega) only [i_X8_init_87, i_X8_init_90, i_X8_init_91, vu_eq, vu_ne, z_o_i, z_pu_n, z_fit1, true_and, z_o_i, z_ai_i, z_si_i, z_ab_b, z_ab_z, z_sb_b, z_sb_z, z_al_i, z_al_b, z_pu_s, z_pu_n, nI_toN, z_inN, true_and, and_true, nI_add, pk_mul, vu_eq, vu_ne]
  rw [i_X8_init_93, show (nI 16 : Int32).toNatClampNeg = 16 by decide]
  refine ⟨⟨by decide, by omega, by omega, by omega⟩, ?_⟩
  simp (disch := omega) only [i_X8_init_95, i_X8_init_98, i_X8_init_99, vu_eq, vu_ne, z_o_i, z_pu_n, z_fit1, true_and, z_o_i, z_ai_i, z_si_i, z_ab_b, z_ab_z, z_sb_b, z_sb_z, z_al_i, z_al_b, z_pu_s, z_pu_n, nI_toN, z_inN, true_and, and_true, nI_add, pk_mul, vu_eq, vu_ne]
  rw [i_X8_init_102, show (nI 128 : Int32).toNatClampNeg = 128 by decide]
  refine ⟨⟨by decide, by omega, by omega, by omega⟩, ?_⟩
  simp (disch := omega) only [i_X8_init_104, i_X8_init_107, i_X8_init_108, vu_eq, vu_ne, z_o_i, z_pu_n, z_fit1, true_and, z_o_i, z_ai_i, z_si_i, z_ab_b, z_ab_z, z_sb_b, z_sb_z, z_al_i, z_al_b, z_pu_s, z_pu_n, nI_toN, z_inN, true_and, and_true, nI_add, pk_mul, vu_eq, vu_ne]
  rw [i_X8_init_110, show (nI 14 : Int32).toNatClampNeg = 14 by decide]
  refine ⟨⟨by decide, by omega, by omega, by omega⟩, ?_⟩
  simp (disch := omega) only [i_X8_init_112, i_X8_init_115, i_X8_init_116, vu_eq, vu_ne, z_o_i, z_pu_n, z_fit1, true_and, z_o_i, z_ai_i, z_si_i, z_ab_b, z_ab_z, z_sb_b, z_sb_z, z_al_i, z_al_b, z_pu_s, z_pu_n, nI_toN, z_inN, true_and, and_true, nI_add, pk_mul, vu_eq, vu_ne]
  rw [i_X8_init_118, show (nI 14 : Int32).toNatClampNeg = 14 by decide]
  refine ⟨⟨by decide, by omega, by omega, by omega⟩, ?_⟩
  simp (disch := omega) only [i_X8_init_120, i_X8_init_123, i_X8_init_124, vu_eq, vu_ne, z_o_i, z_pu_n, z_fit1, true_and, z_o_i, z_ai_i, z_si_i, z_ab_b, z_ab_z, z_sb_b, z_sb_z, z_al_i, z_al_b, z_pu_s, z_pu_n, nI_toN, z_inN, true_and, and_true, nI_add, pk_mul, vu_eq, vu_ne]
  rw [i_X8_init_126, show (nI 14 : Int32).toNatClampNeg = 14 by decide]
  refine ⟨⟨by decide, by omega, by omega, by omega⟩, ?_⟩
  simp (disch := omega) only [i_X8_init_128, i_X8_init_131, i_X8_init_132, vu_eq, vu_ne, z_o_i, z_pu_n, z_fit1, true_and, z_o_i, z_ai_i, z_si_i, z_ab_b, z_ab_z, z_sb_b, z_sb_z, z_al_i, z_al_b, z_pu_s, z_pu_n, nI_toN, z_inN, true_and, and_true, nI_add, pk_mul, vu_eq, vu_ne]
  rw [i_X8_init_134, show (nI 48 : Int32).toNatClampNeg = 48 by decide]
  refine ⟨⟨by decide, by omega, by omega, by omega⟩, ?_⟩
  simp (disch := omega) only [i_X8_init_136, i_X8_init_139, i_X8_init_140, vu_eq, vu_ne, z_o_i, z_pu_n, z_fit1, true_and, z_o_i, z_ai_i, z_si_i, z_ab_b, z_ab_z, z_sb_b, z_sb_z, z_al_i, z_al_b, z_pu_s, z_pu_n, nI_toN, z_inN, true_and, and_true, nI_add, pk_mul, vu_eq, vu_ne]
  rw [i_X8_init_142, show (nI 48 : Int32).toNatClampNeg = 48 by decide]
  refine ⟨⟨by decide, by omega, by omega, by omega⟩, ?_⟩
  simp (disch := omega) only [i_X8_init_144, i_X8_init_147, i_X8_init_148, vu_eq, vu_ne, z_o_i, z_pu_n, z_fit1, true_and, z_o_i, z_ai_i, z_si_i, z_ab_b, z_ab_z, z_sb_b, z_sb_z, z_al_i, z_al_b, z_pu_s, z_pu_n, nI_toN, z_inN, true_and, and_true, nI_add, pk_mul, vu_eq, vu_ne]
  rw [i_X8_init_149, show (nI 2 : Int32).toNatClampNeg = 2 by decide]
  refine ⟨⟨by decide, by omega, by omega, by omega⟩, ?_⟩
  simp (disch := omega) only [i_X8_init_151, i_X8_init_154, i_X8_init_155, vu_eq, vu_ne, z_o_i, z_pu_n, z_fit1, true_and, z_o_i, z_ai_i, z_si_i, z_ab_b, z_ab_z, z_sb_b, z_sb_z, z_al_i, z_al_b, z_pu_s, z_pu_n, nI_toN, z_inN, true_and, and_true, nI_add, pk_mul, vu_eq, vu_ne]
  rw [i_X8_init_156, show (nI 2 : Int32).toNatClampNeg = 2 by decide]
  refine ⟨⟨by decide, by omega, by omega, by omega⟩, ?_⟩
  simp (disch := omega) only [i_X8_init_158, i_X8_init_161, i_X8_init_162, vu_eq, vu_ne, z_o_i, z_pu_n, z_fit1, true_and, z_o_i, z_ai_i, z_si_i, z_ab_b, z_ab_z, z_sb_b, z_sb_z, z_al_i, z_al_b, z_pu_s, z_pu_n, nI_toN, z_inN, true_and, and_true, nI_add, pk_mul, vu_eq, vu_ne]
  rw [i_X8_init_165, show (nI 700 : Int32).toNatClampNeg = 700 by decide]
  refine ⟨⟨by decide, by omega, by omega, by omega⟩, ?_⟩
  simp (disch := omega) only [i_X8_init_167, i_X8_init_170, i_X8_init_171, vu_eq, vu_ne, z_o_i, z_pu_n, z_fit1, true_and, z_o_i, z_ai_i, z_si_i, z_ab_b, z_ab_z, z_sb_b, z_sb_z, z_al_i, z_al_b, z_pu_s, z_pu_n, nI_toN, z_inN, true_and, and_true, nI_add, pk_mul, vu_eq, vu_ne]
  rw [i_X8_init_173, show (nI 24 : Int32).toNatClampNeg = 24 by decide]
  refine ⟨⟨by decide, by omega, by omega, by omega⟩, ?_⟩
  simp (disch := omega) only [i_X8_init_175, i_X8_init_178, i_X8_init_179, vu_eq, vu_ne, z_o_i, z_pu_n, z_fit1, true_and, z_o_i, z_ai_i, z_si_i, z_ab_b, z_ab_z, z_sb_b, z_sb_z, z_al_i, z_al_b, z_pu_s, z_pu_n, nI_toN, z_inN, true_and, and_true, nI_add, pk_mul, vu_eq, vu_ne]
  rw [i_X8_init_181, show (nI 24 : Int32).toNatClampNeg = 24 by decide]
  refine ⟨⟨by decide, by omega, by omega, by omega⟩, ?_⟩
  simp (disch := omega) only [i_X8_init_183, i_X8_init_186, i_X8_init_187, vu_eq, vu_ne, z_o_i, z_pu_n, z_fit1, true_and, z_o_i, z_ai_i, z_si_i, z_ab_b, z_ab_z, z_sb_b, z_sb_z, z_al_i, z_al_b, z_pu_s, z_pu_n, nI_toN, z_inN, true_and, and_true, nI_add, pk_mul, vu_eq, vu_ne]
  rw [i_X8_init_189, show (nI 112 : Int32).toNatClampNeg = 112 by decide]
  refine ⟨⟨by decide, by omega, by omega, by omega⟩, ?_⟩
  simp (disch := omega) only [i_X8_init_191, i_X8_init_194, i_X8_init_195, vu_eq, vu_ne, z_o_i, z_pu_n, z_fit1, true_and, z_o_i, z_ai_i, z_si_i, z_ab_b, z_ab_z, z_sb_b, z_sb_z, z_al_i, z_al_b, z_pu_s, z_pu_n, nI_toN, z_inN, true_and, and_true, nI_add, pk_mul, vu_eq, vu_ne]
  rw [i_X8_init_197, show (nI 112 : Int32).toNatClampNeg = 112 by decide]
  refine ⟨⟨by decide, by omega, by omega, by omega⟩, ?_⟩
  simp (disch := omega) only [i_X8_init_199, i_X8_init_202, i_X8_init_203, vu_eq, vu_ne, z_o_i, z_pu_n, z_fit1, true_and, z_o_i, z_ai_i, z_si_i, z_ab_b, z_ab_z, z_sb_b, z_sb_z, z_al_i, z_al_b, z_pu_s, z_pu_n, nI_toN, z_inN, true_and, and_true, nI_add, pk_mul, vu_eq, vu_ne]
  rw [i_X8_init_205, show (nI 112 : Int32).toNatClampNeg = 112 by decide]
  refine ⟨⟨by decide, by omega, by omega, by omega⟩, ?_⟩
  simp (disch := omega) only [i_X8_init_207, i_X8_init_210, i_X8_init_211, vu_eq, vu_ne, z_o_i, z_pu_n, z_fit1, true_and, z_o_i, z_ai_i, z_si_i, z_ab_b, z_ab_z, z_sb_b, z_sb_z, z_al_i, z_al_b, z_pu_s, z_pu_n, nI_toN, z_inN, true_and, and_true, nI_add, pk_mul, vu_eq, vu_ne]
  rw [i_X8_init_213, show (nI 112 : Int32).toNatClampNeg = 112 by decide]
  refine ⟨⟨by decide, by omega, by omega, by omega⟩, ?_⟩
  simp (disch := omega) only [i_X8_init_215, i_X8_init_218, i_X8_init_219, vu_eq, vu_ne, z_o_i, z_pu_n, z_fit1, true_and, z_o_i, z_ai_i, z_si_i, z_ab_b, z_ab_z, z_sb_b, z_sb_z, z_al_i, z_al_b, z_pu_s, z_pu_n, nI_toN, z_inN, true_and, and_true, nI_add, pk_mul, vu_eq, vu_ne]
  rw [i_X8_init_221, show (nI 112 : Int32).toNatClampNeg = 112 by decide]
  refine ⟨⟨by decide, by omega, by omega, by omega⟩, ?_⟩
  simp (disch := omega) only [i_X8_init_223, i_X8_init_226, i_X8_init_227, vu_eq, vu_ne, z_o_i, z_pu_n, z_fit1, true_and, z_o_i, z_ai_i, z_si_i, z_ab_b, z_ab_z, z_sb_b, z_sb_z, z_al_i, z_al_b, z_pu_s, z_pu_n, nI_toN, z_inN, true_and, and_true, nI_add, pk_mul, vu_eq, vu_ne]
  rw [i_X8_init_229, show (nI 112 : Int32).toNatClampNeg = 112 by decide]
  refine ⟨⟨by decide, by omega, by omega, by omega⟩, ?_⟩
  simp (disch := omega) only [i_X8_init_231, i_X8_init_234, i_X8_init_235, vu_eq, vu_ne, z_o_i, z_pu_n, z_fit1, true_and, z_o_i, z_ai_i, z_si_i, z_ab_b, z_ab_z, z_sb_b, z_sb_z, z_al_i, z_al_b, z_pu_s, z_pu_n, nI_toN, z_inN, true_and, and_true, nI_add, pk_mul, vu_eq, vu_ne]
  rw [i_X8_init_237, show (nI 112 : Int32).toNatClampNeg = 112 by decide]
  refine ⟨⟨by decide, by omega, by omega, by omega⟩, ?_⟩
  simp (disch := omega) only [i_X8_init_239, i_X8_init_242, i_X8_init_243, vu_eq, vu_ne, z_o_i, z_pu_n, z_fit1, true_and, z_o_i, z_ai_i, z_si_i, z_ab_b, z_ab_z, z_sb_b, z_sb_z, z_al_i, z_al_b, z_pu_s, z_pu_n, nI_toN, z_inN, true_and, and_true, nI_add, pk_mul, vu_eq, vu_ne]
  rw [i_X8_init_245, show (nI 112 : Int32).toNatClampNeg = 112 by decide]
  refine ⟨⟨by decide, by omega, by omega, by omega⟩, ?_⟩
  simp (disch := omega) only [i_X8_init_247, i_X8_init_250, i_X8_init_251, vu_eq, vu_ne, z_o_i, z_pu_n, z_fit1, true_and, z_o_i, z_ai_i, z_si_i, z_ab_b, z_ab_z, z_sb_b, z_sb_z, z_al_i, z_al_b, z_pu_s, z_pu_n, nI_toN, z_inN, true_and, and_true, nI_add, pk_mul, vu_eq, vu_ne]
  rw [i_X8_init_253, show (nI 16 : Int32).toNatClampNeg = 16 by decide]
  refine ⟨⟨by decide, by omega, by omega, by omega⟩, ?_⟩
  simp (disch := omega) only [i_X8_init_255, i_X8_init_258, i_X8_init_259, vu_eq, vu_ne, z_o_i, z_pu_n, z_fit1, true_and, z_o_i, z_ai_i, z_si_i, z_ab_b, z_ab_z, z_sb_b, z_sb_z, z_al_i, z_al_b, z_pu_s, z_pu_n, nI_toN, z_inN, true_and, and_true, nI_add, pk_mul, vu_eq, vu_ne]
  refine k_modl (q := 40) (by omega) vu_eq (by simp (disch := omega) only [vu_eq, vu_ne]) (by simp (disch := omega) only [vu_eq, vu_ne]) ?_
  refine hp_3 _ _ ?_ rfl
  funext k
  by_cases k32 : 32 ≤ k
  · by_cases k63 : 63 ≤ k
    · iterate 64 rw [vu_ne (by omega)]
      rw [gh_dy k63, show iH L xs k = z_no from if_pos k32]
      match k, k63 with
      | (m + 63), _ => rfl
    · have lt : k < 63 := by omega
      clear k63 hp_3
      match k, k32, lt with
      | 32, _, _ => exact congrArg (fun F => (Sum.inr (Sum.inl (8, F)) : z_C)) mk_32
      | 33, _, _ => rfl
      | 34, _, _ => rfl
      | 35, _, _ => rfl
      | 36, _, _ => rfl
      | 37, _, _ => rfl
      | 38, _, _ => rfl
      | 39, _, _ => rfl
      | 40, _, _ => rfl
      | 41, _, _ => rfl
      | 42, _, _ => rfl
      | 43, _, _ => rfl
      | 44, _, _ => rfl
      | 45, _, _ => rfl
      | 46, _, _ => rfl
      | 47, _, _ => rfl
      | 48, _, _ => rfl
      | 49, _, _ => rfl
      | 50, _, _ => rfl
      | 51, _, _ => rfl
      | 52, _, _ => rfl
      | 53, _, _ => rfl
      | 54, _, _ => rfl
      | 55, _, _ => rfl
      | 56, _, _ => rfl
      | 57, _, _ => rfl
      | 58, _, _ => rfl
      | 59, _, _ => rfl
      | 60, _, _ => rfl
      | 61, _, _ => rfl
      | 62, _, _ => rfl
      | (m + 63), _, lt => exact absurd lt (by omega)
  · iterate 64 rw [vu_ne (by omega)]
    exact if_neg k32
end CIni
