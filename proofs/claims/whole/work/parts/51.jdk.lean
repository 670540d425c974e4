/-! THE JDK: ArrayList's size, get, add; Arrays.fill -/
def lsF (m : Int32) (e : Nat) (n : Int32) : Nat → Value := fun j => match j with
  | 0 => .int m
  | 1 => .ref e
  | 2 => .int n
  | _ => .null
theorem lsF_0 {m n : Int32} {e : Nat} : lsF m e n 0 = .int m := rfl
theorem lsF_1 {m n : Int32} {e : Nat} : lsF m e n 1 = .ref e := rfl
theorem lsF_2 {m n : Int32} {e : Nat} : lsF m e n 2 = .int n := rfl
theorem lsU_0 {m n v : Int32} {e : Nat} : va_up (lsF m e n) 0 (.int v) = lsF v e n := by
  funext i; by_cases q : i = 0
  · subst q; rfl
  · rw [vu_ne q]; unfold lsF; split <;> first | rfl | exact absurd rfl q
theorem lsU_1 {m n : Int32} {e v : Nat} : va_up (lsF m e n) 1 (.ref v) = lsF m v n := by
  funext i; by_cases q : i = 1
  · subst q; rfl
  · rw [vu_ne q]; unfold lsF; split <;> first | rfl | exact absurd rfl q
theorem lsU_2 {m n v : Int32} {e : Nat} : va_up (lsF m e n) 2 (.int v) = lsF m e v := by
  funext i; by_cases q : i = 2
  · subst q; rfl
  · rw [vu_ne q]; unfold lsF; split <;> first | rfl | exact absurd rfl q
section Jdk
variable {h : z_H} {d nx bc bs : Nat} {Q : z_Q} {m : Int32} {r e n cap : Nat} {g : Nat → Option Nat}
theorem c_size (hr : h r = .inr (.inl (9, lsF m e (nI n)))) : XC d m_Jx4a65c_size_8abf5 [.ref r] h nx Q = Q (some (.int (nI n))) h nx := by
  show X d m_Jx4a65c_size_8abf5 0 [some (.ref r)] [] h nx 0 0 Q = _
  simp (disch := omega) only [i_Jx4a65c_size_8abf5_0, i_Jx4a65c_size_8abf5_1, i_Jx4a65c_size_8abf5_4, z_o_i, z_ai_i, z_si_i, z_ab_b, z_ab_z, z_sb_b, z_sb_z, z_al_i, z_al_b, z_pu_s, z_pu_n, nI_toN, z_inN, true_and, and_true, nI_add, pk_mul, vu_eq, vu_ne, z_aq_i, nI_leI, nI_ltI, nI_eqI, nI_eq0, nI_le0, ↓ok_0, ↓ok_1, if_true, if_false, ne_eq, not_true_eq_false, not_false_eq_true, nI_lt0, nI_ge0, lsF_0, lsF_1, lsF_2, lsU_0, lsU_1, lsU_2, and_self, hr]
theorem c_chk {i : Nat} (hi : i < n) (hn : n < 2147483648) : XC (d + 1) m_J15_checkIndex_7cf53 [.int (nI i), .int (nI n)] h nx Q = Q (some (.int (nI i))) h nx := by
  show X (d + 1) m_J15_checkIndex_7cf53 0 [some (.int (nI i)), some (.int (nI n))] [] h nx 0 0 Q = _
  have c3 : ∀ {d nx : Nat} {Q : z_Q}, XC d m_J3_checkIndex_8e157 [.int (nI i), .int (nI n), .null] h nx Q = Q (some (.int (nI i))) h nx := by
    intro d nx Q
    show X d m_J3_checkIndex_8e157 0 [some (.int (nI i)), some (.int (nI n)), some .null] [] h nx 0 0 Q = _
    simp (disch := omega) only [i_J3_checkIndex_8e157_0, i_J3_checkIndex_8e157_1, i_J3_checkIndex_8e157_4, i_J3_checkIndex_8e157_5, i_J3_checkIndex_8e157_6, i_J3_checkIndex_8e157_9, i_J3_checkIndex_8e157_10, i_J3_checkIndex_8e157_11, i_J3_checkIndex_8e157_16, i_J3_checkIndex_8e157_17, z_o_i, z_ai_i, z_si_i, z_ab_b, z_ab_z, z_sb_b, z_sb_z, z_al_i, z_al_b, z_pu_s, z_pu_n, nI_toN, z_inN, true_and, and_true, nI_add, pk_mul, vu_eq, vu_ne, z_aq_i, nI_leI, nI_ltI, nI_eqI, nI_eq0, nI_le0, ↓ok_0, ↓ok_1, if_true, if_false, ne_eq, not_true_eq_false, not_false_eq_true, nI_lt0, nI_ge0, lsF_0, lsF_1, lsF_2, lsU_0, lsU_1, lsU_2, and_self, hi]
  simp (disch := omega) only [i_J15_checkIndex_7cf53_0, i_J15_checkIndex_7cf53_1, i_J15_checkIndex_7cf53_2, i_J15_checkIndex_7cf53_3, i_J15_checkIndex_7cf53_6, z_o_i, z_ai_i, z_si_i, z_ab_b, z_ab_z, z_sb_b, z_sb_z, z_al_i, z_al_b, z_pu_s, z_pu_n, nI_toN, z_inN, true_and, and_true, nI_add, pk_mul, vu_eq, vu_ne, z_aq_i, nI_leI, nI_ltI, nI_eqI, nI_eq0, nI_le0, ↓ok_0, ↓ok_1, if_true, if_false, ne_eq, not_true_eq_false, not_false_eq_true, nI_lt0, nI_ge0, lsF_0, lsF_1, lsF_2, lsU_0, lsU_1, lsU_2, and_self, c3]
theorem c_get {i x : Nat} (hr : h r = .inr (.inl (9, lsF m e (nI n)))) (he : h e = .inr (.inr (cap, g))) (hi : i < n) (hn : n ≤ cap) (hc : cap < 1000) (hg : g i = some x) : XC (d + 2) m_Jx4a65c_get_915e3 [.ref r, .int (nI i)] h nx Q = Q (some (.ref x)) h nx := by
  show X (d + 2) m_Jx4a65c_get_915e3 0 [some (.ref r), some (.int (nI i))] [] h nx 0 0 Q = _
  have c3 : ∀ {d nx : Nat} {Q : z_Q}, XC d m_Jx4a65c_elementData_915e3 [.ref r, .int (nI i)] h nx Q = Q (some (.ref x)) h nx := by
    intro d nx Q
    show X d m_Jx4a65c_elementData_915e3 0 [some (.ref r), some (.int (nI i))] [] h nx 0 0 Q = _
    simp (disch := omega) only [i_Jx4a65c_elementData_915e3_0, i_Jx4a65c_elementData_915e3_1, i_Jx4a65c_elementData_915e3_4, i_Jx4a65c_elementData_915e3_5, i_Jx4a65c_elementData_915e3_6, z_o_i, z_ai_i, z_si_i, z_ab_b, z_ab_z, z_sb_b, z_sb_z, z_al_i, z_al_b, z_pu_s, z_pu_n, nI_toN, z_inN, true_and, and_true, nI_add, pk_mul, vu_eq, vu_ne, z_aq_i, nI_leI, nI_ltI, nI_eqI, nI_eq0, nI_le0, ↓ok_0, ↓ok_1, if_true, if_false, ne_eq, not_true_eq_false, not_false_eq_true, nI_lt0, nI_ge0, lsF_0, lsF_1, lsF_2, lsU_0, lsU_1, lsU_2, and_self, hr, he, hg, z_rf]
  simp (disch := omega) only [i_Jx4a65c_get_915e3_0, i_Jx4a65c_get_915e3_1, i_Jx4a65c_get_915e3_2, i_Jx4a65c_get_915e3_5, i_Jx4a65c_get_915e3_8, i_Jx4a65c_get_915e3_9, i_Jx4a65c_get_915e3_10, i_Jx4a65c_get_915e3_11, i_Jx4a65c_get_915e3_14, z_o_i, z_ai_i, z_si_i, z_ab_b, z_ab_z, z_sb_b, z_sb_z, z_al_i, z_al_b, z_pu_s, z_pu_n, nI_toN, z_inN, true_and, and_true, nI_add, pk_mul, vu_eq, vu_ne, z_aq_i, nI_leI, nI_ltI, nI_eqI, nI_eq0, nI_le0, ↓ok_0, ↓ok_1, if_true, if_false, ne_eq, not_true_eq_false, not_false_eq_true, nI_lt0, nI_ge0, lsF_0, lsF_1, lsF_2, lsU_0, lsU_1, lsU_2, and_self, hr, c_chk, c3]
/-- the capacities that a list goes through -/
def cpN (c : Nat) : Nat := if c = 0 then 10 else c + c / 2
theorem c_newLen {c : Nat} (hc : c = 10 ∨ c = 15 ∨ c = 22) : XC (d + 1) m_J8_newLength_cabcc [.int (nI c), .int (nI (c + 1) - nI c), .int (nI c >>> (nI 1 &&& 31))] h nx Q = Q (some (.int (nI (c + c / 2)))) h nx := by
  show X (d + 1) m_J8_newLength_cabcc 0 [some (.int (nI c)), some (.int (nI (c + 1) - nI c)), some (.int (nI c >>> (nI 1 &&& 31))), none] [] h nx 0 0 Q = _
  have e1 : (nI (c + 1) - nI c : Int32) = nI 1 := by rw [pk_sub (by omega), Nat.add_sub_cancel_left]
  have e2 : (nI c >>> (nI 1 &&& 31) : Int32) = nI (c / 2) := by rcases hc with rfl | rfl | rfl <;> decide
  have l1 : 1 < c / 2 := by omega
  have l2 : ¬ c + c / 2 ≤ 0 := by omega
  have l3 : ¬ 2147483639 < c + c / 2 := by omega
  rw [e1, e2]
  simp (disch := omega) only [i_J8_newLength_cabcc_0, i_J8_newLength_cabcc_1, i_J8_newLength_cabcc_2, i_J8_newLength_cabcc_3, i_J8_newLength_cabcc_6, i_J8_newLength_cabcc_7, i_J8_newLength_cabcc_8, i_J8_newLength_cabcc_9, i_J8_newLength_cabcc_10, i_J8_newLength_cabcc_13, i_J8_newLength_cabcc_14, i_J8_newLength_cabcc_16, i_J8_newLength_cabcc_19, i_J8_newLength_cabcc_20, i_J8_newLength_cabcc_21, i_J8_newLength_cabcc_22, i_J8_newLength_cabcc_23, i_J8_newLength_cabcc_26, z_o_i, z_ai_i, z_si_i, z_ab_b, z_ab_z, z_sb_b, z_sb_z, z_al_i, z_al_b, z_pu_s, z_pu_n, nI_toN, z_inN, true_and, and_true, nI_add, pk_mul, vu_eq, vu_ne, z_aq_i, nI_leI, nI_ltI, nI_eqI, nI_eq0, nI_le0, ↓ok_0, ↓ok_1, if_true, if_false, ne_eq, not_true_eq_false, not_false_eq_true, nI_lt0, nI_ge0, lsF_0, lsF_1, lsF_2, lsU_0, lsU_1, lsU_2, and_self, l1, l2, l3]
theorem c_copyOf {c0 c : Nat} (he : h e = .inr (.inr (c, g))) (h1 : e ≠ 1) (hx : e ≠ nx) (h3 : 3 ≤ nx) (hc : c = 10 ∨ c = 15 ∨ c = 22) (hc0 : c0 = 6 ∨ c0 = 2 ∨ c0 = 3) (hg : ∀ i, i < c → ∃ x fs, g i = some x ∧ x ≠ nx ∧ h x = .inr (.inl (c0, fs))) (hQ : ∀ g', (∀ i, i < c → g' i = g i) → Q (some (.ref nx)) (va_up h nx (.inr (.inr (c + c / 2, g')))) (nx + 1)) : XC (d + 2) m_J7_copyOf_1904c [.ref e, .int (nI (c + c / 2))] h nx Q := by
  show X (d + 2) m_J7_copyOf_1904c 0 [some (.ref e), some (.int (nI (c + c / 2)))] [] h nx 1 40 Q
  rw [i_J7_copyOf_1904c_0, i_J7_copyOf_1904c_1, i_J7_copyOf_1904c_2]
  rw [X_getc (M := m_J7_copyOf_1904c) (pc := 3) (cp := 86) (by decide +kernel) rfl he h1 (Nat.le_of_ble_eq_true rfl)]
  have l0 : ¬ c + c / 2 < c := by omega
  have step : ∀ {Q' : z_Q}, (∀ g', (∀ i, i < c → g' i = g i) → Q' (some (.ref nx)) (va_up h nx (.inr (.inr (c + c / 2, g')))) (nx + 1)) → XC (d + 1) m_J7_copyOf_6403c [.ref e, .int (nI (c + c / 2)), .ref 2] h nx Q' := by
    intro Q' hQ'
    show X (d + 1) m_J7_copyOf_6403c 0 [some (.ref e), some (.int (nI (c + c / 2))), some (.ref 2), none] [] h nx 1 40 Q'
    have l1 : c + c / 2 ≤ 1000 := by omega
    have l2 : c + c / 2 ≤ 40 := by omega
    simp (disch := omega) only [i_J7_copyOf_6403c_0, i_J7_copyOf_6403c_1, i_J7_copyOf_6403c_3, i_J7_copyOf_6403c_6, i_J7_copyOf_6403c_7, i_J7_copyOf_6403c_10, i_J7_copyOf_6403c_13, i_J7_copyOf_6403c_24, i_J7_copyOf_6403c_25, i_J7_copyOf_6403c_26, i_J7_copyOf_6403c_27, i_J7_copyOf_6403c_28, i_J7_copyOf_6403c_29, i_J7_copyOf_6403c_30, i_J7_copyOf_6403c_31, i_J7_copyOf_6403c_32, i_J7_copyOf_6403c_38, i_J7_copyOf_6403c_39, z_o_i, z_ai_i, z_si_i, z_ab_b, z_ab_z, z_sb_b, z_sb_z, z_al_i, z_al_b, z_pu_s, z_pu_n, nI_toN, z_inN, true_and, and_true, nI_add, pk_mul, vu_eq, vu_ne, z_aq_i, nI_leI, nI_ltI, nI_eqI, nI_eq0, nI_le0, ↓ok_0, ↓ok_1, if_true, if_false, ne_eq, not_true_eq_false, not_false_eq_true, nI_lt0, nI_ge0, lsF_0, lsF_1, lsF_2, lsU_0, lsU_1, lsU_2, and_self, he, l0, l1, l2, Nat.le_refl]
    have hq : z_cq (va_up h nx (.inr (.inr (c + c / 2, fun _ => none)))) g (nI 0).toNatClampNeg (nI c).toNatClampNeg c0 = true := by
      rw [nI_toN (by omega), nI_toN (by omega)]
      simp only [z_cq, List.all_eq_true, List.mem_range, Nat.zero_add]
      intro i hi
      obtain ⟨x, fs, e1, e2, e3⟩ := hg i hi
      rw [e1]
      simp only [vu_ne e2, e3, beq_self_eq_true]
    rw [X_copyq (M := m_J7_copyOf_6403c) (pc := 35) (cp := 150) (a0 := e) (n0 := c) (n1 := c + c / 2) (c0 := c0) (f := g) (g := fun _ => none) (by decide +kernel) rfl rfl rfl (by decide) (by rw [vu_ne hx]; exact he) vu_eq h1 (by omega) hc0 hq (by rw [nI_lt0 (by omega)]; exact id) (by decide) (by decide) (by rw [nI_toN (by omega), nI_toN (by omega)]; omega) (by rw [nI_toN (by omega), nI_toN (by omega)]; omega)]
    rw [vu_vu, nI_toN (by omega), nI_toN (by omega), i_J7_copyOf_6403c_38, i_J7_copyOf_6403c_39]
    exact hQ' _ (fun i hi => by simp only [va_cpy]; rw [if_pos (by omega)]; simp)
  rw [i_J7_copyOf_1904c_6]
  refine ⟨⟨Nat.le_refl _, Nat.le_refl _⟩, step (fun g' hg' => ?_)⟩
  rw [z_pu_s, i_J7_copyOf_1904c_9]
  exact hQ g' hg'
/-- what a list's growing gives -/
theorem c_grow {c0 : Nat} (hr : h r = .inr (.inl (9, lsF m e (nI cap)))) (he : h e = .inr (.inr (cap, g))) (hrx : r ≠ nx) (hx : e ≠ nx) (h3 : 3 ≤ nx) (hc : (cap = 0 ∧ e = 1) ∨ ((cap = 10 ∨ cap = 15 ∨ cap = 22) ∧ e ≠ 1)) (hc0 : c0 = 6 ∨ c0 = 2 ∨ c0 = 3) (hg : ∀ i, i < cap → ∃ x fs, g i = some x ∧ x ≠ nx ∧ h x = .inr (.inl (c0, fs)))
    (hQ : ∀ g', (∀ i, i < cap → g' i = g i) → Q (some (.ref nx)) (va_up (va_up h nx (.inr (.inr (cpN cap, g')))) r (.inr (.inl (9, lsF m nx (nI cap))))) (nx + 1)) : XC (d + 4) m_Jx4a65c_grow_d5877 [.ref r] h nx Q := by
  show X (d + 4) m_Jx4a65c_grow_d5877 0 [some (.ref r)] [] h nx 2 80 Q
  have step : ∀ {Q' : z_Q}, (∀ g', (∀ i, i < cap → g' i = g i) → Q' (some (.ref nx)) (va_up (va_up h nx (.inr (.inr (cpN cap, g')))) r (.inr (.inl (9, lsF m nx (nI cap))))) (nx + 1)) → XC (d + 3) m_Jx4a65c_grow_92f84 [.ref r, .int (nI (cap + 1))] h nx Q' := by
    intro Q' hQ'
    show X (d + 3) m_Jx4a65c_grow_92f84 0 [some (.ref r), some (.int (nI (cap + 1))), none, none] [] h nx 2 80 Q'
    rcases hc with ⟨c0', e1⟩ | ⟨cc, e1⟩
    · subst c0' e1
      have gt0 : (0 < nI 0) = False := by simp only [eq_iff_iff, iff_false]; decide
      have l1 : ¬ 10 < 0 + 1 := by omega
      have l2 : 10 ≤ 1000 := by omega
      have l3 : 10 ≤ 80 := by omega
      have l4 : 1 ≤ 2 := by omega
      have q := hQ' (fun _ => none) (fun i hi => absurd hi (Nat.not_lt_zero i))
      rw [show cpN 0 = 10 from rfl] at q
      simp (disch := omega) only [i_Jx4a65c_grow_92f84_0, i_Jx4a65c_grow_92f84_1, i_Jx4a65c_grow_92f84_4, i_Jx4a65c_grow_92f84_5, i_Jx4a65c_grow_92f84_6, i_Jx4a65c_grow_92f84_7, i_Jx4a65c_grow_92f84_10, i_Jx4a65c_grow_92f84_11, i_Jx4a65c_grow_92f84_14, i_Jx4a65c_grow_92f84_17, i_Jx4a65c_grow_92f84_45, i_Jx4a65c_grow_92f84_46, i_Jx4a65c_grow_92f84_48, i_Jx4a65c_grow_92f84_49, i_Jx4a65c_grow_92f84_52, i_Jx4a65c_grow_92f84_55, i_Jx4a65c_grow_92f84_56, i_Jx4a65c_grow_92f84_59, z_o_i, z_ai_i, z_si_i, z_ab_b, z_ab_z, z_sb_b, z_sb_z, z_al_i, z_al_b, z_pu_s, z_pu_n, nI_toN, z_inN, true_and, and_true, nI_add, pk_mul, vu_eq, vu_ne, z_aq_i, nI_leI, nI_ltI, nI_eqI, nI_eq0, nI_le0, ↓ok_0, ↓ok_1, if_true, if_false, ne_eq, not_true_eq_false, not_false_eq_true, nI_lt0, nI_ge0, lsF_0, lsF_1, lsF_2, lsU_0, lsU_1, lsU_2, and_self, hr, he, gt0, l1, l2, l3, l4]
      exact q
    · have gt0 : (0 < nI cap) = True := by
        simp only [eq_iff_iff, iff_true, Int32.lt_iff_toInt_lt]
        rw [nI_toInt (by omega), show (0 : Int32).toInt = 0 by decide]
        omega
      have cn : cpN cap = cap + cap / 2 := if_neg (by omega)
      simp (disch := omega) only [i_Jx4a65c_grow_92f84_0, i_Jx4a65c_grow_92f84_1, i_Jx4a65c_grow_92f84_4, i_Jx4a65c_grow_92f84_5, i_Jx4a65c_grow_92f84_6, i_Jx4a65c_grow_92f84_7, i_Jx4a65c_grow_92f84_20, i_Jx4a65c_grow_92f84_21, i_Jx4a65c_grow_92f84_22, i_Jx4a65c_grow_92f84_23, i_Jx4a65c_grow_92f84_24, i_Jx4a65c_grow_92f84_25, i_Jx4a65c_grow_92f84_26, z_o_i, z_ai_i, z_si_i, z_ab_b, z_ab_z, z_sb_b, z_sb_z, z_al_i, z_al_b, z_pu_s, z_pu_n, nI_toN, z_inN, true_and, and_true, nI_add, pk_mul, vu_eq, vu_ne, if_true, lsF_0, lsF_1, lsF_2, hr, he, gt0]
      rw [i_Jx4a65c_grow_92f84_27, c_newLen cc]
      simp (disch := omega) only [i_Jx4a65c_grow_92f84_30, i_Jx4a65c_grow_92f84_31, i_Jx4a65c_grow_92f84_32, i_Jx4a65c_grow_92f84_33, i_Jx4a65c_grow_92f84_36, i_Jx4a65c_grow_92f84_37, z_o_i, z_ai_i, z_si_i, z_ab_b, z_ab_z, z_sb_b, z_sb_z, z_al_i, z_al_b, z_pu_s, z_pu_n, nI_toN, z_inN, true_and, and_true, nI_add, pk_mul, vu_eq, vu_ne, z_aq_i, nI_leI, nI_ltI, nI_eqI, nI_eq0, nI_le0, ↓ok_0, ↓ok_1, if_true, if_false, ne_eq, not_true_eq_false, not_false_eq_true, nI_lt0, nI_ge0, lsF_0, lsF_1, lsF_2, lsU_0, lsU_1, lsU_2, and_self, hr]
      refine ⟨⟨by omega, by omega⟩, c_copyOf he e1 hx h3 cc hc0 hg (fun g' hg' => ?_)⟩
      have q := hQ' g' hg'
      rw [cn] at q
      have hr' : va_up h nx (.inr (.inr (cap + cap / 2, g'))) r = .inr (.inl (9, lsF m e (nI cap))) := by rw [vu_ne hrx]; exact hr
      simp (disch := omega) only [i_Jx4a65c_grow_92f84_40, i_Jx4a65c_grow_92f84_41, i_Jx4a65c_grow_92f84_44, z_pu_s, z_o_i, lsU_1, hr']
      exact q
  rw [i_Jx4a65c_grow_d5877_0, i_Jx4a65c_grow_d5877_1]
  simp (disch := omega) only [i_Jx4a65c_grow_d5877_2, i_Jx4a65c_grow_d5877_5, i_Jx4a65c_grow_d5877_6, z_o_i, z_ai_i, z_si_i, z_ab_b, z_ab_z, z_sb_b, z_sb_z, z_al_i, z_al_b, z_pu_s, z_pu_n, nI_toN, z_inN, true_and, and_true, nI_add, pk_mul, vu_eq, vu_ne, z_aq_i, nI_leI, nI_ltI, nI_eqI, nI_eq0, nI_le0, ↓ok_0, ↓ok_1, if_true, if_false, ne_eq, not_true_eq_false, not_false_eq_true, nI_lt0, nI_ge0, lsF_0, lsF_1, lsF_2, lsU_0, lsU_1, lsU_2, and_self, hr]
  rw [i_Jx4a65c_grow_d5877_7, hr, z_o_i]
  refine ⟨⟨Nat.le_refl _, Nat.le_refl _⟩, step (fun g' hg' => ?_)⟩
  rw [z_pu_s, i_Jx4a65c_grow_d5877_10]
  exact hQ g' hg'
theorem c_add {c0 v : Nat} {vs : Nat → Value} (hr : h r = .inr (.inl (9, lsF m e (nI n)))) (he : h e = .inr (.inr (cap, g))) (hv : h v = .inr (.inl (c0, vs))) (hrx : r ≠ nx) (hx : e ≠ nx) (hvx : v ≠ nx) (h3 : 3 ≤ nx) (hn : n ≤ cap) (hcap : cap ≤ 33)
    (hc : (cap = 0 ∧ e = 1) ∨ (1 ≤ cap ∧ e ≠ 1)) (hgr : n = cap → cap = 0 ∨ cap = 10 ∨ cap = 15 ∨ cap = 22) (hc0 : c0 = 6 ∨ c0 = 2 ∨ c0 = 3) (hg : ∀ i, i < n → ∃ x fs, g i = some x ∧ x ≠ nx ∧ h x = .inr (.inl (c0, fs)))
    (hQ : ∀ e' cap' g' nx', (n < cap → e' = e ∧ cap' = cap ∧ nx' = nx) → (n = cap → e' = nx ∧ cap' = cpN cap ∧ nx' = nx + 1) → (∀ i, i < n → g' i = g i) → g' n = some v → Q (some (.int (nI 1))) (va_up (va_up h e' (.inr (.inr (cap', g')))) r (.inr (.inl (9, lsF (m + nI 1) e' (nI (n + 1)))))) nx') : XC (d + 6) m_Jx4a65c_add_9ea2d [.ref r, .ref v] h nx Q := by
  show X (d + 6) m_Jx4a65c_add_9ea2d 0 [some (.ref r), some (.ref v)] [] h nx 2 80 Q
  have re : e ≠ r := fun q => by rw [q, hr] at he; cases he
  have vr : v ≠ r := fun q => by rw [q, hr] at hv; cases hv; omega
  have ve : v ≠ e := fun q => by rw [q, he] at hv; cases hv
  have l4 : 2 ≤ 2 := by omega
  have l5 : 80 ≤ 80 := by omega
  have c9 : c0 < 9 := by omega
  simp (disch := omega) only [i_Jx4a65c_add_9ea2d_0, i_Jx4a65c_add_9ea2d_1, i_Jx4a65c_add_9ea2d_2, i_Jx4a65c_add_9ea2d_5, i_Jx4a65c_add_9ea2d_6, i_Jx4a65c_add_9ea2d_7, i_Jx4a65c_add_9ea2d_10, i_Jx4a65c_add_9ea2d_11, i_Jx4a65c_add_9ea2d_12, i_Jx4a65c_add_9ea2d_13, i_Jx4a65c_add_9ea2d_16, i_Jx4a65c_add_9ea2d_17, i_Jx4a65c_add_9ea2d_20, z_o_i, z_ai_i, z_si_i, z_ab_b, z_ab_z, z_sb_b, z_sb_z, z_al_i, z_al_b, z_pu_s, z_pu_n, nI_toN, z_inN, true_and, and_true, nI_add, pk_mul, vu_eq, vu_ne, z_aq_i, nI_leI, nI_ltI, nI_eqI, nI_eq0, nI_le0, ↓ok_0, ↓ok_1, if_true, if_false, ne_eq, not_true_eq_false, not_false_eq_true, nI_lt0, nI_ge0, lsF_0, lsF_1, lsF_2, lsU_0, lsU_1, lsU_2, and_self, hr, l4, l5]
  show X (d + 5) m_Jx4a65c_add_72be8 0 [some (.ref r), some (.ref v), some (.ref e), some (.int (nI n))] [] (va_up h r (.inr (.inl (9, lsF (m + nI 1) e (nI n))))) nx 2 80 _
  by_cases c : n = cap
  · have hgr' := hgr c
    subst c
    simp (disch := omega) only [i_Jx4a65c_add_72be8_0, i_Jx4a65c_add_72be8_1, i_Jx4a65c_add_72be8_2, i_Jx4a65c_add_72be8_3, i_Jx4a65c_add_72be8_6, i_Jx4a65c_add_72be8_7, z_o_i, z_ai_i, z_si_i, z_ab_b, z_ab_z, z_sb_b, z_sb_z, z_al_i, z_al_b, z_pu_s, z_pu_n, nI_toN, z_inN, true_and, and_true, nI_add, pk_mul, vu_eq, vu_ne, z_aq_i, nI_leI, nI_ltI, nI_eqI, nI_eq0, nI_le0, ↓ok_0, ↓ok_1, if_true, if_false, ne_eq, not_true_eq_false, not_false_eq_true, nI_lt0, nI_ge0, lsF_0, lsF_1, lsF_2, lsU_0, lsU_1, lsU_2, and_self, he, l4, l5]
    refine c_grow (h := va_up h r (.inr (.inl (9, lsF (m + nI 1) e (nI n))))) (m := m + nI 1) (c0 := c0) (cap := n) (e := e) (g := g) (by rw [vu_eq]) (by rw [vu_ne re]; exact he) hrx hx h3 (hc.elim Or.inl (fun z => Or.inr ⟨by omega, z.2⟩)) hc0 (fun i hi => ?_) (fun g' hg' => ?_)
    · obtain ⟨x, fs, e1, e2, e3⟩ := hg i hi
      refine ⟨x, fs, e1, e2, ?_⟩
      rw [vu_ne (fun q => by rw [q, hr] at e3; cases e3; omega)]
      exact e3
    · have lt : n < cpN n := by unfold cpN; split <;> omega
      have lc : cpN n < 1000 := by unfold cpN; split <;> omega
      simp (disch := omega) only [i_Jx4a65c_add_72be8_10, i_Jx4a65c_add_72be8_11, i_Jx4a65c_add_72be8_12, i_Jx4a65c_add_72be8_13, i_Jx4a65c_add_72be8_14, i_Jx4a65c_add_72be8_15, i_Jx4a65c_add_72be8_16, i_Jx4a65c_add_72be8_17, i_Jx4a65c_add_72be8_18, i_Jx4a65c_add_72be8_19, i_Jx4a65c_add_72be8_22, z_pu_s, z_pu_n, vu_eq, vu_ne, lsU_2, hv, z_sq, z_inN, c9, true_and, and_true, nI_toN, nI_add, z_o_i]
      simp (disch := omega) only [i_Jx4a65c_add_9ea2d_23, i_Jx4a65c_add_9ea2d_24, z_o_i, z_ai_i, z_si_i, z_ab_b, z_ab_z, z_sb_b, z_sb_z, z_al_i, z_al_b, z_pu_s, z_pu_n, nI_toN, z_inN, true_and, and_true, nI_add, pk_mul, vu_eq, vu_ne, z_aq_i, nI_leI, nI_ltI, nI_eqI, nI_eq0, nI_le0, ↓ok_0, ↓ok_1, if_true, if_false, ne_eq, not_true_eq_false, not_false_eq_true, nI_lt0, nI_ge0, lsF_0, lsF_1, lsF_2, lsU_0, lsU_1, lsU_2, and_self]
      have q := hQ nx (cpN n) (va_up g' n (some v)) (nx + 1) (fun z => absurd z (Nat.lt_irrefl n)) (fun _ => ⟨rfl, rfl, rfl⟩) (fun i hi => by rw [vu_ne (by omega)]; exact hg' i hi) vu_eq
      have ee : va_up (va_up (va_up (va_up (va_up h r (.inr (.inl (9, lsF (m + nI 1) e (nI n))))) nx (.inr (.inr (cpN n, g')))) r (.inr (.inl (9, lsF (m + nI 1) nx (nI n))))) nx (.inr (.inr (cpN n, va_up g' n (some v))))) r (.inr (.inl (9, lsF (m + nI 1) nx (nI (n + 1))))) = va_up (va_up h nx (.inr (.inr (cpN n, va_up g' n (some v))))) r (.inr (.inl (9, lsF (m + nI 1) nx (nI (n + 1))))) := by
        funext x
        simp only [vu_if]
        by_cases x1 : x = r
        · simp only [x1, if_true]
        · by_cases x2 : x = nx
          · simp only [x1, x2, if_true, if_false]
          · simp only [x1, x2, if_false]
      rw [ee]
      exact q
  · have lt : n < cap := by omega
    simp (disch := omega) only [i_Jx4a65c_add_72be8_0, i_Jx4a65c_add_72be8_1, i_Jx4a65c_add_72be8_2, i_Jx4a65c_add_72be8_3, i_Jx4a65c_add_72be8_11, i_Jx4a65c_add_72be8_12, i_Jx4a65c_add_72be8_13, i_Jx4a65c_add_72be8_14, i_Jx4a65c_add_72be8_15, i_Jx4a65c_add_72be8_16, i_Jx4a65c_add_72be8_17, i_Jx4a65c_add_72be8_18, i_Jx4a65c_add_72be8_19, i_Jx4a65c_add_72be8_22, z_o_i, z_ai_i, z_si_i, z_ab_b, z_ab_z, z_sb_b, z_sb_z, z_al_i, z_al_b, z_pu_s, z_pu_n, nI_toN, z_inN, true_and, and_true, nI_add, pk_mul, vu_eq, vu_ne, z_aq_i, nI_leI, nI_ltI, nI_eqI, nI_eq0, nI_le0, ↓ok_0, ↓ok_1, if_true, if_false, ne_eq, not_true_eq_false, not_false_eq_true, nI_lt0, nI_ge0, lsF_0, lsF_1, lsF_2, lsU_0, lsU_1, lsU_2, and_self, z_sq, he, hv, c, c9]
    simp (disch := omega) only [i_Jx4a65c_add_9ea2d_23, i_Jx4a65c_add_9ea2d_24, z_o_i, z_ai_i, z_si_i, z_ab_b, z_ab_z, z_sb_b, z_sb_z, z_al_i, z_al_b, z_pu_s, z_pu_n, nI_toN, z_inN, true_and, and_true, nI_add, pk_mul, vu_eq, vu_ne, z_aq_i, nI_leI, nI_ltI, nI_eqI, nI_eq0, nI_le0, ↓ok_0, ↓ok_1, if_true, if_false, ne_eq, not_true_eq_false, not_false_eq_true, nI_lt0, nI_ge0, lsF_0, lsF_1, lsF_2, lsU_0, lsU_1, lsU_2, and_self]
    have q := hQ e cap (va_up g n (some v)) nx (fun _ => ⟨rfl, rfl, rfl⟩) (fun z => absurd z c) (fun i hi => by rw [vu_ne (by omega)]) vu_eq
    have ee : va_up (va_up (va_up h r (.inr (.inl (9, lsF (m + nI 1) e (nI n))))) e (.inr (.inr (cap, va_up g n (some v))))) r (.inr (.inl (9, lsF (m + nI 1) e (nI (n + 1))))) = va_up (va_up h e (.inr (.inr (cap, va_up g n (some v))))) r (.inr (.inl (9, lsF (m + nI 1) e (nI (n + 1))))) := by
      funext x
      simp only [vu_if]
      by_cases x1 : x = r
      · simp only [x1, if_true]
      · by_cases x2 : x = e
        · simp only [x1, x2, if_true, if_false]
        · simp only [x1, x2, if_false]
    rw [ee]
    exact q
/-- Arrays.fill of ints -/
theorem l_fillI {q n : Nat} {f : Nat → Int32} {v : Int32} (hn : n < 1000) (hQ : Q none (va_up h q (.inl (0, n, pt f (fun _ => v) 0 n))) nx) : ∀ (m k : Nat), k + m = n → X d m_J7_fill_53178 5 [some (.ref q), some (.int v), some (.int (nI k)), some (.int (nI n))] [] (va_up h q (.inl (0, n, pt f (fun _ => v) 0 k))) nx bc bs Q := by
  intro m
  induction m with
  | zero =>
    intro k hk
    have e : k = n := by omega
    subst e
    simp (disch := omega) only [i_J7_fill_53178_5, i_J7_fill_53178_6, i_J7_fill_53178_7, i_J7_fill_53178_20, z_o_i, z_ai_i, z_si_i, z_ab_b, z_ab_z, z_sb_b, z_sb_z, z_al_i, z_al_b, z_pu_s, z_pu_n, nI_toN, z_inN, true_and, and_true, nI_add, pk_mul, vu_eq, vu_ne, z_aq_i, nI_leI, nI_ltI, nI_eqI, nI_eq0, nI_le0, ↓ok_0, ↓ok_1, if_true, if_false, ne_eq, not_true_eq_false, not_false_eq_true, nI_lt0, nI_ge0, lsF_0, lsF_1, lsF_2, lsU_0, lsU_1, lsU_2, and_self, Nat.le_refl]
    exact hQ
  | succ m ih =>
    intro k hk
    have le : ¬ n ≤ k := by omega
    have p1 := pt_succ f (fun _ => v) 0 k (v := v) rfl
    rw [Nat.zero_add] at p1
    rw [i_J7_fill_53178_5]
    simp (disch := omega) only [i_J7_fill_53178_6, i_J7_fill_53178_7, i_J7_fill_53178_10, i_J7_fill_53178_11, i_J7_fill_53178_12, i_J7_fill_53178_13, i_J7_fill_53178_14, i_J7_fill_53178_17, z_o_i, z_ai_i, z_si_i, z_ab_b, z_ab_z, z_sb_b, z_sb_z, z_al_i, z_al_b, z_pu_s, z_pu_n, nI_toN, z_inN, true_and, and_true, nI_add, pk_mul, vu_eq, vu_ne, z_aq_i, nI_leI, nI_ltI, nI_eqI, nI_eq0, nI_le0, ↓ok_0, ↓ok_1, if_true, if_false, ne_eq, not_true_eq_false, not_false_eq_true, nI_lt0, nI_ge0, lsF_0, lsF_1, lsF_2, lsU_0, lsU_1, lsU_2, and_self, le, p1]
    rw [vu_vu]
    exact ih (k + 1) (by omega)
theorem c_fillI {q n : Nat} {f : Nat → Int32} {v : Int32} (hq : h q = .inl (0, n, f)) (hn : n < 1000) (hQ : Q none (va_up h q (.inl (0, n, pt f (fun _ => v) 0 n))) nx) : XC d m_J7_fill_53178 [.ref q, .int v] h nx Q := by
  show X d m_J7_fill_53178 0 [some (.ref q), some (.int v), none, none] [] h nx 0 0 Q
  simp (disch := omega) only [i_J7_fill_53178_0, i_J7_fill_53178_1, i_J7_fill_53178_2, i_J7_fill_53178_3, i_J7_fill_53178_4, z_o_i, z_ai_i, z_si_i, z_ab_b, z_ab_z, z_sb_b, z_sb_z, z_al_i, z_al_b, z_pu_s, z_pu_n, nI_toN, z_inN, true_and, and_true, nI_add, pk_mul, vu_eq, vu_ne, z_aq_i, nI_leI, nI_ltI, nI_eqI, nI_eq0, nI_le0, ↓ok_0, ↓ok_1, if_true, if_false, ne_eq, not_true_eq_false, not_false_eq_true, nI_lt0, nI_ge0, lsF_0, lsF_1, lsF_2, lsU_0, lsU_1, lsU_2, and_self, hq]
  have e : h = va_up h q (.inl (0, n, pt f (fun _ => v) 0 0)) := by rw [pt_0, vu_self hq.symm]
  have lp := l_fillI (d := d) (bc := 0) (bs := 0) hn hQ n 0 (by omega)
  rw [← e] at lp
  exact lp
/-- Arrays.fill of bytes, with 0 -/
theorem l_fillB {q n : Nat} {f : Nat → Int32} (hn : n < 1000) (hQ : Q none (va_up h q (.inl (1, n, pt f (fun _ => nI 0) 0 n))) nx) : ∀ (m k : Nat), k + m = n → X d m_J7_fill_031fb 5 [some (.ref q), some (.int (nI 0)), some (.int (nI k)), some (.int (nI n))] [] (va_up h q (.inl (1, n, pt f (fun _ => nI 0) 0 k))) nx bc bs Q := by
  intro m
  induction m with
  | zero =>
    intro k hk
    have e : k = n := by omega
    subst e
    simp (disch := omega) only [i_J7_fill_031fb_5, i_J7_fill_031fb_6, i_J7_fill_031fb_7, i_J7_fill_031fb_20, z_o_i, z_ai_i, z_si_i, z_ab_b, z_ab_z, z_sb_b, z_sb_z, z_al_i, z_al_b, z_pu_s, z_pu_n, nI_toN, z_inN, true_and, and_true, nI_add, pk_mul, vu_eq, vu_ne, z_aq_i, nI_leI, nI_ltI, nI_eqI, nI_eq0, nI_le0, ↓ok_0, ↓ok_1, if_true, if_false, ne_eq, not_true_eq_false, not_false_eq_true, nI_lt0, nI_ge0, lsF_0, lsF_1, lsF_2, lsU_0, lsU_1, lsU_2, and_self, Nat.le_refl]
    exact hQ
  | succ m ih =>
    intro k hk
    have le : ¬ n ≤ k := by omega
    have p1 := pt_succ f (fun _ => nI 0) 0 k (v := nI 0) rfl
    have n0 : vp_nar .byte (nI 0) = nI 0 := by decide
    rw [Nat.zero_add] at p1
    rw [i_J7_fill_031fb_5]
    simp (disch := omega) only [i_J7_fill_031fb_6, i_J7_fill_031fb_7, i_J7_fill_031fb_10, i_J7_fill_031fb_11, i_J7_fill_031fb_12, i_J7_fill_031fb_13, i_J7_fill_031fb_14, i_J7_fill_031fb_17, z_o_i, z_ai_i, z_si_i, z_ab_b, z_ab_z, z_sb_b, z_sb_z, z_al_i, z_al_b, z_pu_s, z_pu_n, nI_toN, z_inN, true_and, and_true, nI_add, pk_mul, vu_eq, vu_ne, z_aq_i, nI_leI, nI_ltI, nI_eqI, nI_eq0, nI_le0, ↓ok_0, ↓ok_1, if_true, if_false, ne_eq, not_true_eq_false, not_false_eq_true, nI_lt0, nI_ge0, lsF_0, lsF_1, lsF_2, lsU_0, lsU_1, lsU_2, and_self, le, p1, n0]
    rw [vu_vu]
    exact ih (k + 1) (by omega)
theorem c_fillB {q n : Nat} {f : Nat → Int32} (hq : h q = .inl (1, n, f)) (hn : n < 1000) (hQ : Q none (va_up h q (.inl (1, n, pt f (fun _ => nI 0) 0 n))) nx) : XC d m_J7_fill_031fb [.ref q, .int (nI 0)] h nx Q := by
  show X d m_J7_fill_031fb 0 [some (.ref q), some (.int (nI 0)), none, none] [] h nx 0 0 Q
  simp (disch := omega) only [i_J7_fill_031fb_0, i_J7_fill_031fb_1, i_J7_fill_031fb_2, i_J7_fill_031fb_3, i_J7_fill_031fb_4, z_o_i, z_ai_i, z_si_i, z_ab_b, z_ab_z, z_sb_b, z_sb_z, z_al_i, z_al_b, z_pu_s, z_pu_n, nI_toN, z_inN, true_and, and_true, nI_add, pk_mul, vu_eq, vu_ne, z_aq_i, nI_leI, nI_ltI, nI_eqI, nI_eq0, nI_le0, ↓ok_0, ↓ok_1, if_true, if_false, ne_eq, not_true_eq_false, not_false_eq_true, nI_lt0, nI_ge0, lsF_0, lsF_1, lsF_2, lsU_0, lsU_1, lsU_2, and_self, hq]
  have e : h = va_up h q (.inl (1, n, pt f (fun _ => nI 0) 0 0)) := by rw [pt_0, vu_self hq.symm]
  have lp := l_fillB (d := d) (bc := 0) (bs := 0) hn hQ n 0 (by omega)
  rw [← e] at lp
  exact lp
end Jdk
