/-! THE MODEL: layLine -/
def in0 (a : Nat → Nat → Nat) : Nat → Nat × Nat := if a 41 0 = 0 then va_up (va_up (fun _ => (0, 0)) 0 (1, 0)) 8 (1, 4) else va_up (fun _ => (0, 0)) 0 (1, 0)
/-- the states after i words of a line, a place of it (or none) having another word -/
def liF (a : Nat → Nat → Nat) (l : Nat) (p : Option Nat) (o : Nat) : Nat → Nat → Nat × Nat
  | 0 => in0 a
  | i + 1 => woq a (if p = some i then o else a 43 (8 * l + i)) (liF a l p o i)
def sT (s : Nat → Nat × Nat) (b : Nat) : Nat → Nat
  | 0 => 0
  | j + 1 => sT s b j + (s (b + j)).1
def sY (s : Nat → Nat × Nat) (b : Nat) : Nat → Nat × Nat
  | 0 => (0, 0)
  | j + 1 => tk (sY s b j) (s (b + j)).1 (s (b + j)).2
/-- how many layings, and how cheap the least -/
def lyq (a : Nat → Nat → Nat) (l : Nat) (p : Option Nat) (o : Nat) : Nat × Nat := sY (liF a l p o (a 42 l)) (8 * a 32 11) 4
theorem sY_1 {s : Nat → Nat × Nat} {b : Nat} : ∀ j, (sY s b j).1 = min (sT s b j) 1000000 := by
  intro j
  induction j with
  | zero => rfl
  | succ j ih =>
    rw [sY, sT, tk]
    by_cases z : (s (b + j)).1 = 0
    · rw [if_pos z, ih, z]; rfl
    · rw [if_neg z]
      show min ((sY s b j).1 + (s (b + j)).1) 1000000 = _
      rw [ih]
      omega
theorem Okt_woq {a : Nat → Nat → Nat} {w : Nat} {s : Nat → Nat × Nat} (hm : a 32 11 ≤ 12) (h : Okt s) : Okt (woq a w s) := by
  have : ∀ q, Okt (woF a w s q) := by
    intro q
    induction q with
    | zero => exact Okt_0
    | succ q ih => exact Okt_jn ih (Okt_wsF hm h _)
  exact this _
theorem Okt_in0 {a : Nat → Nat → Nat} : Okt (in0 a) := by
  intro k hk h4
  unfold in0 at hk
  by_cases e : a 41 0 = 0
  · rw [if_pos e] at hk
    simp only [vu_if] at hk
    by_cases e8 : k = 8
    · omega
    · by_cases e0 : k = 0
      · omega
      · simp only [e8, e0, if_false] at hk; exact absurd trivial hk
  · rw [if_neg e] at hk
    simp only [vu_if] at hk
    by_cases e0 : k = 0
    · omega
    · simp only [e0, if_false] at hk; exact absurd trivial hk
theorem Okt_liF {a : Nat → Nat → Nat} {l o : Nat} {p : Option Nat} (hm : a 32 11 ≤ 12) : ∀ i, Okt (liF a l p o i) := by
  intro i
  induction i with
  | zero => exact Okt_in0
  | succ i ih => exact Okt_woq hm ih
/-- what layLine may change -/
def Fl (A B : Nat → Nat → Int32) : Prop := (∀ k, (k < 54 ∨ 61 < k) → k ≠ 32 → B k = A k) ∧ ∀ j, j ≠ 36 → j ≠ 37 → B 32 j = A 32 j
theorem Fl.trans {A B C : Nat → Nat → Int32} (h : Fl A B) (g : Fl B C) : Fl A C := ⟨fun k h1 h2 => (g.1 k h1 h2).trans (h.1 k h1 h2), fun j h1 h2 => (g.2 j h1 h2).trans (h.2 j h1 h2)⟩
theorem Fw.fl {A B : Nat → Nat → Int32} (h : Fw A B) : Fl A B := ⟨fun k h1 _ => h k h1, fun j _ _ => by rw [h 32 (by omega)]⟩
theorem Fl.rp {a : Nat → Nat → Nat} {A B : Nat → Nat → Int32} (h : Fl A B) (hR : Rp a A) : Rp a B := hR.of (fun k hk => ⟨fun e j _ hj => by subst e; exact h.2 j (by omega) (by omega), fun e => h.1 k (by omega) e⟩)
section MLay
variable {a : Nat → Nat → Nat} {A : Nat → Nat → Int32} {P : Nat → Nat → Nat} {dy : z_H} {d nx bc bs : Nat} {Q : z_Q} {s : Nat → Nat × Nat} {x1 x2 x3 : Option Value}
theorem l_ll1 (hN : ∀ C, Fm A C → (∀ j, j < 112 → C 54 j = nI 0 ∧ C 55 j = nI 1000000000) → X (d + 4) m_X8_layLine 33 [some (.ref 32), x1, x2, x3, some (.int (nI 112))] [] (GH C P dy) nx bc bs Q) : ∀ (m i : Nat) (C : Nat → Nat → Int32), i + m = 112 → Fm A C → (∀ j, j < i → C 54 j = nI 0 ∧ C 55 j = nI 1000000000) → X (d + 4) m_X8_layLine 3 [some (.ref 32), x1, x2, x3, some (.int (nI i))] [] (GH C P dy) nx bc bs Q := by
  intro m
  induction m with
  | zero =>
    intro i C hi hF h
    have e : i = 112 := by omega
    subst e
    simp (disch := omega) only [i_X8_layLine_3, i_X8_layLine_5, i_X8_layLine_7, gh_o32, gh_u32, gh_r41, gh_r42, gh_r43, gh_r54, gh_r55, gh_w54, gh_w55, gf_32_11, gf_32_12, gf_32_14, gf_32_15, gf_32_28, gf_32_29, gf_32_36, gf_32_37, gp_32_36, gp_32_37, z_o_i, z_ai_i, z_si_i, z_ab_b, z_ab_z, z_sb_b, z_sb_z, z_al_i, z_al_b, z_pu_s, z_pu_n, nI_toN, z_inN, true_and, and_true, nI_add, pk_mul, vu_eq, vu_ne, nI_leI, nI_ltI, nI_eqI, nI_eq0, ↓ok_0, ↓ok_1, bI_eq0, bI_ne0, ↓bI_ok, Nat.one_ne_zero, if_true, if_false, ne_eq, not_true_eq_false, not_false_eq_true, nI_1ne, nI_0eq, nI_le0, pk_sub, bI_T, bI_F, Nat.zero_ne_one, Bool.false_eq_true, Nat.le_refl]
    exact hN C hF h
  | succ m ih =>
    intro i C hi hF h
    have le : ¬ 112 ≤ i := by omega
    rw [i_X8_layLine_3]
    simp (disch := omega) only [i_X8_layLine_5, i_X8_layLine_7, i_X8_layLine_10, i_X8_layLine_11, i_X8_layLine_14, i_X8_layLine_16, i_X8_layLine_17, i_X8_layLine_18, i_X8_layLine_19, i_X8_layLine_22, i_X8_layLine_24, i_X8_layLine_26, i_X8_layLine_27, i_X8_layLine_30, gh_o32, gh_u32, gh_r41, gh_r42, gh_r43, gh_r54, gh_r55, gh_w54, gh_w55, gf_32_11, gf_32_12, gf_32_14, gf_32_15, gf_32_28, gf_32_29, gf_32_36, gf_32_37, gp_32_36, gp_32_37, z_o_i, z_ai_i, z_si_i, z_ab_b, z_ab_z, z_sb_b, z_sb_z, z_al_i, z_al_b, z_pu_s, z_pu_n, nI_toN, z_inN, true_and, and_true, nI_add, pk_mul, vu_eq, vu_ne, nI_leI, nI_ltI, nI_eqI, nI_eq0, ↓ok_0, ↓ok_1, bI_eq0, bI_ne0, ↓bI_ok, Nat.one_ne_zero, if_true, if_false, ne_eq, not_true_eq_false, not_false_eq_true, nI_1ne, nI_0eq, nI_le0, pk_sub, bI_T, bI_F, Nat.zero_ne_one, Bool.false_eq_true, le]
    refine ih (i + 1) _ (by omega) (fun k h1 h2 => by rw [vu_ne h2, vu_ne h1]; exact hF k h1 h2) (fun j hj => ?_)
    simp (disch := omega) only [vu_eq, vu_ne]
    simp only [vu_if]
    by_cases e : j = i
    · simp only [e, if_true, and_self]
    · simp only [e, if_false]; exact h j (by omega)
theorem l_ll2 {l o : Nat} {p : Option Nat} (hR : Rp a A) (hl : l < 16) (ho : o < 24) (hp : ∀ y, p = some y → y < 100) (hN : ∀ C, Fw A C → Rs 1000000000 (4 + 36 * a 42 l) 112 (liF a l p o (a 42 l)) (C 54) (C 55) → X (d + 4) m_X8_layLine 118 [some (.ref 32), some (.int (nI l)), some (.int (oI p)), some (.int (nI o)), some (.int (nI (a 42 l)))] [] (GH C P dy) nx bc bs Q) : ∀ (m i : Nat) (C : Nat → Nat → Int32), i + m = a 42 l → Fw A C → Rs 1000000000 (4 + 36 * i) 112 (liF a l p o i) (C 54) (C 55) → X (d + 4) m_X8_layLine 75 [some (.ref 32), some (.int (nI l)), some (.int (oI p)), some (.int (nI o)), some (.int (nI i))] [] (GH C P dy) nx bc bs Q := by
  have hb := hR.2.2.1
  have hsc := hR.2.2.2
  have b42 := (hb l).2.2.2.2.2.2.2.1
  intro m
  induction m with
  | zero =>
    intro i C hi hF h
    have e : i = a 42 l := by omega
    subst e
    have r42 : C 42 l = nI (a 42 l) := (hF.rp hR).1.2.2.2.2.2.2.2.1 l
    simp (disch := omega) only [i_X8_layLine_75, i_X8_layLine_77, i_X8_layLine_78, i_X8_layLine_81, i_X8_layLine_82, i_X8_layLine_83, gh_o32, gh_u32, gh_r41, gh_r42, gh_r43, gh_r54, gh_r55, gh_w54, gh_w55, gf_32_11, gf_32_12, gf_32_14, gf_32_15, gf_32_28, gf_32_29, gf_32_36, gf_32_37, gp_32_36, gp_32_37, z_o_i, z_ai_i, z_si_i, z_ab_b, z_ab_z, z_sb_b, z_sb_z, z_al_i, z_al_b, z_pu_s, z_pu_n, nI_toN, z_inN, true_and, and_true, nI_add, pk_mul, vu_eq, vu_ne, nI_leI, nI_ltI, nI_eqI, nI_eq0, ↓ok_0, ↓ok_1, bI_eq0, bI_ne0, ↓bI_ok, Nat.one_ne_zero, if_true, if_false, ne_eq, not_true_eq_false, not_false_eq_true, nI_1ne, nI_0eq, nI_le0, pk_sub, bI_T, bI_F, Nat.zero_ne_one, Bool.false_eq_true, r42, Nat.le_refl]
    exact hN C hF h
  | succ m ih =>
    intro i C hi hF h
    have hRC := hF.rp hR
    have le : ¬ a 42 l ≤ i := by omega
    have r42 : C 42 l = nI (a 42 l) := hRC.1.2.2.2.2.2.2.2.1 l
    have r43 : C 43 (8 * l + i) = nI (a 43 (8 * l + i)) := hRC.1.2.2.2.2.2.2.2.2.1 _
    have b43 := (hb (8 * l + i)).2.2.2.2.2.2.2.2.1
    rw [i_X8_layLine_75]
    by_cases e : p = some i
    · have e' : oI p = nI i := by rw [e]; rfl
      simp (disch := omega) only [i_X8_layLine_77, i_X8_layLine_78, i_X8_layLine_81, i_X8_layLine_82, i_X8_layLine_83, i_X8_layLine_86, i_X8_layLine_87, i_X8_layLine_89, i_X8_layLine_90, i_X8_layLine_93, i_X8_layLine_94, i_X8_layLine_109, gh_o32, gh_u32, gh_r41, gh_r42, gh_r43, gh_r54, gh_r55, gh_w54, gh_w55, gf_32_11, gf_32_12, gf_32_14, gf_32_15, gf_32_28, gf_32_29, gf_32_36, gf_32_37, gp_32_36, gp_32_37, z_o_i, z_ai_i, z_si_i, z_ab_b, z_ab_z, z_sb_b, z_sb_z, z_al_i, z_al_b, z_pu_s, z_pu_n, nI_toN, z_inN, true_and, and_true, nI_add, pk_mul, vu_eq, vu_ne, nI_leI, nI_ltI, nI_eqI, nI_eq0, ↓ok_0, ↓ok_1, bI_eq0, bI_ne0, ↓bI_ok, Nat.one_ne_zero, if_true, if_false, ne_eq, not_true_eq_false, not_false_eq_true, nI_1ne, nI_0eq, nI_le0, pk_sub, bI_T, bI_F, Nat.zero_ne_one, Bool.false_eq_true, r42, le, e']
      refine c_wordComes (B := 4 + 36 * i) hRC ho (by omega) (Okt_liF hsc.2.2.2.1 i) h (fun D hD rD => ?_)
      simp (disch := omega) only [i_X8_layLine_112, i_X8_layLine_115, gh_o32, gh_u32, gh_r41, gh_r42, gh_r43, gh_r54, gh_r55, gh_w54, gh_w55, gf_32_11, gf_32_12, gf_32_14, gf_32_15, gf_32_28, gf_32_29, gf_32_36, gf_32_37, gp_32_36, gp_32_37, z_o_i, z_ai_i, z_si_i, z_ab_b, z_ab_z, z_sb_b, z_sb_z, z_al_i, z_al_b, z_pu_s, z_pu_n, nI_toN, z_inN, true_and, and_true, nI_add, pk_mul, vu_eq, vu_ne, nI_leI, nI_ltI, nI_eqI, nI_eq0, ↓ok_0, ↓ok_1, bI_eq0, bI_ne0, ↓bI_ok, Nat.one_ne_zero, if_true, if_false, ne_eq, not_true_eq_false, not_false_eq_true, nI_1ne, nI_0eq, nI_le0, pk_sub, bI_T, bI_F, Nat.zero_ne_one, Bool.false_eq_true]
      have q := ih (i + 1) D (by omega) (hF.trans hD) (by rw [liF, if_pos e, show 4 + 36 * (i + 1) = 4 + 36 * i + 36 by omega]; exact rD)
      rw [e'] at q
      exact q
    · have e' : (nI i = oI p) = False := by
        simp only [eq_iff_iff, iff_false]
        intro q
        cases p with
        | none => exact absurd q (by rw [show oI none = -1 from rfl, nI_m1 (by omega)]; exact fun z => z)
        | some y =>
          have := hp y rfl
          have z := (nI_eq (by omega) (by omega)).mp q
          exact e (by rw [z])
      simp (disch := omega) only [i_X8_layLine_77, i_X8_layLine_78, i_X8_layLine_81, i_X8_layLine_82, i_X8_layLine_83, i_X8_layLine_86, i_X8_layLine_87, i_X8_layLine_89, i_X8_layLine_90, i_X8_layLine_97, i_X8_layLine_98, i_X8_layLine_101, i_X8_layLine_103, i_X8_layLine_104, i_X8_layLine_105, i_X8_layLine_107, i_X8_layLine_108, i_X8_layLine_109, gh_o32, gh_u32, gh_r41, gh_r42, gh_r43, gh_r54, gh_r55, gh_w54, gh_w55, gf_32_11, gf_32_12, gf_32_14, gf_32_15, gf_32_28, gf_32_29, gf_32_36, gf_32_37, gp_32_36, gp_32_37, z_o_i, z_ai_i, z_si_i, z_ab_b, z_ab_z, z_sb_b, z_sb_z, z_al_i, z_al_b, z_pu_s, z_pu_n, nI_toN, z_inN, true_and, and_true, nI_add, pk_mul, vu_eq, vu_ne, nI_leI, nI_ltI, nI_eqI, nI_eq0, ↓ok_0, ↓ok_1, bI_eq0, bI_ne0, ↓bI_ok, Nat.one_ne_zero, if_true, if_false, ne_eq, not_true_eq_false, not_false_eq_true, nI_1ne, nI_0eq, nI_le0, pk_sub, bI_T, bI_F, Nat.zero_ne_one, Bool.false_eq_true, r42, r43, le, e']
      refine c_wordComes (B := 4 + 36 * i) hRC b43 (by omega) (Okt_liF hsc.2.2.2.1 i) h (fun D hD rD => ?_)
      simp (disch := omega) only [i_X8_layLine_112, i_X8_layLine_115, gh_o32, gh_u32, gh_r41, gh_r42, gh_r43, gh_r54, gh_r55, gh_w54, gh_w55, gf_32_11, gf_32_12, gf_32_14, gf_32_15, gf_32_28, gf_32_29, gf_32_36, gf_32_37, gp_32_36, gp_32_37, z_o_i, z_ai_i, z_si_i, z_ab_b, z_ab_z, z_sb_b, z_sb_z, z_al_i, z_al_b, z_pu_s, z_pu_n, nI_toN, z_inN, true_and, and_true, nI_add, pk_mul, vu_eq, vu_ne, nI_leI, nI_ltI, nI_eqI, nI_eq0, ↓ok_0, ↓ok_1, bI_eq0, bI_ne0, ↓bI_ok, Nat.one_ne_zero, if_true, if_false, ne_eq, not_true_eq_false, not_false_eq_true, nI_1ne, nI_0eq, nI_le0, pk_sub, bI_T, bI_F, Nat.zero_ne_one, Bool.false_eq_true]
      exact ih (i + 1) D (by omega) (hF.trans hD) (by rw [liF, if_neg e, show 4 + 36 * (i + 1) = 4 + 36 * i + 36 by omega]; exact rD)
end MLay
