/-! THE CLASS: what the check finds -/
theorem nI_or (a b : Nat) : nI a ||| nI b = nI (a ||| b) := by
  apply Int32.toBitVec_inj.mp
  unfold nI
  rw [Int32.toBitVec_or, Int32.toBitVec_ofNat', Int32.toBitVec_ofNat', Int32.toBitVec_ofNat', BitVec.ofNat_or]
theorem sh_l {l : Nat} (h : l < 16) : nI 1 <<< (nI l &&& 31) = nI (2 ^ l) := by
  have o : l = 0 ∨ l = 1 ∨ l = 2 ∨ l = 3 ∨ l = 4 ∨ l = 5 ∨ l = 6 ∨ l = 7 ∨ l = 8 ∨ l = 9 ∨ l = 10 ∨ l = 11 ∨ l = 12 ∨ l = 13 ∨ l = 14 ∨ l = 15 := by omega
  rcases o with rfl | rfl | rfl | rfl | rfl | rfl | rfl | rfl | rfl | rfl | rfl | rfl | rfl | rfl | rfl | rfl <;> decide
theorem sh_r {u l : Nat} (h : l < 16) (hu : u < 2147483648) : nI u >>> (nI l &&& 31) = nI (u / 2 ^ l) := by
  have o : l = 0 ∨ l = 1 ∨ l = 2 ∨ l = 3 ∨ l = 4 ∨ l = 5 ∨ l = 6 ∨ l = 7 ∨ l = 8 ∨ l = 9 ∨ l = 10 ∨ l = 11 ∨ l = 12 ∨ l = 13 ∨ l = 14 ∨ l = 15 := by omega
  rcases o with rfl | rfl | rfl | rfl | rfl | rfl | rfl | rfl | rfl | rfl | rfl | rfl | rfl | rfl | rfl | rfl <;> exact pk_shrN hu _ _ (by decide)
/-- the lines that stand ahead, a bit each -/
def Ub (S : Nat → Nat) (i u : Nat) : Prop := u < 65536 ∧ ∀ l, l < 16 → (u / 2 ^ l % 2 = 1 ↔ ∃ k, k < i ∧ S k = l + 1)
theorem Ub_0 {S : Nat → Nat} : Ub S 0 0 := ⟨by omega, fun l _ => ⟨fun h => (by rw [Nat.zero_div] at h; cases h), fun ⟨k, h, _⟩ => absurd h (Nat.not_lt_zero k)⟩⟩
theorem Ub_s {S : Nat → Nat} {i u l : Nat} (h : Ub S i u) (hS : S i = l + 1) (hl : l < 16) : Ub S (i + 1) (u ||| 2 ^ l) := by
  have e : ∀ x j : Nat, x / 2 ^ j % 2 = 1 ↔ x.testBit j = true := fun x j => by rw [Nat.testBit_eq_decide_div_mod_eq, decide_eq_true_eq]
  refine ⟨Nat.or_lt_two_pow (n := 16) h.1 (Nat.pow_lt_pow_right (by omega) hl), fun j hj => ?_⟩
  have hj' := h.2 j hj
  rw [e] at hj' ⊢
  rw [Nat.testBit_or, Nat.testBit_two_pow, Bool.or_eq_true, decide_eq_true_eq, hj']
  constructor
  · rintro (⟨k, h1, h2⟩ | h1)
    · exact ⟨k, by omega, h2⟩
    · exact ⟨i, by omega, by rw [hS, h1]⟩
  · rintro ⟨k, h1, h2⟩
    by_cases q : k = i
    · right; rw [q, hS] at h2; omega
    · left; exact ⟨k, by omega, h2⟩
theorem Ub_c {S T : Nat → Nat} {i u : Nat} (h : Ub S i u) (e : ∀ k, k < i → T k = S k) : Ub T i u := ⟨h.1, fun l hl => by
  rw [h.2 l hl]
  exact ⟨fun ⟨k, h1, h2⟩ => ⟨k, h1, by rw [e k h1]; exact h2⟩, fun ⟨k, h1, h2⟩ => ⟨k, h1, by rw [← e k h1]; exact h2⟩⟩⟩
/-- the memos -/
def Mm (s : z_S) (A : Nat → Nat → Int32) : Prop := (∀ l, l < 16 → A 30 l = nI 0 ∨ A 30 l = if okl s.1 l = true then nI 1 else nI 2) ∧ ∀ f g, f < 16 → g < 16 → A 31 (16 * f + g) = nI 0 ∨ A 31 (16 * f + g) = if dlq s.1 s.2 f g = true then nI 1 else nI 2
def Ck (s : z_S) (A : Nat → Nat → Int32) (P : Nat → Nat → Nat) (dy : z_H) (nz : Nat) (wd ln : Nat → Nat) : Prop := Rc s A P ∧ Rd s A P dy nz wd ln ∧ Mm s A
/-- what the check leaves -/
def Fq (A B : Nat → Nat → Int32) : Prop := B 3 = A 3 ∧ B 27 = A 27 ∧ B 28 = A 28 ∧ Fz A B
theorem Fq.refl {A : Nat → Nat → Int32} : Fq A A := ⟨rfl, rfl, rfl, Fz.refl⟩
theorem Fq.trans {A B C : Nat → Nat → Int32} (h : Fq A B) (g : Fq B C) : Fq A C := ⟨g.1.trans h.1, g.2.1.trans h.2.1, g.2.2.1.trans h.2.2.1, h.2.2.2.trans g.2.2.2⟩
theorem Fe.fq {A B : Nat → Nat → Int32} {P R : Nat → Nat → Nat} (h : Fe A B P R) : Fq A B := ⟨h.1 3 (by omega) (by omega), h.1 27 (by omega) (by omega), h.1 28 (by omega) (by omega), h.fz⟩
theorem Fla.fq {A B : Nat → Nat → Int32} {P R : Nat → Nat → Nat} (h : Fla A B P R) : Fq A B := ⟨h.1 3 (by omega) (by omega), h.1 27 (by omega) (by omega), h.1 28 (by omega) (by omega), h.fz⟩
theorem Fe.ck {s : z_S} {A B : Nat → Nat → Int32} {P R : Nat → Nat → Nat} {dy : z_H} {nz : Nat} {wd ln : Nat → Nat} (h : Fe A B P R) (hK : Ck s A P dy nz wd ln) : Ck s B R dy nz wd ln := by
  refine ⟨h.rc hK.1, h.rd hK.2.1, ?_⟩
  have e1 := h.1 30 (by omega) (by omega)
  have e2 := h.1 31 (by omega) (by omega)
  unfold Mm
  rw [e1, e2]
  exact hK.2.2
theorem Fla.ck {s : z_S} {A B : Nat → Nat → Int32} {P R : Nat → Nat → Nat} {dy : z_H} {nz : Nat} {wd ln : Nat → Nat} (h : Fla A B P R) (hR : Pm R) (hK : Ck s A P dy nz wd ln) : Ck s B R dy nz wd ln := by
  refine ⟨h.rc hR hK.1, h.rd hK.2.1, ?_⟩
  have e1 := h.1 30 (by omega) (by omega)
  have e2 := h.1 31 (by omega) (by omega)
  unfold Mm
  rw [e1, e2]
  exact hK.2.2
section CChk
variable {s : z_S} {A : Nat → Nat → Int32} {P : Nat → Nat → Nat} {dy : z_H} {d nx nz bc bs : Nat} {Q : z_Q} {wd ln : Nat → Nat}
theorem Ck.u30 {l : Nat} (hK : Ck s A P dy nz wd ln) : Ck s (va_up A 30 (va_up (A 30) l (if okl s.1 l = true then nI 1 else nI 2))) P dy nz wd ln := by
  refine ⟨⟨hK.1.1, hK.1.2⟩, hK.2.1.of rfl rfl rfl rfl, fun j hj => ?_, hK.2.2.2⟩
  show va_up (A 30) l _ j = nI 0 ∨ va_up (A 30) l _ j = _
  rw [vu_if]
  by_cases e : j = l
  · rw [if_pos e, e]; exact Or.inr rfl
  · rw [if_neg e]; exact hK.2.2.1 j hj
theorem Ck.u31 {f g : Nat} (hf : f < 16) (hg : g < 16) (hK : Ck s A P dy nz wd ln) : Ck s (va_up A 31 (va_up (A 31) (16 * f + g) (if dlq s.1 s.2 f g = true then nI 1 else nI 2))) P dy nz wd ln := by
  refine ⟨⟨hK.1.1, hK.1.2⟩, hK.2.1.of rfl rfl rfl rfl, hK.2.2.1, fun x y hx hy => ?_⟩
  show va_up (A 31) (16 * f + g) _ (16 * x + y) = nI 0 ∨ va_up (A 31) (16 * f + g) _ (16 * x + y) = _
  rw [vu_if]
  by_cases e : 16 * x + y = 16 * f + g
  · have ex : x = f := by omega
    have ey : y = g := by omega
    rw [if_pos e, ex, ey]; exact Or.inr rfl
  · rw [if_neg e]; exact hK.2.2.2 x y hx hy
theorem Fq.u30 {f : Nat → Int32} : Fq A (va_up A 30 f) := ⟨rfl, rfl, rfl, Fz.refl.up (by omega)⟩
theorem Fq.u31 {f : Nat → Int32} : Fq A (va_up A 31 f) := ⟨rfl, rfl, rfl, Fz.refl.up (by omega)⟩
theorem k_fits {l : Nat} (hI : Iv s) (hK : Ck s A P dy nz wd ln) (hl : l < s.1 32 13) (hQ : ∀ C V, Ck s C V dy nz wd ln → Fq A C → Q (some (.int (bI (okl s.1 l = true)))) (GH C V dy) nx) : XC (d + 5) m_X7_fits [.ref 3, .int (nI l)] (GH A P dy) nx Q := by
  show X (d + 5) m_X7_fits 0 [some (.ref 3), some (.int (nI l)), none] [] (GH A P dy) nx 0 0 Q
  have sc := hI.sc
  have kL : ∀ {d nx : Nat} {Q : z_Q}, XC (d + 3) m_X7_lineAt [.ref 3, .int (nI l)] (GH A P dy) nx Q = _ := k_lineAt hK.2.1 hl
  have e12 : ((2 : Nat) = 1) = False := by simp
  have e20 : ((2 : Nat) = 0) = False := by simp
  have fin : ∀ (C : Nat → Nat → Int32) (V : Nat → Nat → Nat) (x2 : Option Value), Ck s C V dy nz wd ln → Fq A C → C 30 l = (if okl s.1 l = true then nI 1 else nI 2) → X (d + 5) m_X7_fits 49 [some (.ref 3), some (.int (nI l)), x2] [] (GH C V dy) nx 0 0 Q := by
    intro C V x2 hC hF h30
    have q := hQ C V hC hF
    by_cases o : okl s.1 l = true
    · rw [if_pos o] at h30
      rw [bI_t o] at q
      simp (disch := omega) only [i_X7_fits_49, i_X7_fits_49n, i_X7_fits_50, i_X7_fits_53, i_X7_fits_54, i_X7_fits_55, i_X7_fits_56, i_X7_fits_59, i_X7_fits_60, i_X7_fits_63, i_X7_fits_64, gh_o3, gh_o10, gh_o24, gh_r25, gh_r26, gh_r30, gh_r31, gh_w30, gh_w31, gf_24_0, gf_24_1, gf_24_2, gf_24_3, gf_24_4, gf_24_5, gf_3_0, gf_3_1, gf_3_2, gf_3_3, gf_3_4, gf_3_6, gf_3_7, gf_3_8, gh_o6, lnF_0, lnF_1, z_o_i, z_ai_i, z_si_i, z_ab_b, z_ab_z, z_sb_b, z_sb_z, z_al_i, z_al_b, z_pu_s, z_pu_n, nI_toN, z_inN, true_and, and_true, nI_add, pk_mul, vu_eq, vu_ne, nI_leI, nI_ltI, nI_eqI, nI_eq0, nI_le0, ↓ok_0, ↓ok_1, ↓bI_ok, if_true, if_false, nI_lt0, nI_ge0, ne_eq, not_true_eq_false, not_false_eq_true, bI_eq0, bI_ne0, bI_T, bI_F, Bool.false_eq_true, Nat.one_ne_zero, Nat.zero_ne_one, Nat.zero_add, nI_m1, nm_lt, nm_ge, nI_1ne, nI_0eq, h30]
      exact q
    · rw [if_neg o] at h30
      rw [bI_f o] at q
      simp (disch := omega) only [i_X7_fits_49, i_X7_fits_49n, i_X7_fits_50, i_X7_fits_53, i_X7_fits_54, i_X7_fits_55, i_X7_fits_56, i_X7_fits_59, i_X7_fits_60, i_X7_fits_63, i_X7_fits_64, gh_o3, gh_o10, gh_o24, gh_r25, gh_r26, gh_r30, gh_r31, gh_w30, gh_w31, gf_24_0, gf_24_1, gf_24_2, gf_24_3, gf_24_4, gf_24_5, gf_3_0, gf_3_1, gf_3_2, gf_3_3, gf_3_4, gf_3_6, gf_3_7, gf_3_8, gh_o6, lnF_0, lnF_1, z_o_i, z_ai_i, z_si_i, z_ab_b, z_ab_z, z_sb_b, z_sb_z, z_al_i, z_al_b, z_pu_s, z_pu_n, nI_toN, z_inN, true_and, and_true, nI_add, pk_mul, vu_eq, vu_ne, nI_leI, nI_ltI, nI_eqI, nI_eq0, nI_le0, ↓ok_0, ↓ok_1, ↓bI_ok, if_true, if_false, nI_lt0, nI_ge0, ne_eq, not_true_eq_false, not_false_eq_true, bI_eq0, bI_ne0, bI_T, bI_F, Bool.false_eq_true, Nat.one_ne_zero, Nat.zero_ne_one, Nat.zero_add, nI_m1, nm_lt, nm_ge, nI_1ne, nI_0eq, h30, e12]
      exact q
  rcases hK.2.2.1 l (by omega) with h30 | h30
  · simp (disch := omega) only [i_X7_fits_0, i_X7_fits_0n, i_X7_fits_1, i_X7_fits_2, i_X7_fits_5, i_X7_fits_5n, i_X7_fits_6, i_X7_fits_6n, i_X7_fits_7, i_X7_fits_7n, i_X7_fits_12, i_X7_fits_12n, i_X7_fits_13, i_X7_fits_16, i_X7_fits_17, i_X7_fits_18, i_X7_fits_21, i_X7_fits_21n, i_X7_fits_22, i_X7_fits_22n, i_X7_fits_23, i_X7_fits_24, i_X7_fits_25, gh_o3, gh_o10, gh_o24, gh_r25, gh_r26, gh_r30, gh_r31, gh_w30, gh_w31, gf_24_0, gf_24_1, gf_24_2, gf_24_3, gf_24_4, gf_24_5, gf_3_0, gf_3_1, gf_3_2, gf_3_3, gf_3_4, gf_3_6, gf_3_7, gf_3_8, gh_o6, lnF_0, lnF_1, z_o_i, z_ai_i, z_si_i, z_ab_b, z_ab_z, z_sb_b, z_sb_z, z_al_i, z_al_b, z_pu_s, z_pu_n, nI_toN, z_inN, true_and, and_true, nI_add, pk_mul, vu_eq, vu_ne, nI_leI, nI_ltI, nI_eqI, nI_eq0, nI_le0, ↓ok_0, ↓ok_1, ↓bI_ok, if_true, if_false, nI_lt0, nI_ge0, ne_eq, not_true_eq_false, not_false_eq_true, bI_eq0, bI_ne0, bI_T, bI_F, Bool.false_eq_true, Nat.one_ne_zero, Nat.zero_ne_one, Nat.zero_add, nI_m1, nm_lt, nm_ge, nI_1ne, nI_0eq, kL, h30]
    refine k_lay (p := none) (o := 0) hI hK.1 hK.2.1 hl (fun y z => by cases z) (fun C R S hF hR rS hS => ?_)
    have c10 : C 10 0 = nI (s.1 32 11) := by rw [hF.2.1]; exact hK.1.1.2.2.1
    have kM : ∀ {d nx : Nat} {Q : z_Q}, XC (d + 1) m_X4_howMany [.ref 10] (GH C R dy) nx Q = _ := k_many hI c10 hR rS hS
    have bl := lyq_b (a := s.1) (l := l) (p := none) (o := 0)
    have hKC := hF.ck hR hK
    have u := hKC.u30 (l := l)
    by_cases z : (lyq s.1 l none 0).1 ≤ 0
    · have o : ¬ okl s.1 l = true := by simp [okl]; omega
      rw [if_neg o] at u
      simp (disch := omega) only [i_X7_fits_28, i_X7_fits_28n, i_X7_fits_29, i_X7_fits_32, i_X7_fits_33, i_X7_fits_33n, i_X7_fits_34, i_X7_fits_37, i_X7_fits_40, i_X7_fits_43, i_X7_fits_44, i_X7_fits_47, i_X7_fits_48, gh_o3, gh_o10, gh_o24, gh_r25, gh_r26, gh_r30, gh_r31, gh_w30, gh_w31, gf_24_0, gf_24_1, gf_24_2, gf_24_3, gf_24_4, gf_24_5, gf_3_0, gf_3_1, gf_3_2, gf_3_3, gf_3_4, gf_3_6, gf_3_7, gf_3_8, gh_o6, lnF_0, lnF_1, z_o_i, z_ai_i, z_si_i, z_ab_b, z_ab_z, z_sb_b, z_sb_z, z_al_i, z_al_b, z_pu_s, z_pu_n, nI_toN, z_inN, true_and, and_true, nI_add, pk_mul, vu_eq, vu_ne, nI_leI, nI_ltI, nI_eqI, nI_eq0, nI_le0, ↓ok_0, ↓ok_1, ↓bI_ok, if_true, if_false, nI_lt0, nI_ge0, ne_eq, not_true_eq_false, not_false_eq_true, bI_eq0, bI_ne0, bI_T, bI_F, Bool.false_eq_true, Nat.one_ne_zero, Nat.zero_ne_one, Nat.zero_add, nI_m1, nm_lt, nm_ge, nI_1ne, nI_0eq, kM, z]
      exact fin _ _ _ u (hF.fq.trans Fq.u30) (by rw [vu_eq, vu_eq, if_neg o])
    · have o : okl s.1 l = true := by simp [okl]; omega
      rw [if_pos o] at u
      simp (disch := omega) only [i_X7_fits_28, i_X7_fits_28n, i_X7_fits_29, i_X7_fits_32, i_X7_fits_33, i_X7_fits_33n, i_X7_fits_34, i_X7_fits_37, i_X7_fits_40, i_X7_fits_43, i_X7_fits_44, i_X7_fits_47, i_X7_fits_48, gh_o3, gh_o10, gh_o24, gh_r25, gh_r26, gh_r30, gh_r31, gh_w30, gh_w31, gf_24_0, gf_24_1, gf_24_2, gf_24_3, gf_24_4, gf_24_5, gf_3_0, gf_3_1, gf_3_2, gf_3_3, gf_3_4, gf_3_6, gf_3_7, gf_3_8, gh_o6, lnF_0, lnF_1, z_o_i, z_ai_i, z_si_i, z_ab_b, z_ab_z, z_sb_b, z_sb_z, z_al_i, z_al_b, z_pu_s, z_pu_n, nI_toN, z_inN, true_and, and_true, nI_add, pk_mul, vu_eq, vu_ne, nI_leI, nI_ltI, nI_eqI, nI_eq0, nI_le0, ↓ok_0, ↓ok_1, ↓bI_ok, if_true, if_false, nI_lt0, nI_ge0, ne_eq, not_true_eq_false, not_false_eq_true, bI_eq0, bI_ne0, bI_T, bI_F, Bool.false_eq_true, Nat.one_ne_zero, Nat.zero_ne_one, Nat.zero_add, nI_m1, nm_lt, nm_ge, nI_1ne, nI_0eq, kM, z]
      exact fin _ _ _ u (hF.fq.trans Fq.u30) (by rw [vu_eq, vu_eq, if_pos o])
  · by_cases o : okl s.1 l = true
    · have f := fin A P (some (.ref (ln l))) hK Fq.refl h30
      rw [if_pos o] at h30
      simp (disch := omega) only [i_X7_fits_0, i_X7_fits_0n, i_X7_fits_1, i_X7_fits_2, i_X7_fits_5, i_X7_fits_5n, i_X7_fits_6, i_X7_fits_6n, i_X7_fits_7, i_X7_fits_7n, i_X7_fits_12, i_X7_fits_12n, i_X7_fits_13, i_X7_fits_16, i_X7_fits_17, i_X7_fits_18, gh_o3, gh_o10, gh_o24, gh_r25, gh_r26, gh_r30, gh_r31, gh_w30, gh_w31, gf_24_0, gf_24_1, gf_24_2, gf_24_3, gf_24_4, gf_24_5, gf_3_0, gf_3_1, gf_3_2, gf_3_3, gf_3_4, gf_3_6, gf_3_7, gf_3_8, gh_o6, lnF_0, lnF_1, z_o_i, z_ai_i, z_si_i, z_ab_b, z_ab_z, z_sb_b, z_sb_z, z_al_i, z_al_b, z_pu_s, z_pu_n, nI_toN, z_inN, true_and, and_true, nI_add, pk_mul, vu_eq, vu_ne, nI_leI, nI_ltI, nI_eqI, nI_eq0, nI_le0, ↓ok_0, ↓ok_1, ↓bI_ok, if_true, if_false, nI_lt0, nI_ge0, ne_eq, not_true_eq_false, not_false_eq_true, bI_eq0, bI_ne0, bI_T, bI_F, Bool.false_eq_true, Nat.one_ne_zero, Nat.zero_ne_one, Nat.zero_add, nI_m1, nm_lt, nm_ge, nI_1ne, nI_0eq, kL, h30]
      exact f
    · have f := fin A P (some (.ref (ln l))) hK Fq.refl h30
      rw [if_neg o] at h30
      simp (disch := omega) only [i_X7_fits_0, i_X7_fits_0n, i_X7_fits_1, i_X7_fits_2, i_X7_fits_5, i_X7_fits_5n, i_X7_fits_6, i_X7_fits_6n, i_X7_fits_7, i_X7_fits_7n, i_X7_fits_12, i_X7_fits_12n, i_X7_fits_13, i_X7_fits_16, i_X7_fits_17, i_X7_fits_18, gh_o3, gh_o10, gh_o24, gh_r25, gh_r26, gh_r30, gh_r31, gh_w30, gh_w31, gf_24_0, gf_24_1, gf_24_2, gf_24_3, gf_24_4, gf_24_5, gf_3_0, gf_3_1, gf_3_2, gf_3_3, gf_3_4, gf_3_6, gf_3_7, gf_3_8, gh_o6, lnF_0, lnF_1, z_o_i, z_ai_i, z_si_i, z_ab_b, z_ab_z, z_sb_b, z_sb_z, z_al_i, z_al_b, z_pu_s, z_pu_n, nI_toN, z_inN, true_and, and_true, nI_add, pk_mul, vu_eq, vu_ne, nI_leI, nI_ltI, nI_eqI, nI_eq0, nI_le0, ↓ok_0, ↓ok_1, ↓bI_ok, if_true, if_false, nI_lt0, nI_ge0, ne_eq, not_true_eq_false, not_false_eq_true, bI_eq0, bI_ne0, bI_T, bI_F, Bool.false_eq_true, Nat.one_ne_zero, Nat.zero_ne_one, Nat.zero_add, nI_m1, nm_lt, nm_ge, nI_1ne, nI_0eq, kL, h30, e20]
      exact f
theorem k_last {l : Nat} (hI : Iv s) (hD : Rd s A P dy nz wd ln) (hl : l < s.1 32 13) : XC (d + 4) m_X7_lastWordOf [.ref 3, .int (nI l)] (GH A P dy) nx Q = Q (some (.int (nI (lw s.1 l)))) (GH A P dy) nx := by
  show X (d + 4) m_X7_lastWordOf 0 [some (.ref 3), some (.int (nI l)), none] [] (GH A P dy) nx 0 0 Q = _
  have kL : ∀ {d nx : Nat} {Q : z_Q}, XC (d + 3) m_X7_lineAt [.ref 3, .int (nI l)] (GH A P dy) nx Q = _ := k_lineAt hD hl
  have sc := hI.sc
  obtain ⟨q, F, q1, q2, q3⟩ := hD.lq hl
  have b42 := hI.b42 l
  have wl := hI.2.2.1 l hl
  have le : ¬ s.1 42 l ≤ 0 := by omega
  have f3 := q3 (s.1 42 l - 1) (by omega)
  have e : lw s.1 l = s.1 43 (8 * l + (s.1 42 l - 1)) := by unfold lw; rw [show 8 * l + s.1 42 l - 1 = 8 * l + (s.1 42 l - 1) by omega]
  rw [e]
  simp (disch := omega) only [i_X7_lastWordOf_0, i_X7_lastWordOf_0n, i_X7_lastWordOf_1, i_X7_lastWordOf_2, i_X7_lastWordOf_5, i_X7_lastWordOf_5n, i_X7_lastWordOf_6, i_X7_lastWordOf_6n, i_X7_lastWordOf_7, i_X7_lastWordOf_7n, i_X7_lastWordOf_10, i_X7_lastWordOf_10n, i_X7_lastWordOf_11, i_X7_lastWordOf_14, i_X7_lastWordOf_17, i_X7_lastWordOf_17n, i_X7_lastWordOf_18, i_X7_lastWordOf_21, i_X7_lastWordOf_21n, i_X7_lastWordOf_22, i_X7_lastWordOf_25, i_X7_lastWordOf_26, i_X7_lastWordOf_27, i_X7_lastWordOf_28, i_X7_lastWordOf_32, gh_o3, gh_o10, gh_o24, gh_r25, gh_r26, gh_r30, gh_r31, gh_w30, gh_w31, gf_24_0, gf_24_1, gf_24_2, gf_24_3, gf_24_4, gf_24_5, gf_3_0, gf_3_1, gf_3_2, gf_3_3, gf_3_4, gf_3_6, gf_3_7, gf_3_8, gh_o6, lnF_0, lnF_1, z_o_i, z_ai_i, z_si_i, z_ab_b, z_ab_z, z_sb_b, z_sb_z, z_al_i, z_al_b, z_pu_s, z_pu_n, nI_toN, z_inN, true_and, and_true, nI_add, pk_mul, vu_eq, vu_ne, nI_leI, nI_ltI, nI_eqI, nI_eq0, nI_le0, ↓ok_0, ↓ok_1, ↓bI_ok, if_true, if_false, nI_lt0, nI_ge0, ne_eq, not_true_eq_false, not_false_eq_true, bI_eq0, bI_ne0, bI_T, bI_F, Bool.false_eq_true, Nat.one_ne_zero, Nat.zero_ne_one, Nat.zero_add, nI_m1, nm_lt, nm_ge, nI_1ne, nI_0eq, kL, q1, q2, le, pk_sub, f3]
theorem k_lrh {f g : Nat} (hI : Iv s) (hK : Ck s A P dy nz wd ln) (hf : f < s.1 32 13) (hg : g < s.1 32 13) (hQ : ∀ C V, Ck s C V dy nz wd ln → Fq A C → Q (some (.int (bI (dlq s.1 s.2 f g = true)))) (GH C V dy) nx) : XC (d + 5) m_X7_areLinesRhyming [.ref 3, .int (nI f), .int (nI g)] (GH A P dy) nx Q := by
  show X (d + 5) m_X7_areLinesRhyming 0 [some (.ref 3), some (.int (nI f)), some (.int (nI g)), none, none, none, none, none, none] [] (GH A P dy) nx 0 0 Q
  have sc := hI.sc
  have kf : ∀ {d nx : Nat} {Q : z_Q}, XC (d + 4) m_X7_lastWordOf [.ref 3, .int (nI f)] (GH A P dy) nx Q = _ := k_last hI hK.2.1 hf
  have kg : ∀ {d nx : Nat} {Q : z_Q}, XC (d + 4) m_X7_lastWordOf [.ref 3, .int (nI g)] (GH A P dy) nx Q = _ := k_last hI hK.2.1 hg
  have wf := lw_lt hI.2.2.1 hf
  have wg := lw_lt hI.2.2.1 hg
  have kW : ∀ {d nx : Nat} {Q : z_Q} {w : Nat}, w < s.1 32 1 → XC (d + 3) m_X7_wordAt [.ref 3, .int (nI w)] (GH A P dy) nx Q = Q (some (.ref (wd w))) (GH A P dy) nx := fun h => k_wordAt hK.2.1 h
  obtain ⟨ρ, hWq⟩ := hK.2.1.wqs
  have e12 : ((2 : Nat) = 1) = False := by simp
  have e20 : ((2 : Nat) = 0) = False := by simp
  have cm : f * 16 + g = 16 * f + g := by omega
  by_cases e : lw s.1 f = lw s.1 g
  · have q := hQ A P hK Fq.refl
    have hn : ∀ k, hwq s.1 s.2 (lw s.1 f) (lw s.1 g) k = none := fun k => by unfold hwq; rw [if_pos e]
    rw [bI_f (by simp [dlq, hn])] at q
    have me : (lw s.1 g = lw s.1 g) = True := by simp
    rw [e] at kf
    simp (disch := omega) only [i_X7_areLinesRhyming_0, i_X7_areLinesRhyming_0n, i_X7_areLinesRhyming_1, i_X7_areLinesRhyming_2, i_X7_areLinesRhyming_5, i_X7_areLinesRhyming_6, i_X7_areLinesRhyming_6n, i_X7_areLinesRhyming_7, i_X7_areLinesRhyming_8, i_X7_areLinesRhyming_11, i_X7_areLinesRhyming_13, i_X7_areLinesRhyming_13n, i_X7_areLinesRhyming_14, i_X7_areLinesRhyming_15, i_X7_areLinesRhyming_18, i_X7_areLinesRhyming_18n, i_X7_areLinesRhyming_20, i_X7_areLinesRhyming_20n, i_X7_areLinesRhyming_21, i_X7_areLinesRhyming_23, i_X7_areLinesRhyming_26, i_X7_areLinesRhyming_26n, i_X7_areLinesRhyming_28, i_X7_areLinesRhyming_29, i_X7_areLinesRhyming_31, i_X7_areLinesRhyming_44, i_X7_areLinesRhyming_45, gh_o3, gh_o10, gh_o24, gh_r25, gh_r26, gh_r30, gh_r31, gh_w30, gh_w31, gf_24_0, gf_24_1, gf_24_2, gf_24_3, gf_24_4, gf_24_5, gf_3_0, gf_3_1, gf_3_2, gf_3_3, gf_3_4, gf_3_6, gf_3_7, gf_3_8, gh_o6, lnF_0, lnF_1, z_o_i, z_ai_i, z_si_i, z_ab_b, z_ab_z, z_sb_b, z_sb_z, z_al_i, z_al_b, z_pu_s, z_pu_n, nI_toN, z_inN, true_and, and_true, nI_add, pk_mul, vu_eq, vu_ne, nI_leI, nI_ltI, nI_eqI, nI_eq0, nI_le0, ↓ok_0, ↓ok_1, ↓bI_ok, if_true, if_false, nI_lt0, nI_ge0, ne_eq, not_true_eq_false, not_false_eq_true, bI_eq0, bI_ne0, bI_T, bI_F, Bool.false_eq_true, Nat.one_ne_zero, Nat.zero_ne_one, Nat.zero_add, nI_m1, nm_lt, nm_ge, nI_1ne, nI_0eq, kf, kg, kW, me]
    exact q
  · have hq : ∀ k, k ≠ 5 → hwq s.1 s.2 (lw s.1 f) (lw s.1 g) k = fo (fun p q => rqs s.1 k (3 * lw s.1 f + p) (3 * lw s.1 g + q)) (s.1 34 (lw s.1 g)) (s.1 34 (lw s.1 f)) 0 := fun k hk => by unfold hwq; rw [if_neg e, if_neg hk]
    have om : ∀ k, (oI (hwq s.1 s.2 (lw s.1 f) (lw s.1 g) k) = -1) = (hwq s.1 s.2 (lw s.1 f) (lw s.1 g) k = none) := fun k => oI_m1 (fun y hy => hwq_lt hI.b34 hy)
    have fin : ∀ (C : Nat → Nat → Int32) (V : Nat → Nat → Nat) (x8 : Option Value), Ck s C V dy nz wd ln → Fq A C → C 31 (16 * f + g) = (if dlq s.1 s.2 f g = true then nI 1 else nI 2) → X (d + 5) m_X7_areLinesRhyming 183 [some (.ref 3), some (.int (nI f)), some (.int (nI g)), some (.int (nI (lw s.1 f))), some (.int (nI (lw s.1 g))), some (.ref (wd (lw s.1 f))), some (.ref (wd (lw s.1 g))), some (.int (nI (16 * f + g))), x8] [] (GH C V dy) nx 0 0 Q := by
      intro C V x8 hC hF h31
      have q := hQ C V hC hF
      by_cases o : dlq s.1 s.2 f g = true
      · rw [if_pos o] at h31
        rw [bI_t o] at q
        simp (disch := omega) only [i_X7_areLinesRhyming_183, i_X7_areLinesRhyming_183n, i_X7_areLinesRhyming_184, i_X7_areLinesRhyming_187, i_X7_areLinesRhyming_189, i_X7_areLinesRhyming_190, i_X7_areLinesRhyming_191, i_X7_areLinesRhyming_194, i_X7_areLinesRhyming_195, i_X7_areLinesRhyming_198, i_X7_areLinesRhyming_199, gh_o3, gh_o10, gh_o24, gh_r25, gh_r26, gh_r30, gh_r31, gh_w30, gh_w31, gf_24_0, gf_24_1, gf_24_2, gf_24_3, gf_24_4, gf_24_5, gf_3_0, gf_3_1, gf_3_2, gf_3_3, gf_3_4, gf_3_6, gf_3_7, gf_3_8, gh_o6, lnF_0, lnF_1, z_o_i, z_ai_i, z_si_i, z_ab_b, z_ab_z, z_sb_b, z_sb_z, z_al_i, z_al_b, z_pu_s, z_pu_n, nI_toN, z_inN, true_and, and_true, nI_add, pk_mul, vu_eq, vu_ne, nI_leI, nI_ltI, nI_eqI, nI_eq0, nI_le0, ↓ok_0, ↓ok_1, ↓bI_ok, if_true, if_false, nI_lt0, nI_ge0, ne_eq, not_true_eq_false, not_false_eq_true, bI_eq0, bI_ne0, bI_T, bI_F, Bool.false_eq_true, Nat.one_ne_zero, Nat.zero_ne_one, Nat.zero_add, nI_m1, nm_lt, nm_ge, nI_1ne, nI_0eq, h31]
        exact q
      · rw [if_neg o] at h31
        rw [bI_f o] at q
        simp (disch := omega) only [i_X7_areLinesRhyming_183, i_X7_areLinesRhyming_183n, i_X7_areLinesRhyming_184, i_X7_areLinesRhyming_187, i_X7_areLinesRhyming_189, i_X7_areLinesRhyming_190, i_X7_areLinesRhyming_191, i_X7_areLinesRhyming_194, i_X7_areLinesRhyming_195, i_X7_areLinesRhyming_198, i_X7_areLinesRhyming_199, gh_o3, gh_o10, gh_o24, gh_r25, gh_r26, gh_r30, gh_r31, gh_w30, gh_w31, gf_24_0, gf_24_1, gf_24_2, gf_24_3, gf_24_4, gf_24_5, gf_3_0, gf_3_1, gf_3_2, gf_3_3, gf_3_4, gf_3_6, gf_3_7, gf_3_8, gh_o6, lnF_0, lnF_1, z_o_i, z_ai_i, z_si_i, z_ab_b, z_ab_z, z_sb_b, z_sb_z, z_al_i, z_al_b, z_pu_s, z_pu_n, nI_toN, z_inN, true_and, and_true, nI_add, pk_mul, vu_eq, vu_ne, nI_leI, nI_ltI, nI_eqI, nI_eq0, nI_le0, ↓ok_0, ↓ok_1, ↓bI_ok, if_true, if_false, nI_lt0, nI_ge0, ne_eq, not_true_eq_false, not_false_eq_true, bI_eq0, bI_ne0, bI_T, bI_F, Bool.false_eq_true, Nat.one_ne_zero, Nat.zero_ne_one, Nat.zero_add, nI_m1, nm_lt, nm_ge, nI_1ne, nI_0eq, h31, e12]
        exact q
    -- the answer is kept
    have keep : ∀ (C : Nat → Nat → Int32) (V : Nat → Nat → Nat) (v : Nat), Ck s C V dy nz wd ln → Fq A C → v = (if dlq s.1 s.2 f g = true then 1 else 0) → X (d + 5) m_X7_areLinesRhyming 166 [some (.ref 3), some (.int (nI f)), some (.int (nI g)), some (.int (nI (lw s.1 f))), some (.int (nI (lw s.1 g))), some (.ref (wd (lw s.1 f))), some (.ref (wd (lw s.1 g))), some (.int (nI (16 * f + g))), some (.int (nI v))] [] (GH C V dy) nx 0 0 Q := by
      intro C V v hC hF hv
      have u := hC.u31 (f := f) (g := g) (by omega) (by omega)
      by_cases o : dlq s.1 s.2 f g = true
      · rw [if_pos o] at hv u
        subst hv
        simp (disch := omega) only [i_X7_areLinesRhyming_166, i_X7_areLinesRhyming_166n, i_X7_areLinesRhyming_167, i_X7_areLinesRhyming_170, i_X7_areLinesRhyming_172, i_X7_areLinesRhyming_174, i_X7_areLinesRhyming_177, i_X7_areLinesRhyming_178, i_X7_areLinesRhyming_181, i_X7_areLinesRhyming_182, gh_o3, gh_o10, gh_o24, gh_r25, gh_r26, gh_r30, gh_r31, gh_w30, gh_w31, gf_24_0, gf_24_1, gf_24_2, gf_24_3, gf_24_4, gf_24_5, gf_3_0, gf_3_1, gf_3_2, gf_3_3, gf_3_4, gf_3_6, gf_3_7, gf_3_8, gh_o6, lnF_0, lnF_1, z_o_i, z_ai_i, z_si_i, z_ab_b, z_ab_z, z_sb_b, z_sb_z, z_al_i, z_al_b, z_pu_s, z_pu_n, nI_toN, z_inN, true_and, and_true, nI_add, pk_mul, vu_eq, vu_ne, nI_leI, nI_ltI, nI_eqI, nI_eq0, nI_le0, ↓ok_0, ↓ok_1, ↓bI_ok, if_true, if_false, nI_lt0, nI_ge0, ne_eq, not_true_eq_false, not_false_eq_true, bI_eq0, bI_ne0, bI_T, bI_F, Bool.false_eq_true, Nat.one_ne_zero, Nat.zero_ne_one, Nat.zero_add, nI_m1, nm_lt, nm_ge, nI_1ne, nI_0eq]
        exact fin _ _ _ u (hF.trans Fq.u31) (by rw [vu_eq, vu_eq, if_pos o])
      · rw [if_neg o] at hv u
        subst hv
        simp (disch := omega) only [i_X7_areLinesRhyming_166, i_X7_areLinesRhyming_166n, i_X7_areLinesRhyming_167, i_X7_areLinesRhyming_170, i_X7_areLinesRhyming_172, i_X7_areLinesRhyming_174, i_X7_areLinesRhyming_177, i_X7_areLinesRhyming_178, i_X7_areLinesRhyming_181, i_X7_areLinesRhyming_182, gh_o3, gh_o10, gh_o24, gh_r25, gh_r26, gh_r30, gh_r31, gh_w30, gh_w31, gf_24_0, gf_24_1, gf_24_2, gf_24_3, gf_24_4, gf_24_5, gf_3_0, gf_3_1, gf_3_2, gf_3_3, gf_3_4, gf_3_6, gf_3_7, gf_3_8, gh_o6, lnF_0, lnF_1, z_o_i, z_ai_i, z_si_i, z_ab_b, z_ab_z, z_sb_b, z_sb_z, z_al_i, z_al_b, z_pu_s, z_pu_n, nI_toN, z_inN, true_and, and_true, nI_add, pk_mul, vu_eq, vu_ne, nI_leI, nI_ltI, nI_eqI, nI_eq0, nI_le0, ↓ok_0, ↓ok_1, ↓bI_ok, if_true, if_false, nI_lt0, nI_ge0, ne_eq, not_true_eq_false, not_false_eq_true, bI_eq0, bI_ne0, bI_T, bI_F, Bool.false_eq_true, Nat.one_ne_zero, Nat.zero_ne_one, Nat.zero_add, nI_m1, nm_lt, nm_ge, nI_1ne, nI_0eq]
        exact fin _ _ _ u (hF.trans Fq.u31) (by rw [vu_eq, vu_eq, if_neg o])
    rcases hK.2.2.2 f g (by omega) (by omega) with h31 | h31
    · simp (disch := omega) only [i_X7_areLinesRhyming_0, i_X7_areLinesRhyming_0n, i_X7_areLinesRhyming_1, i_X7_areLinesRhyming_2, i_X7_areLinesRhyming_5, i_X7_areLinesRhyming_6, i_X7_areLinesRhyming_6n, i_X7_areLinesRhyming_7, i_X7_areLinesRhyming_8, i_X7_areLinesRhyming_11, i_X7_areLinesRhyming_13, i_X7_areLinesRhyming_13n, i_X7_areLinesRhyming_14, i_X7_areLinesRhyming_15, i_X7_areLinesRhyming_18, i_X7_areLinesRhyming_18n, i_X7_areLinesRhyming_20, i_X7_areLinesRhyming_20n, i_X7_areLinesRhyming_21, i_X7_areLinesRhyming_23, i_X7_areLinesRhyming_26, i_X7_areLinesRhyming_26n, i_X7_areLinesRhyming_28, i_X7_areLinesRhyming_29, i_X7_areLinesRhyming_31, i_X7_areLinesRhyming_34, i_X7_areLinesRhyming_34n, i_X7_areLinesRhyming_36, i_X7_areLinesRhyming_36n, i_X7_areLinesRhyming_39, i_X7_areLinesRhyming_39n, i_X7_areLinesRhyming_41, i_X7_areLinesRhyming_41n, i_X7_areLinesRhyming_46, i_X7_areLinesRhyming_47, i_X7_areLinesRhyming_49, i_X7_areLinesRhyming_50, i_X7_areLinesRhyming_51, i_X7_areLinesRhyming_52, i_X7_areLinesRhyming_54, i_X7_areLinesRhyming_54n, i_X7_areLinesRhyming_55, i_X7_areLinesRhyming_58, i_X7_areLinesRhyming_60, i_X7_areLinesRhyming_61, i_X7_areLinesRhyming_64, i_X7_areLinesRhyming_64n, i_X7_areLinesRhyming_65, i_X7_areLinesRhyming_68, i_X7_areLinesRhyming_68n, i_X7_areLinesRhyming_70, i_X7_areLinesRhyming_70n, i_X7_areLinesRhyming_72, i_X7_areLinesRhyming_74, gh_o3, gh_o10, gh_o24, gh_r25, gh_r26, gh_r30, gh_r31, gh_w30, gh_w31, gf_24_0, gf_24_1, gf_24_2, gf_24_3, gf_24_4, gf_24_5, gf_3_0, gf_3_1, gf_3_2, gf_3_3, gf_3_4, gf_3_6, gf_3_7, gf_3_8, gh_o6, lnF_0, lnF_1, z_o_i, z_ai_i, z_si_i, z_ab_b, z_ab_z, z_sb_b, z_sb_z, z_al_i, z_al_b, z_pu_s, z_pu_n, nI_toN, z_inN, true_and, and_true, nI_add, pk_mul, vu_eq, vu_ne, nI_leI, nI_ltI, nI_eqI, nI_eq0, nI_le0, ↓ok_0, ↓ok_1, ↓bI_ok, if_true, if_false, nI_lt0, nI_ge0, ne_eq, not_true_eq_false, not_false_eq_true, bI_eq0, bI_ne0, bI_T, bI_F, Bool.false_eq_true, Nat.one_ne_zero, Nat.zero_ne_one, Nat.zero_add, nI_m1, nm_lt, nm_ge, nI_1ne, nI_0eq, kf, kg, kW, e, cm, h31]
      refine k_fpE hI hK.1 (hWq _ wf) (hWq _ wg) wf wg (by omega) (by omega) (fun C V hF => ?_)
      rw [← hq 6 (by omega)]
      have hKC := hF.ck hK
      have o6 := om 6
      cases c6 : hwq s.1 s.2 (lw s.1 f) (lw s.1 g) 6 with
      | some y =>
        rw [c6] at o6
        have kp := keep C V 1 hKC hF.fq (by rw [if_pos (by simp [dlq, c6])])
        simp (disch := omega) only [i_X7_areLinesRhyming_77, i_X7_areLinesRhyming_78, i_X7_areLinesRhyming_81, i_X7_areLinesRhyming_82, i_X7_areLinesRhyming_85, i_X7_areLinesRhyming_86, i_X7_areLinesRhyming_88, i_X7_areLinesRhyming_90, i_X7_areLinesRhyming_127, i_X7_areLinesRhyming_129, gh_o3, gh_o10, gh_o24, gh_r25, gh_r26, gh_r30, gh_r31, gh_w30, gh_w31, gf_24_0, gf_24_1, gf_24_2, gf_24_3, gf_24_4, gf_24_5, gf_3_0, gf_3_1, gf_3_2, gf_3_3, gf_3_4, gf_3_6, gf_3_7, gf_3_8, gh_o6, lnF_0, lnF_1, z_o_i, z_ai_i, z_si_i, z_ab_b, z_ab_z, z_sb_b, z_sb_z, z_al_i, z_al_b, z_pu_s, z_pu_n, nI_toN, z_inN, true_and, and_true, nI_add, pk_mul, vu_eq, vu_ne, nI_leI, nI_ltI, nI_eqI, nI_eq0, nI_le0, ↓ok_0, ↓ok_1, ↓bI_ok, if_true, if_false, nI_lt0, nI_ge0, ne_eq, not_true_eq_false, not_false_eq_true, bI_eq0, bI_ne0, bI_T, bI_F, Bool.false_eq_true, Nat.one_ne_zero, Nat.zero_ne_one, Nat.zero_add, nI_m1, nm_lt, nm_ge, nI_1ne, nI_0eq, o6, reduceCtorEq]
        exact kp
      | none =>
        rw [c6] at o6
        have r1 : C 24 1 = nI (s.1 32 19) := hKC.1.2.1.2.1
        by_cases z : s.1 32 19 = 1
        · simp (disch := omega) only [i_X7_areLinesRhyming_77, i_X7_areLinesRhyming_78, i_X7_areLinesRhyming_81, i_X7_areLinesRhyming_82, i_X7_areLinesRhyming_85, i_X7_areLinesRhyming_86, i_X7_areLinesRhyming_88, i_X7_areLinesRhyming_90, i_X7_areLinesRhyming_93, i_X7_areLinesRhyming_93n, i_X7_areLinesRhyming_94, i_X7_areLinesRhyming_97, i_X7_areLinesRhyming_100, i_X7_areLinesRhyming_101, i_X7_areLinesRhyming_104, i_X7_areLinesRhyming_104n, i_X7_areLinesRhyming_105, i_X7_areLinesRhyming_108, i_X7_areLinesRhyming_108n, i_X7_areLinesRhyming_110, i_X7_areLinesRhyming_110n, i_X7_areLinesRhyming_112, i_X7_areLinesRhyming_113, gh_o3, gh_o10, gh_o24, gh_r25, gh_r26, gh_r30, gh_r31, gh_w30, gh_w31, gf_24_0, gf_24_1, gf_24_2, gf_24_3, gf_24_4, gf_24_5, gf_3_0, gf_3_1, gf_3_2, gf_3_3, gf_3_4, gf_3_6, gf_3_7, gf_3_8, gh_o6, lnF_0, lnF_1, z_o_i, z_ai_i, z_si_i, z_ab_b, z_ab_z, z_sb_b, z_sb_z, z_al_i, z_al_b, z_pu_s, z_pu_n, nI_toN, z_inN, true_and, and_true, nI_add, pk_mul, vu_eq, vu_ne, nI_leI, nI_ltI, nI_eqI, nI_eq0, nI_le0, ↓ok_0, ↓ok_1, ↓bI_ok, if_true, if_false, nI_lt0, nI_ge0, ne_eq, not_true_eq_false, not_false_eq_true, bI_eq0, bI_ne0, bI_T, bI_F, Bool.false_eq_true, Nat.one_ne_zero, Nat.zero_ne_one, Nat.zero_add, nI_m1, nm_lt, nm_ge, nI_1ne, nI_0eq, o6, r1, z]
          refine k_fpE hI hKC.1 (hWq _ wf) (hWq _ wg) wf wg (by omega) (by omega) (fun D T hG => ?_)
          rw [← hq 2 (by omega)]
          have hKD := hG.ck hKC
          have o2 := om 2
          cases c2 : hwq s.1 s.2 (lw s.1 f) (lw s.1 g) 2 with
          | some y =>
            rw [c2] at o2
            have kp := keep D T 1 hKD (hF.fq.trans hG.fq) (by rw [if_pos (by simp [dlq, c2, z])])
            simp (disch := omega) only [i_X7_areLinesRhyming_116, i_X7_areLinesRhyming_117, i_X7_areLinesRhyming_120, i_X7_areLinesRhyming_121, i_X7_areLinesRhyming_124, i_X7_areLinesRhyming_125, i_X7_areLinesRhyming_127, i_X7_areLinesRhyming_129, gh_o3, gh_o10, gh_o24, gh_r25, gh_r26, gh_r30, gh_r31, gh_w30, gh_w31, gf_24_0, gf_24_1, gf_24_2, gf_24_3, gf_24_4, gf_24_5, gf_3_0, gf_3_1, gf_3_2, gf_3_3, gf_3_4, gf_3_6, gf_3_7, gf_3_8, gh_o6, lnF_0, lnF_1, z_o_i, z_ai_i, z_si_i, z_ab_b, z_ab_z, z_sb_b, z_sb_z, z_al_i, z_al_b, z_pu_s, z_pu_n, nI_toN, z_inN, true_and, and_true, nI_add, pk_mul, vu_eq, vu_ne, nI_leI, nI_ltI, nI_eqI, nI_eq0, nI_le0, ↓ok_0, ↓ok_1, ↓bI_ok, if_true, if_false, nI_lt0, nI_ge0, ne_eq, not_true_eq_false, not_false_eq_true, bI_eq0, bI_ne0, bI_T, bI_F, Bool.false_eq_true, Nat.one_ne_zero, Nat.zero_ne_one, Nat.zero_add, nI_m1, nm_lt, nm_ge, nI_1ne, nI_0eq, o2, reduceCtorEq]
            exact kp
          | none =>
            rw [c2] at o2
            have r2 : D 24 1 = nI (s.1 32 19) := hKD.1.2.1.2.1
            simp (disch := omega) only [i_X7_areLinesRhyming_116, i_X7_areLinesRhyming_117, i_X7_areLinesRhyming_120, i_X7_areLinesRhyming_121, i_X7_areLinesRhyming_124, i_X7_areLinesRhyming_125, i_X7_areLinesRhyming_127, i_X7_areLinesRhyming_129, i_X7_areLinesRhyming_132, i_X7_areLinesRhyming_132n, i_X7_areLinesRhyming_133, i_X7_areLinesRhyming_136, i_X7_areLinesRhyming_139, i_X7_areLinesRhyming_140, i_X7_areLinesRhyming_143, i_X7_areLinesRhyming_143n, i_X7_areLinesRhyming_144, i_X7_areLinesRhyming_147, i_X7_areLinesRhyming_147n, i_X7_areLinesRhyming_149, i_X7_areLinesRhyming_149n, i_X7_areLinesRhyming_151, i_X7_areLinesRhyming_152, gh_o3, gh_o10, gh_o24, gh_r25, gh_r26, gh_r30, gh_r31, gh_w30, gh_w31, gf_24_0, gf_24_1, gf_24_2, gf_24_3, gf_24_4, gf_24_5, gf_3_0, gf_3_1, gf_3_2, gf_3_3, gf_3_4, gf_3_6, gf_3_7, gf_3_8, gh_o6, lnF_0, lnF_1, z_o_i, z_ai_i, z_si_i, z_ab_b, z_ab_z, z_sb_b, z_sb_z, z_al_i, z_al_b, z_pu_s, z_pu_n, nI_toN, z_inN, true_and, and_true, nI_add, pk_mul, vu_eq, vu_ne, nI_leI, nI_ltI, nI_eqI, nI_eq0, nI_le0, ↓ok_0, ↓ok_1, ↓bI_ok, if_true, if_false, nI_lt0, nI_ge0, ne_eq, not_true_eq_false, not_false_eq_true, bI_eq0, bI_ne0, bI_T, bI_F, Bool.false_eq_true, Nat.one_ne_zero, Nat.zero_ne_one, Nat.zero_add, nI_m1, nm_lt, nm_ge, nI_1ne, nI_0eq, o2, r2, z]
            refine k_fpE hI hKD.1 (hWq _ wf) (hWq _ wg) wf wg (by omega) (by omega) (fun G W hH => ?_)
            rw [← hq 4 (by omega)]
            have hKG := hH.ck hKD
            have o4 := om 4
            cases c4 : hwq s.1 s.2 (lw s.1 f) (lw s.1 g) 4 with
            | some y =>
              rw [c4] at o4
              have kp := keep G W 1 hKG ((hF.fq.trans hG.fq).trans hH.fq) (by rw [if_pos (by simp [dlq, c4, z])])
              simp (disch := omega) only [i_X7_areLinesRhyming_155, i_X7_areLinesRhyming_156, i_X7_areLinesRhyming_159, i_X7_areLinesRhyming_160, i_X7_areLinesRhyming_163, i_X7_areLinesRhyming_164, gh_o3, gh_o10, gh_o24, gh_r25, gh_r26, gh_r30, gh_r31, gh_w30, gh_w31, gf_24_0, gf_24_1, gf_24_2, gf_24_3, gf_24_4, gf_24_5, gf_3_0, gf_3_1, gf_3_2, gf_3_3, gf_3_4, gf_3_6, gf_3_7, gf_3_8, gh_o6, lnF_0, lnF_1, z_o_i, z_ai_i, z_si_i, z_ab_b, z_ab_z, z_sb_b, z_sb_z, z_al_i, z_al_b, z_pu_s, z_pu_n, nI_toN, z_inN, true_and, and_true, nI_add, pk_mul, vu_eq, vu_ne, nI_leI, nI_ltI, nI_eqI, nI_eq0, nI_le0, ↓ok_0, ↓ok_1, ↓bI_ok, if_true, if_false, nI_lt0, nI_ge0, ne_eq, not_true_eq_false, not_false_eq_true, bI_eq0, bI_ne0, bI_T, bI_F, Bool.false_eq_true, Nat.one_ne_zero, Nat.zero_ne_one, Nat.zero_add, nI_m1, nm_lt, nm_ge, nI_1ne, nI_0eq, o4, reduceCtorEq]
              exact kp
            | none =>
              rw [c4] at o4
              have kp := keep G W 0 hKG ((hF.fq.trans hG.fq).trans hH.fq) (by rw [if_neg (by simp [dlq, c6, c2, c4])])
              simp (disch := omega) only [i_X7_areLinesRhyming_155, i_X7_areLinesRhyming_156, i_X7_areLinesRhyming_159, i_X7_areLinesRhyming_160, i_X7_areLinesRhyming_163, i_X7_areLinesRhyming_164, gh_o3, gh_o10, gh_o24, gh_r25, gh_r26, gh_r30, gh_r31, gh_w30, gh_w31, gf_24_0, gf_24_1, gf_24_2, gf_24_3, gf_24_4, gf_24_5, gf_3_0, gf_3_1, gf_3_2, gf_3_3, gf_3_4, gf_3_6, gf_3_7, gf_3_8, gh_o6, lnF_0, lnF_1, z_o_i, z_ai_i, z_si_i, z_ab_b, z_ab_z, z_sb_b, z_sb_z, z_al_i, z_al_b, z_pu_s, z_pu_n, nI_toN, z_inN, true_and, and_true, nI_add, pk_mul, vu_eq, vu_ne, nI_leI, nI_ltI, nI_eqI, nI_eq0, nI_le0, ↓ok_0, ↓ok_1, ↓bI_ok, if_true, if_false, nI_lt0, nI_ge0, ne_eq, not_true_eq_false, not_false_eq_true, bI_eq0, bI_ne0, bI_T, bI_F, Bool.false_eq_true, Nat.one_ne_zero, Nat.zero_ne_one, Nat.zero_add, nI_m1, nm_lt, nm_ge, nI_1ne, nI_0eq, o4]
              exact kp
        · have kp := keep C V 0 hKC hF.fq (by rw [if_neg (by simp [dlq, c6, z])])
          simp (disch := omega) only [i_X7_areLinesRhyming_77, i_X7_areLinesRhyming_78, i_X7_areLinesRhyming_81, i_X7_areLinesRhyming_82, i_X7_areLinesRhyming_85, i_X7_areLinesRhyming_86, i_X7_areLinesRhyming_88, i_X7_areLinesRhyming_90, i_X7_areLinesRhyming_93, i_X7_areLinesRhyming_93n, i_X7_areLinesRhyming_94, i_X7_areLinesRhyming_97, i_X7_areLinesRhyming_100, i_X7_areLinesRhyming_101, i_X7_areLinesRhyming_127, i_X7_areLinesRhyming_129, i_X7_areLinesRhyming_132, i_X7_areLinesRhyming_132n, i_X7_areLinesRhyming_133, i_X7_areLinesRhyming_136, i_X7_areLinesRhyming_139, i_X7_areLinesRhyming_140, gh_o3, gh_o10, gh_o24, gh_r25, gh_r26, gh_r30, gh_r31, gh_w30, gh_w31, gf_24_0, gf_24_1, gf_24_2, gf_24_3, gf_24_4, gf_24_5, gf_3_0, gf_3_1, gf_3_2, gf_3_3, gf_3_4, gf_3_6, gf_3_7, gf_3_8, gh_o6, lnF_0, lnF_1, z_o_i, z_ai_i, z_si_i, z_ab_b, z_ab_z, z_sb_b, z_sb_z, z_al_i, z_al_b, z_pu_s, z_pu_n, nI_toN, z_inN, true_and, and_true, nI_add, pk_mul, vu_eq, vu_ne, nI_leI, nI_ltI, nI_eqI, nI_eq0, nI_le0, ↓ok_0, ↓ok_1, ↓bI_ok, if_true, if_false, nI_lt0, nI_ge0, ne_eq, not_true_eq_false, not_false_eq_true, bI_eq0, bI_ne0, bI_T, bI_F, Bool.false_eq_true, Nat.one_ne_zero, Nat.zero_ne_one, Nat.zero_add, nI_m1, nm_lt, nm_ge, nI_1ne, nI_0eq, o6, r1, z]
          exact kp
    · have fn := fin A P none hK Fq.refl h31
      by_cases o : dlq s.1 s.2 f g = true
      · rw [if_pos o] at h31
        simp (disch := omega) only [i_X7_areLinesRhyming_0, i_X7_areLinesRhyming_0n, i_X7_areLinesRhyming_1, i_X7_areLinesRhyming_2, i_X7_areLinesRhyming_5, i_X7_areLinesRhyming_6, i_X7_areLinesRhyming_6n, i_X7_areLinesRhyming_7, i_X7_areLinesRhyming_8, i_X7_areLinesRhyming_11, i_X7_areLinesRhyming_13, i_X7_areLinesRhyming_13n, i_X7_areLinesRhyming_14, i_X7_areLinesRhyming_15, i_X7_areLinesRhyming_18, i_X7_areLinesRhyming_18n, i_X7_areLinesRhyming_20, i_X7_areLinesRhyming_20n, i_X7_areLinesRhyming_21, i_X7_areLinesRhyming_23, i_X7_areLinesRhyming_26, i_X7_areLinesRhyming_26n, i_X7_areLinesRhyming_28, i_X7_areLinesRhyming_29, i_X7_areLinesRhyming_31, i_X7_areLinesRhyming_34, i_X7_areLinesRhyming_34n, i_X7_areLinesRhyming_36, i_X7_areLinesRhyming_36n, i_X7_areLinesRhyming_39, i_X7_areLinesRhyming_39n, i_X7_areLinesRhyming_41, i_X7_areLinesRhyming_41n, i_X7_areLinesRhyming_46, i_X7_areLinesRhyming_47, i_X7_areLinesRhyming_49, i_X7_areLinesRhyming_50, i_X7_areLinesRhyming_51, i_X7_areLinesRhyming_52, i_X7_areLinesRhyming_54, i_X7_areLinesRhyming_54n, i_X7_areLinesRhyming_55, i_X7_areLinesRhyming_58, i_X7_areLinesRhyming_60, i_X7_areLinesRhyming_61, gh_o3, gh_o10, gh_o24, gh_r25, gh_r26, gh_r30, gh_r31, gh_w30, gh_w31, gf_24_0, gf_24_1, gf_24_2, gf_24_3, gf_24_4, gf_24_5, gf_3_0, gf_3_1, gf_3_2, gf_3_3, gf_3_4, gf_3_6, gf_3_7, gf_3_8, gh_o6, lnF_0, lnF_1, z_o_i, z_ai_i, z_si_i, z_ab_b, z_ab_z, z_sb_b, z_sb_z, z_al_i, z_al_b, z_pu_s, z_pu_n, nI_toN, z_inN, true_and, and_true, nI_add, pk_mul, vu_eq, vu_ne, nI_leI, nI_ltI, nI_eqI, nI_eq0, nI_le0, ↓ok_0, ↓ok_1, ↓bI_ok, if_true, if_false, nI_lt0, nI_ge0, ne_eq, not_true_eq_false, not_false_eq_true, bI_eq0, bI_ne0, bI_T, bI_F, Bool.false_eq_true, Nat.one_ne_zero, Nat.zero_ne_one, Nat.zero_add, nI_m1, nm_lt, nm_ge, nI_1ne, nI_0eq, kf, kg, kW, e, cm, h31]
        exact fn
      · rw [if_neg o] at h31
        simp (disch := omega) only [i_X7_areLinesRhyming_0, i_X7_areLinesRhyming_0n, i_X7_areLinesRhyming_1, i_X7_areLinesRhyming_2, i_X7_areLinesRhyming_5, i_X7_areLinesRhyming_6, i_X7_areLinesRhyming_6n, i_X7_areLinesRhyming_7, i_X7_areLinesRhyming_8, i_X7_areLinesRhyming_11, i_X7_areLinesRhyming_13, i_X7_areLinesRhyming_13n, i_X7_areLinesRhyming_14, i_X7_areLinesRhyming_15, i_X7_areLinesRhyming_18, i_X7_areLinesRhyming_18n, i_X7_areLinesRhyming_20, i_X7_areLinesRhyming_20n, i_X7_areLinesRhyming_21, i_X7_areLinesRhyming_23, i_X7_areLinesRhyming_26, i_X7_areLinesRhyming_26n, i_X7_areLinesRhyming_28, i_X7_areLinesRhyming_29, i_X7_areLinesRhyming_31, i_X7_areLinesRhyming_34, i_X7_areLinesRhyming_34n, i_X7_areLinesRhyming_36, i_X7_areLinesRhyming_36n, i_X7_areLinesRhyming_39, i_X7_areLinesRhyming_39n, i_X7_areLinesRhyming_41, i_X7_areLinesRhyming_41n, i_X7_areLinesRhyming_46, i_X7_areLinesRhyming_47, i_X7_areLinesRhyming_49, i_X7_areLinesRhyming_50, i_X7_areLinesRhyming_51, i_X7_areLinesRhyming_52, i_X7_areLinesRhyming_54, i_X7_areLinesRhyming_54n, i_X7_areLinesRhyming_55, i_X7_areLinesRhyming_58, i_X7_areLinesRhyming_60, i_X7_areLinesRhyming_61, gh_o3, gh_o10, gh_o24, gh_r25, gh_r26, gh_r30, gh_r31, gh_w30, gh_w31, gf_24_0, gf_24_1, gf_24_2, gf_24_3, gf_24_4, gf_24_5, gf_3_0, gf_3_1, gf_3_2, gf_3_3, gf_3_4, gf_3_6, gf_3_7, gf_3_8, gh_o6, lnF_0, lnF_1, z_o_i, z_ai_i, z_si_i, z_ab_b, z_ab_z, z_sb_b, z_sb_z, z_al_i, z_al_b, z_pu_s, z_pu_n, nI_toN, z_inN, true_and, and_true, nI_add, pk_mul, vu_eq, vu_ne, nI_leI, nI_ltI, nI_eqI, nI_eq0, nI_le0, ↓ok_0, ↓ok_1, ↓bI_ok, if_true, if_false, nI_lt0, nI_ge0, ne_eq, not_true_eq_false, not_false_eq_true, bI_eq0, bI_ne0, bI_T, bI_F, Bool.false_eq_true, Nat.one_ne_zero, Nat.zero_ne_one, Nat.zero_add, nI_m1, nm_lt, nm_ge, nI_1ne, nI_0eq, kf, kg, kW, e, cm, h31, e20]
        exact fn
/-- the row that is asked -/
def Rw (s : z_S) (A : Nat → Nat → Int32) (S : Nat → Nat) (r i : Nat) : Prop := (r = 27 ∨ r = 28) ∧ (∀ k, k ≤ i → A r k = nI (S k) - nI 1 ∧ S k ≤ s.1 32 13) ∧ ∀ k, k < i → 1 ≤ S k
theorem gh_rw {r : Nat} (h : r = 27 ∨ r = 28) : GH A P dy r = .inl (0, 14, A r) := by rcases h with rfl | rfl <;> rfl
theorem l_other {S : Nat → Nat} {r i : Nat} (hI : Iv s) (hC : Rc s A P) (hR : Rw s A S r i) (hi : i < 14) (h1 : 1 ≤ S i) (hQ : Q (some (.int (match nrF (va_up s.1 46 S) i i with | none => -1 | some k => nI (S k - 1)))) (GH A P dy) nx) : ∀ (k : Nat), k ≤ i → nrF (va_up s.1 46 S) i i = nrF (va_up s.1 46 S) i k → X d m_X7_otherLineAhead 4 [some (.ref 3), some (.ref r), some (.int (nI i)), some (.int (nI k - nI 1))] [] (GH A P dy) nx bc bs Q := by
  obtain ⟨hr, hS, hz⟩ := hR
  have gr : GH A P dy r = .inl (0, 14, A r) := gh_rw hr
  have sc := hI.sc
  intro k
  induction k with
  | zero =>
    intro _ e
    rw [e] at hQ
    have m0 : (nI 0 - nI 1 : Int32) = -1 := by decide
    rw [m0]
    simp (disch := omega) only [i_X7_otherLineAhead_4, i_X7_otherLineAhead_5, i_X7_otherLineAhead_48, i_X7_otherLineAhead_49, gh_o3, gh_o10, gh_o24, gh_r25, gh_r26, gh_r30, gh_r31, gh_w30, gh_w31, gf_24_0, gf_24_1, gf_24_2, gf_24_3, gf_24_4, gf_24_5, gf_3_0, gf_3_1, gf_3_2, gf_3_3, gf_3_4, gf_3_6, gf_3_7, gf_3_8, gh_o6, lnF_0, lnF_1, z_o_i, z_ai_i, z_si_i, z_ab_b, z_ab_z, z_sb_b, z_sb_z, z_al_i, z_al_b, z_pu_s, z_pu_n, nI_toN, z_inN, true_and, and_true, nI_add, pk_mul, vu_eq, vu_ne, nI_leI, nI_ltI, nI_eqI, nI_eq0, nI_le0, ↓ok_0, ↓ok_1, ↓bI_ok, if_true, if_false, nI_lt0, nI_ge0, ne_eq, not_true_eq_false, not_false_eq_true, bI_eq0, bI_ne0, bI_T, bI_F, Bool.false_eq_true, Nat.one_ne_zero, Nat.zero_ne_one, Nat.zero_add, nI_m1, nm_lt, nm_ge, nI_1ne, nI_0eq]
    exact hQ
  | succ k ih =>
    intro hk e
    have m1 : (nI (k + 1) - nI 1 : Int32) = nI k := by rw [pk_sub (by omega)]; rfl
    have m2 : (nI k + (-1) : Int32) = nI k - nI 1 := by rw [Int32.sub_eq_add_neg]; rfl
    rw [nrF] at e
    have a1 := hI.b44 k
    have a2 := hI.b44 i
    have r1 := hC.2.1.2.2.1 k (by omega)
    have r2 := hC.2.1.2.2.1 i (by omega)
    have zk := hz k (by omega)
    have s1 : A r k = nI (S k - 1) := by rw [(hS k (by omega)).1, pk_sub zk]
    have s2 : A r i = nI (S i - 1) := by rw [(hS i (Nat.le_refl _)).1, pk_sub h1]
    have b1 := (hS k (by omega)).2
    have b2 := (hS i (Nat.le_refl _)).2
    have ea : ∀ j, va_up s.1 46 S 44 j = s.1 44 j := fun _ => rfl
    have es : ∀ j, va_up s.1 46 S 46 j = S j := fun _ => rfl
    simp only [ea, es] at e
    rw [m1, i_X7_otherLineAhead_4]
    by_cases c1 : s.1 44 k = s.1 44 i
    · by_cases c2 : S k = S i
      · rw [if_neg (fun z => z.2 c2)] at e
        have c2' : S k - 1 = S i - 1 := by omega
        simp (disch := omega) only [i_X7_otherLineAhead_5, i_X7_otherLineAhead_8, i_X7_otherLineAhead_9, i_X7_otherLineAhead_12, i_X7_otherLineAhead_15, i_X7_otherLineAhead_16, i_X7_otherLineAhead_17, i_X7_otherLineAhead_18, i_X7_otherLineAhead_21, i_X7_otherLineAhead_24, i_X7_otherLineAhead_25, i_X7_otherLineAhead_26, i_X7_otherLineAhead_29, i_X7_otherLineAhead_30, i_X7_otherLineAhead_31, i_X7_otherLineAhead_32, i_X7_otherLineAhead_33, i_X7_otherLineAhead_34, i_X7_otherLineAhead_35, i_X7_otherLineAhead_42, i_X7_otherLineAhead_45, gh_o3, gh_o10, gh_o24, gh_r25, gh_r26, gh_r30, gh_r31, gh_w30, gh_w31, gf_24_0, gf_24_1, gf_24_2, gf_24_3, gf_24_4, gf_24_5, gf_3_0, gf_3_1, gf_3_2, gf_3_3, gf_3_4, gf_3_6, gf_3_7, gf_3_8, gh_o6, lnF_0, lnF_1, z_o_i, z_ai_i, z_si_i, z_ab_b, z_ab_z, z_sb_b, z_sb_z, z_al_i, z_al_b, z_pu_s, z_pu_n, nI_toN, z_inN, true_and, and_true, nI_add, pk_mul, vu_eq, vu_ne, nI_leI, nI_ltI, nI_eqI, nI_eq0, nI_le0, ↓ok_0, ↓ok_1, ↓bI_ok, if_true, if_false, nI_lt0, nI_ge0, ne_eq, not_true_eq_false, not_false_eq_true, bI_eq0, bI_ne0, bI_T, bI_F, Bool.false_eq_true, Nat.one_ne_zero, Nat.zero_ne_one, Nat.zero_add, nI_m1, nm_lt, nm_ge, nI_1ne, nI_0eq, gr, r1, r2, s1, s2, c1, c2', m2]
        exact ih (by omega) e
      · rw [if_pos ⟨c1, c2⟩] at e
        rw [e] at hQ
        have c2' : ¬ S k - 1 = S i - 1 := by omega
        simp (disch := omega) only [i_X7_otherLineAhead_5, i_X7_otherLineAhead_8, i_X7_otherLineAhead_9, i_X7_otherLineAhead_12, i_X7_otherLineAhead_15, i_X7_otherLineAhead_16, i_X7_otherLineAhead_17, i_X7_otherLineAhead_18, i_X7_otherLineAhead_21, i_X7_otherLineAhead_24, i_X7_otherLineAhead_25, i_X7_otherLineAhead_26, i_X7_otherLineAhead_29, i_X7_otherLineAhead_30, i_X7_otherLineAhead_31, i_X7_otherLineAhead_32, i_X7_otherLineAhead_33, i_X7_otherLineAhead_34, i_X7_otherLineAhead_35, i_X7_otherLineAhead_38, i_X7_otherLineAhead_39, i_X7_otherLineAhead_40, i_X7_otherLineAhead_41, gh_o3, gh_o10, gh_o24, gh_r25, gh_r26, gh_r30, gh_r31, gh_w30, gh_w31, gf_24_0, gf_24_1, gf_24_2, gf_24_3, gf_24_4, gf_24_5, gf_3_0, gf_3_1, gf_3_2, gf_3_3, gf_3_4, gf_3_6, gf_3_7, gf_3_8, gh_o6, lnF_0, lnF_1, z_o_i, z_ai_i, z_si_i, z_ab_b, z_ab_z, z_sb_b, z_sb_z, z_al_i, z_al_b, z_pu_s, z_pu_n, nI_toN, z_inN, true_and, and_true, nI_add, pk_mul, vu_eq, vu_ne, nI_leI, nI_ltI, nI_eqI, nI_eq0, nI_le0, ↓ok_0, ↓ok_1, ↓bI_ok, if_true, if_false, nI_lt0, nI_ge0, ne_eq, not_true_eq_false, not_false_eq_true, bI_eq0, bI_ne0, bI_T, bI_F, Bool.false_eq_true, Nat.one_ne_zero, Nat.zero_ne_one, Nat.zero_add, nI_m1, nm_lt, nm_ge, nI_1ne, nI_0eq, gr, r1, r2, s1, s2, c1, c2']
        exact hQ
    · rw [if_neg (fun z => c1 z.1)] at e
      simp (disch := omega) only [i_X7_otherLineAhead_5, i_X7_otherLineAhead_8, i_X7_otherLineAhead_9, i_X7_otherLineAhead_12, i_X7_otherLineAhead_15, i_X7_otherLineAhead_16, i_X7_otherLineAhead_17, i_X7_otherLineAhead_18, i_X7_otherLineAhead_21, i_X7_otherLineAhead_24, i_X7_otherLineAhead_25, i_X7_otherLineAhead_26, i_X7_otherLineAhead_42, i_X7_otherLineAhead_45, gh_o3, gh_o10, gh_o24, gh_r25, gh_r26, gh_r30, gh_r31, gh_w30, gh_w31, gf_24_0, gf_24_1, gf_24_2, gf_24_3, gf_24_4, gf_24_5, gf_3_0, gf_3_1, gf_3_2, gf_3_3, gf_3_4, gf_3_6, gf_3_7, gf_3_8, gh_o6, lnF_0, lnF_1, z_o_i, z_ai_i, z_si_i, z_ab_b, z_ab_z, z_sb_b, z_sb_z, z_al_i, z_al_b, z_pu_s, z_pu_n, nI_toN, z_inN, true_and, and_true, nI_add, pk_mul, vu_eq, vu_ne, nI_leI, nI_ltI, nI_eqI, nI_eq0, nI_le0, ↓ok_0, ↓ok_1, ↓bI_ok, if_true, if_false, nI_lt0, nI_ge0, ne_eq, not_true_eq_false, not_false_eq_true, bI_eq0, bI_ne0, bI_T, bI_F, Bool.false_eq_true, Nat.one_ne_zero, Nat.zero_ne_one, Nat.zero_add, nI_m1, nm_lt, nm_ge, nI_1ne, nI_0eq, r1, r2, c1, m2]
      exact ih (by omega) e
theorem k_find {S : Nat → Nat} {r i u : Nat} (hI : Iv s) (hK : Ck s A P dy nz wd ln) (hR : Rw s A S r i) (hi : i < s.1 32 16) (hU : Ub S i u) (hQ : ∀ C V, Ck s C V dy nz wd ln → Fq A C → Q (some (.int (nI (fat (va_up s.1 46 S) s.2 (okl s.1) i)))) (GH C V dy) nx) : XC (d + 6) m_X7_findingAt [.ref 3, .ref r, .int (nI i), .int (nI u)] (GH A P dy) nx Q := by
  show X (d + 6) m_X7_findingAt 0 [some (.ref 3), some (.ref r), some (.int (nI i)), some (.int (nI u)), none, none, none] [] (GH A P dy) nx 0 0 Q
  have hR' := hR
  obtain ⟨hr, hS, hz⟩ := hR
  have gr : ∀ {A : Nat → Nat → Int32} {P : Nat → Nat → Nat}, GH A P dy r = .inl (0, 14, A r) := gh_rw hr
  have sc := hI.sc
  have ri := (hS i (Nat.le_refl _)).1
  have li := (hS i (Nat.le_refl _)).2
  have r26 := hK.1.2.1.2.2.2.1 i (by omega)
  have b45 := hI.b45 i
  have g45 := hI.2.2.2.1 i hi
  have m0 : (nI 0 - nI 1 : Int32) = -1 := by decide
  have me : ((-1 : Int32) = -1) = True := by simp
  have e45 : va_up s.1 46 S 45 = s.1 45 := rfl
  have e46 : va_up s.1 46 S 46 = S := rfl
  have ed : ∀ f g, dlq (va_up s.1 46 S) s.2 f g = dlq s.1 s.2 f g := fun _ _ => rfl
  unfold fat at hQ
  rw [e45, e46] at hQ
  simp only [ed] at hQ
  by_cases z : S i = 0
  · have q := hQ A P hK Fq.refl
    rw [if_pos z] at q
    rw [z, m0] at ri
    simp (disch := omega) only [i_X7_findingAt_0, i_X7_findingAt_1, i_X7_findingAt_2, i_X7_findingAt_3, i_X7_findingAt_5, i_X7_findingAt_7, i_X7_findingAt_8, i_X7_findingAt_11, i_X7_findingAt_12, gh_o3, gh_o10, gh_o24, gh_r25, gh_r26, gh_r30, gh_r31, gh_w30, gh_w31, gf_24_0, gf_24_1, gf_24_2, gf_24_3, gf_24_4, gf_24_5, gf_3_0, gf_3_1, gf_3_2, gf_3_3, gf_3_4, gf_3_6, gf_3_7, gf_3_8, gh_o6, lnF_0, lnF_1, z_o_i, z_ai_i, z_si_i, z_ab_b, z_ab_z, z_sb_b, z_sb_z, z_al_i, z_al_b, z_pu_s, z_pu_n, nI_toN, z_inN, true_and, and_true, nI_add, pk_mul, vu_eq, vu_ne, nI_leI, nI_ltI, nI_eqI, nI_eq0, nI_le0, ↓ok_0, ↓ok_1, ↓bI_ok, if_true, if_false, nI_lt0, nI_ge0, ne_eq, not_true_eq_false, not_false_eq_true, bI_eq0, bI_ne0, bI_T, bI_F, Bool.false_eq_true, Nat.one_ne_zero, Nat.zero_ne_one, Nat.zero_add, nI_m1, nm_lt, nm_ge, nI_1ne, nI_0eq, gr, ri, me]
    exact q
  rw [if_neg z] at hQ
  rw [pk_sub (by omega)] at ri
  have lr : ∀ k, k < i → A r k = nI (S k - 1) := fun k hk => by rw [(hS k (by omega)).1, pk_sub (hz k hk)]
  -- behind the second question
  have tail3 : ∀ x5 : Option Value, ¬ (s.1 45 i = 0 ∧ an (fun k => decide (S k = S i)) i 0 = true) → ¬ (¬ s.1 45 i = 0 ∧ ¬ S (s.1 45 i - 1) = S i) → X (d + 6) m_X7_findingAt 58 [some (.ref 3), some (.ref r), some (.int (nI i)), some (.int (nI u)), some (.int (nI (S i - 1))), x5, none] [] (GH A P dy) nx 0 0 Q := by
    intro x5 n3 n2
    rw [if_neg n2, if_neg n3] at hQ
    rw [i_X7_findingAt_58, i_X7_findingAt_59, i_X7_findingAt_61, gh_o3, z_o_i]
    refine k_fits hI hK (by omega) (fun C V hC hF => ?_)
    by_cases o : okl s.1 (S i - 1) = true
    · rw [if_neg (by rw [o]; exact fun y => Bool.noConfusion y)] at hQ
      simp (disch := omega) only [i_X7_findingAt_64, i_X7_findingAt_69, i_X7_findingAt_70, i_X7_findingAt_71, i_X7_findingAt_72, gh_o3, gh_o10, gh_o24, gh_r25, gh_r26, gh_r30, gh_r31, gh_w30, gh_w31, gf_24_0, gf_24_1, gf_24_2, gf_24_3, gf_24_4, gf_24_5, gf_3_0, gf_3_1, gf_3_2, gf_3_3, gf_3_4, gf_3_6, gf_3_7, gf_3_8, gh_o6, lnF_0, lnF_1, z_o_i, z_ai_i, z_si_i, z_ab_b, z_ab_z, z_sb_b, z_sb_z, z_al_i, z_al_b, z_pu_s, z_pu_n, nI_toN, z_inN, true_and, and_true, nI_add, pk_mul, vu_eq, vu_ne, nI_leI, nI_ltI, nI_eqI, nI_eq0, nI_le0, ↓ok_0, ↓ok_1, ↓bI_ok, if_true, if_false, nI_lt0, nI_ge0, ne_eq, not_true_eq_false, not_false_eq_true, bI_eq0, bI_ne0, bI_T, bI_F, Bool.false_eq_true, Nat.one_ne_zero, Nat.zero_ne_one, Nat.zero_add, nI_m1, nm_lt, nm_ge, nI_1ne, nI_0eq, o]
      show X (d + 5) m_X7_otherLineAhead 0 [some (.ref 3), some (.ref r), some (.int (nI i)), none] [] (GH C V dy) nx 0 0 _
      simp (disch := omega) only [i_X7_otherLineAhead_0, i_X7_otherLineAhead_1, i_X7_otherLineAhead_2, i_X7_otherLineAhead_3, gh_o3, gh_o10, gh_o24, gh_r25, gh_r26, gh_r30, gh_r31, gh_w30, gh_w31, gf_24_0, gf_24_1, gf_24_2, gf_24_3, gf_24_4, gf_24_5, gf_3_0, gf_3_1, gf_3_2, gf_3_3, gf_3_4, gf_3_6, gf_3_7, gf_3_8, gh_o6, lnF_0, lnF_1, z_o_i, z_ai_i, z_si_i, z_ab_b, z_ab_z, z_sb_b, z_sb_z, z_al_i, z_al_b, z_pu_s, z_pu_n, nI_toN, z_inN, true_and, and_true, nI_add, pk_mul, vu_eq, vu_ne, nI_leI, nI_ltI, nI_eqI, nI_eq0, nI_le0, ↓ok_0, ↓ok_1, ↓bI_ok, if_true, if_false, nI_lt0, nI_ge0, ne_eq, not_true_eq_false, not_false_eq_true, bI_eq0, bI_ne0, bI_T, bI_F, Bool.false_eq_true, Nat.one_ne_zero, Nat.zero_ne_one, Nat.zero_add, nI_m1, nm_lt, nm_ge, nI_1ne, nI_0eq]
      have cr : C r = A r := by
        rcases hr with rfl | rfl
        · exact hF.2.1
        · exact hF.2.2.1
      have hRC : Rw s C S r i := ⟨hr, by rw [cr]; exact hS, hz⟩
      refine l_other hI hC.1 hRC (by omega) (by omega) ?_ i (Nat.le_refl _) rfl
      cases en : nrF (va_up s.1 46 S) i i with
      | none =>
        have q := hQ C V hC hF
        rw [en] at q
        simp (disch := omega) only [i_X7_findingAt_75, i_X7_findingAt_77, i_X7_findingAt_79, i_X7_findingAt_80, i_X7_findingAt_94, i_X7_findingAt_95, i_X7_findingAt_99, gh_o3, gh_o10, gh_o24, gh_r25, gh_r26, gh_r30, gh_r31, gh_w30, gh_w31, gf_24_0, gf_24_1, gf_24_2, gf_24_3, gf_24_4, gf_24_5, gf_3_0, gf_3_1, gf_3_2, gf_3_3, gf_3_4, gf_3_6, gf_3_7, gf_3_8, gh_o6, lnF_0, lnF_1, z_o_i, z_ai_i, z_si_i, z_ab_b, z_ab_z, z_sb_b, z_sb_z, z_al_i, z_al_b, z_pu_s, z_pu_n, nI_toN, z_inN, true_and, and_true, nI_add, pk_mul, vu_eq, vu_ne, nI_leI, nI_ltI, nI_eqI, nI_eq0, nI_le0, ↓ok_0, ↓ok_1, ↓bI_ok, if_true, if_false, nI_lt0, nI_ge0, ne_eq, not_true_eq_false, not_false_eq_true, bI_eq0, bI_ne0, bI_T, bI_F, Bool.false_eq_true, Nat.one_ne_zero, Nat.zero_ne_one, Nat.zero_add, nI_m1, nm_lt, nm_ge, nI_1ne, nI_0eq, me]
        exact q
      | some k =>
        have lk := nrF_lt _ _ en
        have zk := hz k lk
        have bk := (hS k (by omega)).2
        simp (disch := omega) only [i_X7_findingAt_75, i_X7_findingAt_77, i_X7_findingAt_79, i_X7_findingAt_80, i_X7_findingAt_83, i_X7_findingAt_84, i_X7_findingAt_86, i_X7_findingAt_88, gh_o3, gh_o10, gh_o24, gh_r25, gh_r26, gh_r30, gh_r31, gh_w30, gh_w31, gf_24_0, gf_24_1, gf_24_2, gf_24_3, gf_24_4, gf_24_5, gf_3_0, gf_3_1, gf_3_2, gf_3_3, gf_3_4, gf_3_6, gf_3_7, gf_3_8, gh_o6, lnF_0, lnF_1, z_o_i, z_ai_i, z_si_i, z_ab_b, z_ab_z, z_sb_b, z_sb_z, z_al_i, z_al_b, z_pu_s, z_pu_n, nI_toN, z_inN, true_and, and_true, nI_add, pk_mul, vu_eq, vu_ne, nI_leI, nI_ltI, nI_eqI, nI_eq0, nI_le0, ↓ok_0, ↓ok_1, ↓bI_ok, if_true, if_false, nI_lt0, nI_ge0, ne_eq, not_true_eq_false, not_false_eq_true, bI_eq0, bI_ne0, bI_T, bI_F, Bool.false_eq_true, Nat.one_ne_zero, Nat.zero_ne_one, Nat.zero_add, nI_m1, nm_lt, nm_ge, nI_1ne, nI_0eq]
        refine k_lrh hI hC (by omega) (by omega) (fun D T hD hG => ?_)
        have q := hQ D T hD (hF.trans hG)
        simp only [en] at q
        by_cases c : dlq s.1 s.2 (S i - 1) (S k - 1) = true
        · rw [if_pos c] at q
          simp (disch := omega) only [i_X7_findingAt_91, i_X7_findingAt_94, i_X7_findingAt_95, i_X7_findingAt_98, i_X7_findingAt_99, gh_o3, gh_o10, gh_o24, gh_r25, gh_r26, gh_r30, gh_r31, gh_w30, gh_w31, gf_24_0, gf_24_1, gf_24_2, gf_24_3, gf_24_4, gf_24_5, gf_3_0, gf_3_1, gf_3_2, gf_3_3, gf_3_4, gf_3_6, gf_3_7, gf_3_8, gh_o6, lnF_0, lnF_1, z_o_i, z_ai_i, z_si_i, z_ab_b, z_ab_z, z_sb_b, z_sb_z, z_al_i, z_al_b, z_pu_s, z_pu_n, nI_toN, z_inN, true_and, and_true, nI_add, pk_mul, vu_eq, vu_ne, nI_leI, nI_ltI, nI_eqI, nI_eq0, nI_le0, ↓ok_0, ↓ok_1, ↓bI_ok, if_true, if_false, nI_lt0, nI_ge0, ne_eq, not_true_eq_false, not_false_eq_true, bI_eq0, bI_ne0, bI_T, bI_F, Bool.false_eq_true, Nat.one_ne_zero, Nat.zero_ne_one, Nat.zero_add, nI_m1, nm_lt, nm_ge, nI_1ne, nI_0eq, c]
          exact q
        · rw [if_neg c] at q
          simp (disch := omega) only [i_X7_findingAt_91, i_X7_findingAt_94, i_X7_findingAt_95, i_X7_findingAt_98, i_X7_findingAt_99, gh_o3, gh_o10, gh_o24, gh_r25, gh_r26, gh_r30, gh_r31, gh_w30, gh_w31, gf_24_0, gf_24_1, gf_24_2, gf_24_3, gf_24_4, gf_24_5, gf_3_0, gf_3_1, gf_3_2, gf_3_3, gf_3_4, gf_3_6, gf_3_7, gf_3_8, gh_o6, lnF_0, lnF_1, z_o_i, z_ai_i, z_si_i, z_ab_b, z_ab_z, z_sb_b, z_sb_z, z_al_i, z_al_b, z_pu_s, z_pu_n, nI_toN, z_inN, true_and, and_true, nI_add, pk_mul, vu_eq, vu_ne, nI_leI, nI_ltI, nI_eqI, nI_eq0, nI_le0, ↓ok_0, ↓ok_1, ↓bI_ok, if_true, if_false, nI_lt0, nI_ge0, ne_eq, not_true_eq_false, not_false_eq_true, bI_eq0, bI_ne0, bI_T, bI_F, Bool.false_eq_true, Nat.one_ne_zero, Nat.zero_ne_one, Nat.zero_add, nI_m1, nm_lt, nm_ge, nI_1ne, nI_0eq, c]
          exact q
    · have q := hQ C V hC hF
      rw [if_pos (by simpa using o)] at q
      simp (disch := omega) only [i_X7_findingAt_64, i_X7_findingAt_67, i_X7_findingAt_68, gh_o3, gh_o10, gh_o24, gh_r25, gh_r26, gh_r30, gh_r31, gh_w30, gh_w31, gf_24_0, gf_24_1, gf_24_2, gf_24_3, gf_24_4, gf_24_5, gf_3_0, gf_3_1, gf_3_2, gf_3_3, gf_3_4, gf_3_6, gf_3_7, gf_3_8, gh_o6, lnF_0, lnF_1, z_o_i, z_ai_i, z_si_i, z_ab_b, z_ab_z, z_sb_b, z_sb_z, z_al_i, z_al_b, z_pu_s, z_pu_n, nI_toN, z_inN, true_and, and_true, nI_add, pk_mul, vu_eq, vu_ne, nI_leI, nI_ltI, nI_eqI, nI_eq0, nI_le0, ↓ok_0, ↓ok_1, ↓bI_ok, if_true, if_false, nI_lt0, nI_ge0, ne_eq, not_true_eq_false, not_false_eq_true, bI_eq0, bI_ne0, bI_T, bI_F, Bool.false_eq_true, Nat.one_ne_zero, Nat.zero_ne_one, Nat.zero_add, nI_m1, nm_lt, nm_ge, nI_1ne, nI_0eq, o]
      exact q
  by_cases g0 : s.1 45 i = 0
  · have r26' : A 26 i = -1 := by rw [r26, g0]; rfl
    have n2 : ¬ (¬ s.1 45 i = 0 ∧ ¬ S (s.1 45 i - 1) = S i) := fun q => q.1 g0
    have bit := hU.2 (S i - 1) (by omega)
    have u1 := hU.1
    have ud : u / 2 ^ (S i - 1) < 2147483648 := Nat.lt_of_le_of_lt (Nat.div_le_self _ _) (by omega)
    have s1 := sh_r (u := u) (l := S i - 1) (by omega) (by omega)
    have s2 := an1 (k := u / 2 ^ (S i - 1)) ud
    have hb : (an (fun k => decide (S k = S i)) i 0 = true) = (u / 2 ^ (S i - 1) % 2 = 1) := by
      apply propext
      rw [bit, an_iff]
      constructor
      · rintro ⟨k, _, h2, h3⟩; exact ⟨k, by omega, by have : S k = S i := by simpa using h3
                                                      omega⟩
      · rintro ⟨k, h1, h2⟩; exact ⟨k, by omega, by omega, by simp; omega⟩
    by_cases c : u / 2 ^ (S i - 1) % 2 = 1
    · have q := hQ A P hK Fq.refl
      rw [if_neg n2, if_pos ⟨g0, by rw [hb]; exact c⟩] at q
      have c' : ¬ u / 2 ^ (S i - 1) % 2 = 0 := by omega
      simp (disch := omega) only [i_X7_findingAt_0, i_X7_findingAt_1, i_X7_findingAt_2, i_X7_findingAt_3, i_X7_findingAt_5, i_X7_findingAt_7, i_X7_findingAt_8, i_X7_findingAt_13, i_X7_findingAt_14, i_X7_findingAt_17, i_X7_findingAt_20, i_X7_findingAt_21, i_X7_findingAt_22, i_X7_findingAt_24, i_X7_findingAt_26, i_X7_findingAt_27, i_X7_findingAt_41, i_X7_findingAt_43, i_X7_findingAt_44, i_X7_findingAt_47, i_X7_findingAt_48, i_X7_findingAt_50, i_X7_findingAt_51, i_X7_findingAt_52, i_X7_findingAt_53, i_X7_findingAt_56, i_X7_findingAt_57, gh_o3, gh_o10, gh_o24, gh_r25, gh_r26, gh_r30, gh_r31, gh_w30, gh_w31, gf_24_0, gf_24_1, gf_24_2, gf_24_3, gf_24_4, gf_24_5, gf_3_0, gf_3_1, gf_3_2, gf_3_3, gf_3_4, gf_3_6, gf_3_7, gf_3_8, gh_o6, lnF_0, lnF_1, z_o_i, z_ai_i, z_si_i, z_ab_b, z_ab_z, z_sb_b, z_sb_z, z_al_i, z_al_b, z_pu_s, z_pu_n, nI_toN, z_inN, true_and, and_true, nI_add, pk_mul, vu_eq, vu_ne, nI_leI, nI_ltI, nI_eqI, nI_eq0, nI_le0, ↓ok_0, ↓ok_1, ↓bI_ok, if_true, if_false, nI_lt0, nI_ge0, ne_eq, not_true_eq_false, not_false_eq_true, bI_eq0, bI_ne0, bI_T, bI_F, Bool.false_eq_true, Nat.one_ne_zero, Nat.zero_ne_one, Nat.zero_add, nI_m1, nm_lt, nm_ge, nI_1ne, nI_0eq, gr, ri, r26', me, s1, s2, c']
      exact q
    · have c' : u / 2 ^ (S i - 1) % 2 = 0 := by omega
      have t := tail3 (some (.int (-1))) (fun q => c (by rw [← hb]; exact q.2)) n2
      simp (disch := omega) only [i_X7_findingAt_0, i_X7_findingAt_1, i_X7_findingAt_2, i_X7_findingAt_3, i_X7_findingAt_5, i_X7_findingAt_7, i_X7_findingAt_8, i_X7_findingAt_13, i_X7_findingAt_14, i_X7_findingAt_17, i_X7_findingAt_20, i_X7_findingAt_21, i_X7_findingAt_22, i_X7_findingAt_24, i_X7_findingAt_26, i_X7_findingAt_27, i_X7_findingAt_41, i_X7_findingAt_43, i_X7_findingAt_44, i_X7_findingAt_47, i_X7_findingAt_48, i_X7_findingAt_50, i_X7_findingAt_51, i_X7_findingAt_52, i_X7_findingAt_53, gh_o3, gh_o10, gh_o24, gh_r25, gh_r26, gh_r30, gh_r31, gh_w30, gh_w31, gf_24_0, gf_24_1, gf_24_2, gf_24_3, gf_24_4, gf_24_5, gf_3_0, gf_3_1, gf_3_2, gf_3_3, gf_3_4, gf_3_6, gf_3_7, gf_3_8, gh_o6, lnF_0, lnF_1, z_o_i, z_ai_i, z_si_i, z_ab_b, z_ab_z, z_sb_b, z_sb_z, z_al_i, z_al_b, z_pu_s, z_pu_n, nI_toN, z_inN, true_and, and_true, nI_add, pk_mul, vu_eq, vu_ne, nI_leI, nI_ltI, nI_eqI, nI_eq0, nI_le0, ↓ok_0, ↓ok_1, ↓bI_ok, if_true, if_false, nI_lt0, nI_ge0, ne_eq, not_true_eq_false, not_false_eq_true, bI_eq0, bI_ne0, bI_T, bI_F, Bool.false_eq_true, Nat.one_ne_zero, Nat.zero_ne_one, Nat.zero_add, nI_m1, nm_lt, nm_ge, nI_1ne, nI_0eq, gr, ri, r26', me, s1, s2, c']
      exact t
  · have r26' : A 26 i = nI (s.1 45 i - 1) := by rw [r26, pk_sub (by omega)]
    have ra := lr (s.1 45 i - 1) (by omega)
    have za := hz (s.1 45 i - 1) (by omega)
    have ba := (hS (s.1 45 i - 1) (by omega)).2
    by_cases c : S (s.1 45 i - 1) = S i
    · have c' : S (s.1 45 i - 1) - 1 = S i - 1 := by omega
      have t := tail3 (some (.int (nI (s.1 45 i - 1)))) (fun q => g0 q.1) (fun q => q.2 c)
      simp (disch := omega) only [i_X7_findingAt_0, i_X7_findingAt_1, i_X7_findingAt_2, i_X7_findingAt_3, i_X7_findingAt_5, i_X7_findingAt_7, i_X7_findingAt_8, i_X7_findingAt_13, i_X7_findingAt_14, i_X7_findingAt_17, i_X7_findingAt_20, i_X7_findingAt_21, i_X7_findingAt_22, i_X7_findingAt_24, i_X7_findingAt_26, i_X7_findingAt_27, i_X7_findingAt_30, i_X7_findingAt_31, i_X7_findingAt_33, i_X7_findingAt_34, i_X7_findingAt_36, i_X7_findingAt_39, i_X7_findingAt_40, i_X7_findingAt_41, i_X7_findingAt_43, i_X7_findingAt_44, gh_o3, gh_o10, gh_o24, gh_r25, gh_r26, gh_r30, gh_r31, gh_w30, gh_w31, gf_24_0, gf_24_1, gf_24_2, gf_24_3, gf_24_4, gf_24_5, gf_3_0, gf_3_1, gf_3_2, gf_3_3, gf_3_4, gf_3_6, gf_3_7, gf_3_8, gh_o6, lnF_0, lnF_1, z_o_i, z_ai_i, z_si_i, z_ab_b, z_ab_z, z_sb_b, z_sb_z, z_al_i, z_al_b, z_pu_s, z_pu_n, nI_toN, z_inN, true_and, and_true, nI_add, pk_mul, vu_eq, vu_ne, nI_leI, nI_ltI, nI_eqI, nI_eq0, nI_le0, ↓ok_0, ↓ok_1, ↓bI_ok, if_true, if_false, nI_lt0, nI_ge0, ne_eq, not_true_eq_false, not_false_eq_true, bI_eq0, bI_ne0, bI_T, bI_F, Bool.false_eq_true, Nat.one_ne_zero, Nat.zero_ne_one, Nat.zero_add, nI_m1, nm_lt, nm_ge, nI_1ne, nI_0eq, gr, ri, r26', ra, c']
      exact t
    · have c' : ¬ S (s.1 45 i - 1) - 1 = S i - 1 := by omega
      have q := hQ A P hK Fq.refl
      rw [if_pos ⟨g0, c⟩] at q
      simp (disch := omega) only [i_X7_findingAt_0, i_X7_findingAt_1, i_X7_findingAt_2, i_X7_findingAt_3, i_X7_findingAt_5, i_X7_findingAt_7, i_X7_findingAt_8, i_X7_findingAt_13, i_X7_findingAt_14, i_X7_findingAt_17, i_X7_findingAt_20, i_X7_findingAt_21, i_X7_findingAt_22, i_X7_findingAt_24, i_X7_findingAt_26, i_X7_findingAt_27, i_X7_findingAt_30, i_X7_findingAt_31, i_X7_findingAt_33, i_X7_findingAt_34, i_X7_findingAt_36, i_X7_findingAt_39, i_X7_findingAt_40, gh_o3, gh_o10, gh_o24, gh_r25, gh_r26, gh_r30, gh_r31, gh_w30, gh_w31, gf_24_0, gf_24_1, gf_24_2, gf_24_3, gf_24_4, gf_24_5, gf_3_0, gf_3_1, gf_3_2, gf_3_3, gf_3_4, gf_3_6, gf_3_7, gf_3_8, gh_o6, lnF_0, lnF_1, z_o_i, z_ai_i, z_si_i, z_ab_b, z_ab_z, z_sb_b, z_sb_z, z_al_i, z_al_b, z_pu_s, z_pu_n, nI_toN, z_inN, true_and, and_true, nI_add, pk_mul, vu_eq, vu_ne, nI_leI, nI_ltI, nI_eqI, nI_eq0, nI_le0, ↓ok_0, ↓ok_1, ↓bI_ok, if_true, if_false, nI_lt0, nI_ge0, ne_eq, not_true_eq_false, not_false_eq_true, bI_eq0, bI_ne0, bI_T, bI_F, Bool.false_eq_true, Nat.one_ne_zero, Nat.zero_ne_one, Nat.zero_add, nI_m1, nm_lt, nm_ge, nI_1ne, nI_0eq, gr, ri, r26', ra, c']
      exact q
end CChk
