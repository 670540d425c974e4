/-! THE CLASS: check, complete -/
theorem gl_keep {a : Nat → Nat → Nat} {L : Nat → Int32} {ok : Nat → Bool} {F : (Nat → Nat) → Nat → Nat × (Nat → Nat) × Nat} {i M : Nat} {S : Nat → Nat} (hF : ∀ S t k, M ≤ k → (F S t).2.1 k = S k) (hi : i < M) : ∀ (n l t k : Nat), M ≤ k → (gl a L ok F i S n l t).2.1 k = S k := by
  intro n
  induction n with
  | zero => intro l t k _; rfl
  | succ n ih =>
    intro l t k hk
    rw [gl]
    split
    · rfl
    · split
      · split
        · exact ih (l + 1) _ k hk
        · rw [hF _ _ k hk, vu_ne (by omega)]
      · exact ih (l + 1) _ k hk
theorem gq_keep {a : Nat → Nat → Nat} {L : Nat → Int32} {ok : Nat → Bool} : ∀ (m i : Nat) (S : Nat → Nat) (t k : Nat), i + m ≤ k → (gq a L ok m i S t).2.1 k = S k := by
  intro m
  induction m with
  | zero => intro i S t k _; rfl
  | succ m ih =>
    intro i S t k hk
    rw [gq]
    split
    · split
      · exact ih _ _ _ k (by omega)
      · rfl
    · split
      · split
        · rw [ih _ _ _ k (by omega), vu_ne (by omega)]
        · rfl
      · exact gl_keep (M := i + (m + 1)) (fun S t k h => ih (i + 1) S t k (by omega)) (by omega) _ _ _ k (by omega)
def rC (c : Nat) : Int32 := if c = 1 then nI 1 else if c = 2 then -6 else nI 0
section CFil
variable {s : z_S} {A : Nat → Nat → Int32} {P : Nat → Nat → Nat} {dy : z_H} {d nx nz bc bs : Nat} {Q : z_Q} {wd ln : Nat → Nat}
theorem k_forget (hC : Rc s A P) (hD : Rd s A P dy nz wd ln) (hQ : ∀ B, Ck s B P dy nz wd ln → Fq A B → Q none (GH B P dy) nx) : XC (d + 1) m_X7_forgetMemos [.ref 3] (GH A P dy) nx Q := by
  show X (d + 1) m_X7_forgetMemos 0 [some (.ref 3)] [] (GH A P dy) nx 0 0 Q
  simp (disch := omega) only [i_X7_forgetMemos_0, i_X7_forgetMemos_1, i_X7_forgetMemos_4, i_X7_forgetMemos_5, gh_o3, gh_o24, gh_r25, gh_r26, gh_r27, gh_r28, gh_w28, gh_w27, gh_r30, gh_r31, gh_w30, gh_w31, gh_u3, gp_3_8, gf_24_0, gf_24_1, gf_24_2, gf_24_3, gf_24_4, gf_24_5, gf_3_0, gf_3_1, gf_3_2, gf_3_3, gf_3_4, gf_3_6, gf_3_7, gf_3_8, z_o_i, z_ai_i, z_si_i, z_ab_b, z_ab_z, z_sb_b, z_sb_z, z_al_i, z_al_b, z_pu_s, z_pu_n, nI_toN, z_inN, true_and, and_true, nI_add, pk_mul, vu_eq, vu_ne, nI_leI, nI_ltI, nI_eqI, nI_eq0, nI_le0, ↓ok_0, ↓ok_1, ↓bI_ok, if_true, if_false, nI_lt0, nI_ge0, ne_eq, not_true_eq_false, not_false_eq_true, bI_eq0, bI_ne0, bI_T, bI_F, Bool.false_eq_true, Nat.one_ne_zero, Nat.zero_ne_one, Nat.zero_add, nI_m1, nm_lt, nm_ge, nI_1ne, nI_0eq, nI_or]
  refine c_fillI gh_r30 (by omega) ?_
  simp (disch := omega) only [i_X7_forgetMemos_8, i_X7_forgetMemos_9, i_X7_forgetMemos_12, i_X7_forgetMemos_13, gh_o3, gh_o24, gh_r25, gh_r26, gh_r27, gh_r28, gh_w28, gh_w27, gh_r30, gh_r31, gh_w30, gh_w31, gh_u3, gp_3_8, gf_24_0, gf_24_1, gf_24_2, gf_24_3, gf_24_4, gf_24_5, gf_3_0, gf_3_1, gf_3_2, gf_3_3, gf_3_4, gf_3_6, gf_3_7, gf_3_8, z_o_i, z_ai_i, z_si_i, z_ab_b, z_ab_z, z_sb_b, z_sb_z, z_al_i, z_al_b, z_pu_s, z_pu_n, nI_toN, z_inN, true_and, and_true, nI_add, pk_mul, vu_eq, vu_ne, nI_leI, nI_ltI, nI_eqI, nI_eq0, nI_le0, ↓ok_0, ↓ok_1, ↓bI_ok, if_true, if_false, nI_lt0, nI_ge0, ne_eq, not_true_eq_false, not_false_eq_true, bI_eq0, bI_ne0, bI_T, bI_F, Bool.false_eq_true, Nat.one_ne_zero, Nat.zero_ne_one, Nat.zero_add, nI_m1, nm_lt, nm_ge, nI_1ne, nI_0eq, nI_or]
  refine c_fillI gh_r31 (by omega) ?_
  simp (disch := omega) only [i_X7_forgetMemos_16, gh_o3, gh_o24, gh_r25, gh_r26, gh_r27, gh_r28, gh_w28, gh_w27, gh_r30, gh_r31, gh_w30, gh_w31, gh_u3, gp_3_8, gf_24_0, gf_24_1, gf_24_2, gf_24_3, gf_24_4, gf_24_5, gf_3_0, gf_3_1, gf_3_2, gf_3_3, gf_3_4, gf_3_6, gf_3_7, gf_3_8, z_o_i, z_ai_i, z_si_i, z_ab_b, z_ab_z, z_sb_b, z_sb_z, z_al_i, z_al_b, z_pu_s, z_pu_n, nI_toN, z_inN, true_and, and_true, nI_add, pk_mul, vu_eq, vu_ne, nI_leI, nI_ltI, nI_eqI, nI_eq0, nI_le0, ↓ok_0, ↓ok_1, ↓bI_ok, if_true, if_false, nI_lt0, nI_ge0, ne_eq, not_true_eq_false, not_false_eq_true, bI_eq0, bI_ne0, bI_T, bI_F, Bool.false_eq_true, Nat.one_ne_zero, Nat.zero_ne_one, Nat.zero_add, nI_m1, nm_lt, nm_ge, nI_1ne, nI_0eq, nI_or]
  refine hQ _ ⟨⟨hC.1, hC.2⟩, hD.of rfl rfl rfl rfl, fun l hl => Or.inl ?_, fun f g hf hg => Or.inl ?_⟩ (Fq.u30.trans Fq.u31)
  · show pt (A 30) (fun _ => nI 0) 0 16 l = nI 0
    rw [pt_in (by omega) (by omega)]
  · show pt (A 31) (fun _ => nI 0) 0 256 (16 * f + g) = nI 0
    rw [pt_in (by omega) (by omega)]
theorem l_chk {R : Nat} (hI : Iv s) (hA : Rc s A P) (hQ : ∀ B U, Ck s B U dy nz wd ln → Fz A B → Q (some (.int (nI R))) (GH B U dy) nx) : ∀ (m i u : Nat) (B : Nat → Nat → Int32) (U : Nat → Nat → Nat) (x3 : Option Value), i + m = s.1 32 16 → Ck s B U dy nz wd ln → Fq A B → Ub (s.1 46) i u → (∀ k, k < i → 1 ≤ s.1 46 k) → ckF s.1 s.2 (okl s.1) m i = R → X (d + 7) m_X7_check 8 [some (.ref 3), some (.int (nI u)), some (.int (nI i)), x3] [] (GH B U dy) nx bc bs Q := by
  have sc := hI.sc
  intro m
  induction m with
  | zero =>
    intro i u B U x3 hi hK hF hU hz hR
    have r0 := hK.1.2.1.1
    have le : s.1 32 16 ≤ i := by omega
    have q := hQ B U hK hF.2.2.2
    rw [← hR] at q
    simp (disch := omega) only [i_X7_check_8, i_X7_check_9, i_X7_check_10, i_X7_check_13, i_X7_check_16, i_X7_check_64, i_X7_check_65, gh_o3, gh_o24, gh_r25, gh_r26, gh_r27, gh_r28, gh_w28, gh_w27, gh_r30, gh_r31, gh_w30, gh_w31, gh_u3, gp_3_8, gf_24_0, gf_24_1, gf_24_2, gf_24_3, gf_24_4, gf_24_5, gf_3_0, gf_3_1, gf_3_2, gf_3_3, gf_3_4, gf_3_6, gf_3_7, gf_3_8, z_o_i, z_ai_i, z_si_i, z_ab_b, z_ab_z, z_sb_b, z_sb_z, z_al_i, z_al_b, z_pu_s, z_pu_n, nI_toN, z_inN, true_and, and_true, nI_add, pk_mul, vu_eq, vu_ne, nI_leI, nI_ltI, nI_eqI, nI_eq0, nI_le0, ↓ok_0, ↓ok_1, ↓bI_ok, if_true, if_false, nI_lt0, nI_ge0, ne_eq, not_true_eq_false, not_false_eq_true, bI_eq0, bI_ne0, bI_T, bI_F, Bool.false_eq_true, Nat.one_ne_zero, Nat.zero_ne_one, Nat.zero_add, nI_m1, nm_lt, nm_ge, nI_1ne, nI_0eq, nI_or, r0, le]
    exact q
  | succ m ih =>
    intro i u B U x3 hi hK hF hU hz hR
    have r0 := hK.1.2.1.1
    have le : ¬ s.1 32 16 ≤ i := by omega
    have hRw : Rw s B (s.1 46) 27 i := ⟨Or.inl rfl, fun k hk => ⟨hK.1.2.1.2.2.2.2 k (by omega), hI.2.2.2.2.1 k (by omega)⟩, hz⟩
    have es : va_up s.1 46 (s.1 46) = s.1 := vu_self rfl
    rw [ckF] at hR
    have u1 := hU.1
    rw [i_X7_check_8]
    simp (disch := omega) only [i_X7_check_9, i_X7_check_10, i_X7_check_13, i_X7_check_16, i_X7_check_19, i_X7_check_20, i_X7_check_21, i_X7_check_24, i_X7_check_27, i_X7_check_28, i_X7_check_29, gh_o3, gh_o24, gh_r25, gh_r26, gh_r27, gh_r28, gh_w28, gh_w27, gh_r30, gh_r31, gh_w30, gh_w31, gh_u3, gp_3_8, gf_24_0, gf_24_1, gf_24_2, gf_24_3, gf_24_4, gf_24_5, gf_3_0, gf_3_1, gf_3_2, gf_3_3, gf_3_4, gf_3_6, gf_3_7, gf_3_8, z_o_i, z_ai_i, z_si_i, z_ab_b, z_ab_z, z_sb_b, z_sb_z, z_al_i, z_al_b, z_pu_s, z_pu_n, nI_toN, z_inN, true_and, and_true, nI_add, pk_mul, vu_eq, vu_ne, nI_leI, nI_ltI, nI_eqI, nI_eq0, nI_le0, ↓ok_0, ↓ok_1, ↓bI_ok, if_true, if_false, nI_lt0, nI_ge0, ne_eq, not_true_eq_false, not_false_eq_true, bI_eq0, bI_ne0, bI_T, bI_F, Bool.false_eq_true, Nat.one_ne_zero, Nat.zero_ne_one, Nat.zero_add, nI_m1, nm_lt, nm_ge, nI_1ne, nI_0eq, nI_or, r0, le]
    refine k_find hI hK hRw (by omega) hU (fun C V hC hG => ?_)
    rw [es]
    have fl := fat_le (a := s.1) (L := s.2) (ok := okl s.1) (i := i)
    have hFC := hF.trans hG
    by_cases f0 : fat s.1 s.2 (okl s.1) i = 0
    · rw [if_pos f0] at hR
      have z1 := fat_nz f0
      have l1 := hI.2.2.2.2.1 i (by omega)
      have r27 : C 27 i = nI (s.1 46 i - 1) := by rw [hC.1.2.1.2.2.2.2 i (by omega), pk_sub z1]
      have sl := sh_l (l := s.1 46 i - 1) (by omega)
      simp (disch := omega) only [i_X7_check_32, i_X7_check_33, i_X7_check_34, i_X7_check_44, i_X7_check_45, i_X7_check_46, i_X7_check_47, i_X7_check_50, i_X7_check_53, i_X7_check_54, i_X7_check_55, i_X7_check_56, i_X7_check_57, i_X7_check_58, i_X7_check_61, gh_o3, gh_o24, gh_r25, gh_r26, gh_r27, gh_r28, gh_w28, gh_w27, gh_r30, gh_r31, gh_w30, gh_w31, gh_u3, gp_3_8, gf_24_0, gf_24_1, gf_24_2, gf_24_3, gf_24_4, gf_24_5, gf_3_0, gf_3_1, gf_3_2, gf_3_3, gf_3_4, gf_3_6, gf_3_7, gf_3_8, z_o_i, z_ai_i, z_si_i, z_ab_b, z_ab_z, z_sb_b, z_sb_z, z_al_i, z_al_b, z_pu_s, z_pu_n, nI_toN, z_inN, true_and, and_true, nI_add, pk_mul, vu_eq, vu_ne, nI_leI, nI_ltI, nI_eqI, nI_eq0, nI_le0, ↓ok_0, ↓ok_1, ↓bI_ok, if_true, if_false, nI_lt0, nI_ge0, ne_eq, not_true_eq_false, not_false_eq_true, bI_eq0, bI_ne0, bI_T, bI_F, Bool.false_eq_true, Nat.one_ne_zero, Nat.zero_ne_one, Nat.zero_add, nI_m1, nm_lt, nm_ge, nI_1ne, nI_0eq, nI_or, f0, r27, sl]
      refine ih (i + 1) _ C V _ (by omega) hC hFC (Ub_s hU (by omega) (by omega)) (fun k hk => ?_) hR
      rcases Nat.lt_or_ge k i with y | y
      · exact hz k y
      · rw [show k = i by omega]; exact z1
    · rw [if_neg f0] at hR
      have q := hQ C V hC hFC.2.2.2
      rw [← hR] at q
      simp (disch := omega) only [i_X7_check_32, i_X7_check_33, i_X7_check_34, i_X7_check_37, i_X7_check_39, i_X7_check_40, i_X7_check_41, i_X7_check_42, i_X7_check_43, gh_o3, gh_o24, gh_r25, gh_r26, gh_r27, gh_r28, gh_w28, gh_w27, gh_r30, gh_r31, gh_w30, gh_w31, gh_u3, gp_3_8, gf_24_0, gf_24_1, gf_24_2, gf_24_3, gf_24_4, gf_24_5, gf_3_0, gf_3_1, gf_3_2, gf_3_3, gf_3_4, gf_3_6, gf_3_7, gf_3_8, z_o_i, z_ai_i, z_si_i, z_ab_b, z_ab_z, z_sb_b, z_sb_z, z_al_i, z_al_b, z_pu_s, z_pu_n, nI_toN, z_inN, true_and, and_true, nI_add, pk_mul, vu_eq, vu_ne, nI_leI, nI_ltI, nI_eqI, nI_eq0, nI_le0, ↓ok_0, ↓ok_1, ↓bI_ok, if_true, if_false, nI_lt0, nI_ge0, ne_eq, not_true_eq_false, not_false_eq_true, bI_eq0, bI_ne0, bI_T, bI_F, Bool.false_eq_true, Nat.one_ne_zero, Nat.zero_ne_one, Nat.zero_add, nI_m1, nm_lt, nm_ge, nI_1ne, nI_0eq, nI_or, f0]
      exact q
theorem x_check (hI : Iv s) (hK : Cl s A P dy nx) (hQ : ∀ B R, Cl s B R dy nx → Fz A B → Q (some (.int (s_check s))) (GH B R dy) nx) : XC (d + 7) m_X7_check [.ref 3] (GH A P dy) nx Q := by
  show X (d + 7) m_X7_check 0 [some (.ref 3), none, none, none] [] (GH A P dy) nx 0 0 Q
  obtain ⟨hC, wd, ln, hD⟩ := hK
  simp (disch := omega) only [i_X7_check_0, i_X7_check_1, gh_o3, gh_o24, gh_r25, gh_r26, gh_r27, gh_r28, gh_w28, gh_w27, gh_r30, gh_r31, gh_w30, gh_w31, gh_u3, gp_3_8, gf_24_0, gf_24_1, gf_24_2, gf_24_3, gf_24_4, gf_24_5, gf_3_0, gf_3_1, gf_3_2, gf_3_3, gf_3_4, gf_3_6, gf_3_7, gf_3_8, z_o_i, z_ai_i, z_si_i, z_ab_b, z_ab_z, z_sb_b, z_sb_z, z_al_i, z_al_b, z_pu_s, z_pu_n, nI_toN, z_inN, true_and, and_true, nI_add, pk_mul, vu_eq, vu_ne, nI_leI, nI_ltI, nI_eqI, nI_eq0, nI_le0, ↓ok_0, ↓ok_1, ↓bI_ok, if_true, if_false, nI_lt0, nI_ge0, ne_eq, not_true_eq_false, not_false_eq_true, bI_eq0, bI_ne0, bI_T, bI_F, Bool.false_eq_true, Nat.one_ne_zero, Nat.zero_ne_one, Nat.zero_add, nI_m1, nm_lt, nm_ge, nI_1ne, nI_0eq, nI_or]
  refine k_forget (d := d + 5) hC hD (fun B hB hF => ?_)
  simp (disch := omega) only [i_X7_check_4, i_X7_check_5, i_X7_check_6, i_X7_check_7, gh_o3, gh_o24, gh_r25, gh_r26, gh_r27, gh_r28, gh_w28, gh_w27, gh_r30, gh_r31, gh_w30, gh_w31, gh_u3, gp_3_8, gf_24_0, gf_24_1, gf_24_2, gf_24_3, gf_24_4, gf_24_5, gf_3_0, gf_3_1, gf_3_2, gf_3_3, gf_3_4, gf_3_6, gf_3_7, gf_3_8, z_o_i, z_ai_i, z_si_i, z_ab_b, z_ab_z, z_sb_b, z_sb_z, z_al_i, z_al_b, z_pu_s, z_pu_n, nI_toN, z_inN, true_and, and_true, nI_add, pk_mul, vu_eq, vu_ne, nI_leI, nI_ltI, nI_eqI, nI_eq0, nI_le0, ↓ok_0, ↓ok_1, ↓bI_ok, if_true, if_false, nI_lt0, nI_ge0, ne_eq, not_true_eq_false, not_false_eq_true, bI_eq0, bI_ne0, bI_T, bI_F, Bool.false_eq_true, Nat.one_ne_zero, Nat.zero_ne_one, Nat.zero_add, nI_m1, nm_lt, nm_ge, nI_1ne, nI_0eq, nI_or]
  exact l_chk (A := A) (P := P) (R := ckF s.1 s.2 (okl s.1) (s.1 32 16) 0) hI hC (fun C V hCk hG => hQ C V ⟨hCk.1, wd, ln, hCk.2.1⟩ hG) (s.1 32 16) 0 0 B P none (by omega) hB hF Ub_0 (fun k hk => absurd hk (Nat.not_lt_zero k)) rfl
/-- what a call of fillFrom owes -/
def Fi (s : z_S) (dy : z_H) (nz : Nat) (wd ln : Nat → Nat) (D i : Nat) (G : (Nat → Nat) → Nat → Nat × (Nat → Nat) × Nat) : Prop :=
  ∀ (A : Nat → Nat → Int32) (P : Nat → Nat → Nat) (S : Nat → Nat) (t u nx : Nat) (Q : z_Q), Ck s A P dy nz wd ln → (∀ k, k < i → A 28 k = nI (S k) - nI 1) → (∀ k, i ≤ k → S k = s.1 46 k) → (∀ k, k < i → 1 ≤ S k) → (∀ k, k < s.1 32 16 → S k ≤ s.1 32 13) → Ub S i u → A 3 8 = nI t → t ≤ 20000 →
    (∀ C V, Ck s C V dy nz wd ln → Fz A C → C 27 = A 27 → (∀ k, k < i → C 28 k = A 28 k) → ((G S t).1 = 1 → ∀ k, k < s.1 32 16 → C 28 k = nI ((G S t).2.1 k) - nI 1) → C 3 8 = nI (G S t).2.2 → (G S t).1 ≤ 2 → (G S t).2.2 ≤ 20000 → Q (some (.int (rC (G S t).1))) (GH C V dy) nx) → XC D m_X7_fillFrom [.ref 3, .int (nI i), .int (nI u)] (GH A P dy) nx Q
theorem Ck.u28 {f : Nat → Int32} (hK : Ck s A P dy nz wd ln) : Ck s (va_up A 28 f) P dy nz wd ln := ⟨⟨hK.1.1, hK.1.2⟩, hK.2.1.of rfl rfl rfl rfl, hK.2.2⟩
theorem Ck.u3 {f : Nat → Int32} (hK : Ck s A P dy nz wd ln) : Ck s (va_up A 3 f) P dy nz wd ln := ⟨⟨hK.1.1, hK.1.2⟩, hK.2.1.of rfl rfl rfl rfl, hK.2.2⟩
/-- a line is put at a place, found at, and gone on from -/
theorem s_fil {i e l u t : Nat} {S : Nat → Nat} {G : (Nat → Nat) → Nat → Nat × (Nat → Nat) × Nat} {x3 x4 x5 x7 : Option Value} (hI : Iv s) (hG : Fi s dy nz wd ln (e + 6) (i + 1) G) (hK : Ck s A P dy nz wd ln) (hi : i < s.1 32 16) (hl : l < s.1 32 13) (h28 : ∀ k, k < i → A 28 k = nI (S k) - nI 1) (hS : ∀ k, i ≤ k → S k = s.1 46 k) (hz : ∀ k, k < i → 1 ≤ S k) (hb : ∀ k, k < s.1 32 16 → S k ≤ s.1 32 13) (hU : Ub S i u) (h3 : A 3 8 = nI t) (ht : t ≤ 20000)
    (hN : ∀ C V y7 t', Ck s C V dy nz wd ln → Fz A C → C 27 = A 27 → (∀ k, k < i → C 28 k = A 28 k) → C 3 8 = nI t' → t' ≤ 20000 → (if fat (va_up s.1 46 (va_up S i (l + 1))) s.2 (okl s.1) i = 0 then (G (va_up S i (l + 1)) t).1 = 0 ∧ t' = (G (va_up S i (l + 1)) t).2.2 else t' = t) → X (e + 7) m_X7_fillFrom 156 [some (.ref 3), some (.int (nI i)), some (.int (nI u)), x3, x4, x5, some (.int (nI l)), y7] [] (GH C V dy) nx bc bs Q)
    (hY : ∀ C V, Ck s C V dy nz wd ln → Fz A C → C 27 = A 27 → (∀ k, k < i → C 28 k = A 28 k) → fat (va_up s.1 46 (va_up S i (l + 1))) s.2 (okl s.1) i = 0 → ¬ (G (va_up S i (l + 1)) t).1 = 0 → ((G (va_up S i (l + 1)) t).1 = 1 → ∀ k, k < s.1 32 16 → C 28 k = nI ((G (va_up S i (l + 1)) t).2.1 k) - nI 1) → C 3 8 = nI (G (va_up S i (l + 1)) t).2.2 → (G (va_up S i (l + 1)) t).1 ≤ 2 → (G (va_up S i (l + 1)) t).2.2 ≤ 20000 → Q (some (.int (rC (G (va_up S i (l + 1)) t).1))) (GH C V dy) nx) :
    X (e + 7) m_X7_fillFrom 103 [some (.ref 3), some (.int (nI i)), some (.int (nI u)), x3, x4, x5, some (.int (nI l)), x7] [] (GH A P dy) nx bc bs Q := by
  have sc := hI.sc
  have u1 := hU.1
  simp (disch := omega) only [i_X7_fillFrom_103, i_X7_fillFrom_104, i_X7_fillFrom_107, i_X7_fillFrom_110, i_X7_fillFrom_111, i_X7_fillFrom_113, i_X7_fillFrom_114, i_X7_fillFrom_115, i_X7_fillFrom_116, i_X7_fillFrom_119, i_X7_fillFrom_122, i_X7_fillFrom_123, i_X7_fillFrom_124, gh_o3, gh_o24, gh_r25, gh_r26, gh_r27, gh_r28, gh_w28, gh_w27, gh_r30, gh_r31, gh_w30, gh_w31, gh_u3, gp_3_8, gf_24_0, gf_24_1, gf_24_2, gf_24_3, gf_24_4, gf_24_5, gf_3_0, gf_3_1, gf_3_2, gf_3_3, gf_3_4, gf_3_6, gf_3_7, gf_3_8, z_o_i, z_ai_i, z_si_i, z_ab_b, z_ab_z, z_sb_b, z_sb_z, z_al_i, z_al_b, z_pu_s, z_pu_n, nI_toN, z_inN, true_and, and_true, nI_add, pk_mul, vu_eq, vu_ne, nI_leI, nI_ltI, nI_eqI, nI_eq0, nI_le0, ↓ok_0, ↓ok_1, ↓bI_ok, if_true, if_false, nI_lt0, nI_ge0, ne_eq, not_true_eq_false, not_false_eq_true, bI_eq0, bI_ne0, bI_T, bI_F, Bool.false_eq_true, Nat.one_ne_zero, Nat.zero_ne_one, Nat.zero_add, nI_m1, nm_lt, nm_ge, nI_1ne, nI_0eq, nI_or]
  have hK1 : Ck s (va_up A 28 (va_up (A 28) i (nI l))) P dy nz wd ln := hK.u28
  have hRw : Rw s (va_up A 28 (va_up (A 28) i (nI l))) (va_up S i (l + 1)) 28 i := by
    refine ⟨Or.inr rfl, fun k hk => ⟨?_, vs_lk hb (by omega) k (by omega)⟩, fun k hk => by rw [vu_ne (by omega)]; exact hz k hk⟩
    rw [vu_eq, vu_if, vu_if]
    by_cases e : k = i
    · rw [if_pos e, if_pos e, pk_sub (by omega)]; rfl
    · rw [if_neg e, if_neg e]; exact h28 k (by omega)
  have hU1 : Ub (va_up S i (l + 1)) i u := Ub_c hU (fun k hk => vu_ne (by omega))
  refine k_find hI hK1 hRw hi hU1 (fun C V hC hF => ?_)
  have fl := fat_le (a := va_up s.1 46 (va_up S i (l + 1))) (L := s.2) (ok := okl s.1) (i := i)
  have c27 : C 27 = A 27 := hF.2.1
  have c28 : C 28 = va_up (A 28) i (nI l) := hF.2.2.1.trans vu_eq
  have c3 : C 3 8 = nI t := by rw [hF.1]; exact h3
  have fz : Fz A C := fun k hk => (hF.2.2.2 k hk).trans (vu_ne (by omega))
  have low : ∀ k, k < i → C 28 k = A 28 k := fun k hk => by rw [c28, vu_ne (by omega)]
  by_cases f0 : fat (va_up s.1 46 (va_up S i (l + 1))) s.2 (okl s.1) i = 0
  · have sl := sh_l (l := l) (by omega)
    simp (disch := omega) only [i_X7_fillFrom_127, i_X7_fillFrom_133, i_X7_fillFrom_134, i_X7_fillFrom_135, i_X7_fillFrom_136, i_X7_fillFrom_137, i_X7_fillFrom_138, i_X7_fillFrom_139, i_X7_fillFrom_141, i_X7_fillFrom_142, i_X7_fillFrom_143, gh_o3, gh_o24, gh_r25, gh_r26, gh_r27, gh_r28, gh_w28, gh_w27, gh_r30, gh_r31, gh_w30, gh_w31, gh_u3, gp_3_8, gf_24_0, gf_24_1, gf_24_2, gf_24_3, gf_24_4, gf_24_5, gf_3_0, gf_3_1, gf_3_2, gf_3_3, gf_3_4, gf_3_6, gf_3_7, gf_3_8, z_o_i, z_ai_i, z_si_i, z_ab_b, z_ab_z, z_sb_b, z_sb_z, z_al_i, z_al_b, z_pu_s, z_pu_n, nI_toN, z_inN, true_and, and_true, nI_add, pk_mul, vu_eq, vu_ne, nI_leI, nI_ltI, nI_eqI, nI_eq0, nI_le0, ↓ok_0, ↓ok_1, ↓bI_ok, if_true, if_false, nI_lt0, nI_ge0, ne_eq, not_true_eq_false, not_false_eq_true, bI_eq0, bI_ne0, bI_T, bI_F, Bool.false_eq_true, Nat.one_ne_zero, Nat.zero_ne_one, Nat.zero_add, nI_m1, nm_lt, nm_ge, nI_1ne, nI_0eq, nI_or, f0, sl]
    refine hG C V (va_up S i (l + 1)) t (u ||| 2 ^ l) nx _ hC (fun k hk => ?_) (fun k hk => by rw [vu_ne (by omega)]; exact hS k (by omega)) (vs_1 hz (by omega)) (vs_lk hb (by omega)) (Ub_s hU1 (by rw [vu_eq]) (by omega)) c3 ht (fun D T hD gz d27 dlow d28 dt db db2 => ?_)
    · rw [c28, vu_if, vu_if]
      by_cases e : k = i
      · rw [if_pos e, if_pos e, pk_sub (by omega)]; rfl
      · rw [if_neg e, if_neg e]; exact h28 k (by omega)
    · have fzD := fz.trans gz
      have d27' := d27.trans c27
      have lowD : ∀ k, k < i → D 28 k = A 28 k := fun k hk => (dlow k (by omega)).trans (low k hk)
      generalize hR : G (va_up S i (l + 1)) t = R at hN hY d28 dt db db2 ⊢
      by_cases g0 : R.1 = 0
      · have rc : rC R.1 = nI 0 := by rw [g0]; rfl
        simp (disch := omega) only [i_X7_fillFrom_146, i_X7_fillFrom_148, i_X7_fillFrom_150, gh_o3, gh_o24, gh_r25, gh_r26, gh_r27, gh_r28, gh_w28, gh_w27, gh_r30, gh_r31, gh_w30, gh_w31, gh_u3, gp_3_8, gf_24_0, gf_24_1, gf_24_2, gf_24_3, gf_24_4, gf_24_5, gf_3_0, gf_3_1, gf_3_2, gf_3_3, gf_3_4, gf_3_6, gf_3_7, gf_3_8, z_o_i, z_ai_i, z_si_i, z_ab_b, z_ab_z, z_sb_b, z_sb_z, z_al_i, z_al_b, z_pu_s, z_pu_n, nI_toN, z_inN, true_and, and_true, nI_add, pk_mul, vu_eq, vu_ne, nI_leI, nI_ltI, nI_eqI, nI_eq0, nI_le0, ↓ok_0, ↓ok_1, ↓bI_ok, if_true, if_false, nI_lt0, nI_ge0, ne_eq, not_true_eq_false, not_false_eq_true, bI_eq0, bI_ne0, bI_T, bI_F, Bool.false_eq_true, Nat.one_ne_zero, Nat.zero_ne_one, Nat.zero_add, nI_m1, nm_lt, nm_ge, nI_1ne, nI_0eq, nI_or, rc]
        exact hN D T _ R.2.2 hD fzD d27' lowD dt db2 (by rw [if_pos f0]; exact ⟨g0, rfl⟩)
      · have rn : ¬ rC R.1 = 0 := by
          unfold rC
          by_cases c1 : R.1 = 1
          · rw [if_pos c1]; decide
          · rw [if_neg c1, if_pos (by omega)]; decide
        simp (disch := omega) only [i_X7_fillFrom_146, i_X7_fillFrom_148, i_X7_fillFrom_150, i_X7_fillFrom_153, i_X7_fillFrom_155, gh_o3, gh_o24, gh_r25, gh_r26, gh_r27, gh_r28, gh_w28, gh_w27, gh_r30, gh_r31, gh_w30, gh_w31, gh_u3, gp_3_8, gf_24_0, gf_24_1, gf_24_2, gf_24_3, gf_24_4, gf_24_5, gf_3_0, gf_3_1, gf_3_2, gf_3_3, gf_3_4, gf_3_6, gf_3_7, gf_3_8, z_o_i, z_ai_i, z_si_i, z_ab_b, z_ab_z, z_sb_b, z_sb_z, z_al_i, z_al_b, z_pu_s, z_pu_n, nI_toN, z_inN, true_and, and_true, nI_add, pk_mul, vu_eq, vu_ne, nI_leI, nI_ltI, nI_eqI, nI_eq0, nI_le0, ↓ok_0, ↓ok_1, ↓bI_ok, if_true, if_false, nI_lt0, nI_ge0, ne_eq, not_true_eq_false, not_false_eq_true, bI_eq0, bI_ne0, bI_T, bI_F, Bool.false_eq_true, Nat.one_ne_zero, Nat.zero_ne_one, Nat.zero_add, nI_m1, nm_lt, nm_ge, nI_1ne, nI_0eq, nI_or, rn]
        exact hY D T hD fzD d27' lowD f0 g0 d28 dt db db2
  · simp (disch := omega) only [i_X7_fillFrom_127, i_X7_fillFrom_130, gh_o3, gh_o24, gh_r25, gh_r26, gh_r27, gh_r28, gh_w28, gh_w27, gh_r30, gh_r31, gh_w30, gh_w31, gh_u3, gp_3_8, gf_24_0, gf_24_1, gf_24_2, gf_24_3, gf_24_4, gf_24_5, gf_3_0, gf_3_1, gf_3_2, gf_3_3, gf_3_4, gf_3_6, gf_3_7, gf_3_8, z_o_i, z_ai_i, z_si_i, z_ab_b, z_ab_z, z_sb_b, z_sb_z, z_al_i, z_al_b, z_pu_s, z_pu_n, nI_toN, z_inN, true_and, and_true, nI_add, pk_mul, vu_eq, vu_ne, nI_leI, nI_ltI, nI_eqI, nI_eq0, nI_le0, ↓ok_0, ↓ok_1, ↓bI_ok, if_true, if_false, nI_lt0, nI_ge0, ne_eq, not_true_eq_false, not_false_eq_true, bI_eq0, bI_ne0, bI_T, bI_F, Bool.false_eq_true, Nat.one_ne_zero, Nat.zero_ne_one, Nat.zero_add, nI_m1, nm_lt, nm_ge, nI_1ne, nI_0eq, nI_or, f0]
    exact hN C V x7 t hC fz c27 low c3 ht (by rw [if_neg f0])
theorem l_fil {i e u : Nat} {S : Nat → Nat} {G : (Nat → Nat) → Nat → Nat × (Nat → Nat) × Nat} {x3 : Option Value} {R : Nat × (Nat → Nat) × Nat} (hI : Iv s) (hG : Fi s dy nz wd ln (e + 6) (i + 1) G) (hi : i < s.1 32 16) (hS : ∀ k, i ≤ k → S k = s.1 46 k) (hz : ∀ k, k < i → 1 ≤ S k) (hb : ∀ k, k < s.1 32 16 → S k ≤ s.1 32 13) (hU : Ub S i u)
    (hQ : ∀ C V, Ck s C V dy nz wd ln → Fz A C → C 27 = A 27 → (∀ k, k < i → C 28 k = A 28 k) → (R.1 = 1 → ∀ k, k < s.1 32 16 → C 28 k = nI (R.2.1 k) - nI 1) → C 3 8 = nI R.2.2 → R.1 ≤ 2 → R.2.2 ≤ 20000 → Q (some (.int (rC R.1))) (GH C V dy) nx) :
    ∀ (n l t : Nat) (B : Nat → Nat → Int32) (U : Nat → Nat → Nat) (x7 : Option Value), l + n = s.1 32 13 → Ck s B U dy nz wd ln → Fz A B → B 27 = A 27 → (∀ k, k < i → B 28 k = A 28 k) → (∀ k, k < i → B 28 k = nI (S k) - nI 1) → B 3 8 = nI t → t ≤ 20000 → gl s.1 s.2 (okl s.1) G i S n l t = R → X (e + 7) m_X7_fillFrom 66 [some (.ref 3), some (.int (nI i)), some (.int (nI u)), x3, some (.int (nI 1)), some (.int (nI (s.1 32 13) - nI 1)), some (.int (nI l)), x7] [] (GH B U dy) nx bc bs Q := by
  have sc := hI.sc
  have cmp : ∀ l, l ≤ s.1 32 13 → ((nI (s.1 32 13) - nI 1 : Int32) < nI l) = (s.1 32 13 ≤ l) := fun l hl => by
    rw [Int32.lt_iff_toInt_lt, pk_sub_toInt (by omega) (by omega), nI_toInt (by omega)]
    simp only [eq_iff_iff]
    omega
  intro n
  induction n with
  | zero =>
    intro l t B U x7 hn hK fz b27 low h28 h3 ht hR
    have le := cmp l (by omega)
    have le2 : s.1 32 13 ≤ l := by omega
    have q := hQ B U hK fz b27 low
    rw [← hR] at q
    have q2 := q (fun z => absurd z (by simp [gl])) h3 (by simp [gl]) ht
    simp (disch := omega) only [i_X7_fillFrom_66, i_X7_fillFrom_68, i_X7_fillFrom_70, i_X7_fillFrom_162, i_X7_fillFrom_163, gh_o3, gh_o24, gh_r25, gh_r26, gh_r27, gh_r28, gh_w28, gh_w27, gh_r30, gh_r31, gh_w30, gh_w31, gh_u3, gp_3_8, gf_24_0, gf_24_1, gf_24_2, gf_24_3, gf_24_4, gf_24_5, gf_3_0, gf_3_1, gf_3_2, gf_3_3, gf_3_4, gf_3_6, gf_3_7, gf_3_8, z_o_i, z_ai_i, z_si_i, z_ab_b, z_ab_z, z_sb_b, z_sb_z, z_al_i, z_al_b, z_pu_s, z_pu_n, nI_toN, z_inN, true_and, and_true, nI_add, pk_mul, vu_eq, vu_ne, nI_leI, nI_ltI, nI_eqI, nI_eq0, nI_le0, ↓ok_0, ↓ok_1, ↓bI_ok, if_true, if_false, nI_lt0, nI_ge0, ne_eq, not_true_eq_false, not_false_eq_true, bI_eq0, bI_ne0, bI_T, bI_F, Bool.false_eq_true, Nat.one_ne_zero, Nat.zero_ne_one, Nat.zero_add, nI_m1, nm_lt, nm_ge, nI_1ne, nI_0eq, nI_or, le, le2]
    exact q2
  | succ n ih =>
    intro l t B U x7 hn hK fz b27 low h28 h3 ht hR
    have le := cmp l (by omega)
    have le2 : ¬ s.1 32 13 ≤ l := by omega
    rw [gl] at hR
    rw [i_X7_fillFrom_66]
    by_cases t0 : t = 0
    · rw [if_pos t0] at hR
      subst t0
      have gt0 : (0 < nI 0) = False := by simp only [eq_iff_iff, iff_false]; decide
      have q := hQ B U hK fz b27 low
      rw [← hR] at q
      have q2 := q (fun z => absurd z (by simp)) h3 (by simp) (by simp)
      simp (disch := omega) only [i_X7_fillFrom_68, i_X7_fillFrom_70, i_X7_fillFrom_73, i_X7_fillFrom_75, i_X7_fillFrom_78, i_X7_fillFrom_79, i_X7_fillFrom_82, i_X7_fillFrom_85, i_X7_fillFrom_87, gh_o3, gh_o24, gh_r25, gh_r26, gh_r27, gh_r28, gh_w28, gh_w27, gh_r30, gh_r31, gh_w30, gh_w31, gh_u3, gp_3_8, gf_24_0, gf_24_1, gf_24_2, gf_24_3, gf_24_4, gf_24_5, gf_3_0, gf_3_1, gf_3_2, gf_3_3, gf_3_4, gf_3_6, gf_3_7, gf_3_8, z_o_i, z_ai_i, z_si_i, z_ab_b, z_ab_z, z_sb_b, z_sb_z, z_al_i, z_al_b, z_pu_s, z_pu_n, nI_toN, z_inN, true_and, and_true, nI_add, pk_mul, vu_eq, vu_ne, nI_leI, nI_ltI, nI_eqI, nI_eq0, nI_le0, ↓ok_0, ↓ok_1, ↓bI_ok, if_true, if_false, nI_lt0, nI_ge0, ne_eq, not_true_eq_false, not_false_eq_true, bI_eq0, bI_ne0, bI_T, bI_F, Bool.false_eq_true, Nat.one_ne_zero, Nat.zero_ne_one, Nat.zero_add, nI_m1, nm_lt, nm_ge, nI_1ne, nI_0eq, nI_or, le, le2, h3, gt0]
      exact q2
    · rw [if_neg t0] at hR
      have gt0 : (0 < nI t) = True := by
        simp only [eq_iff_iff, iff_true, Int32.lt_iff_toInt_lt]
        rw [nI_toInt (by omega), show (0 : Int32).toInt = 0 by decide]; omega
      have sb : (nI t - nI 1 : Int32) = nI (t - 1) := pk_sub (by omega)
      simp (disch := omega) only [i_X7_fillFrom_68, i_X7_fillFrom_70, i_X7_fillFrom_73, i_X7_fillFrom_75, i_X7_fillFrom_78, i_X7_fillFrom_79, i_X7_fillFrom_82, i_X7_fillFrom_88, i_X7_fillFrom_90, i_X7_fillFrom_93, i_X7_fillFrom_94, i_X7_fillFrom_95, i_X7_fillFrom_98, i_X7_fillFrom_99, i_X7_fillFrom_100, gh_o3, gh_o24, gh_r25, gh_r26, gh_r27, gh_r28, gh_w28, gh_w27, gh_r30, gh_r31, gh_w30, gh_w31, gh_u3, gp_3_8, gf_24_0, gf_24_1, gf_24_2, gf_24_3, gf_24_4, gf_24_5, gf_3_0, gf_3_1, gf_3_2, gf_3_3, gf_3_4, gf_3_6, gf_3_7, gf_3_8, z_o_i, z_ai_i, z_si_i, z_ab_b, z_ab_z, z_sb_b, z_sb_z, z_al_i, z_al_b, z_pu_s, z_pu_n, nI_toN, z_inN, true_and, and_true, nI_add, pk_mul, vu_eq, vu_ne, nI_leI, nI_ltI, nI_eqI, nI_eq0, nI_le0, ↓ok_0, ↓ok_1, ↓bI_ok, if_true, if_false, nI_lt0, nI_ge0, ne_eq, not_true_eq_false, not_false_eq_true, bI_eq0, bI_ne0, bI_T, bI_F, Bool.false_eq_true, Nat.one_ne_zero, Nat.zero_ne_one, Nat.zero_add, nI_m1, nm_lt, nm_ge, nI_1ne, nI_0eq, nI_or, le, le2, h3, gt0, sb]
      refine s_fil (t := t - 1) hI hG hK.u3 hi (by omega) h28 hS hz hb hU (by rw [vu_eq, vu_eq]) (by omega) ?_ ?_
      · intro C V y7 t' hC gz c27 clow c3 ct hc
        have gz' : Fz A C := fun k hk => (gz k hk).trans ((vu_ne (by omega)).trans (fz k hk))
        simp (disch := omega) only [i_X7_fillFrom_156, i_X7_fillFrom_159, gh_o3, gh_o24, gh_r25, gh_r26, gh_r27, gh_r28, gh_w28, gh_w27, gh_r30, gh_r31, gh_w30, gh_w31, gh_u3, gp_3_8, gf_24_0, gf_24_1, gf_24_2, gf_24_3, gf_24_4, gf_24_5, gf_3_0, gf_3_1, gf_3_2, gf_3_3, gf_3_4, gf_3_6, gf_3_7, gf_3_8, z_o_i, z_ai_i, z_si_i, z_ab_b, z_ab_z, z_sb_b, z_sb_z, z_al_i, z_al_b, z_pu_s, z_pu_n, nI_toN, z_inN, true_and, and_true, nI_add, pk_mul, vu_eq, vu_ne, nI_leI, nI_ltI, nI_eqI, nI_eq0, nI_le0, ↓ok_0, ↓ok_1, ↓bI_ok, if_true, if_false, nI_lt0, nI_ge0, ne_eq, not_true_eq_false, not_false_eq_true, bI_eq0, bI_ne0, bI_T, bI_F, Bool.false_eq_true, Nat.one_ne_zero, Nat.zero_ne_one, Nat.zero_add, nI_m1, nm_lt, nm_ge, nI_1ne, nI_0eq, nI_or]
        refine ih (l + 1) t' C V y7 (by omega) hC gz' (c27.trans b27) (fun k hk => (clow k hk).trans (low k hk)) (fun k hk => (clow k hk).trans (h28 k hk)) c3 ct ?_
        by_cases f0 : fat (va_up s.1 46 (va_up S i (l + 1))) s.2 (okl s.1) i = 0
        · rw [if_pos f0] at hc hR
          rw [if_pos hc.1] at hR
          rw [hc.2]
          exact hR
        · rw [if_neg f0] at hc hR
          rw [hc]
          exact hR
      · intro C V hC gz c27 clow f0 g0 d28 c3 cb cb2
        have gz' : Fz A C := fun k hk => (gz k hk).trans ((vu_ne (by omega)).trans (fz k hk))
        rw [if_pos f0, if_neg g0] at hR
        rw [hR] at d28 c3 cb cb2 ⊢
        exact hQ C V hC gz' (c27.trans b27) (fun k hk => (clow k hk).trans (low k hk)) d28 c3 cb cb2
theorem k_given {i : Nat} {S : Nat → Nat} (hI : Iv s) (hC : Rc s A P) (hi : i < s.1 32 16) (h28 : ∀ k, k < i → A 28 k = nI (S k) - nI 1) (hS : S i = s.1 46 i) : XC (d + 1) m_X1_givenAt [.ref 24, .int (nI i)] (GH A P dy) nx Q = Q (some (.int (if S i = 0 ∧ ¬ s.1 45 i = 0 then nI (S (s.1 45 i - 1)) - nI 1 else nI (S i) - nI 1))) (GH A P dy) nx := by
  show X (d + 1) m_X1_givenAt 0 [some (.ref 24), some (.int (nI i))] [] (GH A P dy) nx 0 0 Q = _
  have sc := hI.sc
  have kH : ∀ {d nx : Nat} {Q : z_Q} {x : Int32}, XC d m_X1_hasPlace [.ref 24, .int x] (GH A P dy) nx Q = _ := k_has hC.2.1.1 sc.2.2.2.2.2.1
  have yes : iw (nI i) (s.1 32 16) = true := by rw [iw_nI (by omega)]; simpa using hi
  have r27 := hC.2.1.2.2.2.2 i (by omega)
  have r26 := hC.2.1.2.2.2.1 i (by omega)
  have b46 := hI.b46 i
  have b45 := hI.b45 i
  have g45 := hI.2.2.2.1 i hi
  have me : ((-1 : Int32) = -1) = True := by simp
  have m0 : (nI 0 - nI 1 : Int32) = -1 := by decide
  rw [hS]
  by_cases z : s.1 46 i = 0
  · rw [z, m0] at r27
    by_cases g0 : s.1 45 i = 0
    · rw [g0, m0] at r26
      rw [if_neg (fun q => q.2 g0), z, m0]
      simp (disch := omega) only [i_X1_givenAt_0, i_X1_givenAt_1, i_X1_givenAt_2, i_X1_givenAt_5, i_X1_givenAt_10, i_X1_givenAt_11, i_X1_givenAt_14, i_X1_givenAt_15, i_X1_givenAt_16, i_X1_givenAt_17, i_X1_givenAt_20, i_X1_givenAt_21, i_X1_givenAt_24, i_X1_givenAt_25, i_X1_givenAt_26, i_X1_givenAt_27, i_X1_givenAt_30, i_X1_givenAt_31, i_X1_givenAt_34, i_X1_givenAt_35, i_X1_givenAt_36, gh_o3, gh_o24, gh_r25, gh_r26, gh_r27, gh_r28, gh_w28, gh_w27, gh_r30, gh_r31, gh_w30, gh_w31, gh_u3, gp_3_8, gf_24_0, gf_24_1, gf_24_2, gf_24_3, gf_24_4, gf_24_5, gf_3_0, gf_3_1, gf_3_2, gf_3_3, gf_3_4, gf_3_6, gf_3_7, gf_3_8, z_o_i, z_ai_i, z_si_i, z_ab_b, z_ab_z, z_sb_b, z_sb_z, z_al_i, z_al_b, z_pu_s, z_pu_n, nI_toN, z_inN, true_and, and_true, nI_add, pk_mul, vu_eq, vu_ne, nI_leI, nI_ltI, nI_eqI, nI_eq0, nI_le0, ↓ok_0, ↓ok_1, ↓bI_ok, if_true, if_false, nI_lt0, nI_ge0, ne_eq, not_true_eq_false, not_false_eq_true, bI_eq0, bI_ne0, bI_T, bI_F, Bool.false_eq_true, Nat.one_ne_zero, Nat.zero_ne_one, Nat.zero_add, nI_m1, nm_lt, nm_ge, nI_1ne, nI_0eq, nI_or, kH, yes, r27, r26, me]
    · rw [if_pos ⟨z, g0⟩]
      rw [pk_sub (by omega)] at r26
      have r28 := h28 (s.1 45 i - 1) (by omega)
      simp (disch := omega) only [i_X1_givenAt_0, i_X1_givenAt_1, i_X1_givenAt_2, i_X1_givenAt_5, i_X1_givenAt_10, i_X1_givenAt_11, i_X1_givenAt_14, i_X1_givenAt_15, i_X1_givenAt_16, i_X1_givenAt_17, i_X1_givenAt_20, i_X1_givenAt_21, i_X1_givenAt_24, i_X1_givenAt_25, i_X1_givenAt_26, i_X1_givenAt_27, i_X1_givenAt_37, i_X1_givenAt_38, i_X1_givenAt_41, i_X1_givenAt_42, i_X1_givenAt_45, i_X1_givenAt_46, i_X1_givenAt_47, i_X1_givenAt_48, gh_o3, gh_o24, gh_r25, gh_r26, gh_r27, gh_r28, gh_w28, gh_w27, gh_r30, gh_r31, gh_w30, gh_w31, gh_u3, gp_3_8, gf_24_0, gf_24_1, gf_24_2, gf_24_3, gf_24_4, gf_24_5, gf_3_0, gf_3_1, gf_3_2, gf_3_3, gf_3_4, gf_3_6, gf_3_7, gf_3_8, z_o_i, z_ai_i, z_si_i, z_ab_b, z_ab_z, z_sb_b, z_sb_z, z_al_i, z_al_b, z_pu_s, z_pu_n, nI_toN, z_inN, true_and, and_true, nI_add, pk_mul, vu_eq, vu_ne, nI_leI, nI_ltI, nI_eqI, nI_eq0, nI_le0, ↓ok_0, ↓ok_1, ↓bI_ok, if_true, if_false, nI_lt0, nI_ge0, ne_eq, not_true_eq_false, not_false_eq_true, bI_eq0, bI_ne0, bI_T, bI_F, Bool.false_eq_true, Nat.one_ne_zero, Nat.zero_ne_one, Nat.zero_add, nI_m1, nm_lt, nm_ge, nI_1ne, nI_0eq, nI_or, kH, yes, r27, r26, r28, me]
  · rw [if_neg (fun q => z q.1), pk_sub (by omega)]
    rw [pk_sub (by omega)] at r27
    simp (disch := omega) only [i_X1_givenAt_0, i_X1_givenAt_1, i_X1_givenAt_2, i_X1_givenAt_5, i_X1_givenAt_10, i_X1_givenAt_11, i_X1_givenAt_14, i_X1_givenAt_15, i_X1_givenAt_16, i_X1_givenAt_17, i_X1_givenAt_30, i_X1_givenAt_31, i_X1_givenAt_34, i_X1_givenAt_35, i_X1_givenAt_36, gh_o3, gh_o24, gh_r25, gh_r26, gh_r27, gh_r28, gh_w28, gh_w27, gh_r30, gh_r31, gh_w30, gh_w31, gh_u3, gp_3_8, gf_24_0, gf_24_1, gf_24_2, gf_24_3, gf_24_4, gf_24_5, gf_3_0, gf_3_1, gf_3_2, gf_3_3, gf_3_4, gf_3_6, gf_3_7, gf_3_8, z_o_i, z_ai_i, z_si_i, z_ab_b, z_ab_z, z_sb_b, z_sb_z, z_al_i, z_al_b, z_pu_s, z_pu_n, nI_toN, z_inN, true_and, and_true, nI_add, pk_mul, vu_eq, vu_ne, nI_leI, nI_ltI, nI_eqI, nI_eq0, nI_le0, ↓ok_0, ↓ok_1, ↓bI_ok, if_true, if_false, nI_lt0, nI_ge0, ne_eq, not_true_eq_false, not_false_eq_true, bI_eq0, bI_ne0, bI_T, bI_F, Bool.false_eq_true, Nat.one_ne_zero, Nat.zero_ne_one, Nat.zero_add, nI_m1, nm_lt, nm_ge, nI_1ne, nI_0eq, nI_or, kH, yes, r27]
theorem k_fil (hI : Iv s) : ∀ (m i D : Nat), i + m = s.1 32 16 → m + 7 ≤ D → Fi s dy nz wd ln D i (fun S t => gq s.1 s.2 (okl s.1) m i S t) := by
  have sc := hI.sc
  intro m
  induction m with
  | zero =>
    intro i D hi hD A P S t u nx Q hK h28 hS hz hb hU h3 ht hQ
    obtain ⟨e, rfl⟩ : ∃ e, D = e + 7 := ⟨D - 7, by omega⟩
    show X (e + 7) m_X7_fillFrom 0 [some (.ref 3), some (.int (nI i)), some (.int (nI u)), none, none, none, none, none] [] (GH A P dy) nx 0 0 Q
    have r0 := hK.1.2.1.1
    have lt : ¬ i < s.1 32 16 := by omega
    have hi' : i = s.1 32 16 := by omega
    simp (disch := omega) only [i_X7_fillFrom_0, i_X7_fillFrom_1, i_X7_fillFrom_2, i_X7_fillFrom_5, i_X7_fillFrom_8, i_X7_fillFrom_11, i_X7_fillFrom_12, gh_o3, gh_o24, gh_r25, gh_r26, gh_r27, gh_r28, gh_w28, gh_w27, gh_r30, gh_r31, gh_w30, gh_w31, gh_u3, gp_3_8, gf_24_0, gf_24_1, gf_24_2, gf_24_3, gf_24_4, gf_24_5, gf_3_0, gf_3_1, gf_3_2, gf_3_3, gf_3_4, gf_3_6, gf_3_7, gf_3_8, z_o_i, z_ai_i, z_si_i, z_ab_b, z_ab_z, z_sb_b, z_sb_z, z_al_i, z_al_b, z_pu_s, z_pu_n, nI_toN, z_inN, true_and, and_true, nI_add, pk_mul, vu_eq, vu_ne, nI_leI, nI_ltI, nI_eqI, nI_eq0, nI_le0, ↓ok_0, ↓ok_1, ↓bI_ok, if_true, if_false, nI_lt0, nI_ge0, ne_eq, not_true_eq_false, not_false_eq_true, bI_eq0, bI_ne0, bI_T, bI_F, Bool.false_eq_true, Nat.one_ne_zero, Nat.zero_ne_one, Nat.zero_add, nI_m1, nm_lt, nm_ge, nI_1ne, nI_0eq, nI_or, r0, lt]
    exact hQ A P hK Fz.refl rfl (fun _ _ => rfl) (fun _ k hk => h28 k (by omega)) h3 (Nat.le_succ 1) ht
  | succ m ih =>
    intro i D hi hD A P S t u nx Q hK h28 hS hz hb hU h3 ht hQ
    obtain ⟨e, rfl⟩ : ∃ e, D = e + 7 := ⟨D - 7, by omega⟩
    show X (e + 7) m_X7_fillFrom 0 [some (.ref 3), some (.int (nI i)), some (.int (nI u)), none, none, none, none, none] [] (GH A P dy) nx 0 0 Q
    have hG := ih (i + 1) (e + 6) (by omega) (by omega)
    have r0 := hK.1.2.1.1
    have lt : i < s.1 32 16 := by omega
    have kV : ∀ {d nx : Nat} {Q : z_Q}, XC (d + 1) m_X1_givenAt [.ref 24, .int (nI i)] (GH A P dy) nx Q = _ := k_given hI hK.1 lt h28 (hS i (Nat.le_refl _))
    have kS5 : ∀ {d nx : Nat} {Q : z_Q}, XC d m_Jx4a65c_size_8abf5 [.ref 5] (GH A P dy) nx Q = _ := k_size5 hK.2.1
    have gl5 : GH A P dy 5 = .inr (.inl (9, lsF (A 5 0) (P 5 1) (A 5 2))) := gh_l5
    have me : ((-1 : Int32) = -1) = True := by simp
    have m0 : (nI 0 - nI 1 : Int32) = -1 := by decide
    have bi := hb i lt
    have g45 := hI.2.2.2.1 i lt
    simp only [gq] at hQ
    -- a line that is given
    have giv : ∀ v : Nat, 1 ≤ v → v ≤ s.1 32 13 → (if S i = 0 ∧ ¬ s.1 45 i = 0 then nI (S (s.1 45 i - 1)) - nI 1 else nI (S i) - nI 1) = nI (v - 1) → (∀ C V, Ck s C V dy nz wd ln → Fz A C → C 27 = A 27 → (∀ k, k < i → C 28 k = A 28 k) → ((if fat (va_up s.1 46 (va_up S i v)) s.2 (okl s.1) i = 0 then gq s.1 s.2 (okl s.1) m (i + 1) (va_up S i v) t else (0, S, t)).1 = 1 → ∀ k, k < s.1 32 16 → C 28 k = nI ((if fat (va_up s.1 46 (va_up S i v)) s.2 (okl s.1) i = 0 then gq s.1 s.2 (okl s.1) m (i + 1) (va_up S i v) t else (0, S, t)).2.1 k) - nI 1) → C 3 8 = nI (if fat (va_up s.1 46 (va_up S i v)) s.2 (okl s.1) i = 0 then gq s.1 s.2 (okl s.1) m (i + 1) (va_up S i v) t else (0, S, t)).2.2 → (if fat (va_up s.1 46 (va_up S i v)) s.2 (okl s.1) i = 0 then gq s.1 s.2 (okl s.1) m (i + 1) (va_up S i v) t else (0, S, t)).1 ≤ 2 → (if fat (va_up s.1 46 (va_up S i v)) s.2 (okl s.1) i = 0 then gq s.1 s.2 (okl s.1) m (i + 1) (va_up S i v) t else (0, S, t)).2.2 ≤ 20000 → Q (some (.int (rC (if fat (va_up s.1 46 (va_up S i v)) s.2 (okl s.1) i = 0 then gq s.1 s.2 (okl s.1) m (i + 1) (va_up S i v) t else (0, S, t)).1))) (GH C V dy) nx) → X (e + 7) m_X7_fillFrom 0 [some (.ref 3), some (.int (nI i)), some (.int (nI u)), none, none, none, none, none] [] (GH A P dy) nx 0 0 Q := by
      intro v v1 v2 hv hQ'
      rw [hv] at kV
      have ll : ¬ v - 1 < v - 1 := by omega
      simp (disch := omega) only [i_X7_fillFrom_0, i_X7_fillFrom_1, i_X7_fillFrom_2, i_X7_fillFrom_5, i_X7_fillFrom_8, i_X7_fillFrom_13, i_X7_fillFrom_14, i_X7_fillFrom_17, i_X7_fillFrom_18, i_X7_fillFrom_21, i_X7_fillFrom_22, i_X7_fillFrom_23, i_X7_fillFrom_24, i_X7_fillFrom_27, i_X7_fillFrom_28, i_X7_fillFrom_31, i_X7_fillFrom_32, i_X7_fillFrom_34, i_X7_fillFrom_36, i_X7_fillFrom_51, i_X7_fillFrom_52, i_X7_fillFrom_54, i_X7_fillFrom_56, i_X7_fillFrom_63, i_X7_fillFrom_64, i_X7_fillFrom_66, i_X7_fillFrom_68, i_X7_fillFrom_70, i_X7_fillFrom_73, i_X7_fillFrom_75, i_X7_fillFrom_78, i_X7_fillFrom_79, i_X7_fillFrom_82, i_X7_fillFrom_85, i_X7_fillFrom_87, i_X7_fillFrom_88, i_X7_fillFrom_90, gh_o3, gh_o24, gh_r25, gh_r26, gh_r27, gh_r28, gh_w28, gh_w27, gh_r30, gh_r31, gh_w30, gh_w31, gh_u3, gp_3_8, gf_24_0, gf_24_1, gf_24_2, gf_24_3, gf_24_4, gf_24_5, gf_3_0, gf_3_1, gf_3_2, gf_3_3, gf_3_4, gf_3_6, gf_3_7, gf_3_8, z_o_i, z_ai_i, z_si_i, z_ab_b, z_ab_z, z_sb_b, z_sb_z, z_al_i, z_al_b, z_pu_s, z_pu_n, nI_toN, z_inN, true_and, and_true, nI_add, pk_mul, vu_eq, vu_ne, nI_leI, nI_ltI, nI_eqI, nI_eq0, nI_le0, ↓ok_0, ↓ok_1, ↓bI_ok, if_true, if_false, nI_lt0, nI_ge0, ne_eq, not_true_eq_false, not_false_eq_true, bI_eq0, bI_ne0, bI_T, bI_F, Bool.false_eq_true, Nat.one_ne_zero, Nat.zero_ne_one, Nat.zero_add, nI_m1, nm_lt, nm_ge, nI_1ne, nI_0eq, nI_or, r0, lt, kV, ll]
      have ev : va_up S i (v - 1 + 1) = va_up S i v := by rw [Nat.sub_add_cancel v1]
      refine s_fil (G := fun S t => gq s.1 s.2 (okl s.1) m (i + 1) S t) hI hG hK lt (by omega) h28 hS hz hb hU h3 ht ?_ ?_
      · intro C V y7 t' hC gz c27 clow c3 ct hc
        rw [ev] at hc
        have l2 : v - 1 < v - 1 + 1 := by omega
        simp (disch := omega) only [i_X7_fillFrom_156, i_X7_fillFrom_159, gh_o3, gh_o24, gh_r25, gh_r26, gh_r27, gh_r28, gh_w28, gh_w27, gh_r30, gh_r31, gh_w30, gh_w31, gh_u3, gp_3_8, gf_24_0, gf_24_1, gf_24_2, gf_24_3, gf_24_4, gf_24_5, gf_3_0, gf_3_1, gf_3_2, gf_3_3, gf_3_4, gf_3_6, gf_3_7, gf_3_8, z_o_i, z_ai_i, z_si_i, z_ab_b, z_ab_z, z_sb_b, z_sb_z, z_al_i, z_al_b, z_pu_s, z_pu_n, nI_toN, z_inN, true_and, and_true, nI_add, pk_mul, vu_eq, vu_ne, nI_leI, nI_ltI, nI_eqI, nI_eq0, nI_le0, ↓ok_0, ↓ok_1, ↓bI_ok, if_true, if_false, nI_lt0, nI_ge0, ne_eq, not_true_eq_false, not_false_eq_true, bI_eq0, bI_ne0, bI_T, bI_F, Bool.false_eq_true, Nat.one_ne_zero, Nat.zero_ne_one, Nat.zero_add, nI_m1, nm_lt, nm_ge, nI_1ne, nI_0eq, nI_or]
        rw [i_X7_fillFrom_66]
        simp (disch := omega) only [i_X7_fillFrom_68, i_X7_fillFrom_70, i_X7_fillFrom_162, i_X7_fillFrom_163, gh_o3, gh_o24, gh_r25, gh_r26, gh_r27, gh_r28, gh_w28, gh_w27, gh_r30, gh_r31, gh_w30, gh_w31, gh_u3, gp_3_8, gf_24_0, gf_24_1, gf_24_2, gf_24_3, gf_24_4, gf_24_5, gf_3_0, gf_3_1, gf_3_2, gf_3_3, gf_3_4, gf_3_6, gf_3_7, gf_3_8, z_o_i, z_ai_i, z_si_i, z_ab_b, z_ab_z, z_sb_b, z_sb_z, z_al_i, z_al_b, z_pu_s, z_pu_n, nI_toN, z_inN, true_and, and_true, nI_add, pk_mul, vu_eq, vu_ne, nI_leI, nI_ltI, nI_eqI, nI_eq0, nI_le0, ↓ok_0, ↓ok_1, ↓bI_ok, if_true, if_false, nI_lt0, nI_ge0, ne_eq, not_true_eq_false, not_false_eq_true, bI_eq0, bI_ne0, bI_T, bI_F, Bool.false_eq_true, Nat.one_ne_zero, Nat.zero_ne_one, Nat.zero_add, nI_m1, nm_lt, nm_ge, nI_1ne, nI_0eq, nI_or, l2]
        have q := hQ' C V hC gz c27 clow
        by_cases f0 : fat (va_up s.1 46 (va_up S i v)) s.2 (okl s.1) i = 0
        · rw [if_pos f0] at hc q
          have hc1 : (gq s.1 s.2 (okl s.1) m (i + 1) (va_up S i v) t).1 = 0 := hc.1
          have q2 := q (fun z => absurd z (by rw [hc1]; omega)) (by rw [c3, hc.2]) (by rw [hc1]; omega) (by rw [← hc.2]; exact ct)
          have e0 : rC (gq s.1 s.2 (okl s.1) m (i + 1) (va_up S i v) t).1 = nI 0 := by rw [show (gq s.1 s.2 (okl s.1) m (i + 1) (va_up S i v) t).1 = 0 from hc.1]; rfl
          rw [e0] at q2
          exact q2
        · rw [if_neg f0] at hc q
          exact q (fun z => absurd z (by simp)) (by rw [c3, hc]) (by simp) ht
      · intro C V hC gz c27 clow f0 g0 d28 c3 cb cb2
        rw [ev] at f0 g0 d28 c3 cb cb2 ⊢
        have q := hQ' C V hC gz c27 clow
        rw [if_pos f0] at q
        exact q d28 c3 cb cb2
    by_cases s0 : S i = 0
    · by_cases g0 : s.1 45 i = 0
      · have ev : (if S i = 0 ∧ ¬ s.1 45 i = 0 then nI (S (s.1 45 i - 1)) - nI 1 else nI (S i) - nI 1) = (-1 : Int32) := by rw [if_neg (fun q => q.2 g0), s0, m0]
        rw [ev] at kV
        have n1 : ¬ ¬ S i = 0 := fun q => q s0
        have n2 : ¬ ¬ s.1 45 i = 0 := fun q => q g0
        simp only [s0, g0, not_true_eq_false, if_false] at hQ
        simp (disch := omega) only [i_X7_fillFrom_0, i_X7_fillFrom_1, i_X7_fillFrom_2, i_X7_fillFrom_5, i_X7_fillFrom_8, i_X7_fillFrom_13, i_X7_fillFrom_14, i_X7_fillFrom_17, i_X7_fillFrom_18, i_X7_fillFrom_21, i_X7_fillFrom_22, i_X7_fillFrom_23, i_X7_fillFrom_24, i_X7_fillFrom_27, i_X7_fillFrom_28, i_X7_fillFrom_31, i_X7_fillFrom_32, i_X7_fillFrom_34, i_X7_fillFrom_36, i_X7_fillFrom_39, i_X7_fillFrom_40, i_X7_fillFrom_43, i_X7_fillFrom_46, i_X7_fillFrom_47, i_X7_fillFrom_48, i_X7_fillFrom_52, i_X7_fillFrom_54, i_X7_fillFrom_56, i_X7_fillFrom_59, i_X7_fillFrom_60, i_X7_fillFrom_64, gh_o3, gh_o24, gh_r25, gh_r26, gh_r27, gh_r28, gh_w28, gh_w27, gh_r30, gh_r31, gh_w30, gh_w31, gh_u3, gp_3_8, gf_24_0, gf_24_1, gf_24_2, gf_24_3, gf_24_4, gf_24_5, gf_3_0, gf_3_1, gf_3_2, gf_3_3, gf_3_4, gf_3_6, gf_3_7, gf_3_8, z_o_i, z_ai_i, z_si_i, z_ab_b, z_ab_z, z_sb_b, z_sb_z, z_al_i, z_al_b, z_pu_s, z_pu_n, nI_toN, z_inN, true_and, and_true, nI_add, pk_mul, vu_eq, vu_ne, nI_leI, nI_ltI, nI_eqI, nI_eq0, nI_le0, ↓ok_0, ↓ok_1, ↓bI_ok, if_true, if_false, nI_lt0, nI_ge0, ne_eq, not_true_eq_false, not_false_eq_true, bI_eq0, bI_ne0, bI_T, bI_F, Bool.false_eq_true, Nat.one_ne_zero, Nat.zero_ne_one, Nat.zero_add, nI_m1, nm_lt, nm_ge, nI_1ne, nI_0eq, nI_or, r0, lt, kV, me, kS5, gl5]
        exact l_fil (A := A) (G := fun S t => gq s.1 s.2 (okl s.1) m (i + 1) S t) hI hG lt hS hz hb hU hQ (s.1 32 13) 0 t A P none (by omega) hK Fz.refl rfl (fun _ _ => rfl) h28 h3 ht rfl
      · have za := hz (s.1 45 i - 1) (by omega)
        refine giv (S (s.1 45 i - 1)) za (hb _ (by omega)) (by rw [if_pos ⟨s0, g0⟩, pk_sub za]) ?_
        simp only [s0, g0, not_true_eq_false, not_false_eq_true, if_true, if_false] at hQ
        exact hQ
    · refine giv (S i) (by omega) bi (by rw [if_neg (fun q => s0 q.1), pk_sub (by omega)]) ?_
      simp only [s0, not_false_eq_true, if_true] at hQ
      rw [vu_self rfl]
      exact hQ
theorem x_complete {t : Int32} (hI : Iv s) (hK : Cl s A P dy nx) (hQ : ∀ B R, Cl (s_complete s t).2 B R dy nx → Fz A B → Q (some (.int (s_complete s t).1)) (GH B R dy) nx) : XC (d + 30) m_X7_complete [.ref 3, .int t] (GH A P dy) nx Q := by
  show X (d + 30) m_X7_complete 0 [some (.ref 3), some (.int t), none] [] (GH A P dy) nx 0 0 Q
  have hK' := hK
  obtain ⟨hC, wd, ln, hD⟩ := hK
  have sc := hI.sc
  unfold s_complete at hQ
  by_cases ht : ir t 1 20000 = true
  · rw [if_pos ht] at hQ
    obtain ⟨k, k1, k2, rfl⟩ := ir_ex ht
    rw [nI_toN (by omega)] at hQ
    have c1 : ¬ k < 1 := by omega
    simp (disch := omega) only [i_X7_complete_0, i_X7_complete_1, i_X7_complete_2, i_X7_complete_5, i_X7_complete_6, i_X7_complete_9, i_X7_complete_15, i_X7_complete_16, gh_o3, gh_o24, gh_r25, gh_r26, gh_r27, gh_r28, gh_w28, gh_w27, gh_r30, gh_r31, gh_w30, gh_w31, gh_u3, gp_3_8, gf_24_0, gf_24_1, gf_24_2, gf_24_3, gf_24_4, gf_24_5, gf_3_0, gf_3_1, gf_3_2, gf_3_3, gf_3_4, gf_3_6, gf_3_7, gf_3_8, z_o_i, z_ai_i, z_si_i, z_ab_b, z_ab_z, z_sb_b, z_sb_z, z_al_i, z_al_b, z_pu_s, z_pu_n, nI_toN, z_inN, true_and, and_true, nI_add, pk_mul, vu_eq, vu_ne, nI_leI, nI_ltI, nI_eqI, nI_eq0, nI_le0, ↓ok_0, ↓ok_1, ↓bI_ok, if_true, if_false, nI_lt0, nI_ge0, ne_eq, not_true_eq_false, not_false_eq_true, bI_eq0, bI_ne0, bI_T, bI_F, Bool.false_eq_true, Nat.one_ne_zero, Nat.zero_ne_one, Nat.zero_add, nI_m1, nm_lt, nm_ge, nI_1ne, nI_0eq, nI_or, c1, k2]
    refine k_forget (d := d + 28) hC hD (fun B hB hF => ?_)
    simp (disch := omega) only [i_X7_complete_19, i_X7_complete_20, i_X7_complete_21, i_X7_complete_24, i_X7_complete_25, i_X7_complete_26, i_X7_complete_27, gh_o3, gh_o24, gh_r25, gh_r26, gh_r27, gh_r28, gh_w28, gh_w27, gh_r30, gh_r31, gh_w30, gh_w31, gh_u3, gp_3_8, gf_24_0, gf_24_1, gf_24_2, gf_24_3, gf_24_4, gf_24_5, gf_3_0, gf_3_1, gf_3_2, gf_3_3, gf_3_4, gf_3_6, gf_3_7, gf_3_8, z_o_i, z_ai_i, z_si_i, z_ab_b, z_ab_z, z_sb_b, z_sb_z, z_al_i, z_al_b, z_pu_s, z_pu_n, nI_toN, z_inN, true_and, and_true, nI_add, pk_mul, vu_eq, vu_ne, nI_leI, nI_ltI, nI_eqI, nI_eq0, nI_le0, ↓ok_0, ↓ok_1, ↓bI_ok, if_true, if_false, nI_lt0, nI_ge0, ne_eq, not_true_eq_false, not_false_eq_true, bI_eq0, bI_ne0, bI_T, bI_F, Bool.false_eq_true, Nat.one_ne_zero, Nat.zero_ne_one, Nat.zero_add, nI_m1, nm_lt, nm_ge, nI_1ne, nI_0eq, nI_or]
    have hB1 : Ck s (va_up B 3 (va_up (B 3) 8 (nI k))) P dy nx wd ln := hB.u3
    have f1 : Fz A (va_up B 3 (va_up (B 3) 8 (nI k))) := hF.2.2.2.up (by omega)
    refine k_fil (dy := dy) (nz := nx) (wd := wd) (ln := ln) hI (s.1 32 16) 0 (d + 29) (by omega) (by omega) (va_up B 3 (va_up (B 3) 8 (nI k))) P (s.1 46) k 0 nx _ hB1 (fun j hj => absurd hj (Nat.not_lt_zero j)) (fun _ _ => rfl) (fun j hj => absurd hj (Nat.not_lt_zero j)) hI.2.2.2.2.1 Ub_0 (by rw [vu_eq, vu_eq]) k2 (fun C V hCk gz c27 clow d28 c3 cb cb2 => ?_)
    have kp := gq_keep (a := s.1) (L := s.2) (ok := okl s.1) (s.1 32 16) 0 (s.1 46) k
    replace d28 : (gq s.1 s.2 (okl s.1) (s.1 32 16) 0 (s.1 46) k).1 = 1 → ∀ j, j < s.1 32 16 → C 28 j = nI ((gq s.1 s.2 (okl s.1) (s.1 32 16) 0 (s.1 46) k).2.1 j) - nI 1 := d28
    replace cb : (gq s.1 s.2 (okl s.1) (s.1 32 16) 0 (s.1 46) k).1 ≤ 2 := cb
    show X (d + 30) m_X7_complete 30 [some (.ref 3), some (.int (nI k)), none] (z_pu (some (.int (rC (gq s.1 s.2 (okl s.1) (s.1 32 16) 0 (s.1 46) k).1))) []) (GH C V dy) nx 0 0 Q
    generalize gq s.1 s.2 (okl s.1) (s.1 32 16) 0 (s.1 46) k = R at hQ d28 cb kp ⊢
    by_cases r1 : R.1 = 1
    · rw [if_pos r1] at hQ
      have rc : rC R.1 = nI 1 := by rw [r1]; rfl
      have r16 := hCk.1.2.1.1
      simp (disch := omega) only [i_X7_complete_30, i_X7_complete_31, i_X7_complete_32, i_X7_complete_33, i_X7_complete_36, i_X7_complete_37, i_X7_complete_40, i_X7_complete_43, i_X7_complete_44, i_X7_complete_45, i_X7_complete_48, i_X7_complete_51, i_X7_complete_52, i_X7_complete_53, i_X7_complete_56, gh_o3, gh_o24, gh_r25, gh_r26, gh_r27, gh_r28, gh_w28, gh_w27, gh_r30, gh_r31, gh_w30, gh_w31, gh_u3, gp_3_8, gf_24_0, gf_24_1, gf_24_2, gf_24_3, gf_24_4, gf_24_5, gf_3_0, gf_3_1, gf_3_2, gf_3_3, gf_3_4, gf_3_6, gf_3_7, gf_3_8, z_o_i, z_ai_i, z_si_i, z_ab_b, z_ab_z, z_sb_b, z_sb_z, z_al_i, z_al_b, z_pu_s, z_pu_n, nI_toN, z_inN, true_and, and_true, nI_add, pk_mul, vu_eq, vu_ne, nI_leI, nI_ltI, nI_eqI, nI_eq0, nI_le0, ↓ok_0, ↓ok_1, ↓bI_ok, if_true, if_false, nI_lt0, nI_ge0, ne_eq, not_true_eq_false, not_false_eq_true, bI_eq0, bI_ne0, bI_T, bI_F, Bool.false_eq_true, Nat.one_ne_zero, Nat.zero_ne_one, Nat.zero_add, nI_m1, nm_lt, nm_ge, nI_1ne, nI_0eq, nI_or, rc, r16]
      rw [X_copyi (M := m_X7_complete) (pc := 59) (cp := 96) (k := 0) (n0 := 14) (n1 := 14) (f := C 28) (g := C 27) (by decide +kernel) rfl rfl rfl (Nat.le_of_ble_eq_true rfl) gh_r28 gh_r27 (Or.inl rfl) (by rw [nI_lt0 (by omega)]; exact id) (by decide) (by decide) (by rw [nI_toN (by omega), nI_toN (by omega)]; omega) (by rw [nI_toN (by omega), nI_toN (by omega)]; omega), gh_w27, nI_toN (by omega), nI_toN (by omega), i_X7_complete_62, i_X7_complete_63]
      refine hQ _ _ ⟨⟨hCk.1.1, ⟨hCk.1.2.1.1, hCk.1.2.1.2.1, hCk.1.2.1.2.2.1, hCk.1.2.1.2.2.2.1, fun j hj => ?_⟩, hCk.1.2.2⟩, wd, ln, hCk.2.1.of rfl rfl rfl rfl⟩ ((f1.trans gz).up (by omega))
      show va_cpy (C 28) (C 27) 0 0 (s.1 32 16) j = nI (R.2.1 j) - nI 1
      unfold va_cpy
      by_cases e : 0 ≤ j ∧ j < 0 + s.1 32 16
      · rw [if_pos e, Nat.zero_add, Nat.sub_zero]; exact d28 r1 j (by omega)
      · rw [if_neg e, kp j (by omega)]; exact hCk.1.2.1.2.2.2.2 j hj
    · rw [if_neg r1] at hQ
      have q := hQ C V ⟨hCk.1, wd, ln, hCk.2.1⟩ (f1.trans gz)
      have m1 : ((-6 : Int32) = nI 1) = False := by simp only [eq_iff_iff, iff_false]; decide
      by_cases r2 : R.1 = 2
      · have rc : rC R.1 = -6 := by rw [r2]; rfl
        rw [if_pos r2] at q
        simp (disch := omega) only [i_X7_complete_30, i_X7_complete_31, i_X7_complete_32, i_X7_complete_33, i_X7_complete_62, i_X7_complete_63, gh_o3, gh_o24, gh_r25, gh_r26, gh_r27, gh_r28, gh_w28, gh_w27, gh_r30, gh_r31, gh_w30, gh_w31, gh_u3, gp_3_8, gf_24_0, gf_24_1, gf_24_2, gf_24_3, gf_24_4, gf_24_5, gf_3_0, gf_3_1, gf_3_2, gf_3_3, gf_3_4, gf_3_6, gf_3_7, gf_3_8, z_o_i, z_ai_i, z_si_i, z_ab_b, z_ab_z, z_sb_b, z_sb_z, z_al_i, z_al_b, z_pu_s, z_pu_n, nI_toN, z_inN, true_and, and_true, nI_add, pk_mul, vu_eq, vu_ne, nI_leI, nI_ltI, nI_eqI, nI_eq0, nI_le0, ↓ok_0, ↓ok_1, ↓bI_ok, if_true, if_false, nI_lt0, nI_ge0, ne_eq, not_true_eq_false, not_false_eq_true, bI_eq0, bI_ne0, bI_T, bI_F, Bool.false_eq_true, Nat.one_ne_zero, Nat.zero_ne_one, Nat.zero_add, nI_m1, nm_lt, nm_ge, nI_1ne, nI_0eq, nI_or, rc, m1]
        exact q
      · have rc : rC R.1 = nI 0 := by unfold rC; rw [if_neg r1, if_neg r2]
        rw [if_neg r2] at q
        simp (disch := omega) only [i_X7_complete_30, i_X7_complete_31, i_X7_complete_32, i_X7_complete_33, i_X7_complete_62, i_X7_complete_63, gh_o3, gh_o24, gh_r25, gh_r26, gh_r27, gh_r28, gh_w28, gh_w27, gh_r30, gh_r31, gh_w30, gh_w31, gh_u3, gp_3_8, gf_24_0, gf_24_1, gf_24_2, gf_24_3, gf_24_4, gf_24_5, gf_3_0, gf_3_1, gf_3_2, gf_3_3, gf_3_4, gf_3_6, gf_3_7, gf_3_8, z_o_i, z_ai_i, z_si_i, z_ab_b, z_ab_z, z_sb_b, z_sb_z, z_al_i, z_al_b, z_pu_s, z_pu_n, nI_toN, z_inN, true_and, and_true, nI_add, pk_mul, vu_eq, vu_ne, nI_leI, nI_ltI, nI_eqI, nI_eq0, nI_le0, ↓ok_0, ↓ok_1, ↓bI_ok, if_true, if_false, nI_lt0, nI_ge0, ne_eq, not_true_eq_false, not_false_eq_true, bI_eq0, bI_ne0, bI_T, bI_F, Bool.false_eq_true, Nat.one_ne_zero, Nat.zero_ne_one, Nat.zero_add, nI_m1, nm_lt, nm_ge, nI_1ne, nI_0eq, nI_or, rc]
        exact q
  · rw [if_neg ht] at hQ
    simp only [ir, decide_eq_true_eq] at ht
    by_cases n1 : t < nI 1
    · simp (disch := omega) only [i_X7_complete_0, i_X7_complete_1, i_X7_complete_2, i_X7_complete_12, i_X7_complete_14, gh_o3, gh_o24, gh_r25, gh_r26, gh_r27, gh_r28, gh_w28, gh_w27, gh_r30, gh_r31, gh_w30, gh_w31, gh_u3, gp_3_8, gf_24_0, gf_24_1, gf_24_2, gf_24_3, gf_24_4, gf_24_5, gf_3_0, gf_3_1, gf_3_2, gf_3_3, gf_3_4, gf_3_6, gf_3_7, gf_3_8, z_o_i, z_ai_i, z_si_i, z_ab_b, z_ab_z, z_sb_b, z_sb_z, z_al_i, z_al_b, z_pu_s, z_pu_n, nI_toN, z_inN, true_and, and_true, nI_add, pk_mul, vu_eq, vu_ne, nI_leI, nI_ltI, nI_eqI, nI_eq0, nI_le0, ↓ok_0, ↓ok_1, ↓bI_ok, if_true, if_false, nI_lt0, nI_ge0, ne_eq, not_true_eq_false, not_false_eq_true, bI_eq0, bI_ne0, bI_T, bI_F, Bool.false_eq_true, Nat.one_ne_zero, Nat.zero_ne_one, Nat.zero_add, nI_m1, nm_lt, nm_ge, nI_1ne, nI_0eq, nI_or, n1]
      exact hQ A P hK' Fz.refl
    · have n12 : ¬ t ≤ nI 20000 := by
        rw [Int32.lt_iff_toInt_lt, nI_toInt (by omega)] at n1
        rw [Int32.le_iff_toInt_le, nI_toInt (by omega)]
        omega
      simp (disch := omega) only [i_X7_complete_0, i_X7_complete_1, i_X7_complete_2, i_X7_complete_5, i_X7_complete_6, i_X7_complete_9, i_X7_complete_12, i_X7_complete_14, gh_o3, gh_o24, gh_r25, gh_r26, gh_r27, gh_r28, gh_w28, gh_w27, gh_r30, gh_r31, gh_w30, gh_w31, gh_u3, gp_3_8, gf_24_0, gf_24_1, gf_24_2, gf_24_3, gf_24_4, gf_24_5, gf_3_0, gf_3_1, gf_3_2, gf_3_3, gf_3_4, gf_3_6, gf_3_7, gf_3_8, z_o_i, z_ai_i, z_si_i, z_ab_b, z_ab_z, z_sb_b, z_sb_z, z_al_i, z_al_b, z_pu_s, z_pu_n, nI_toN, z_inN, true_and, and_true, nI_add, pk_mul, vu_eq, vu_ne, nI_leI, nI_ltI, nI_eqI, nI_eq0, nI_le0, ↓ok_0, ↓ok_1, ↓bI_ok, if_true, if_false, nI_lt0, nI_ge0, ne_eq, not_true_eq_false, not_false_eq_true, bI_eq0, bI_ne0, bI_T, bI_F, Bool.false_eq_true, Nat.one_ne_zero, Nat.zero_ne_one, Nat.zero_add, nI_m1, nm_lt, nm_ge, nI_1ne, nI_0eq, nI_or, n1, n12]
      exact hQ A P hK' Fz.refl
end CFil
