/-! THE MODEL: layLine, its end -/
theorem lo_tk1 {S x : Nat × Nat} (hx : x.2 ≤ 2000) (q : lo 1000000000 S ≤ lo 1000000000 x) : lo 1000000000 (tk S x.1 x.2) = lo 1000000000 S := by
  by_cases z : x.1 = 0
  · rw [tk, if_pos z]
  · rw [lo_pos z] at q
    have y : ¬ S.1 = 0 := by intro y; rw [lo, if_pos y] at q; omega
    rw [lo_pos y] at q
    have t1 : ¬ (tk S x.1 x.2).1 = 0 := by
      rw [tk, if_neg z]
      show ¬ min (S.1 + x.1) 1000000 = 0
      omega
    rw [lo_pos y, lo_pos t1, tk, if_neg z]
    simp only [y, if_false]
    omega
theorem lo_tk2 {S x : Nat × Nat} (hS : S.2 ≤ 2000) (q : ¬ lo 1000000000 S ≤ lo 1000000000 x) : lo 1000000000 (tk S x.1 x.2) = lo 1000000000 x := by
  by_cases z : x.1 = 0
  · have := lo_le hS
    rw [show lo 1000000000 x = 1000000000 from if_pos z] at q; omega
  · rw [lo_pos z] at q ⊢
    have t1 : ¬ (tk S x.1 x.2).1 = 0 := by
      rw [tk, if_neg z]
      show ¬ min (S.1 + x.1) 1000000 = 0
      omega
    rw [lo_pos t1, tk, if_neg z]
    by_cases y : S.1 = 0
    · simp only [y, if_true]
    · rw [lo_pos y] at q
      simp only [y, if_false]
      omega
theorem sY_b {s : Nat → Nat × Nat} {b B : Nat} (h : ∀ k, (s k).1 ≤ 1000000 ∧ (s k).2 ≤ B) : ∀ j, (sY s b j).1 ≤ 1000000 ∧ (sY s b j).2 ≤ B := by
  intro j
  induction j with
  | zero => exact ⟨Nat.zero_le _, Nat.zero_le _⟩
  | succ j ih => exact tk_b ih (h _).2
theorem sT_b {s : Nat → Nat × Nat} {b : Nat} (h : ∀ k, (s k).1 ≤ 1000000) : ∀ j, sT s b j ≤ 1000000 * j := by
  intro j
  induction j with
  | zero => exact Nat.le_refl _
  | succ j ih => have := h (b + j); rw [sT]; omega
section MLay2
variable {a : Nat → Nat → Nat} {A : Nat → Nat → Int32} {P : Nat → Nat → Nat} {dy : z_H} {d nx bc bs : Nat} {Q : z_Q} {s : Nat → Nat × Nat} {x1 x2 x3 : Option Value} {marks B : Nat}
theorem l_ll3 (hm : marks ≤ 12) (hB : B ≤ 2000) (h11 : A 32 11 = nI marks) (hs : Rs 1000000000 B 112 s (A 54) (A 55)) (hQ : ∀ C, Fl A C → C 32 36 = nI (sY s (8 * marks) 4).1 → C 32 37 = nI (lo 1000000000 (sY s (8 * marks) 4)) → Q none (GH C P dy) nx) : ∀ (m j : Nat) (C : Nat → Nat → Int32), j + m = 4 → Fl A C → C 54 = A 54 → C 55 = A 55 → C 32 36 = nI (sT s (8 * marks) j) → C 32 37 = nI (lo 1000000000 (sY s (8 * marks) j)) → X (d + 4) m_X8_layLine 138 [some (.ref 32), x1, x2, x3, some (.int (nI (8 * marks + j)))] [] (GH C P dy) nx bc bs Q := by
  intro m
  induction m with
  | zero =>
    intro j C hj hF g4 g5 h6 h7
    have e : j = 4 := by omega
    subst e
    have r11 : C 32 11 = nI marks := by rw [hF.2 11 (by omega) (by omega)]; exact h11
    have bT := sT_b (s := s) (b := 8 * marks) (fun k => (hs.2 k).1) 4
    have y1 := sY_1 (s := s) (b := 8 * marks) 4
    have fin : ∀ v : Nat, v = (sY s (8 * marks) 4).1 → Q none (GH (va_up C 32 (va_up (C 32) 36 (nI v))) P dy) nx := by
      intro v hv
      refine hQ _ (hF.trans ⟨fun k _ h2 => vu_ne h2, fun k h1 _ => by rw [vu_eq, vu_ne h1]⟩) ?_ ?_
      · rw [vu_eq, vu_eq, hv]
      · rw [vu_eq, vu_ne (by omega)]; exact h7
    by_cases le : sT s (8 * marks) 4 ≤ 1000000
    · simp (disch := omega) only [i_X8_layLine_138, i_X8_layLine_140, i_X8_layLine_142, i_X8_layLine_143, i_X8_layLine_146, i_X8_layLine_147, i_X8_layLine_148, i_X8_layLine_149, i_X8_layLine_216, i_X8_layLine_217, i_X8_layLine_218, i_X8_layLine_221, i_X8_layLine_223, i_X8_layLine_226, i_X8_layLine_228, i_X8_layLine_231, i_X8_layLine_232, i_X8_layLine_235, i_X8_layLine_238, gh_o32, gh_u32, gh_r41, gh_r42, gh_r43, gh_r54, gh_r55, gh_w54, gh_w55, gf_32_11, gf_32_12, gf_32_14, gf_32_15, gf_32_28, gf_32_29, gf_32_36, gf_32_37, gp_32_36, gp_32_37, z_o_i, z_ai_i, z_si_i, z_ab_b, z_ab_z, z_sb_b, z_sb_z, z_al_i, z_al_b, z_pu_s, z_pu_n, nI_toN, z_inN, true_and, and_true, nI_add, pk_mul, vu_eq, vu_ne, nI_leI, nI_ltI, nI_eqI, nI_eq0, ↓ok_0, ↓ok_1, bI_eq0, bI_ne0, ↓bI_ok, Nat.one_ne_zero, if_true, if_false, ne_eq, not_true_eq_false, not_false_eq_true, nI_1ne, nI_0eq, nI_le0, pk_sub, bI_T, bI_F, Nat.zero_ne_one, Bool.false_eq_true, r11, h6, le, Nat.le_refl]
      exact fin _ (by omega)
    · simp (disch := omega) only [i_X8_layLine_138, i_X8_layLine_140, i_X8_layLine_142, i_X8_layLine_143, i_X8_layLine_146, i_X8_layLine_147, i_X8_layLine_148, i_X8_layLine_149, i_X8_layLine_216, i_X8_layLine_217, i_X8_layLine_218, i_X8_layLine_221, i_X8_layLine_223, i_X8_layLine_226, i_X8_layLine_228, i_X8_layLine_231, i_X8_layLine_232, i_X8_layLine_235, i_X8_layLine_238, gh_o32, gh_u32, gh_r41, gh_r42, gh_r43, gh_r54, gh_r55, gh_w54, gh_w55, gf_32_11, gf_32_12, gf_32_14, gf_32_15, gf_32_28, gf_32_29, gf_32_36, gf_32_37, gp_32_36, gp_32_37, z_o_i, z_ai_i, z_si_i, z_ab_b, z_ab_z, z_sb_b, z_sb_z, z_al_i, z_al_b, z_pu_s, z_pu_n, nI_toN, z_inN, true_and, and_true, nI_add, pk_mul, vu_eq, vu_ne, nI_leI, nI_ltI, nI_eqI, nI_eq0, ↓ok_0, ↓ok_1, bI_eq0, bI_ne0, ↓bI_ok, Nat.one_ne_zero, if_true, if_false, ne_eq, not_true_eq_false, not_false_eq_true, nI_1ne, nI_0eq, nI_le0, pk_sub, bI_T, bI_F, Nat.zero_ne_one, Bool.false_eq_true, r11, h6, le, Nat.le_refl]
      exact fin _ (by omega)
  | succ m ih =>
    intro j C hj hF g4 g5 h6 h7
    have r11 : C 32 11 = nI marks := by rw [hF.2 11 (by omega) (by omega)]; exact h11
    have bT := sT_b (s := s) (b := 8 * marks) (fun k => (hs.2 k).1) j
    have bY := sY_b (b := 8 * marks) hs.2 j
    have ly := lo_le (y := sY s (8 * marks) j) (by omega)
    obtain ⟨r1, r2⟩ := hs.1 (8 * marks + j) (by omega)
    obtain ⟨b1, b2⟩ := hs.2 (8 * marks + j)
    have lx := lo_le (y := s (8 * marks + j)) (by omega)
    rw [← g4] at r1
    rw [← g5] at r2
    have nle : ¬ 8 * marks + 4 ≤ 8 * marks + j := by omega
    have key : ∀ l : Nat, l = lo 1000000000 (sY s (8 * marks) (j + 1)) → X (d + 4) m_X8_layLine 138 [some (.ref 32), x1, x2, x3, some (.int (nI (8 * marks + j + 1)))] [] (GH (va_up (va_up C 32 (va_up (C 32) 36 (nI (sT s (8 * marks) j + (s (8 * marks + j)).1)))) 32 (va_up (va_up (C 32) 36 (nI (sT s (8 * marks) j + (s (8 * marks + j)).1))) 37 (nI l))) P dy) nx bc bs Q := by
      intro l hl
      have q := ih (j + 1) (va_up (va_up C 32 (va_up (C 32) 36 (nI (sT s (8 * marks) j + (s (8 * marks + j)).1)))) 32 (va_up (va_up (C 32) 36 (nI (sT s (8 * marks) j + (s (8 * marks + j)).1))) 37 (nI l))) (by omega) (hF.trans ⟨fun k _ h2 => by rw [vu_ne h2, vu_ne h2], fun k h1 h2 => by rw [vu_eq, vu_ne h2, vu_ne h1]⟩) (by rw [vu_ne (by omega), vu_ne (by omega)]; exact g4) (by rw [vu_ne (by omega), vu_ne (by omega)]; exact g5) (by rw [vu_eq, vu_ne (by omega), vu_eq]; rfl) (by rw [vu_eq, vu_eq, hl])
      rw [← Nat.add_assoc] at q
      exact q
    rw [i_X8_layLine_138]
    by_cases z : (s (8 * marks + j)).1 = 0
    · have z' : (s (8 * marks + j)).1 ≤ 0 := by omega
      simp (disch := omega) only [i_X8_layLine_140, i_X8_layLine_142, i_X8_layLine_143, i_X8_layLine_146, i_X8_layLine_147, i_X8_layLine_148, i_X8_layLine_149, i_X8_layLine_152, i_X8_layLine_153, i_X8_layLine_154, i_X8_layLine_157, i_X8_layLine_158, i_X8_layLine_161, i_X8_layLine_163, i_X8_layLine_164, i_X8_layLine_165, i_X8_layLine_168, i_X8_layLine_169, i_X8_layLine_170, i_X8_layLine_173, i_X8_layLine_175, i_X8_layLine_176, i_X8_layLine_203, i_X8_layLine_204, i_X8_layLine_207, i_X8_layLine_210, i_X8_layLine_213, gh_o32, gh_u32, gh_r41, gh_r42, gh_r43, gh_r54, gh_r55, gh_w54, gh_w55, gf_32_11, gf_32_12, gf_32_14, gf_32_15, gf_32_28, gf_32_29, gf_32_36, gf_32_37, gp_32_36, gp_32_37, z_o_i, z_ai_i, z_si_i, z_ab_b, z_ab_z, z_sb_b, z_sb_z, z_al_i, z_al_b, z_pu_s, z_pu_n, nI_toN, z_inN, true_and, and_true, nI_add, pk_mul, vu_eq, vu_ne, nI_leI, nI_ltI, nI_eqI, nI_eq0, ↓ok_0, ↓ok_1, bI_eq0, bI_ne0, ↓bI_ok, Nat.one_ne_zero, if_true, if_false, ne_eq, not_true_eq_false, not_false_eq_true, nI_1ne, nI_0eq, nI_le0, pk_sub, bI_T, bI_F, Nat.zero_ne_one, Bool.false_eq_true, r11, h6, h7, r1, nle, z']
      exact key _ (by rw [sY, tk, if_pos z])
    · have z' : ¬ (s (8 * marks + j)).1 ≤ 0 := by omega
      by_cases cl : lo 1000000000 (sY s (8 * marks) j) ≤ lo 1000000000 (s (8 * marks + j))
      · simp (disch := omega) only [i_X8_layLine_140, i_X8_layLine_142, i_X8_layLine_143, i_X8_layLine_146, i_X8_layLine_147, i_X8_layLine_148, i_X8_layLine_149, i_X8_layLine_152, i_X8_layLine_153, i_X8_layLine_154, i_X8_layLine_157, i_X8_layLine_158, i_X8_layLine_161, i_X8_layLine_163, i_X8_layLine_164, i_X8_layLine_165, i_X8_layLine_168, i_X8_layLine_169, i_X8_layLine_170, i_X8_layLine_173, i_X8_layLine_175, i_X8_layLine_176, i_X8_layLine_179, i_X8_layLine_180, i_X8_layLine_183, i_X8_layLine_185, i_X8_layLine_186, i_X8_layLine_187, i_X8_layLine_190, i_X8_layLine_193, i_X8_layLine_194, i_X8_layLine_197, i_X8_layLine_199, i_X8_layLine_200, i_X8_layLine_203, i_X8_layLine_204, i_X8_layLine_207, i_X8_layLine_210, i_X8_layLine_213, gh_o32, gh_u32, gh_r41, gh_r42, gh_r43, gh_r54, gh_r55, gh_w54, gh_w55, gf_32_11, gf_32_12, gf_32_14, gf_32_15, gf_32_28, gf_32_29, gf_32_36, gf_32_37, gp_32_36, gp_32_37, z_o_i, z_ai_i, z_si_i, z_ab_b, z_ab_z, z_sb_b, z_sb_z, z_al_i, z_al_b, z_pu_s, z_pu_n, nI_toN, z_inN, true_and, and_true, nI_add, pk_mul, vu_eq, vu_ne, nI_leI, nI_ltI, nI_eqI, nI_eq0, ↓ok_0, ↓ok_1, bI_eq0, bI_ne0, ↓bI_ok, Nat.one_ne_zero, if_true, if_false, ne_eq, not_true_eq_false, not_false_eq_true, nI_1ne, nI_0eq, nI_le0, pk_sub, bI_T, bI_F, Nat.zero_ne_one, Bool.false_eq_true, r11, h6, h7, r1, r2, nle, z', cl]
        exact key _ (by rw [sY, lo_tk1 (by omega) cl])
      · simp (disch := omega) only [i_X8_layLine_140, i_X8_layLine_142, i_X8_layLine_143, i_X8_layLine_146, i_X8_layLine_147, i_X8_layLine_148, i_X8_layLine_149, i_X8_layLine_152, i_X8_layLine_153, i_X8_layLine_154, i_X8_layLine_157, i_X8_layLine_158, i_X8_layLine_161, i_X8_layLine_163, i_X8_layLine_164, i_X8_layLine_165, i_X8_layLine_168, i_X8_layLine_169, i_X8_layLine_170, i_X8_layLine_173, i_X8_layLine_175, i_X8_layLine_176, i_X8_layLine_179, i_X8_layLine_180, i_X8_layLine_183, i_X8_layLine_185, i_X8_layLine_186, i_X8_layLine_187, i_X8_layLine_190, i_X8_layLine_193, i_X8_layLine_194, i_X8_layLine_197, i_X8_layLine_199, i_X8_layLine_200, i_X8_layLine_203, i_X8_layLine_204, i_X8_layLine_207, i_X8_layLine_210, i_X8_layLine_213, gh_o32, gh_u32, gh_r41, gh_r42, gh_r43, gh_r54, gh_r55, gh_w54, gh_w55, gf_32_11, gf_32_12, gf_32_14, gf_32_15, gf_32_28, gf_32_29, gf_32_36, gf_32_37, gp_32_36, gp_32_37, z_o_i, z_ai_i, z_si_i, z_ab_b, z_ab_z, z_sb_b, z_sb_z, z_al_i, z_al_b, z_pu_s, z_pu_n, nI_toN, z_inN, true_and, and_true, nI_add, pk_mul, vu_eq, vu_ne, nI_leI, nI_ltI, nI_eqI, nI_eq0, ↓ok_0, ↓ok_1, bI_eq0, bI_ne0, ↓bI_ok, Nat.one_ne_zero, if_true, if_false, ne_eq, not_true_eq_false, not_false_eq_true, nI_1ne, nI_0eq, nI_le0, pk_sub, bI_T, bI_F, Nat.zero_ne_one, Bool.false_eq_true, r11, h6, h7, r1, r2, nle, z', cl]
        exact key _ (by rw [sY, lo_tk2 (by omega) cl])
theorem c_layLine {l o : Nat} {p : Option Nat} (hR : Rp a A) (hl : l < 16) (ho : o < 24) (hp : ∀ y, p = some y → y < 100) (hQ : ∀ C, Fl A C → C 32 36 = nI (lyq a l p o).1 → C 32 37 = nI (lo 1000000000 (lyq a l p o)) → Q none (GH C P dy) nx) : XC (d + 4) m_X8_layLine [.ref 32, .int (nI l), .int (oI p), .int (nI o)] (GH A P dy) nx Q := by
  show X (d + 4) m_X8_layLine 0 [some (.ref 32), some (.int (nI l)), some (.int (oI p)), some (.int (nI o)), none] [] (GH A P dy) nx 0 0 Q
  have hb := hR.2.2.1
  have hsc := hR.2.2.2
  have b42 := (hb l).2.2.2.2.2.2.2.1
  have b41 := (hb 0).2.2.2.2.2.2.1
  rw [i_X8_layLine_0, i_X8_layLine_1]
  refine l_ll1 (A := A) (fun C hC h => ?_) 112 0 A (by omega) (fun _ _ _ => rfl) (fun j hj => absurd hj (by omega))
  have hFC : Fw A C := fun k hk => hC k (by omega) (by omega)
  have hRC := hFC.rp hR
  have r41 : C 41 0 = nI (a 41 0) := hRC.1.2.2.2.2.2.2.1 0
  have go : ∀ D, Fw A D → Rs 1000000000 4 112 (in0 a) (D 54) (D 55) → X (d + 4) m_X8_layLine 72 [some (.ref 32), some (.int (nI l)), some (.int (oI p)), some (.int (nI o)), some (.int (nI 112))] [] (GH D P dy) nx 0 0 Q := by
    intro D hD rD
    rw [i_X8_layLine_72, i_X8_layLine_73]
    refine l_ll2 (A := A) hR hl ho hp (fun E hE rE => ?_) (a 42 l) 0 D (by omega) hD rD
    have r11 : E 32 11 = nI (a 32 11) := (hE.rp hR).2.1.2.2.1
    simp (disch := omega) only [i_X8_layLine_118, i_X8_layLine_119, i_X8_layLine_120, i_X8_layLine_123, i_X8_layLine_124, i_X8_layLine_126, i_X8_layLine_129, i_X8_layLine_131, i_X8_layLine_132, i_X8_layLine_135, i_X8_layLine_136, gh_o32, gh_u32, gh_r41, gh_r42, gh_r43, gh_r54, gh_r55, gh_w54, gh_w55, gf_32_11, gf_32_12, gf_32_14, gf_32_15, gf_32_28, gf_32_29, gf_32_36, gf_32_37, gp_32_36, gp_32_37, z_o_i, z_ai_i, z_si_i, z_ab_b, z_ab_z, z_sb_b, z_sb_z, z_al_i, z_al_b, z_pu_s, z_pu_n, nI_toN, z_inN, true_and, and_true, nI_add, pk_mul, vu_eq, vu_ne, nI_leI, nI_ltI, nI_eqI, nI_eq0, ↓ok_0, ↓ok_1, bI_eq0, bI_ne0, ↓bI_ok, Nat.one_ne_zero, if_true, if_false, ne_eq, not_true_eq_false, not_false_eq_true, nI_1ne, nI_0eq, nI_le0, pk_sub, bI_T, bI_F, Nat.zero_ne_one, Bool.false_eq_true, r11]
    refine l_ll3 (A := E) (marks := a 32 11) (s := liF a l p o (a 42 l)) (B := 4 + 36 * a 42 l) hsc.2.2.2.1 (by omega) r11 rE (fun G hG g6 g7 => hQ G (hE.fl.trans hG) g6 g7) 4 0 _ (by omega) ⟨fun k _ h2 => by rw [vu_ne h2, vu_ne h2], fun k h1 h2 => by rw [vu_eq, vu_ne h2, vu_ne h1]⟩ (by rw [vu_ne (by omega), vu_ne (by omega)]) (by rw [vu_ne (by omega), vu_ne (by omega)]) (by rw [vu_eq, vu_ne (by omega), vu_eq]; rfl) (by rw [vu_eq, vu_eq]; rfl)
  by_cases z : a 41 0 = 0
  · simp (disch := omega) only [i_X8_layLine_33, i_X8_layLine_34, i_X8_layLine_37, i_X8_layLine_38, i_X8_layLine_39, i_X8_layLine_40, i_X8_layLine_41, i_X8_layLine_44, i_X8_layLine_45, i_X8_layLine_46, i_X8_layLine_47, i_X8_layLine_48, i_X8_layLine_51, i_X8_layLine_52, i_X8_layLine_53, i_X8_layLine_56, i_X8_layLine_57, i_X8_layLine_60, i_X8_layLine_62, i_X8_layLine_63, i_X8_layLine_64, i_X8_layLine_65, i_X8_layLine_68, i_X8_layLine_70, i_X8_layLine_71, gh_o32, gh_u32, gh_r41, gh_r42, gh_r43, gh_r54, gh_r55, gh_w54, gh_w55, gf_32_11, gf_32_12, gf_32_14, gf_32_15, gf_32_28, gf_32_29, gf_32_36, gf_32_37, gp_32_36, gp_32_37, z_o_i, z_ai_i, z_si_i, z_ab_b, z_ab_z, z_sb_b, z_sb_z, z_al_i, z_al_b, z_pu_s, z_pu_n, nI_toN, z_inN, true_and, and_true, nI_add, pk_mul, vu_eq, vu_ne, nI_leI, nI_ltI, nI_eqI, nI_eq0, ↓ok_0, ↓ok_1, bI_eq0, bI_ne0, ↓bI_ok, Nat.one_ne_zero, if_true, if_false, ne_eq, not_true_eq_false, not_false_eq_true, nI_1ne, nI_0eq, nI_le0, pk_sub, bI_T, bI_F, Nat.zero_ne_one, Bool.false_eq_true, r41, z]
    refine go _ (fun k hk => by rw [vu_ne (by omega), vu_ne (by omega), vu_ne (by omega), vu_ne (by omega)]; exact hFC k hk) ⟨fun k hk => ?_, fun k => ?_⟩
    · simp (disch := omega) only [vu_eq, vu_ne]
      simp only [in0, z, if_true, vu_if]
      by_cases e8 : k = 8
      · simp only [e8, if_true]; exact ⟨trivial, rfl⟩
      · by_cases e0 : k = 0
        · simp only [e0, if_true]; exact ⟨rfl, rfl⟩
        · simp only [e8, e0, if_false]; exact h k hk
    · simp only [in0, z, if_true, vu_if]
      by_cases e8 : k = 8
      · simp only [e8, if_true]; omega
      · by_cases e0 : k = 0
        · simp only [e0, if_true]; exact ⟨by decide, by decide⟩
        · simp only [e8, e0, if_false]; omega
  · simp (disch := omega) only [i_X8_layLine_33, i_X8_layLine_34, i_X8_layLine_37, i_X8_layLine_38, i_X8_layLine_39, i_X8_layLine_40, i_X8_layLine_41, i_X8_layLine_44, i_X8_layLine_45, i_X8_layLine_46, i_X8_layLine_47, i_X8_layLine_48, i_X8_layLine_51, i_X8_layLine_52, i_X8_layLine_53, gh_o32, gh_u32, gh_r41, gh_r42, gh_r43, gh_r54, gh_r55, gh_w54, gh_w55, gf_32_11, gf_32_12, gf_32_14, gf_32_15, gf_32_28, gf_32_29, gf_32_36, gf_32_37, gp_32_36, gp_32_37, z_o_i, z_ai_i, z_si_i, z_ab_b, z_ab_z, z_sb_b, z_sb_z, z_al_i, z_al_b, z_pu_s, z_pu_n, nI_toN, z_inN, true_and, and_true, nI_add, pk_mul, vu_eq, vu_ne, nI_leI, nI_ltI, nI_eqI, nI_eq0, ↓ok_0, ↓ok_1, bI_eq0, bI_ne0, ↓bI_ok, Nat.one_ne_zero, if_true, if_false, ne_eq, not_true_eq_false, not_false_eq_true, nI_1ne, nI_0eq, nI_le0, pk_sub, bI_T, bI_F, Nat.zero_ne_one, Bool.false_eq_true, r41, z]
    refine go _ (fun k hk => by rw [vu_ne (by omega), vu_ne (by omega)]; exact hFC k hk) ⟨fun k hk => ?_, fun k => ?_⟩
    · simp (disch := omega) only [vu_eq, vu_ne]
      simp only [in0, z, if_false, vu_if]
      by_cases e0 : k = 0
      · simp only [e0, if_true]; exact ⟨trivial, rfl⟩
      · simp only [e0, if_false]; exact h k hk
    · simp only [in0, z, if_false, vu_if]
      by_cases e0 : k = 0
      · simp only [e0, if_true]; omega
      · simp only [e0, if_false]; omega
end MLay2
