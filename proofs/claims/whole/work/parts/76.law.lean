/-! THE LAW -/
/-- the state at the start -/
def i0 : Nat → Nat → Nat := fun k => match k with
  | 32 => fun j => if j = 10 then 10 else if j = 11 then 1 else 0
  | 38 => fun _ => 1
  | 40 => pt (fun _ => 0) id 0 40
  | 45 => fun _ => 1
  | 46 => fun _ => 1
  | _ => fun _ => 0
def is0 : z_S := (i0, fun _ => 0)
theorem i40 (i : Nat) : pt (fun _ => (0 : Int32)) nI 0 40 i = nI (pt (fun _ => 0) id 0 40 i) := by
  unfold pt
  by_cases e : 0 ≤ i ∧ i < 0 + 40
  · rw [if_pos e, if_pos e]; rfl
  · rw [if_neg e, if_neg e]; rfl
theorem i40b (i : Nat) : pt (fun _ => 0) id 0 40 i < 40 := by
  unfold pt
  by_cases e : 0 ≤ i ∧ i < 0 + 40
  · rw [if_pos e]; show i - 0 < 40; omega
  · rw [if_neg e]; show 0 < 40; omega
theorem z_11 : (0 : Int32) = nI 1 - nI 1 := by decide
theorem mo_0 : Mo is0 iA := by
  refine ⟨⟨⟨fun _ => rfl, fun _ => rfl, fun _ => rfl, fun _ => rfl, fun _ => rfl, fun i => i40 i, fun _ => rfl, fun _ => rfl, fun _ => rfl, fun _ => rfl, fun _ => z_11, fun _ => z_11, fun _ => z_11⟩, ⟨rfl, rfl, rfl, rfl, rfl, rfl⟩, fun i => ?_, ?_⟩, rfl, ⟨⟨fun x hx => ?_, fun w k hw => absurd hw (Nat.not_lt_zero w)⟩, fun l hl => absurd hl (Nat.not_lt_zero l), fun k hk => absurd hk (Nat.not_lt_zero k), fun k hk => absurd hk (Nat.not_lt_zero k), fun _ => (by decide : -128 ≤ (0 : Int32).toInt ∧ (0 : Int32).toInt ≤ 127)⟩⟩
  · exact ⟨Nat.zero_le 5, Nat.zero_le 3, Nat.zero_le 12, (by decide : 0 < 40), Nat.zero_le 2, i40b i, Nat.zero_le 2, Nat.zero_le 8, (by decide : 0 < 24), Nat.zero_le 7, (by decide : 1 ≤ 9), (by decide : 1 ≤ 14), (by decide : 1 ≤ 16)⟩
  · exact ⟨by decide, by decide, by decide, by decide, by decide, by decide, by decide⟩
  · show pt (fun _ => 0) id 0 40 x < 10 ↔ x < 10
    rw [pt_in (by omega) (by omega), Nat.sub_zero]
    exact Iff.rfl
theorem cl_0 {L : Nat} {xs : Nat → Int32} : Cl is0 iA iP (z_h0 L xs) 63 := by
  refine ⟨⟨⟨fun i _ => i40 i, rfl, rfl, fun _ _ => rfl⟩, ⟨rfl, rfl, fun _ _ => rfl, fun _ _ => z_11, fun _ _ => z_11⟩, ⟨Or.inl rfl, Or.inr rfl, by decide⟩, ⟨Or.inl rfl, Or.inr (Or.inl rfl), Or.inr (Or.inr (Or.inl rfl)), Or.inr (Or.inr (Or.inr rfl))⟩, by decide⟩, fun _ => 0, fun _ => 0, fun _ => 0, 0, 0, ⟨Nat.le_refl _, rfl⟩, ⟨rfl, rfl⟩, ⟨fun _ => none, Or.inl ⟨rfl, rfl⟩, Nat.le_refl _, rfl, fun i hi => absurd hi (Nat.not_lt_zero i)⟩, ⟨fun _ => none, Or.inl ⟨rfl, rfl⟩, Nat.le_refl _, rfl, fun i hi => absurd hi (Nat.not_lt_zero i)⟩, fun w hw => absurd hw (Nat.not_lt_zero w), fun l hl => absurd hl (Nat.not_lt_zero l)⟩
theorem Mo.fz {s : z_S} {A B : Nat → Nat → Int32} (h : Mo s A) (f : Fz A B) : Mo s B := ⟨by
  obtain ⟨⟨h1, h2, h3, h4, h5, h6, h7, h8, h9, h10, h11, h12, h13⟩, ⟨g1, g2, g3, g4, g5, g6⟩, hb⟩ := h.1
  have e : ∀ k, 32 ≤ k → ∀ i, B k i = A k i := fun k hk i => by rw [f k hk]
  exact ⟨⟨fun i => (e 33 (by omega) i).trans (h1 i), fun i => (e 34 (by omega) i).trans (h2 i), fun i => (e 35 (by omega) i).trans (h3 i), fun i => (e 36 (by omega) i).trans (h4 i), fun i => (e 37 (by omega) i).trans (h5 i), fun i => (e 40 (by omega) i).trans (h6 i), fun i => (e 41 (by omega) i).trans (h7 i), fun i => (e 42 (by omega) i).trans (h8 i), fun i => (e 43 (by omega) i).trans (h9 i), fun i => (e 44 (by omega) i).trans (h10 i), fun i => (e 38 (by omega) i).trans (h11 i), fun i => (e 45 (by omega) i).trans (h12 i), fun i => (e 46 (by omega) i).trans (h13 i)⟩, ⟨(e 32 (by omega) _).trans g1, (e 32 (by omega) _).trans g2, (e 32 (by omega) _).trans g3, (e 32 (by omega) _).trans g4, (e 32 (by omega) _).trans g5, (e 32 (by omega) _).trans g6⟩, hb⟩, by rw [f 39 (by omega)]; exact h.2.1, h.2.2⟩
theorem Cl.fk {s : z_S} {A B : Nat → Nat → Int32} {P : Nat → Nat → Nat} {dy : z_H} {nx : Nat} (h : Cl s A P dy nx) (f : Fk A B) : Cl s B P dy nx := by
  obtain ⟨⟨⟨h1, h2, h3, h4⟩, ⟨g1, g2, g3, g4, g5⟩, hr⟩, wd, ln, hD⟩ := h
  have e : ∀ k, k < 32 → ∀ i, B k i = A k i := fun k hk i => by rw [f k hk]
  exact ⟨⟨⟨fun i hi => (e 7 (by omega) i).trans (h1 i hi), (e 6 (by omega) _).trans h2, (e 10 (by omega) _).trans h3, fun i hi => (e 11 (by omega) i).trans (h4 i hi)⟩, ⟨(e 24 (by omega) _).trans g1, (e 24 (by omega) _).trans g2, fun i hi => (e 25 (by omega) i).trans (g3 i hi), fun i hi => (e 26 (by omega) i).trans (g4 i hi), fun i hi => (e 27 (by omega) i).trans (g5 i hi)⟩, hr⟩, wd, ln, hD.of (e 4 (by omega) _) (e 5 (by omega) _) rfl rfl⟩
/-- both stand for one state, and the script is there -/
def Lw (L : Nat) (xs : Nat → Int32) (A : Nat → Nat → Int32) (P : Nat → Nat → Nat) (dy : z_H) (nx : Nat) : Prop := ∃ s, Cl s A P dy nx ∧ Mo s A ∧ dy 0 = .inl (3, L, xs)
section Law
variable {s : z_S} {A : Nat → Nat → Int32} {P : Nat → Nat → Nat} {dy : z_H} {e nx bc bs L i : Nat} {xs : Nat → Int32} {Q : z_Q}
theorem gh_00 : GH A P dy 0 = dy 0 := rfl
theorem w_word (hL : L ≤ 3584) (hi : i + 7 ≤ L) (hc : 6 ≤ bc) (hs : 127 ≤ bs) (hW : Lw L xs A P dy nx) (hN : ∀ B R dz nz bc' bs', Lw L xs B R dz nz → bc ≤ bc' + 6 → bs ≤ bs' + 127 → X (e + 31) m_L_law 1149 [some (.ref 0), some (.ref 3), some (.ref 32), some (.int (nI i))] [] (GH B R dz) nz bc' bs' Q) : X (e + 31) m_L_law 156 [some (.ref 0), some (.ref 3), some (.ref 32), some (.int (nI i))] [] (GH A P dy) nx bc bs Q := by
  obtain ⟨s, hK, hM, h0⟩ := hW
  have l1 : i + 1 < L := by omega
  have l2 : i + 2 < L := by omega
  have l3 : i + 3 < L := by omega
  have l4 : i + 4 < L := by omega
  have l5 : i + 5 < L := by omega
  have l6 : i + 6 < L := by omega
  simp (disch := omega) only [i_L_law_156, i_L_law_157, i_L_law_158, i_L_law_159, i_L_law_160, i_L_law_161, gh_00, z_ai_3, z_al_i, z_pu_s, z_pu_n, z_o_i, z_ai_i, z_si_i, z_ab_b, z_ab_z, z_sb_b, z_sb_z, z_al_i, z_al_b, z_pu_s, z_pu_n, nI_toN, z_inN, true_and, and_true, nI_add, pk_mul, vu_eq, vu_ne, true_and, h0, l1, l2, l3, l4, l5, l6]
  rw [i_L_law_162, gh_o3, z_o_i]
  refine ⟨⟨by omega, by omega⟩, x_word hM.iv hK (fun B R dz nz hK1 hn hF => ?_)⟩
  have h1 : dz 0 = .inl (3, L, xs) := hn.2.trans h0
  simp (disch := omega) only [i_L_law_165, i_L_law_166, i_L_law_167, i_L_law_168, i_L_law_169, i_L_law_170, gh_00, z_ai_3, z_al_i, z_pu_s, z_pu_n, z_o_i, z_ai_i, z_si_i, z_ab_b, z_ab_z, z_sb_b, z_sb_z, z_al_i, z_al_b, z_pu_s, z_pu_n, nI_toN, z_inN, true_and, and_true, nI_add, pk_mul, vu_eq, vu_ne, true_and, h1, l1, l2, l3, l4, l5, l6]
  rw [i_L_law_171, gh_o32, z_o_i]
  refine m_word (hM.fz hF) (fun C hM2 hF2 => ?_)
  rw [z_pu_s, i_L_law_174, if_pos rfl]
  exact hN _ _ _ _ _ _ ⟨_, hK1.fk hF2, hM2, h1⟩ (by omega) (by omega)
theorem w_saying (hL : L ≤ 3584) (hi : i + 7 ≤ L) (hc : 6 ≤ bc) (hs : 127 ≤ bs) (hW : Lw L xs A P dy nx) (hN : ∀ B R dz nz bc' bs', Lw L xs B R dz nz → bc ≤ bc' + 6 → bs ≤ bs' + 127 → X (e + 31) m_L_law 1149 [some (.ref 0), some (.ref 3), some (.ref 32), some (.int (nI i))] [] (GH B R dz) nz bc' bs' Q) : X (e + 31) m_L_law 179 [some (.ref 0), some (.ref 3), some (.ref 32), some (.int (nI i))] [] (GH A P dy) nx bc bs Q := by
  obtain ⟨s, hK, hM, h0⟩ := hW
  have l1 : i + 1 < L := by omega
  have l2 : i + 2 < L := by omega
  have l3 : i + 3 < L := by omega
  have l4 : i + 4 < L := by omega
  have l5 : i + 5 < L := by omega
  have l6 : i + 6 < L := by omega
  simp (disch := omega) only [i_L_law_179, i_L_law_180, i_L_law_181, i_L_law_182, i_L_law_183, i_L_law_184, i_L_law_185, i_L_law_186, i_L_law_187, i_L_law_188, i_L_law_189, i_L_law_190, i_L_law_191, i_L_law_192, i_L_law_193, i_L_law_194, i_L_law_195, i_L_law_196, i_L_law_198, i_L_law_199, i_L_law_200, i_L_law_201, i_L_law_202, i_L_law_203, i_L_law_204, i_L_law_205, i_L_law_208, i_L_law_209, i_L_law_210, i_L_law_211, i_L_law_212, i_L_law_213, i_L_law_214, i_L_law_215, i_L_law_216, i_L_law_218, i_L_law_219, i_L_law_220, i_L_law_221, i_L_law_223, i_L_law_224, i_L_law_225, i_L_law_226, i_L_law_229, i_L_law_230, gh_00, z_ai_3, z_al_i, z_pu_s, z_pu_n, z_o_i, z_ai_i, z_si_i, z_ab_b, z_ab_z, z_sb_b, z_sb_z, z_al_i, z_al_b, z_pu_s, z_pu_n, nI_toN, z_inN, true_and, and_true, nI_add, pk_mul, vu_eq, vu_ne, true_and, h0, l1, l2, l3, l4, l5, l6]
  rw [i_L_law_231, gh_o3, z_o_i]
  refine ⟨⟨by omega, by omega⟩, x_saying hM.iv hK (fun B R dz nz hK1 hn hF => ?_)⟩
  have h1 : dz 0 = .inl (3, L, xs) := hn.2.trans h0
  simp (disch := omega) only [i_L_law_234, i_L_law_235, i_L_law_236, i_L_law_237, i_L_law_238, i_L_law_239, i_L_law_240, i_L_law_241, i_L_law_242, i_L_law_243, i_L_law_244, i_L_law_245, i_L_law_246, i_L_law_247, i_L_law_248, i_L_law_249, i_L_law_250, i_L_law_251, i_L_law_253, i_L_law_254, i_L_law_255, i_L_law_256, i_L_law_257, i_L_law_258, i_L_law_259, i_L_law_260, i_L_law_263, i_L_law_264, i_L_law_265, i_L_law_266, i_L_law_267, i_L_law_268, i_L_law_269, i_L_law_270, i_L_law_271, i_L_law_273, i_L_law_274, i_L_law_275, i_L_law_276, i_L_law_278, i_L_law_279, i_L_law_280, i_L_law_281, i_L_law_284, i_L_law_285, gh_00, z_ai_3, z_al_i, z_pu_s, z_pu_n, z_o_i, z_ai_i, z_si_i, z_ab_b, z_ab_z, z_sb_b, z_sb_z, z_al_i, z_al_b, z_pu_s, z_pu_n, nI_toN, z_inN, true_and, and_true, nI_add, pk_mul, vu_eq, vu_ne, true_and, h1, l1, l2, l3, l4, l5, l6]
  rw [i_L_law_286, gh_o32, z_o_i]
  refine m_saying (hM.fz hF) (fun C hM2 hF2 => ?_)
  rw [z_pu_s, i_L_law_289, if_pos rfl]
  exact hN _ _ _ _ _ _ ⟨_, hK1.fk hF2, hM2, h1⟩ (by omega) (by omega)
theorem w_writing (hL : L ≤ 3584) (hi : i + 7 ≤ L) (hc : 6 ≤ bc) (hs : 127 ≤ bs) (hW : Lw L xs A P dy nx) (hN : ∀ B R dz nz bc' bs', Lw L xs B R dz nz → bc ≤ bc' + 6 → bs ≤ bs' + 127 → X (e + 31) m_L_law 1149 [some (.ref 0), some (.ref 3), some (.ref 32), some (.int (nI i))] [] (GH B R dz) nz bc' bs' Q) : X (e + 31) m_L_law 294 [some (.ref 0), some (.ref 3), some (.ref 32), some (.int (nI i))] [] (GH A P dy) nx bc bs Q := by
  obtain ⟨s, hK, hM, h0⟩ := hW
  have l1 : i + 1 < L := by omega
  have l2 : i + 2 < L := by omega
  have l3 : i + 3 < L := by omega
  have l4 : i + 4 < L := by omega
  have l5 : i + 5 < L := by omega
  have l6 : i + 6 < L := by omega
  simp (disch := omega) only [i_L_law_294, i_L_law_295, i_L_law_296, i_L_law_297, i_L_law_298, i_L_law_299, i_L_law_300, i_L_law_301, i_L_law_302, i_L_law_303, i_L_law_304, gh_00, z_ai_3, z_al_i, z_pu_s, z_pu_n, z_o_i, z_ai_i, z_si_i, z_ab_b, z_ab_z, z_sb_b, z_sb_z, z_al_i, z_al_b, z_pu_s, z_pu_n, nI_toN, z_inN, true_and, and_true, nI_add, pk_mul, vu_eq, vu_ne, true_and, h0, l1, l2, l3, l4, l5, l6]
  rw [i_L_law_305, gh_o3, z_o_i]
  refine x_writing hM.iv hK (fun B R dz nz hK1 hn hF => ?_)
  have h1 : dz 0 = .inl (3, L, xs) := hn.2.trans h0
  simp (disch := omega) only [i_L_law_308, i_L_law_309, i_L_law_310, i_L_law_311, i_L_law_312, i_L_law_313, i_L_law_314, i_L_law_315, i_L_law_316, i_L_law_317, i_L_law_318, gh_00, z_ai_3, z_al_i, z_pu_s, z_pu_n, z_o_i, z_ai_i, z_si_i, z_ab_b, z_ab_z, z_sb_b, z_sb_z, z_al_i, z_al_b, z_pu_s, z_pu_n, nI_toN, z_inN, true_and, and_true, nI_add, pk_mul, vu_eq, vu_ne, true_and, h1, l1, l2, l3, l4, l5, l6]
  rw [i_L_law_319, gh_o32, z_o_i]
  refine m_writing (hM.fz hF) (fun C hM2 hF2 => ?_)
  rw [z_pu_s, i_L_law_322, if_pos rfl]
  exact hN _ _ _ _ _ _ ⟨_, hK1.fk hF2, hM2, h1⟩ (by omega) (by omega)
theorem w_spell (hL : L ≤ 3584) (hi : i + 7 ≤ L) (hc : 6 ≤ bc) (hs : 127 ≤ bs) (hW : Lw L xs A P dy nx) (hN : ∀ B R dz nz bc' bs', Lw L xs B R dz nz → bc ≤ bc' + 6 → bs ≤ bs' + 127 → X (e + 31) m_L_law 1149 [some (.ref 0), some (.ref 3), some (.ref 32), some (.int (nI i))] [] (GH B R dz) nz bc' bs' Q) : X (e + 31) m_L_law 327 [some (.ref 0), some (.ref 3), some (.ref 32), some (.int (nI i))] [] (GH A P dy) nx bc bs Q := by
  obtain ⟨s, hK, hM, h0⟩ := hW
  have l1 : i + 1 < L := by omega
  have l2 : i + 2 < L := by omega
  have l3 : i + 3 < L := by omega
  have l4 : i + 4 < L := by omega
  have l5 : i + 5 < L := by omega
  have l6 : i + 6 < L := by omega
  simp (disch := omega) only [i_L_law_327, i_L_law_328, i_L_law_329, i_L_law_330, i_L_law_331, i_L_law_332, i_L_law_333, i_L_law_334, i_L_law_335, i_L_law_336, i_L_law_337, i_L_law_338, i_L_law_339, i_L_law_340, i_L_law_341, i_L_law_342, gh_00, z_ai_3, z_al_i, z_pu_s, z_pu_n, z_o_i, z_ai_i, z_si_i, z_ab_b, z_ab_z, z_sb_b, z_sb_z, z_al_i, z_al_b, z_pu_s, z_pu_n, nI_toN, z_inN, true_and, and_true, nI_add, pk_mul, vu_eq, vu_ne, true_and, h0, l1, l2, l3, l4, l5, l6]
  rw [i_L_law_343, gh_o3, z_o_i]
  refine x_spell hM.iv hK (fun B R dz nz hK1 hn hF => ?_)
  have h1 : dz 0 = .inl (3, L, xs) := hn.2.trans h0
  simp (disch := omega) only [i_L_law_346, i_L_law_347, i_L_law_348, i_L_law_349, i_L_law_350, i_L_law_351, i_L_law_352, i_L_law_353, i_L_law_354, i_L_law_355, i_L_law_356, i_L_law_357, i_L_law_358, i_L_law_359, i_L_law_360, i_L_law_361, gh_00, z_ai_3, z_al_i, z_pu_s, z_pu_n, z_o_i, z_ai_i, z_si_i, z_ab_b, z_ab_z, z_sb_b, z_sb_z, z_al_i, z_al_b, z_pu_s, z_pu_n, nI_toN, z_inN, true_and, and_true, nI_add, pk_mul, vu_eq, vu_ne, true_and, h1, l1, l2, l3, l4, l5, l6]
  rw [i_L_law_362, gh_o32, z_o_i]
  refine m_spell (hM.fz hF) (fun C hM2 hF2 => ?_)
  rw [z_pu_s, i_L_law_365, if_pos rfl]
  exact hN _ _ _ _ _ _ ⟨_, hK1.fk hF2, hM2, h1⟩ (by omega) (by omega)
theorem w_copy (hL : L ≤ 3584) (hi : i + 7 ≤ L) (hc : 6 ≤ bc) (hs : 127 ≤ bs) (hW : Lw L xs A P dy nx) (hN : ∀ B R dz nz bc' bs', Lw L xs B R dz nz → bc ≤ bc' + 6 → bs ≤ bs' + 127 → X (e + 31) m_L_law 1149 [some (.ref 0), some (.ref 3), some (.ref 32), some (.int (nI i))] [] (GH B R dz) nz bc' bs' Q) : X (e + 31) m_L_law 370 [some (.ref 0), some (.ref 3), some (.ref 32), some (.int (nI i))] [] (GH A P dy) nx bc bs Q := by
  obtain ⟨s, hK, hM, h0⟩ := hW
  have l1 : i + 1 < L := by omega
  have l2 : i + 2 < L := by omega
  have l3 : i + 3 < L := by omega
  have l4 : i + 4 < L := by omega
  have l5 : i + 5 < L := by omega
  have l6 : i + 6 < L := by omega
  simp (disch := omega) only [i_L_law_370, i_L_law_371, i_L_law_372, i_L_law_373, i_L_law_374, i_L_law_375, i_L_law_376, i_L_law_377, i_L_law_378, i_L_law_379, i_L_law_380, i_L_law_381, i_L_law_382, i_L_law_383, i_L_law_384, i_L_law_385, i_L_law_386, i_L_law_387, i_L_law_388, i_L_law_389, i_L_law_390, gh_00, z_ai_3, z_al_i, z_pu_s, z_pu_n, z_o_i, z_ai_i, z_si_i, z_ab_b, z_ab_z, z_sb_b, z_sb_z, z_al_i, z_al_b, z_pu_s, z_pu_n, nI_toN, z_inN, true_and, and_true, nI_add, pk_mul, vu_eq, vu_ne, true_and, h0, l1, l2, l3, l4, l5, l6]
  rw [i_L_law_391, gh_o3, z_o_i]
  refine x_copy hM.iv hK (fun B R dz nz hK1 hn hF => ?_)
  have h1 : dz 0 = .inl (3, L, xs) := hn.2.trans h0
  simp (disch := omega) only [i_L_law_394, i_L_law_395, i_L_law_396, i_L_law_397, i_L_law_398, i_L_law_399, i_L_law_400, i_L_law_401, i_L_law_402, i_L_law_403, i_L_law_404, i_L_law_405, i_L_law_406, i_L_law_407, i_L_law_408, i_L_law_409, i_L_law_410, i_L_law_411, i_L_law_412, i_L_law_413, i_L_law_414, gh_00, z_ai_3, z_al_i, z_pu_s, z_pu_n, z_o_i, z_ai_i, z_si_i, z_ab_b, z_ab_z, z_sb_b, z_sb_z, z_al_i, z_al_b, z_pu_s, z_pu_n, nI_toN, z_inN, true_and, and_true, nI_add, pk_mul, vu_eq, vu_ne, true_and, h1, l1, l2, l3, l4, l5, l6]
  rw [i_L_law_415, gh_o32, z_o_i]
  refine m_copy (hM.fz hF) (fun C hM2 hF2 => ?_)
  rw [z_pu_s, i_L_law_418, if_pos rfl]
  exact hN _ _ _ _ _ _ ⟨_, hK1.fk hF2, hM2, h1⟩ (by omega) (by omega)
theorem w_speech (hL : L ≤ 3584) (hi : i + 7 ≤ L) (hc : 6 ≤ bc) (hs : 127 ≤ bs) (hW : Lw L xs A P dy nx) (hN : ∀ B R dz nz bc' bs', Lw L xs B R dz nz → bc ≤ bc' + 6 → bs ≤ bs' + 127 → X (e + 31) m_L_law 1149 [some (.ref 0), some (.ref 3), some (.ref 32), some (.int (nI i))] [] (GH B R dz) nz bc' bs' Q) : X (e + 31) m_L_law 423 [some (.ref 0), some (.ref 3), some (.ref 32), some (.int (nI i))] [] (GH A P dy) nx bc bs Q := by
  obtain ⟨s, hK, hM, h0⟩ := hW
  have l1 : i + 1 < L := by omega
  have l2 : i + 2 < L := by omega
  have l3 : i + 3 < L := by omega
  have l4 : i + 4 < L := by omega
  have l5 : i + 5 < L := by omega
  have l6 : i + 6 < L := by omega
  simp (disch := omega) only [i_L_law_423, i_L_law_424, i_L_law_425, i_L_law_426, i_L_law_427, i_L_law_428, i_L_law_429, i_L_law_430, i_L_law_431, i_L_law_432, i_L_law_433, gh_00, z_ai_3, z_al_i, z_pu_s, z_pu_n, z_o_i, z_ai_i, z_si_i, z_ab_b, z_ab_z, z_sb_b, z_sb_z, z_al_i, z_al_b, z_pu_s, z_pu_n, nI_toN, z_inN, true_and, and_true, nI_add, pk_mul, vu_eq, vu_ne, true_and, h0, l1, l2, l3, l4, l5, l6]
  rw [i_L_law_434, gh_o3, z_o_i]
  refine x_speech hM.iv hK (fun B R hK1 hF => ?_)
  have h1 := h0
  simp (disch := omega) only [i_L_law_437, i_L_law_438, i_L_law_439, i_L_law_440, i_L_law_441, i_L_law_442, i_L_law_443, i_L_law_444, i_L_law_445, i_L_law_446, i_L_law_447, gh_00, z_ai_3, z_al_i, z_pu_s, z_pu_n, z_o_i, z_ai_i, z_si_i, z_ab_b, z_ab_z, z_sb_b, z_sb_z, z_al_i, z_al_b, z_pu_s, z_pu_n, nI_toN, z_inN, true_and, and_true, nI_add, pk_mul, vu_eq, vu_ne, true_and, h1, l1, l2, l3, l4, l5, l6]
  rw [i_L_law_448, gh_o32, z_o_i]
  refine m_speech (hM.fz hF) (fun C hM2 hF2 => ?_)
  rw [z_pu_s, i_L_law_451, if_pos rfl]
  exact hN _ _ _ _ _ _ ⟨_, hK1.fk hF2, hM2, h1⟩ (by omega) (by omega)
theorem w_told (hL : L ≤ 3584) (hi : i + 7 ≤ L) (hc : 6 ≤ bc) (hs : 127 ≤ bs) (hW : Lw L xs A P dy nx) (hN : ∀ B R dz nz bc' bs', Lw L xs B R dz nz → bc ≤ bc' + 6 → bs ≤ bs' + 127 → X (e + 31) m_L_law 1149 [some (.ref 0), some (.ref 3), some (.ref 32), some (.int (nI i))] [] (GH B R dz) nz bc' bs' Q) : X (e + 31) m_L_law 456 [some (.ref 0), some (.ref 3), some (.ref 32), some (.int (nI i))] [] (GH A P dy) nx bc bs Q := by
  obtain ⟨s, hK, hM, h0⟩ := hW
  have l1 : i + 1 < L := by omega
  have l2 : i + 2 < L := by omega
  have l3 : i + 3 < L := by omega
  have l4 : i + 4 < L := by omega
  have l5 : i + 5 < L := by omega
  have l6 : i + 6 < L := by omega
  simp (disch := omega) only [i_L_law_456, i_L_law_457, i_L_law_458, i_L_law_459, i_L_law_460, i_L_law_461, i_L_law_462, i_L_law_463, i_L_law_464, i_L_law_465, i_L_law_466, i_L_law_467, i_L_law_468, i_L_law_469, i_L_law_470, i_L_law_471, gh_00, z_ai_3, z_al_i, z_pu_s, z_pu_n, z_o_i, z_ai_i, z_si_i, z_ab_b, z_ab_z, z_sb_b, z_sb_z, z_al_i, z_al_b, z_pu_s, z_pu_n, nI_toN, z_inN, true_and, and_true, nI_add, pk_mul, vu_eq, vu_ne, true_and, h0, l1, l2, l3, l4, l5, l6]
  rw [i_L_law_472, gh_o3, z_o_i]
  refine x_told hM.iv hK (fun B R hK1 hF => ?_)
  have h1 := h0
  simp (disch := omega) only [i_L_law_475, i_L_law_476, i_L_law_477, i_L_law_478, i_L_law_479, i_L_law_480, i_L_law_481, i_L_law_482, i_L_law_483, i_L_law_484, i_L_law_485, i_L_law_486, i_L_law_487, i_L_law_488, i_L_law_489, i_L_law_490, gh_00, z_ai_3, z_al_i, z_pu_s, z_pu_n, z_o_i, z_ai_i, z_si_i, z_ab_b, z_ab_z, z_sb_b, z_sb_z, z_al_i, z_al_b, z_pu_s, z_pu_n, nI_toN, z_inN, true_and, and_true, nI_add, pk_mul, vu_eq, vu_ne, true_and, h1, l1, l2, l3, l4, l5, l6]
  rw [i_L_law_491, gh_o32, z_o_i]
  refine m_told (hM.fz hF) (fun C hM2 hF2 => ?_)
  rw [z_pu_s, i_L_law_494, if_pos rfl]
  exact hN _ _ _ _ _ _ ⟨_, hK1.fk hF2, hM2, h1⟩ (by omega) (by omega)
theorem w_near (hL : L ≤ 3584) (hi : i + 7 ≤ L) (hc : 6 ≤ bc) (hs : 127 ≤ bs) (hW : Lw L xs A P dy nx) (hN : ∀ B R dz nz bc' bs', Lw L xs B R dz nz → bc ≤ bc' + 6 → bs ≤ bs' + 127 → X (e + 31) m_L_law 1149 [some (.ref 0), some (.ref 3), some (.ref 32), some (.int (nI i))] [] (GH B R dz) nz bc' bs' Q) : X (e + 31) m_L_law 499 [some (.ref 0), some (.ref 3), some (.ref 32), some (.int (nI i))] [] (GH A P dy) nx bc bs Q := by
  obtain ⟨s, hK, hM, h0⟩ := hW
  have l1 : i + 1 < L := by omega
  have l2 : i + 2 < L := by omega
  have l3 : i + 3 < L := by omega
  have l4 : i + 4 < L := by omega
  have l5 : i + 5 < L := by omega
  have l6 : i + 6 < L := by omega
  simp (disch := omega) only [i_L_law_499, i_L_law_500, i_L_law_501, i_L_law_502, i_L_law_503, i_L_law_504, gh_00, z_ai_3, z_al_i, z_pu_s, z_pu_n, z_o_i, z_ai_i, z_si_i, z_ab_b, z_ab_z, z_sb_b, z_sb_z, z_al_i, z_al_b, z_pu_s, z_pu_n, nI_toN, z_inN, true_and, and_true, nI_add, pk_mul, vu_eq, vu_ne, true_and, h0, l1, l2, l3, l4, l5, l6]
  rw [i_L_law_505, gh_o3, z_o_i]
  refine x_near hM.iv hK (fun B R hK1 hF => ?_)
  have h1 := h0
  simp (disch := omega) only [i_L_law_508, i_L_law_509, i_L_law_510, i_L_law_511, i_L_law_512, i_L_law_513, gh_00, z_ai_3, z_al_i, z_pu_s, z_pu_n, z_o_i, z_ai_i, z_si_i, z_ab_b, z_ab_z, z_sb_b, z_sb_z, z_al_i, z_al_b, z_pu_s, z_pu_n, nI_toN, z_inN, true_and, and_true, nI_add, pk_mul, vu_eq, vu_ne, true_and, h1, l1, l2, l3, l4, l5, l6]
  rw [i_L_law_514, gh_o32, z_o_i]
  refine m_near (hM.fz hF) (fun C hM2 hF2 => ?_)
  rw [z_pu_s, i_L_law_517, if_pos rfl]
  exact hN _ _ _ _ _ _ ⟨_, hK1.fk hF2, hM2, h1⟩ (by omega) (by omega)
theorem w_rhyme (hL : L ≤ 3584) (hi : i + 7 ≤ L) (hc : 6 ≤ bc) (hs : 127 ≤ bs) (hW : Lw L xs A P dy nx) (hN : ∀ B R dz nz bc' bs', Lw L xs B R dz nz → bc ≤ bc' + 6 → bs ≤ bs' + 127 → X (e + 31) m_L_law 1149 [some (.ref 0), some (.ref 3), some (.ref 32), some (.int (nI i))] [] (GH B R dz) nz bc' bs' Q) : X (e + 31) m_L_law 522 [some (.ref 0), some (.ref 3), some (.ref 32), some (.int (nI i))] [] (GH A P dy) nx bc bs Q := by
  obtain ⟨s, hK, hM, h0⟩ := hW
  have l1 : i + 1 < L := by omega
  have l2 : i + 2 < L := by omega
  have l3 : i + 3 < L := by omega
  have l4 : i + 4 < L := by omega
  have l5 : i + 5 < L := by omega
  have l6 : i + 6 < L := by omega
  simp (disch := omega) only [i_L_law_522, i_L_law_523, i_L_law_524, i_L_law_525, i_L_law_526, i_L_law_527, i_L_law_528, i_L_law_529, i_L_law_530, i_L_law_531, i_L_law_532, i_L_law_533, i_L_law_534, i_L_law_535, i_L_law_536, i_L_law_537, gh_00, z_ai_3, z_al_i, z_pu_s, z_pu_n, z_o_i, z_ai_i, z_si_i, z_ab_b, z_ab_z, z_sb_b, z_sb_z, z_al_i, z_al_b, z_pu_s, z_pu_n, nI_toN, z_inN, true_and, and_true, nI_add, pk_mul, vu_eq, vu_ne, true_and, h0, l1, l2, l3, l4, l5, l6]
  rw [i_L_law_538, gh_o3, z_o_i]
  refine x_rhyme hM.iv hK (fun B R hK1 hF => ?_)
  have h1 := h0
  simp (disch := omega) only [i_L_law_541, i_L_law_542, i_L_law_543, i_L_law_544, i_L_law_545, i_L_law_546, i_L_law_547, i_L_law_548, i_L_law_549, i_L_law_550, i_L_law_551, i_L_law_552, i_L_law_553, i_L_law_554, i_L_law_555, i_L_law_556, gh_00, z_ai_3, z_al_i, z_pu_s, z_pu_n, z_o_i, z_ai_i, z_si_i, z_ab_b, z_ab_z, z_sb_b, z_sb_z, z_al_i, z_al_b, z_pu_s, z_pu_n, nI_toN, z_inN, true_and, and_true, nI_add, pk_mul, vu_eq, vu_ne, true_and, h1, l1, l2, l3, l4, l5, l6]
  rw [i_L_law_557, gh_o32, z_o_i]
  refine m_rhyme (hM.fz hF) (fun C hM2 hF2 => ?_)
  rw [z_pu_s, i_L_law_560, if_pos rfl]
  exact hN _ _ _ _ _ _ ⟨_, hK1.fk hF2, hM2, h1⟩ (by omega) (by omega)
theorem w_how (hL : L ≤ 3584) (hi : i + 7 ≤ L) (hc : 6 ≤ bc) (hs : 127 ≤ bs) (hW : Lw L xs A P dy nx) (hN : ∀ B R dz nz bc' bs', Lw L xs B R dz nz → bc ≤ bc' + 6 → bs ≤ bs' + 127 → X (e + 31) m_L_law 1149 [some (.ref 0), some (.ref 3), some (.ref 32), some (.int (nI i))] [] (GH B R dz) nz bc' bs' Q) : X (e + 31) m_L_law 565 [some (.ref 0), some (.ref 3), some (.ref 32), some (.int (nI i))] [] (GH A P dy) nx bc bs Q := by
  obtain ⟨s, hK, hM, h0⟩ := hW
  have l1 : i + 1 < L := by omega
  have l2 : i + 2 < L := by omega
  have l3 : i + 3 < L := by omega
  have l4 : i + 4 < L := by omega
  have l5 : i + 5 < L := by omega
  have l6 : i + 6 < L := by omega
  simp (disch := omega) only [i_L_law_565, i_L_law_566, i_L_law_567, i_L_law_568, i_L_law_569, i_L_law_570, i_L_law_571, i_L_law_572, i_L_law_573, i_L_law_574, i_L_law_575, i_L_law_576, i_L_law_577, i_L_law_578, i_L_law_579, i_L_law_580, gh_00, z_ai_3, z_al_i, z_pu_s, z_pu_n, z_o_i, z_ai_i, z_si_i, z_ab_b, z_ab_z, z_sb_b, z_sb_z, z_al_i, z_al_b, z_pu_s, z_pu_n, nI_toN, z_inN, true_and, and_true, nI_add, pk_mul, vu_eq, vu_ne, true_and, h0, l1, l2, l3, l4, l5, l6]
  rw [i_L_law_581, gh_o3, z_o_i]
  refine x_how hM.iv hK (fun B R hK1 hF => ?_)
  have h1 := h0
  simp (disch := omega) only [i_L_law_584, i_L_law_585, i_L_law_586, i_L_law_587, i_L_law_588, i_L_law_589, i_L_law_590, i_L_law_591, i_L_law_592, i_L_law_593, i_L_law_594, i_L_law_595, i_L_law_596, i_L_law_597, i_L_law_598, i_L_law_599, gh_00, z_ai_3, z_al_i, z_pu_s, z_pu_n, z_o_i, z_ai_i, z_si_i, z_ab_b, z_ab_z, z_sb_b, z_sb_z, z_al_i, z_al_b, z_pu_s, z_pu_n, nI_toN, z_inN, true_and, and_true, nI_add, pk_mul, vu_eq, vu_ne, true_and, h1, l1, l2, l3, l4, l5, l6]
  rw [i_L_law_600, gh_o32, z_o_i]
  refine m_how (hM.fz hF) (fun C hM2 hF2 => ?_)
  rw [z_pu_s, i_L_law_603, if_pos rfl]
  exact hN _ _ _ _ _ _ ⟨_, hK1.fk hF2, hM2, h1⟩ (by omega) (by omega)
theorem w_cost (hL : L ≤ 3584) (hi : i + 7 ≤ L) (hc : 6 ≤ bc) (hs : 127 ≤ bs) (hW : Lw L xs A P dy nx) (hN : ∀ B R dz nz bc' bs', Lw L xs B R dz nz → bc ≤ bc' + 6 → bs ≤ bs' + 127 → X (e + 31) m_L_law 1149 [some (.ref 0), some (.ref 3), some (.ref 32), some (.int (nI i))] [] (GH B R dz) nz bc' bs' Q) : X (e + 31) m_L_law 608 [some (.ref 0), some (.ref 3), some (.ref 32), some (.int (nI i))] [] (GH A P dy) nx bc bs Q := by
  obtain ⟨s, hK, hM, h0⟩ := hW
  have l1 : i + 1 < L := by omega
  have l2 : i + 2 < L := by omega
  have l3 : i + 3 < L := by omega
  have l4 : i + 4 < L := by omega
  have l5 : i + 5 < L := by omega
  have l6 : i + 6 < L := by omega
  simp (disch := omega) only [i_L_law_608, i_L_law_609, i_L_law_610, i_L_law_611, i_L_law_612, i_L_law_613, i_L_law_614, i_L_law_615, i_L_law_616, i_L_law_617, i_L_law_618, gh_00, z_ai_3, z_al_i, z_pu_s, z_pu_n, z_o_i, z_ai_i, z_si_i, z_ab_b, z_ab_z, z_sb_b, z_sb_z, z_al_i, z_al_b, z_pu_s, z_pu_n, nI_toN, z_inN, true_and, and_true, nI_add, pk_mul, vu_eq, vu_ne, true_and, h0, l1, l2, l3, l4, l5, l6]
  rw [i_L_law_619, gh_o3, z_o_i]
  refine x_cost hM.iv hK (fun B R hK1 hF => ?_)
  have h1 := h0
  simp (disch := omega) only [i_L_law_622, i_L_law_623, i_L_law_624, i_L_law_625, i_L_law_626, i_L_law_627, i_L_law_628, i_L_law_629, i_L_law_630, i_L_law_631, i_L_law_632, gh_00, z_ai_3, z_al_i, z_pu_s, z_pu_n, z_o_i, z_ai_i, z_si_i, z_ab_b, z_ab_z, z_sb_b, z_sb_z, z_al_i, z_al_b, z_pu_s, z_pu_n, nI_toN, z_inN, true_and, and_true, nI_add, pk_mul, vu_eq, vu_ne, true_and, h1, l1, l2, l3, l4, l5, l6]
  rw [i_L_law_633, gh_o32, z_o_i]
  refine m_cost (hM.fz hF) (fun C hM2 hF2 => ?_)
  rw [z_pu_s, i_L_law_636, if_pos rfl]
  exact hN _ _ _ _ _ _ ⟨_, hK1.fk hF2, hM2, h1⟩ (by omega) (by omega)
theorem w_rhymes (hL : L ≤ 3584) (hi : i + 7 ≤ L) (hc : 6 ≤ bc) (hs : 127 ≤ bs) (hW : Lw L xs A P dy nx) (hN : ∀ B R dz nz bc' bs', Lw L xs B R dz nz → bc ≤ bc' + 6 → bs ≤ bs' + 127 → X (e + 31) m_L_law 1149 [some (.ref 0), some (.ref 3), some (.ref 32), some (.int (nI i))] [] (GH B R dz) nz bc' bs' Q) : X (e + 31) m_L_law 641 [some (.ref 0), some (.ref 3), some (.ref 32), some (.int (nI i))] [] (GH A P dy) nx bc bs Q := by
  obtain ⟨s, hK, hM, h0⟩ := hW
  have l1 : i + 1 < L := by omega
  have l2 : i + 2 < L := by omega
  have l3 : i + 3 < L := by omega
  have l4 : i + 4 < L := by omega
  have l5 : i + 5 < L := by omega
  have l6 : i + 6 < L := by omega
  simp (disch := omega) only [i_L_law_641, i_L_law_642, i_L_law_643, i_L_law_644, i_L_law_645, i_L_law_646, i_L_law_647, i_L_law_648, i_L_law_649, i_L_law_650, i_L_law_651, i_L_law_652, i_L_law_653, i_L_law_654, i_L_law_655, i_L_law_656, gh_00, z_ai_3, z_al_i, z_pu_s, z_pu_n, z_o_i, z_ai_i, z_si_i, z_ab_b, z_ab_z, z_sb_b, z_sb_z, z_al_i, z_al_b, z_pu_s, z_pu_n, nI_toN, z_inN, true_and, and_true, nI_add, pk_mul, vu_eq, vu_ne, true_and, h0, l1, l2, l3, l4, l5, l6]
  rw [i_L_law_657, gh_o3, z_o_i]
  refine x_rhymes hM.iv hK (fun B R hK1 hF => ?_)
  have h1 := h0
  simp (disch := omega) only [i_L_law_660, i_L_law_661, i_L_law_662, i_L_law_663, i_L_law_664, i_L_law_665, i_L_law_666, i_L_law_667, i_L_law_668, i_L_law_669, i_L_law_670, i_L_law_671, i_L_law_672, i_L_law_673, i_L_law_674, i_L_law_675, gh_00, z_ai_3, z_al_i, z_pu_s, z_pu_n, z_o_i, z_ai_i, z_si_i, z_ab_b, z_ab_z, z_sb_b, z_sb_z, z_al_i, z_al_b, z_pu_s, z_pu_n, nI_toN, z_inN, true_and, and_true, nI_add, pk_mul, vu_eq, vu_ne, true_and, h1, l1, l2, l3, l4, l5, l6]
  rw [i_L_law_676, gh_o32, z_o_i]
  refine m_rhymes (hM.fz hF) (fun C hM2 hF2 => ?_)
  rw [z_pu_s, i_L_law_679, if_pos rfl]
  exact hN _ _ _ _ _ _ ⟨_, hK1.fk hF2, hM2, h1⟩ (by omega) (by omega)
theorem w_broken (hL : L ≤ 3584) (hi : i + 7 ≤ L) (hc : 6 ≤ bc) (hs : 127 ≤ bs) (hW : Lw L xs A P dy nx) (hN : ∀ B R dz nz bc' bs', Lw L xs B R dz nz → bc ≤ bc' + 6 → bs ≤ bs' + 127 → X (e + 31) m_L_law 1149 [some (.ref 0), some (.ref 3), some (.ref 32), some (.int (nI i))] [] (GH B R dz) nz bc' bs' Q) : X (e + 31) m_L_law 684 [some (.ref 0), some (.ref 3), some (.ref 32), some (.int (nI i))] [] (GH A P dy) nx bc bs Q := by
  obtain ⟨s, hK, hM, h0⟩ := hW
  have l1 : i + 1 < L := by omega
  have l2 : i + 2 < L := by omega
  have l3 : i + 3 < L := by omega
  have l4 : i + 4 < L := by omega
  have l5 : i + 5 < L := by omega
  have l6 : i + 6 < L := by omega
  simp (disch := omega) only [i_L_law_684, i_L_law_685, i_L_law_686, i_L_law_687, i_L_law_688, i_L_law_689, i_L_law_690, i_L_law_691, i_L_law_692, i_L_law_693, i_L_law_694, gh_00, z_ai_3, z_al_i, z_pu_s, z_pu_n, z_o_i, z_ai_i, z_si_i, z_ab_b, z_ab_z, z_sb_b, z_sb_z, z_al_i, z_al_b, z_pu_s, z_pu_n, nI_toN, z_inN, true_and, and_true, nI_add, pk_mul, vu_eq, vu_ne, true_and, h0, l1, l2, l3, l4, l5, l6]
  rw [i_L_law_695, gh_o3, z_o_i]
  refine x_broken hM.iv hK (fun B R hK1 hF => ?_)
  have h1 := h0
  simp (disch := omega) only [i_L_law_698, i_L_law_699, i_L_law_700, i_L_law_701, i_L_law_702, i_L_law_703, i_L_law_704, i_L_law_705, i_L_law_706, i_L_law_707, i_L_law_708, gh_00, z_ai_3, z_al_i, z_pu_s, z_pu_n, z_o_i, z_ai_i, z_si_i, z_ab_b, z_ab_z, z_sb_b, z_sb_z, z_al_i, z_al_b, z_pu_s, z_pu_n, nI_toN, z_inN, true_and, and_true, nI_add, pk_mul, vu_eq, vu_ne, true_and, h1, l1, l2, l3, l4, l5, l6]
  rw [i_L_law_709, gh_o32, z_o_i]
  refine m_broken (hM.fz hF) (fun C hM2 hF2 => ?_)
  rw [z_pu_s, i_L_law_712, if_pos rfl]
  exact hN _ _ _ _ _ _ ⟨_, hK1.fk hF2, hM2, h1⟩ (by omega) (by omega)
theorem w_meter (hL : L ≤ 3584) (hi : i + 7 ≤ L) (hc : 6 ≤ bc) (hs : 127 ≤ bs) (hW : Lw L xs A P dy nx) (hN : ∀ B R dz nz bc' bs', Lw L xs B R dz nz → bc ≤ bc' + 6 → bs ≤ bs' + 127 → X (e + 31) m_L_law 1149 [some (.ref 0), some (.ref 3), some (.ref 32), some (.int (nI i))] [] (GH B R dz) nz bc' bs' Q) : X (e + 31) m_L_law 717 [some (.ref 0), some (.ref 3), some (.ref 32), some (.int (nI i))] [] (GH A P dy) nx bc bs Q := by
  obtain ⟨s, hK, hM, h0⟩ := hW
  have l1 : i + 1 < L := by omega
  have l2 : i + 2 < L := by omega
  have l3 : i + 3 < L := by omega
  have l4 : i + 4 < L := by omega
  have l5 : i + 5 < L := by omega
  have l6 : i + 6 < L := by omega
  simp (disch := omega) only [i_L_law_717, i_L_law_718, i_L_law_719, i_L_law_720, i_L_law_721, i_L_law_722, i_L_law_723, i_L_law_724, i_L_law_725, i_L_law_726, i_L_law_727, gh_00, z_ai_3, z_al_i, z_pu_s, z_pu_n, z_o_i, z_ai_i, z_si_i, z_ab_b, z_ab_z, z_sb_b, z_sb_z, z_al_i, z_al_b, z_pu_s, z_pu_n, nI_toN, z_inN, true_and, and_true, nI_add, pk_mul, vu_eq, vu_ne, true_and, h0, l1, l2, l3, l4, l5, l6]
  rw [i_L_law_728, gh_o3, z_o_i]
  refine x_meter hM.iv hK (fun B R hK1 hF => ?_)
  have h1 := h0
  simp (disch := omega) only [i_L_law_731, i_L_law_732, i_L_law_733, i_L_law_734, i_L_law_735, i_L_law_736, i_L_law_737, i_L_law_738, i_L_law_739, i_L_law_740, i_L_law_741, gh_00, z_ai_3, z_al_i, z_pu_s, z_pu_n, z_o_i, z_ai_i, z_si_i, z_ab_b, z_ab_z, z_sb_b, z_sb_z, z_al_i, z_al_b, z_pu_s, z_pu_n, nI_toN, z_inN, true_and, and_true, nI_add, pk_mul, vu_eq, vu_ne, true_and, h1, l1, l2, l3, l4, l5, l6]
  rw [i_L_law_742, gh_o32, z_o_i]
  refine m_meter (hM.fz hF) (fun C hM2 hF2 => ?_)
  rw [z_pu_s, i_L_law_745, if_pos rfl]
  exact hN _ _ _ _ _ _ ⟨_, hK1.fk hF2, hM2, h1⟩ (by omega) (by omega)
theorem w_line (hL : L ≤ 3584) (hi : i + 7 ≤ L) (hc : 6 ≤ bc) (hs : 127 ≤ bs) (hW : Lw L xs A P dy nx) (hN : ∀ B R dz nz bc' bs', Lw L xs B R dz nz → bc ≤ bc' + 6 → bs ≤ bs' + 127 → X (e + 31) m_L_law 1149 [some (.ref 0), some (.ref 3), some (.ref 32), some (.int (nI i))] [] (GH B R dz) nz bc' bs' Q) : X (e + 31) m_L_law 750 [some (.ref 0), some (.ref 3), some (.ref 32), some (.int (nI i))] [] (GH A P dy) nx bc bs Q := by
  obtain ⟨s, hK, hM, h0⟩ := hW
  have l1 : i + 1 < L := by omega
  have l2 : i + 2 < L := by omega
  have l3 : i + 3 < L := by omega
  have l4 : i + 4 < L := by omega
  have l5 : i + 5 < L := by omega
  have l6 : i + 6 < L := by omega
  simp (disch := omega) only [i_L_law_750, i_L_law_751, i_L_law_752, i_L_law_753, i_L_law_754, i_L_law_755, i_L_law_756, i_L_law_757, i_L_law_758, i_L_law_759, i_L_law_760, i_L_law_761, i_L_law_762, i_L_law_764, i_L_law_765, i_L_law_766, i_L_law_767, i_L_law_768, i_L_law_769, i_L_law_770, i_L_law_771, i_L_law_774, i_L_law_775, gh_00, z_ai_3, z_al_i, z_pu_s, z_pu_n, z_o_i, z_ai_i, z_si_i, z_ab_b, z_ab_z, z_sb_b, z_sb_z, z_al_i, z_al_b, z_pu_s, z_pu_n, nI_toN, z_inN, true_and, and_true, nI_add, pk_mul, vu_eq, vu_ne, true_and, h0, l1, l2, l3, l4, l5, l6]
  rw [i_L_law_776, gh_o3, z_o_i]
  refine ⟨⟨by omega, by omega⟩, x_line hM.iv hK (fun B R dz nz hK1 hn hF => ?_)⟩
  have h1 : dz 0 = .inl (3, L, xs) := hn.2.trans h0
  simp (disch := omega) only [i_L_law_779, i_L_law_780, i_L_law_781, i_L_law_782, i_L_law_783, i_L_law_784, i_L_law_785, i_L_law_786, i_L_law_787, i_L_law_788, i_L_law_789, i_L_law_790, i_L_law_791, i_L_law_793, i_L_law_794, i_L_law_795, i_L_law_796, i_L_law_797, i_L_law_798, i_L_law_799, i_L_law_800, i_L_law_803, i_L_law_804, gh_00, z_ai_3, z_al_i, z_pu_s, z_pu_n, z_o_i, z_ai_i, z_si_i, z_ab_b, z_ab_z, z_sb_b, z_sb_z, z_al_i, z_al_b, z_pu_s, z_pu_n, nI_toN, z_inN, true_and, and_true, nI_add, pk_mul, vu_eq, vu_ne, true_and, h1, l1, l2, l3, l4, l5, l6]
  rw [i_L_law_805, gh_o32, z_o_i]
  refine m_line (hM.fz hF) (fun C hM2 hF2 => ?_)
  rw [z_pu_s, i_L_law_808, if_pos rfl]
  exact hN _ _ _ _ _ _ ⟨_, hK1.fk hF2, hM2, h1⟩ (by omega) (by omega)
theorem w_inLine (hL : L ≤ 3584) (hi : i + 7 ≤ L) (hc : 6 ≤ bc) (hs : 127 ≤ bs) (hW : Lw L xs A P dy nx) (hN : ∀ B R dz nz bc' bs', Lw L xs B R dz nz → bc ≤ bc' + 6 → bs ≤ bs' + 127 → X (e + 31) m_L_law 1149 [some (.ref 0), some (.ref 3), some (.ref 32), some (.int (nI i))] [] (GH B R dz) nz bc' bs' Q) : X (e + 31) m_L_law 813 [some (.ref 0), some (.ref 3), some (.ref 32), some (.int (nI i))] [] (GH A P dy) nx bc bs Q := by
  obtain ⟨s, hK, hM, h0⟩ := hW
  have l1 : i + 1 < L := by omega
  have l2 : i + 2 < L := by omega
  have l3 : i + 3 < L := by omega
  have l4 : i + 4 < L := by omega
  have l5 : i + 5 < L := by omega
  have l6 : i + 6 < L := by omega
  simp (disch := omega) only [i_L_law_813, i_L_law_814, i_L_law_815, i_L_law_816, i_L_law_817, i_L_law_818, i_L_law_819, i_L_law_820, i_L_law_821, i_L_law_822, i_L_law_823, gh_00, z_ai_3, z_al_i, z_pu_s, z_pu_n, z_o_i, z_ai_i, z_si_i, z_ab_b, z_ab_z, z_sb_b, z_sb_z, z_al_i, z_al_b, z_pu_s, z_pu_n, nI_toN, z_inN, true_and, and_true, nI_add, pk_mul, vu_eq, vu_ne, true_and, h0, l1, l2, l3, l4, l5, l6]
  rw [i_L_law_824, gh_o3, z_o_i]
  refine x_inLine hM.iv hK (fun B R hK1 hF => ?_)
  have h1 := h0
  simp (disch := omega) only [i_L_law_827, i_L_law_828, i_L_law_829, i_L_law_830, i_L_law_831, i_L_law_832, i_L_law_833, i_L_law_834, i_L_law_835, i_L_law_836, i_L_law_837, gh_00, z_ai_3, z_al_i, z_pu_s, z_pu_n, z_o_i, z_ai_i, z_si_i, z_ab_b, z_ab_z, z_sb_b, z_sb_z, z_al_i, z_al_b, z_pu_s, z_pu_n, nI_toN, z_inN, true_and, and_true, nI_add, pk_mul, vu_eq, vu_ne, true_and, h1, l1, l2, l3, l4, l5, l6]
  rw [i_L_law_838, gh_o32, z_o_i]
  refine m_inLine (hM.fz hF) (fun C hM2 hF2 => ?_)
  rw [z_pu_s, i_L_law_841, if_pos rfl]
  exact hN _ _ _ _ _ _ ⟨_, hK1.fk hF2, hM2, h1⟩ (by omega) (by omega)
theorem w_layings (hL : L ≤ 3584) (hi : i + 7 ≤ L) (hc : 6 ≤ bc) (hs : 127 ≤ bs) (hW : Lw L xs A P dy nx) (hN : ∀ B R dz nz bc' bs', Lw L xs B R dz nz → bc ≤ bc' + 6 → bs ≤ bs' + 127 → X (e + 31) m_L_law 1149 [some (.ref 0), some (.ref 3), some (.ref 32), some (.int (nI i))] [] (GH B R dz) nz bc' bs' Q) : X (e + 31) m_L_law 846 [some (.ref 0), some (.ref 3), some (.ref 32), some (.int (nI i))] [] (GH A P dy) nx bc bs Q := by
  obtain ⟨s, hK, hM, h0⟩ := hW
  have l1 : i + 1 < L := by omega
  have l2 : i + 2 < L := by omega
  have l3 : i + 3 < L := by omega
  have l4 : i + 4 < L := by omega
  have l5 : i + 5 < L := by omega
  have l6 : i + 6 < L := by omega
  simp (disch := omega) only [i_L_law_846, i_L_law_847, i_L_law_848, i_L_law_849, i_L_law_850, i_L_law_851, gh_00, z_ai_3, z_al_i, z_pu_s, z_pu_n, z_o_i, z_ai_i, z_si_i, z_ab_b, z_ab_z, z_sb_b, z_sb_z, z_al_i, z_al_b, z_pu_s, z_pu_n, nI_toN, z_inN, true_and, and_true, nI_add, pk_mul, vu_eq, vu_ne, true_and, h0, l1, l2, l3, l4, l5, l6]
  rw [i_L_law_852, gh_o3, z_o_i]
  refine x_layings hM.iv hK (fun B R hK1 hF => ?_)
  have h1 := h0
  simp (disch := omega) only [i_L_law_855, i_L_law_856, i_L_law_857, i_L_law_858, i_L_law_859, i_L_law_860, gh_00, z_ai_3, z_al_i, z_pu_s, z_pu_n, z_o_i, z_ai_i, z_si_i, z_ab_b, z_ab_z, z_sb_b, z_sb_z, z_al_i, z_al_b, z_pu_s, z_pu_n, nI_toN, z_inN, true_and, and_true, nI_add, pk_mul, vu_eq, vu_ne, true_and, h1, l1, l2, l3, l4, l5, l6]
  rw [i_L_law_861, gh_o32, z_o_i]
  refine m_layings (hM.fz hF) (fun C hM2 hF2 => ?_)
  rw [z_pu_s, i_L_law_864, if_pos rfl]
  exact hN _ _ _ _ _ _ ⟨_, hK1.fk hF2, hM2, h1⟩ (by omega) (by omega)
theorem w_laid (hL : L ≤ 3584) (hi : i + 7 ≤ L) (hc : 6 ≤ bc) (hs : 127 ≤ bs) (hW : Lw L xs A P dy nx) (hN : ∀ B R dz nz bc' bs', Lw L xs B R dz nz → bc ≤ bc' + 6 → bs ≤ bs' + 127 → X (e + 31) m_L_law 1149 [some (.ref 0), some (.ref 3), some (.ref 32), some (.int (nI i))] [] (GH B R dz) nz bc' bs' Q) : X (e + 31) m_L_law 869 [some (.ref 0), some (.ref 3), some (.ref 32), some (.int (nI i))] [] (GH A P dy) nx bc bs Q := by
  obtain ⟨s, hK, hM, h0⟩ := hW
  have l1 : i + 1 < L := by omega
  have l2 : i + 2 < L := by omega
  have l3 : i + 3 < L := by omega
  have l4 : i + 4 < L := by omega
  have l5 : i + 5 < L := by omega
  have l6 : i + 6 < L := by omega
  simp (disch := omega) only [i_L_law_869, i_L_law_870, i_L_law_871, i_L_law_872, i_L_law_873, i_L_law_874, gh_00, z_ai_3, z_al_i, z_pu_s, z_pu_n, z_o_i, z_ai_i, z_si_i, z_ab_b, z_ab_z, z_sb_b, z_sb_z, z_al_i, z_al_b, z_pu_s, z_pu_n, nI_toN, z_inN, true_and, and_true, nI_add, pk_mul, vu_eq, vu_ne, true_and, h0, l1, l2, l3, l4, l5, l6]
  rw [i_L_law_875, gh_o3, z_o_i]
  refine x_laid hM.iv hK (fun B R hK1 hF => ?_)
  have h1 := h0
  simp (disch := omega) only [i_L_law_878, i_L_law_879, i_L_law_880, i_L_law_881, i_L_law_882, i_L_law_883, gh_00, z_ai_3, z_al_i, z_pu_s, z_pu_n, z_o_i, z_ai_i, z_si_i, z_ab_b, z_ab_z, z_sb_b, z_sb_z, z_al_i, z_al_b, z_pu_s, z_pu_n, nI_toN, z_inN, true_and, and_true, nI_add, pk_mul, vu_eq, vu_ne, true_and, h1, l1, l2, l3, l4, l5, l6]
  rw [i_L_law_884, gh_o32, z_o_i]
  refine m_laid (hM.fz hF) (fun C hM2 hF2 => ?_)
  rw [z_pu_s, i_L_law_887, if_pos rfl]
  exact hN _ _ _ _ _ _ ⟨_, hK1.fk hF2, hM2, h1⟩ (by omega) (by omega)
theorem w_fill (hL : L ≤ 3584) (hi : i + 7 ≤ L) (hc : 6 ≤ bc) (hs : 127 ≤ bs) (hW : Lw L xs A P dy nx) (hN : ∀ B R dz nz bc' bs', Lw L xs B R dz nz → bc ≤ bc' + 6 → bs ≤ bs' + 127 → X (e + 31) m_L_law 1149 [some (.ref 0), some (.ref 3), some (.ref 32), some (.int (nI i))] [] (GH B R dz) nz bc' bs' Q) : X (e + 31) m_L_law 892 [some (.ref 0), some (.ref 3), some (.ref 32), some (.int (nI i))] [] (GH A P dy) nx bc bs Q := by
  obtain ⟨s, hK, hM, h0⟩ := hW
  have l1 : i + 1 < L := by omega
  have l2 : i + 2 < L := by omega
  have l3 : i + 3 < L := by omega
  have l4 : i + 4 < L := by omega
  have l5 : i + 5 < L := by omega
  have l6 : i + 6 < L := by omega
  simp (disch := omega) only [i_L_law_892, i_L_law_893, i_L_law_894, i_L_law_895, i_L_law_896, i_L_law_897, i_L_law_898, i_L_law_899, i_L_law_900, i_L_law_901, i_L_law_902, i_L_law_903, i_L_law_904, i_L_law_905, i_L_law_906, i_L_law_907, i_L_law_908, i_L_law_909, i_L_law_910, i_L_law_911, i_L_law_912, gh_00, z_ai_3, z_al_i, z_pu_s, z_pu_n, z_o_i, z_ai_i, z_si_i, z_ab_b, z_ab_z, z_sb_b, z_sb_z, z_al_i, z_al_b, z_pu_s, z_pu_n, nI_toN, z_inN, true_and, and_true, nI_add, pk_mul, vu_eq, vu_ne, true_and, h0, l1, l2, l3, l4, l5, l6]
  rw [i_L_law_913, gh_o3, z_o_i]
  refine x_fill hM.iv hK (fun B R hK1 hF => ?_)
  have h1 := h0
  simp (disch := omega) only [i_L_law_916, i_L_law_917, i_L_law_918, i_L_law_919, i_L_law_920, i_L_law_921, i_L_law_922, i_L_law_923, i_L_law_924, i_L_law_925, i_L_law_926, i_L_law_927, i_L_law_928, i_L_law_929, i_L_law_930, i_L_law_931, i_L_law_932, i_L_law_933, i_L_law_934, i_L_law_935, i_L_law_936, gh_00, z_ai_3, z_al_i, z_pu_s, z_pu_n, z_o_i, z_ai_i, z_si_i, z_ab_b, z_ab_z, z_sb_b, z_sb_z, z_al_i, z_al_b, z_pu_s, z_pu_n, nI_toN, z_inN, true_and, and_true, nI_add, pk_mul, vu_eq, vu_ne, true_and, h1, l1, l2, l3, l4, l5, l6]
  rw [i_L_law_937, gh_o32, z_o_i]
  refine m_fill (hM.fz hF) (fun C hM2 hF2 => ?_)
  rw [z_pu_s, i_L_law_940, if_pos rfl]
  exact hN _ _ _ _ _ _ ⟨_, hK1.fk hF2, hM2, h1⟩ (by omega) (by omega)
theorem w_form (hL : L ≤ 3584) (hi : i + 7 ≤ L) (hc : 6 ≤ bc) (hs : 127 ≤ bs) (hW : Lw L xs A P dy nx) (hN : ∀ B R dz nz bc' bs', Lw L xs B R dz nz → bc ≤ bc' + 6 → bs ≤ bs' + 127 → X (e + 31) m_L_law 1149 [some (.ref 0), some (.ref 3), some (.ref 32), some (.int (nI i))] [] (GH B R dz) nz bc' bs' Q) : X (e + 31) m_L_law 945 [some (.ref 0), some (.ref 3), some (.ref 32), some (.int (nI i))] [] (GH A P dy) nx bc bs Q := by
  obtain ⟨s, hK, hM, h0⟩ := hW
  have l1 : i + 1 < L := by omega
  have l2 : i + 2 < L := by omega
  have l3 : i + 3 < L := by omega
  have l4 : i + 4 < L := by omega
  have l5 : i + 5 < L := by omega
  have l6 : i + 6 < L := by omega
  simp (disch := omega) only [i_L_law_945, i_L_law_946, i_L_law_947, i_L_law_948, i_L_law_949, i_L_law_950, gh_00, z_ai_3, z_al_i, z_pu_s, z_pu_n, z_o_i, z_ai_i, z_si_i, z_ab_b, z_ab_z, z_sb_b, z_sb_z, z_al_i, z_al_b, z_pu_s, z_pu_n, nI_toN, z_inN, true_and, and_true, nI_add, pk_mul, vu_eq, vu_ne, true_and, h0, l1, l2, l3, l4, l5, l6]
  rw [i_L_law_951, gh_o3, z_o_i]
  refine x_form hM.iv hK (fun B R hK1 hF => ?_)
  have h1 := h0
  simp (disch := omega) only [i_L_law_954, i_L_law_955, i_L_law_956, i_L_law_957, i_L_law_958, i_L_law_959, gh_00, z_ai_3, z_al_i, z_pu_s, z_pu_n, z_o_i, z_ai_i, z_si_i, z_ab_b, z_ab_z, z_sb_b, z_sb_z, z_al_i, z_al_b, z_pu_s, z_pu_n, nI_toN, z_inN, true_and, and_true, nI_add, pk_mul, vu_eq, vu_ne, true_and, h1, l1, l2, l3, l4, l5, l6]
  rw [i_L_law_960, gh_o32, z_o_i]
  refine m_form (hM.fz hF) (fun C hM2 hF2 => ?_)
  rw [z_pu_s, i_L_law_963, if_pos rfl]
  exact hN _ _ _ _ _ _ ⟨_, hK1.fk hF2, hM2, h1⟩ (by omega) (by omega)
theorem w_place (hL : L ≤ 3584) (hi : i + 7 ≤ L) (hc : 6 ≤ bc) (hs : 127 ≤ bs) (hW : Lw L xs A P dy nx) (hN : ∀ B R dz nz bc' bs', Lw L xs B R dz nz → bc ≤ bc' + 6 → bs ≤ bs' + 127 → X (e + 31) m_L_law 1149 [some (.ref 0), some (.ref 3), some (.ref 32), some (.int (nI i))] [] (GH B R dz) nz bc' bs' Q) : X (e + 31) m_L_law 968 [some (.ref 0), some (.ref 3), some (.ref 32), some (.int (nI i))] [] (GH A P dy) nx bc bs Q := by
  obtain ⟨s, hK, hM, h0⟩ := hW
  have l1 : i + 1 < L := by omega
  have l2 : i + 2 < L := by omega
  have l3 : i + 3 < L := by omega
  have l4 : i + 4 < L := by omega
  have l5 : i + 5 < L := by omega
  have l6 : i + 6 < L := by omega
  simp (disch := omega) only [i_L_law_968, i_L_law_969, i_L_law_970, i_L_law_971, i_L_law_972, i_L_law_973, i_L_law_974, i_L_law_975, i_L_law_976, i_L_law_977, i_L_law_978, i_L_law_979, i_L_law_980, i_L_law_981, i_L_law_982, i_L_law_983, gh_00, z_ai_3, z_al_i, z_pu_s, z_pu_n, z_o_i, z_ai_i, z_si_i, z_ab_b, z_ab_z, z_sb_b, z_sb_z, z_al_i, z_al_b, z_pu_s, z_pu_n, nI_toN, z_inN, true_and, and_true, nI_add, pk_mul, vu_eq, vu_ne, true_and, h0, l1, l2, l3, l4, l5, l6]
  rw [i_L_law_984, gh_o3, z_o_i]
  refine x_place hM.iv hK (fun B R hK1 hF => ?_)
  have h1 := h0
  simp (disch := omega) only [i_L_law_987, i_L_law_988, i_L_law_989, i_L_law_990, i_L_law_991, i_L_law_992, i_L_law_993, i_L_law_994, i_L_law_995, i_L_law_996, i_L_law_997, i_L_law_998, i_L_law_999, i_L_law_1000, i_L_law_1001, i_L_law_1002, gh_00, z_ai_3, z_al_i, z_pu_s, z_pu_n, z_o_i, z_ai_i, z_si_i, z_ab_b, z_ab_z, z_sb_b, z_sb_z, z_al_i, z_al_b, z_pu_s, z_pu_n, nI_toN, z_inN, true_and, and_true, nI_add, pk_mul, vu_eq, vu_ne, true_and, h1, l1, l2, l3, l4, l5, l6]
  rw [i_L_law_1003, gh_o32, z_o_i]
  refine m_place (hM.fz hF) (fun C hM2 hF2 => ?_)
  rw [z_pu_s, i_L_law_1006, if_pos rfl]
  exact hN _ _ _ _ _ _ ⟨_, hK1.fk hF2, hM2, h1⟩ (by omega) (by omega)
theorem w_loose (hL : L ≤ 3584) (hi : i + 7 ≤ L) (hc : 6 ≤ bc) (hs : 127 ≤ bs) (hW : Lw L xs A P dy nx) (hN : ∀ B R dz nz bc' bs', Lw L xs B R dz nz → bc ≤ bc' + 6 → bs ≤ bs' + 127 → X (e + 31) m_L_law 1149 [some (.ref 0), some (.ref 3), some (.ref 32), some (.int (nI i))] [] (GH B R dz) nz bc' bs' Q) : X (e + 31) m_L_law 1011 [some (.ref 0), some (.ref 3), some (.ref 32), some (.int (nI i))] [] (GH A P dy) nx bc bs Q := by
  obtain ⟨s, hK, hM, h0⟩ := hW
  have l1 : i + 1 < L := by omega
  have l2 : i + 2 < L := by omega
  have l3 : i + 3 < L := by omega
  have l4 : i + 4 < L := by omega
  have l5 : i + 5 < L := by omega
  have l6 : i + 6 < L := by omega
  simp (disch := omega) only [i_L_law_1011, i_L_law_1012, i_L_law_1013, i_L_law_1014, i_L_law_1015, i_L_law_1016, gh_00, z_ai_3, z_al_i, z_pu_s, z_pu_n, z_o_i, z_ai_i, z_si_i, z_ab_b, z_ab_z, z_sb_b, z_sb_z, z_al_i, z_al_b, z_pu_s, z_pu_n, nI_toN, z_inN, true_and, and_true, nI_add, pk_mul, vu_eq, vu_ne, true_and, h0, l1, l2, l3, l4, l5, l6]
  rw [i_L_law_1017, gh_o3, z_o_i]
  refine x_loose hM.iv hK (fun B R hK1 hF => ?_)
  have h1 := h0
  simp (disch := omega) only [i_L_law_1020, i_L_law_1021, i_L_law_1022, i_L_law_1023, i_L_law_1024, i_L_law_1025, gh_00, z_ai_3, z_al_i, z_pu_s, z_pu_n, z_o_i, z_ai_i, z_si_i, z_ab_b, z_ab_z, z_sb_b, z_sb_z, z_al_i, z_al_b, z_pu_s, z_pu_n, nI_toN, z_inN, true_and, and_true, nI_add, pk_mul, vu_eq, vu_ne, true_and, h1, l1, l2, l3, l4, l5, l6]
  rw [i_L_law_1026, gh_o32, z_o_i]
  refine m_loose (hM.fz hF) (fun C hM2 hF2 => ?_)
  rw [z_pu_s, i_L_law_1029, if_pos rfl]
  exact hN _ _ _ _ _ _ ⟨_, hK1.fk hF2, hM2, h1⟩ (by omega) (by omega)
theorem w_set (hL : L ≤ 3584) (hi : i + 7 ≤ L) (hc : 6 ≤ bc) (hs : 127 ≤ bs) (hW : Lw L xs A P dy nx) (hN : ∀ B R dz nz bc' bs', Lw L xs B R dz nz → bc ≤ bc' + 6 → bs ≤ bs' + 127 → X (e + 31) m_L_law 1149 [some (.ref 0), some (.ref 3), some (.ref 32), some (.int (nI i))] [] (GH B R dz) nz bc' bs' Q) : X (e + 31) m_L_law 1034 [some (.ref 0), some (.ref 3), some (.ref 32), some (.int (nI i))] [] (GH A P dy) nx bc bs Q := by
  obtain ⟨s, hK, hM, h0⟩ := hW
  have l1 : i + 1 < L := by omega
  have l2 : i + 2 < L := by omega
  have l3 : i + 3 < L := by omega
  have l4 : i + 4 < L := by omega
  have l5 : i + 5 < L := by omega
  have l6 : i + 6 < L := by omega
  simp (disch := omega) only [i_L_law_1034, i_L_law_1035, i_L_law_1036, i_L_law_1037, i_L_law_1038, i_L_law_1039, i_L_law_1040, i_L_law_1041, i_L_law_1042, i_L_law_1043, i_L_law_1044, gh_00, z_ai_3, z_al_i, z_pu_s, z_pu_n, z_o_i, z_ai_i, z_si_i, z_ab_b, z_ab_z, z_sb_b, z_sb_z, z_al_i, z_al_b, z_pu_s, z_pu_n, nI_toN, z_inN, true_and, and_true, nI_add, pk_mul, vu_eq, vu_ne, true_and, h0, l1, l2, l3, l4, l5, l6]
  rw [i_L_law_1045, gh_o3, z_o_i]
  refine x_set hM.iv hK (fun B R hK1 hF => ?_)
  have h1 := h0
  simp (disch := omega) only [i_L_law_1048, i_L_law_1049, i_L_law_1050, i_L_law_1051, i_L_law_1052, i_L_law_1053, i_L_law_1054, i_L_law_1055, i_L_law_1056, i_L_law_1057, i_L_law_1058, gh_00, z_ai_3, z_al_i, z_pu_s, z_pu_n, z_o_i, z_ai_i, z_si_i, z_ab_b, z_ab_z, z_sb_b, z_sb_z, z_al_i, z_al_b, z_pu_s, z_pu_n, nI_toN, z_inN, true_and, and_true, nI_add, pk_mul, vu_eq, vu_ne, true_and, h1, l1, l2, l3, l4, l5, l6]
  rw [i_L_law_1059, gh_o32, z_o_i]
  refine m_set (hM.fz hF) (fun C hM2 hF2 => ?_)
  rw [z_pu_s, i_L_law_1062, if_pos rfl]
  exact hN _ _ _ _ _ _ ⟨_, hK1.fk hF2, hM2, h1⟩ (by omega) (by omega)
theorem w_check (hL : L ≤ 3584) (hi : i + 7 ≤ L) (hc : 6 ≤ bc) (hs : 127 ≤ bs) (hW : Lw L xs A P dy nx) (hN : ∀ B R dz nz bc' bs', Lw L xs B R dz nz → bc ≤ bc' + 6 → bs ≤ bs' + 127 → X (e + 31) m_L_law 1149 [some (.ref 0), some (.ref 3), some (.ref 32), some (.int (nI i))] [] (GH B R dz) nz bc' bs' Q) : X (e + 31) m_L_law 1067 [some (.ref 0), some (.ref 3), some (.ref 32), some (.int (nI i))] [] (GH A P dy) nx bc bs Q := by
  obtain ⟨s, hK, hM, h0⟩ := hW
  have l1 : i + 1 < L := by omega
  have l2 : i + 2 < L := by omega
  have l3 : i + 3 < L := by omega
  have l4 : i + 4 < L := by omega
  have l5 : i + 5 < L := by omega
  have l6 : i + 6 < L := by omega
  simp (disch := omega) only [i_L_law_1067, gh_00, z_ai_3, z_al_i, z_pu_s, z_pu_n, z_o_i, z_ai_i, z_si_i, z_ab_b, z_ab_z, z_sb_b, z_sb_z, z_al_i, z_al_b, z_pu_s, z_pu_n, nI_toN, z_inN, true_and, and_true, nI_add, pk_mul, vu_eq, vu_ne, true_and, h0, l1, l2, l3, l4, l5, l6]
  rw [i_L_law_1068, gh_o3, z_o_i]
  refine x_check hM.iv hK (fun B R hK1 hF => ?_)
  have h1 := h0
  simp (disch := omega) only [i_L_law_1071, gh_00, z_ai_3, z_al_i, z_pu_s, z_pu_n, z_o_i, z_ai_i, z_si_i, z_ab_b, z_ab_z, z_sb_b, z_sb_z, z_al_i, z_al_b, z_pu_s, z_pu_n, nI_toN, z_inN, true_and, and_true, nI_add, pk_mul, vu_eq, vu_ne, true_and, h1, l1, l2, l3, l4, l5, l6]
  rw [i_L_law_1072, gh_o32, z_o_i]
  refine m_check (hM.fz hF) (fun C hM2 hF2 => ?_)
  rw [z_pu_s, i_L_law_1075, if_pos rfl]
  exact hN _ _ _ _ _ _ ⟨_, hK1.fk hF2, hM2, h1⟩ (by omega) (by omega)
theorem w_complete (hL : L ≤ 3584) (hi : i + 7 ≤ L) (hc : 6 ≤ bc) (hs : 127 ≤ bs) (hW : Lw L xs A P dy nx) (hN : ∀ B R dz nz bc' bs', Lw L xs B R dz nz → bc ≤ bc' + 6 → bs ≤ bs' + 127 → X (e + 31) m_L_law 1149 [some (.ref 0), some (.ref 3), some (.ref 32), some (.int (nI i))] [] (GH B R dz) nz bc' bs' Q) : X (e + 31) m_L_law 1080 [some (.ref 0), some (.ref 3), some (.ref 32), some (.int (nI i))] [] (GH A P dy) nx bc bs Q := by
  obtain ⟨s, hK, hM, h0⟩ := hW
  have l1 : i + 1 < L := by omega
  have l2 : i + 2 < L := by omega
  have l3 : i + 3 < L := by omega
  have l4 : i + 4 < L := by omega
  have l5 : i + 5 < L := by omega
  have l6 : i + 6 < L := by omega
  simp (disch := omega) only [i_L_law_1080, i_L_law_1081, i_L_law_1082, i_L_law_1083, i_L_law_1084, i_L_law_1085, gh_00, z_ai_3, z_al_i, z_pu_s, z_pu_n, z_o_i, z_ai_i, z_si_i, z_ab_b, z_ab_z, z_sb_b, z_sb_z, z_al_i, z_al_b, z_pu_s, z_pu_n, nI_toN, z_inN, true_and, and_true, nI_add, pk_mul, vu_eq, vu_ne, true_and, h0, l1, l2, l3, l4, l5, l6]
  rw [i_L_law_1086, gh_o3, z_o_i]
  refine x_complete hM.iv hK (fun B R hK1 hF => ?_)
  have h1 := h0
  simp (disch := omega) only [i_L_law_1089, i_L_law_1090, i_L_law_1091, i_L_law_1092, i_L_law_1093, i_L_law_1094, gh_00, z_ai_3, z_al_i, z_pu_s, z_pu_n, z_o_i, z_ai_i, z_si_i, z_ab_b, z_ab_z, z_sb_b, z_sb_z, z_al_i, z_al_b, z_pu_s, z_pu_n, nI_toN, z_inN, true_and, and_true, nI_add, pk_mul, vu_eq, vu_ne, true_and, h1, l1, l2, l3, l4, l5, l6]
  rw [i_L_law_1095, gh_o32, z_o_i]
  refine m_complete (hM.fz hF) (fun C hM2 hF2 => ?_)
  rw [z_pu_s, i_L_law_1098, if_pos rfl]
  exact hN _ _ _ _ _ _ ⟨_, hK1.fk hF2, hM2, h1⟩ (by omega) (by omega)
theorem w_stands (hL : L ≤ 3584) (hi : i + 7 ≤ L) (hc : 6 ≤ bc) (hs : 127 ≤ bs) (hW : Lw L xs A P dy nx) (hN : ∀ B R dz nz bc' bs', Lw L xs B R dz nz → bc ≤ bc' + 6 → bs ≤ bs' + 127 → X (e + 31) m_L_law 1149 [some (.ref 0), some (.ref 3), some (.ref 32), some (.int (nI i))] [] (GH B R dz) nz bc' bs' Q) : X (e + 31) m_L_law 1103 [some (.ref 0), some (.ref 3), some (.ref 32), some (.int (nI i))] [] (GH A P dy) nx bc bs Q := by
  obtain ⟨s, hK, hM, h0⟩ := hW
  have l1 : i + 1 < L := by omega
  have l2 : i + 2 < L := by omega
  have l3 : i + 3 < L := by omega
  have l4 : i + 4 < L := by omega
  have l5 : i + 5 < L := by omega
  have l6 : i + 6 < L := by omega
  simp (disch := omega) only [i_L_law_1103, i_L_law_1104, i_L_law_1105, i_L_law_1106, i_L_law_1107, i_L_law_1108, gh_00, z_ai_3, z_al_i, z_pu_s, z_pu_n, z_o_i, z_ai_i, z_si_i, z_ab_b, z_ab_z, z_sb_b, z_sb_z, z_al_i, z_al_b, z_pu_s, z_pu_n, nI_toN, z_inN, true_and, and_true, nI_add, pk_mul, vu_eq, vu_ne, true_and, h0, l1, l2, l3, l4, l5, l6]
  rw [i_L_law_1109, gh_o3, z_o_i]
  refine x_stands hM.iv hK (fun B R hK1 hF => ?_)
  have h1 := h0
  simp (disch := omega) only [i_L_law_1112, i_L_law_1113, i_L_law_1114, i_L_law_1115, i_L_law_1116, i_L_law_1117, gh_00, z_ai_3, z_al_i, z_pu_s, z_pu_n, z_o_i, z_ai_i, z_si_i, z_ab_b, z_ab_z, z_sb_b, z_sb_z, z_al_i, z_al_b, z_pu_s, z_pu_n, nI_toN, z_inN, true_and, and_true, nI_add, pk_mul, vu_eq, vu_ne, true_and, h1, l1, l2, l3, l4, l5, l6]
  rw [i_L_law_1118, gh_o32, z_o_i]
  refine m_stands (hM.fz hF) (fun C hM2 hF2 => ?_)
  rw [z_pu_s, i_L_law_1121, if_pos rfl]
  exact hN _ _ _ _ _ _ ⟨_, hK1.fk hF2, hM2, h1⟩ (by omega) (by omega)
theorem w_count (hL : L ≤ 3584) (hi : i + 7 ≤ L) (hc : 6 ≤ bc) (hs : 127 ≤ bs) (hW : Lw L xs A P dy nx) (hN : ∀ B R dz nz bc' bs', Lw L xs B R dz nz → bc ≤ bc' + 6 → bs ≤ bs' + 127 → X (e + 31) m_L_law 1149 [some (.ref 0), some (.ref 3), some (.ref 32), some (.int (nI i))] [] (GH B R dz) nz bc' bs' Q) : X (e + 31) m_L_law 1126 [some (.ref 0), some (.ref 3), some (.ref 32), some (.int (nI i))] [] (GH A P dy) nx bc bs Q := by
  obtain ⟨s, hK, hM, h0⟩ := hW
  have l1 : i + 1 < L := by omega
  have l2 : i + 2 < L := by omega
  have l3 : i + 3 < L := by omega
  have l4 : i + 4 < L := by omega
  have l5 : i + 5 < L := by omega
  have l6 : i + 6 < L := by omega
  simp (disch := omega) only [i_L_law_1126, i_L_law_1127, i_L_law_1128, i_L_law_1129, i_L_law_1130, i_L_law_1131, gh_00, z_ai_3, z_al_i, z_pu_s, z_pu_n, z_o_i, z_ai_i, z_si_i, z_ab_b, z_ab_z, z_sb_b, z_sb_z, z_al_i, z_al_b, z_pu_s, z_pu_n, nI_toN, z_inN, true_and, and_true, nI_add, pk_mul, vu_eq, vu_ne, true_and, h0, l1, l2, l3, l4, l5, l6]
  rw [i_L_law_1132, gh_o3, z_o_i]
  refine x_count hM.iv hK (fun B R hK1 hF => ?_)
  have h1 := h0
  simp (disch := omega) only [i_L_law_1135, i_L_law_1136, i_L_law_1137, i_L_law_1138, i_L_law_1139, i_L_law_1140, gh_00, z_ai_3, z_al_i, z_pu_s, z_pu_n, z_o_i, z_ai_i, z_si_i, z_ab_b, z_ab_z, z_sb_b, z_sb_z, z_al_i, z_al_b, z_pu_s, z_pu_n, nI_toN, z_inN, true_and, and_true, nI_add, pk_mul, vu_eq, vu_ne, true_and, h1, l1, l2, l3, l4, l5, l6]
  rw [i_L_law_1141, gh_o32, z_o_i]
  refine m_count (hM.fz hF) (fun C hM2 hF2 => ?_)
  rw [z_pu_s, i_L_law_1144, if_pos rfl]
  exact hN _ _ _ _ _ _ ⟨_, hK1.fk hF2, hM2, h1⟩ (by omega) (by omega)
theorem sw_ex (x : Int32) : ∃ k, k < 32 ∧ x &&& nI 31 = nI k := by
  refine ⟨(x &&& nI 31).toBitVec.toNat, ?_, ?_⟩
  · rw [Int32.toBitVec_and, BitVec.toNat_and]
    exact Nat.lt_of_le_of_lt Nat.and_le_right (by decide)
  · apply Int32.toBitVec_inj.mp
    unfold nI
    rw [Int32.toBitVec_ofNat']
    simp
theorem sw_out {k : Nat} (h1 : 27 ≤ k) (h2 : k < 32) : (nI k : Int32).toInt < 0 ∨ 26 < (nI k : Int32).toInt := by
  rw [nI_toInt (by omega)]; right; omega
theorem w_all (hL : L ≤ 3584) (hi : i + 7 ≤ L) (hc : 6 ≤ bc) (hs : 127 ≤ bs) (hW : Lw L xs A P dy nx) (hN : ∀ B R dz nz bc' bs', Lw L xs B R dz nz → bc ≤ bc' + 6 → bs ≤ bs' + 127 → X (e + 31) m_L_law 1149 [some (.ref 0), some (.ref 3), some (.ref 32), some (.int (nI i))] [] (GH B R dz) nz bc' bs' Q) {k : Nat} (hk : k < 32) : X (e + 31) m_L_law 33 [some (.ref 0), some (.ref 3), some (.ref 32), some (.int (nI i))] [.int (nI k)] (GH A P dy) nx bc bs Q := by
  match k, hk with
  | 0, _ => rw [i_L_law_33_0]; exact w_word hL hi hc hs hW hN
  | 1, _ => rw [i_L_law_33_1]; exact w_saying hL hi hc hs hW hN
  | 2, _ => rw [i_L_law_33_2]; exact w_writing hL hi hc hs hW hN
  | 3, _ => rw [i_L_law_33_3]; exact w_spell hL hi hc hs hW hN
  | 4, _ => rw [i_L_law_33_4]; exact w_copy hL hi hc hs hW hN
  | 5, _ => rw [i_L_law_33_5]; exact w_speech hL hi hc hs hW hN
  | 6, _ => rw [i_L_law_33_6]; exact w_told hL hi hc hs hW hN
  | 7, _ => rw [i_L_law_33_7]; exact w_near hL hi hc hs hW hN
  | 8, _ => rw [i_L_law_33_8]; exact w_rhyme hL hi hc hs hW hN
  | 9, _ => rw [i_L_law_33_9]; exact w_how hL hi hc hs hW hN
  | 10, _ => rw [i_L_law_33_10]; exact w_cost hL hi hc hs hW hN
  | 11, _ => rw [i_L_law_33_11]; exact w_rhymes hL hi hc hs hW hN
  | 12, _ => rw [i_L_law_33_12]; exact w_broken hL hi hc hs hW hN
  | 13, _ => rw [i_L_law_33_13]; exact w_meter hL hi hc hs hW hN
  | 14, _ => rw [i_L_law_33_14]; exact w_line hL hi hc hs hW hN
  | 15, _ => rw [i_L_law_33_15]; exact w_inLine hL hi hc hs hW hN
  | 16, _ => rw [i_L_law_33_16]; exact w_layings hL hi hc hs hW hN
  | 17, _ => rw [i_L_law_33_17]; exact w_laid hL hi hc hs hW hN
  | 18, _ => rw [i_L_law_33_18]; exact w_fill hL hi hc hs hW hN
  | 19, _ => rw [i_L_law_33_19]; exact w_form hL hi hc hs hW hN
  | 20, _ => rw [i_L_law_33_20]; exact w_place hL hi hc hs hW hN
  | 21, _ => rw [i_L_law_33_21]; exact w_loose hL hi hc hs hW hN
  | 22, _ => rw [i_L_law_33_22]; exact w_set hL hi hc hs hW hN
  | 23, _ => rw [i_L_law_33_23]; exact w_check hL hi hc hs hW hN
  | 24, _ => rw [i_L_law_33_24]; exact w_complete hL hi hc hs hW hN
  | 25, _ => rw [i_L_law_33_25]; exact w_stands hL hi hc hs hW hN
  | 26, _ => rw [i_L_law_33_26]; exact w_count hL hi hc hs hW hN
  | (k + 27), hk => rw [i_L_law_33_out (sw_out (by omega) hk)]; exact hN _ _ _ _ _ _ hW (by omega) (by omega)
theorem l_law (hL : L ≤ 3584) (hQ : ∀ h nx, Q (some (.int (nI 1))) h nx) : ∀ (m i : Nat) (A : Nat → Nat → Int32) (P : Nat → Nat → Nat) (dy : z_H) (nx bc bs : Nat), L < i + 7 * m + 7 → i ≤ 100000 → 6 * m ≤ bc → 127 * m ≤ bs → Lw L xs A P dy nx → X (e + 31) m_L_law 18 [some (.ref 0), some (.ref 3), some (.ref 32), some (.int (nI i))] [] (GH A P dy) nx bc bs Q := by
  have cmp : ∀ i, i ≤ 100000 → ((nI L - nI 7 : Int32) < nI i) = (L < i + 7) := fun i hi => by
    rw [Int32.lt_iff_toInt_lt, pk_sub_toInt (by omega) (by omega), nI_toInt (by omega)]
    simp only [eq_iff_iff]
    omega
  intro m
  induction m with
  | zero =>
    intro i A P dy nx bc bs hm hi hc hs hW
    have h0 := hW
    obtain ⟨s, _, _, h0⟩ := h0
    have lt : L < i + 7 := by omega
    have e := cmp i hi
    simp (disch := omega) only [i_L_law_18, i_L_law_19, i_L_law_20, i_L_law_21, i_L_law_23, i_L_law_24, i_L_law_1155, i_L_law_1156, gh_00, z_ai_3, z_al_i, z_pu_s, z_pu_n, z_o_i, z_ai_i, z_si_i, z_ab_b, z_ab_z, z_sb_b, z_sb_z, z_al_i, z_al_b, z_pu_s, z_pu_n, nI_toN, z_inN, true_and, and_true, nI_add, pk_mul, vu_eq, vu_ne, true_and, h0, e, lt, if_true]
    exact ⟨Or.inr rfl, hQ _ _⟩
  | succ m ih =>
    intro i A P dy nx bc bs hm hi hc hs hW
    have h0 := hW
    obtain ⟨s, _, _, h0⟩ := h0
    have ec := cmp i hi
    by_cases lt : L < i + 7
    · rw [i_L_law_18]
      simp (disch := omega) only [i_L_law_19, i_L_law_20, i_L_law_21, i_L_law_23, i_L_law_24, i_L_law_1155, i_L_law_1156, gh_00, z_ai_3, z_al_i, z_pu_s, z_pu_n, z_o_i, z_ai_i, z_si_i, z_ab_b, z_ab_z, z_sb_b, z_sb_z, z_al_i, z_al_b, z_pu_s, z_pu_n, nI_toN, z_inN, true_and, and_true, nI_add, pk_mul, vu_eq, vu_ne, true_and, h0, ec, lt, if_true]
      exact ⟨Or.inr rfl, hQ _ _⟩
    · have l0 : i < L := by omega
      obtain ⟨k, hk, ek⟩ := sw_ex (xs i)
      rw [i_L_law_18]
      simp (disch := omega) only [i_L_law_19, i_L_law_20, i_L_law_21, i_L_law_23, i_L_law_24, i_L_law_27, i_L_law_28, i_L_law_29, i_L_law_30, i_L_law_32, gh_00, z_ai_3, z_al_i, z_pu_s, z_pu_n, z_o_i, z_ai_i, z_si_i, z_ab_b, z_ab_z, z_sb_b, z_sb_z, z_al_i, z_al_b, z_pu_s, z_pu_n, nI_toN, z_inN, true_and, and_true, nI_add, pk_mul, vu_eq, vu_ne, true_and, h0, ec, lt, if_false, l0, ek]
      refine w_all hL (by omega) (by omega) (by omega) hW (fun B R dz nz bc' bs' hW' b1 b2 => ?_) hk
      simp (disch := omega) only [i_L_law_1149, i_L_law_1152, gh_00, z_ai_3, z_al_i, z_pu_s, z_pu_n, z_o_i, z_ai_i, z_si_i, z_ab_b, z_ab_z, z_sb_b, z_sb_z, z_al_i, z_al_b, z_pu_s, z_pu_n, nI_toN, z_inN, true_and, and_true, nI_add, pk_mul, vu_eq, vu_ne, true_and]
      exact ih (i + 7) B R dz nz bc' bs' (by omega) (by omega) (by omega) (by omega) hW'
end Law
theorem law_ok (L : Nat) (xs : Nat → Int32) (hL : L ≤ 3584) : X 2000 169 0 (z_en 4 [.ref 0]) [] (z_h0 L xs) 3 600000 7302250 (fun r _ _ => r = some (.int 1)) := by
  show X 2000 m_L_law 0 [some (.ref 0), none, none, none] [] (z_h0 L xs) 3 600000 7302250 (fun r _ _ => r = some (.int 1))
  rw [i_L_law_0]
  refine ⟨⟨by omega, by omega⟩, ?_⟩
  rw [i_L_law_3, i_L_law_4]
  refine ⟨⟨by omega, by omega⟩, k_i7 (d := 1993) ?_⟩
  rw [z_pu_n, i_L_law_7, i_L_law_8]
  refine ⟨⟨by omega, by omega⟩, ?_⟩
  rw [i_L_law_11, i_L_law_12]
  refine ⟨⟨by omega, by omega⟩, k_i8 (d := 1993) ?_⟩
  rw [z_pu_n, i_L_law_15, i_L_law_16, i_L_law_17]
  exact l_law (e := 1969) hL (fun _ _ => rfl) 512 0 iA iP (z_h0 L xs) 63 _ _ (by omega) (by omega) (by omega) (by omega) ⟨is0, cl_0, mo_0, rfl⟩
