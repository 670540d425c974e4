/-! THE CLASS: which sayings and words rhyme -/
section IvB
variable {s : z_S}
theorem Iv.b33 (h : Iv s) (i : Nat) : s.1 33 i ≤ 5 := (h.1.1 i).1
theorem Iv.b34 (h : Iv s) (i : Nat) : s.1 34 i ≤ 3 := (h.1.1 i).2.1
theorem Iv.b35 (h : Iv s) (i : Nat) : s.1 35 i ≤ 12 := (h.1.1 i).2.2.1
theorem Iv.b36 (h : Iv s) (i : Nat) : s.1 36 i < 40 := (h.1.1 i).2.2.2.1
theorem Iv.b37 (h : Iv s) (i : Nat) : s.1 37 i ≤ 2 := (h.1.1 i).2.2.2.2.1
theorem Iv.b40 (h : Iv s) (i : Nat) : s.1 40 i < 40 := (h.1.1 i).2.2.2.2.2.1
theorem Iv.b41 (h : Iv s) (i : Nat) : s.1 41 i ≤ 2 := (h.1.1 i).2.2.2.2.2.2.1
theorem Iv.b42 (h : Iv s) (i : Nat) : s.1 42 i ≤ 8 := (h.1.1 i).2.2.2.2.2.2.2.1
theorem Iv.b43 (h : Iv s) (i : Nat) : s.1 43 i < 24 := (h.1.1 i).2.2.2.2.2.2.2.2.1
theorem Iv.b44 (h : Iv s) (i : Nat) : s.1 44 i ≤ 7 := (h.1.1 i).2.2.2.2.2.2.2.2.2.1
theorem Iv.b38 (h : Iv s) (i : Nat) : s.1 38 i ≤ 9 := (h.1.1 i).2.2.2.2.2.2.2.2.2.2.1
theorem Iv.b45 (h : Iv s) (i : Nat) : s.1 45 i ≤ 14 := (h.1.1 i).2.2.2.2.2.2.2.2.2.2.2.1
theorem Iv.b46 (h : Iv s) (i : Nat) : s.1 46 i ≤ 16 := (h.1.1 i).2.2.2.2.2.2.2.2.2.2.2.2
theorem Iv.sc (h : Iv s) : s.1 32 1 ≤ 24 ∧ s.1 32 10 ≤ 100 ∧ 1 ≤ s.1 32 11 ∧ s.1 32 11 ≤ 12 ∧ s.1 32 13 ≤ 16 ∧ s.1 32 16 ≤ 14 ∧ s.1 32 19 ≤ 1 := h.1.2
theorem Iv.sp (h : Iv s) : Sp s.1 := h.2.1.1
theorem Iv.gd (h : Iv s) {w k : Nat} (hw : w < s.1 32 1) (hk : k < s.1 34 w) : Gd s.1 (3 * w + k) := h.2.1.2 w k hw hk
theorem Iv.tl (h : Iv s) {t : Nat} (g : Gd s.1 t) : bt (hs s.1 t) (ss s.1 t) (s.1 35 t) = some (tl s.1 t) ∧ tl s.1 t < s.1 35 t ∧ hs s.1 t (tl s.1 t) < 10 := gd_tl g h.sp h.b36
end IvB
theorem Rc.pe {s : z_S} {A : Nat → Nat → Int32} {P : Nat → Nat → Nat} (h : Rc s A P) : (P 6 2 = 8 ∨ P 6 2 = 9) ∧ (P 6 3 = 8 ∨ P 6 3 = 9) ∧ P 6 2 ≠ P 6 3 := h.2.2.1
theorem Fe.rf {s : z_S} {A : Nat → Nat → Int32} {P : Nat → Nat → Nat} (h : Rc s A P) : Fe A A P P := ⟨fun _ _ _ => rfl, fun _ _ => rfl, h.pe⟩
theorem Fe.rc {s : z_S} {A B : Nat → Nat → Int32} {P R : Nat → Nat → Nat} (h : Fe A B P R) (hC : Rc s A P) : Rc s B R := by
  obtain ⟨h1, h2, h3, h4, h5⟩ := hC
  refine ⟨?_, ?_, h.2.2, ?_, ?_⟩
  · rw [h.1 7 (by omega) (by omega), h.1 6 (by omega) (by omega), h.1 10 (by omega) (by omega), h.1 11 (by omega) (by omega)]; exact h1
  · rw [h.1 24 (by omega) (by omega), h.1 25 (by omega) (by omega), h.1 26 (by omega) (by omega), h.1 27 (by omega) (by omega)]; exact h2
  · rw [h.2.1 10 (by omega)]; exact h4
  · rw [h.2.1 10 (by omega)]; exact h5
theorem Fe.rd {s : z_S} {A B : Nat → Nat → Int32} {P R : Nat → Nat → Nat} {dy : z_H} {nx : Nat} {wd ln : Nat → Nat} (h : Fe A B P R) (hD : Rd s A P dy nx wd ln) : Rd s B R dy nx wd ln := hD.of (by rw [h.1 4 (by omega) (by omega)]) (by rw [h.1 5 (by omega) (by omega)]) (by rw [h.2.1 4 (by omega)]) (by rw [h.2.1 5 (by omega)])
/-- a word, as it lies in every heap -/
def Wq (s : z_S) (dy : z_H) (nz : Nat) (ρ : Nat → Nat) (w p : Nat) : Prop :=
  ∃ (l b e c : Nat) (m : Int32) (g : Nat → Option Nat) (K : Nat → Int32), (∀ {A : Nat → Nat → Int32} {P : Nat → Nat → Nat}, GH A P dy p = .inr (.inl (6, wdF (nI (s.1 33 w)) l b (nI (s.1 38 w) - nI 1)))) ∧ (∀ {A : Nat → Nat → Int32} {P : Nat → Nat → Nat}, GH A P dy l = .inr (.inl (9, lsF m e (nI (s.1 34 w))))) ∧ (∀ {A : Nat → Nat → Int32} {P : Nat → Nat → Nat}, GH A P dy e = .inr (.inr (c, g))) ∧ (∀ {A : Nat → Nat → Int32} {P : Nat → Nat → Nat}, GH A P dy b = .inl (1, 8, K)) ∧
    (¬ s.1 38 w = 0 → ∀ i, i < 8 → K i = s.2 (8 * w + i)) ∧ s.1 34 w ≤ c ∧ c < 100 ∧ ∀ k, k < s.1 34 w → ∃ q, g k = some q ∧ Sg dy nz ρ q (s.1 35 (3 * w + k)) (rs s.1 (3 * w + k)) (ss s.1 (3 * w + k))
theorem Dw.wq {s : z_S} {dy : z_H} {nz : Nat} {ρ : Nat → Nat} {w p : Nat} (h : Dw s dy nz ρ w p) : Wq s dy nz ρ w p := by
  obtain ⟨l, b, e, c, m, g, K, ⟨p1, _, l1, _, b1, _⟩, _, he, ⟨q1, q2, q3, q4⟩, ⟨_, k2⟩, c1, h8⟩ := h
  refine ⟨l, b, e, c, m, g, K, fun {A P} => by rw [gh_dy p1]; exact q1, fun {A P} => by rw [gh_dy l1]; exact q2, fun {A P} => ?_, fun {A P} => by rw [gh_dy b1]; exact q4, k2, c1, by omega, h8⟩
  rcases he with ⟨e1, _⟩ | ⟨e1, _⟩
  · rw [e1, gh_1, ← e1]; exact q3
  · rw [gh_dy e1]; exact q3
section CRhy
variable {s : z_S} {A : Nat → Nat → Int32} {P : Nat → Nat → Nat} {dy : z_H} {d nx nz bc bs : Nat} {Q : z_Q} {ρ : Nat → Nat} {p0 p1 p2 t0 t1 t2 : Nat}
/-- what is read of a saying -/
theorem Sg.rd {A : Nat → Nat → Int32} {P : Nat → Nat → Nat} (hI : Iv s) (S : Sg dy nz ρ p0 (s.1 35 t0) (rs s.1 t0) (ss s.1 t0)) : ∃ so vo st, GH A P dy p0 = .inr (.inl (3, sgF (s.1 35 t0) so (cv (rs s.1 t0) (s.1 35 t0)) vo st (lvw (hs s.1 t0) (s.1 35 t0)) (ss s.1 t0 (tl s.1 t0)) (tl s.1 t0) (cv (rs s.1 t0) (tl s.1 t0)) (if ss s.1 t0 (tl s.1 t0) = 2 then 1 else 0) (if ss s.1 t0 (tl s.1 t0) = 2 then tl s.1 t0 else lvw (hs s.1 t0) (s.1 35 t0)))) := by
  obtain ⟨so, vo, st, F, h1, _⟩ := S.q (A := A) (P := P)
  rw [tl_R hI.sp hI.b36, lv_R hI.sp hI.b36] at h1
  exact ⟨so, vo, st, h1⟩
theorem k_tailsS (hI : Iv s) (hC : Rc s A P) (S0 : Sg dy nz ρ p0 (s.1 35 t0) (rs s.1 t0) (ss s.1 t0)) (S1 : Sg dy nz ρ p1 (s.1 35 t1) (rs s.1 t1) (ss s.1 t1)) (G0 : Gd s.1 t0) (G1 : Gd s.1 t1) : XC (d + 1) m_X0_areTailsAlike [.ref 6, .ref p0, .ref p1] (GH A P dy) nx Q = Q (some (.int (bI (taq (s.1 35 t0) (tl s.1 t0) (hs s.1 t0) (s.1 35 t1) (tl s.1 t1) (hs s.1 t1) = true)))) (GH A P dy) nx := by
  have h0 := hI.tl G0
  have h1 := hI.tl G1
  have e0 := tl_R (t := t0) hI.sp hI.b36
  have e1 := tl_R (t := t1) hI.sp hI.b36
  have := k_tails (d := d) (nx := nx) (Q := Q) hC.1.1 hI.b40 (S0.q (A := A) (P := P)) (S1.q (A := A) (P := P)) (hI.b35 _) (hI.b35 _) (fun i => hI.b36 _) (fun i => hI.b36 _) (by rw [e0]; omega) (by rw [e1]; omega)
  rw [e0, e1] at this
  exact this
theorem k_aheadS (hI : Iv s) (hC : Rc s A P) (S0 : Sg dy nz ρ p0 (s.1 35 t0) (rs s.1 t0) (ss s.1 t0)) (S1 : Sg dy nz ρ p1 (s.1 35 t1) (rs s.1 t1) (ss s.1 t1)) (G0 : Gd s.1 t0) (G1 : Gd s.1 t1) : XC (d + 1) m_X0_areAlikeAhead [.ref 6, .ref p0, .ref p1] (GH A P dy) nx Q = Q (some (.int (bI (ahq (tl s.1 t0) (hs s.1 t0) (tl s.1 t1) (hs s.1 t1) = true)))) (GH A P dy) nx := by
  have h0 := hI.tl G0
  have h1 := hI.tl G1
  have e0 := tl_R (t := t0) hI.sp hI.b36
  have e1 := tl_R (t := t1) hI.sp hI.b36
  have := k_ahead (d := d) (nx := nx) (Q := Q) hC.1.1 hI.b40 (S0.q (A := A) (P := P)) (S1.q (A := A) (P := P)) (hI.b35 _) (hI.b35 _) (fun i => hI.b36 _) (fun i => hI.b36 _) (by rw [e0]; omega) (by rw [e1]; omega)
  rw [e0, e1] at this
  exact this
theorem k_vowS (hI : Iv s) (hC : Rc s A P) (S0 : Sg dy nz ρ p0 (s.1 35 t0) (rs s.1 t0) (ss s.1 t0)) (S1 : Sg dy nz ρ p1 (s.1 35 t1) (rs s.1 t1) (ss s.1 t1)) (G0 : Gd s.1 t0) (G1 : Gd s.1 t1) : XC d m_X0_areVowelsAlike [.ref 6, .ref p0, .ref p1] (GH A P dy) nx Q = Q (some (.int (bI (decide (vl (hs s.1 t0) (s.1 35 t0 - tl s.1 t0) (tl s.1 t0) = vl (hs s.1 t1) (s.1 35 t1 - tl s.1 t1) (tl s.1 t1)) = true)))) (GH A P dy) nx := by
  have h0 := hI.tl G0
  have h1 := hI.tl G1
  have e0 := tl_R (t := t0) hI.sp hI.b36
  have e1 := tl_R (t := t1) hI.sp hI.b36
  have := k_vow (d := d) (nx := nx) (Q := Q) hC.1.1 hI.b40 hI.sp (S0.q (A := A) (P := P)) (S1.q (A := A) (P := P)) (hI.b35 _) (hI.b35 _) (fun i => hI.b36 _) (fun i => hI.b36 _) (by rw [e0]; omega) (by rw [e1]; omega)
  rw [e0, e1] at this
  exact this
theorem k_alikeS {fa fb : Nat} (hI : Iv s) (hC : Rc s A P) (S0 : Sg dy nz ρ p0 (s.1 35 t0) (rs s.1 t0) (ss s.1 t0)) (S1 : Sg dy nz ρ p1 (s.1 35 t1) (rs s.1 t1) (ss s.1 t1)) (ha : fa ≤ s.1 35 t0) (hb : fb ≤ s.1 35 t1) : XC d m_X0_areAlikeFrom [.ref 6, .ref p0, .int (nI fa), .ref p1, .int (nI fb)] (GH A P dy) nx Q = Q (some (.int (bI (taq (s.1 35 t0) fa (hs s.1 t0) (s.1 35 t1) fb (hs s.1 t1) = true)))) (GH A P dy) nx :=
  k_alike hC.1.1 hI.b40 (S0.q (A := A) (P := P)) (S1.q (A := A) (P := P)) (hI.b35 _) (hI.b35 _) (fun i => hI.b36 _) (fun i => hI.b36 _) ha hb
theorem k_costS (hI : Iv s) (hC : Rc s A P) (S0 : Sg dy nz ρ p0 (s.1 35 t0) (rs s.1 t0) (ss s.1 t0)) (S1 : Sg dy nz ρ p1 (s.1 35 t1) (rs s.1 t1) (ss s.1 t1)) (G0 : Gd s.1 t0) (G1 : Gd s.1 t1) (hQ : ∀ B R, Fe A B P R → Q (some (.int (nI (cqs s.1 t0 t1)))) (GH B R dy) nx) : XC (d + 1) m_X0_costOfTails [.ref 6, .ref p0, .ref p1] (GH A P dy) nx Q := by
  have h0 := hI.tl G0
  have h1 := hI.tl G1
  have e0 := tl_R (t := t0) hI.sp hI.b36
  have e1 := tl_R (t := t1) hI.sp hI.b36
  refine k_cost hC.1.1 hI.b40 hC.pe (fun {A P} => S0.q) (fun {A P} => S1.q) (hI.b35 _) (hI.b35 _) (fun i => hI.b36 _) (fun i => hI.b36 _) (by rw [e0]; omega) (by rw [e1]; omega) (fun B R hF => ?_)
  rw [e0, e1]
  exact hQ B R hF
theorem k_rhy {kind : Nat} (hI : Iv s) (hC : Rc s A P) (S0 : Sg dy nz ρ p0 (s.1 35 t0) (rs s.1 t0) (ss s.1 t0)) (S1 : Sg dy nz ρ p1 (s.1 35 t1) (rs s.1 t1) (ss s.1 t1)) (G0 : Gd s.1 t0) (G1 : Gd s.1 t1) (hk : kind ≤ 6) (k5 : kind ≠ 5) (hQ : ∀ B R, Fe A B P R → Q (some (.int (bI (rqs s.1 kind t0 t1 = true)))) (GH B R dy) nx) : XC (d + 2) m_X0_areRhyming [.ref 6, .ref p0, .ref p1, .int (nI kind)] (GH A P dy) nx Q := by
  show X (d + 2) m_X0_areRhyming 0 [some (.ref 6), some (.ref p0), some (.ref p1), some (.int (nI kind))] [] (GH A P dy) nx 0 0 Q
  have h0 := hI.tl G0
  have h1 := hI.tl G1
  have b0 := hI.b35 t0
  have b1 := hI.b35 t1
  have q := hQ A P (Fe.rf hC)
  have kT : ∀ {d nx : Nat} {Q : z_Q}, XC (d + 1) m_X0_areTailsAlike [.ref 6, .ref p0, .ref p1] (GH A P dy) nx Q = _ := k_tailsS hI hC S0 S1 G0 G1
  have kH : ∀ {d nx : Nat} {Q : z_Q}, XC (d + 1) m_X0_areAlikeAhead [.ref 6, .ref p0, .ref p1] (GH A P dy) nx Q = _ := k_aheadS hI hC S0 S1 G0 G1
  have kV : ∀ {d nx : Nat} {Q : z_Q}, XC d m_X0_areVowelsAlike [.ref 6, .ref p0, .ref p1] (GH A P dy) nx Q = _ := k_vowS hI hC S0 S1 G0 G1
  rw [i_X0_areRhyming_0]
  have tT : taq (s.1 35 t0) (tl s.1 t0) (hs s.1 t0) (s.1 35 t1) (tl s.1 t1) (hs s.1 t1) = true ∨ taq (s.1 35 t0) (tl s.1 t0) (hs s.1 t0) (s.1 35 t1) (tl s.1 t1) (hs s.1 t1) = false := by
    cases taq (s.1 35 t0) (tl s.1 t0) (hs s.1 t0) (s.1 35 t1) (tl s.1 t1) (hs s.1 t1) <;> simp
  have tH : ahq (tl s.1 t0) (hs s.1 t0) (tl s.1 t1) (hs s.1 t1) = true ∨ ahq (tl s.1 t0) (hs s.1 t0) (tl s.1 t1) (hs s.1 t1) = false := by
    cases ahq (tl s.1 t0) (hs s.1 t0) (tl s.1 t1) (hs s.1 t1) <;> simp
  by_cases k0 : kind = 0
  · subst k0
    rcases tT with h | h
    · rcases tH with h2 | h2
      · rw [bI_f (by simp [rqs, rq, h, h2])] at q
        simp (disch := omega) only [i_X0_areRhyming_1_0, i_X0_areRhyming_1_1, i_X0_areRhyming_1_2, i_X0_areRhyming_1_3, i_X0_areRhyming_1_4, i_X0_areRhyming_1_5, i_X0_areRhyming_1_6, i_X0_areRhyming_44, i_X0_areRhyming_45, i_X0_areRhyming_46, i_X0_areRhyming_47, i_X0_areRhyming_50, i_X0_areRhyming_53, i_X0_areRhyming_54, i_X0_areRhyming_55, i_X0_areRhyming_56, i_X0_areRhyming_59, i_X0_areRhyming_62, i_X0_areRhyming_63, i_X0_areRhyming_66, i_X0_areRhyming_67, gh_o6, gf_6_1, sgF_0, sgF_5, sgF_6, sgF_7, sgF_9, sgF_10, wdF_0, wdF_1, wdF_2, wdF_3, lsF_0, lsF_1, lsF_2, z_o_i, z_ai_i, z_si_i, z_ab_b, z_ab_z, z_sb_b, z_sb_z, z_al_i, z_al_b, z_pu_s, z_pu_n, nI_toN, z_inN, true_and, and_true, nI_add, pk_mul, vu_eq, vu_ne, nI_leI, nI_ltI, nI_eqI, nI_eq0, ↓ok_0, ↓ok_1, ↓bI_ok, if_true, if_false, nI_lt0, nI_ge0, ne_eq, not_true_eq_false, not_false_eq_true, bI_eq0, bI_ne0, bI_T, bI_F, Bool.false_eq_true, Nat.one_ne_zero, Nat.zero_ne_one, nI_m1, kT, kH, h, h2]
        exact q
      · rw [bI_t (by simp [rqs, rq, h, h2])] at q
        simp (disch := omega) only [i_X0_areRhyming_1_0, i_X0_areRhyming_1_1, i_X0_areRhyming_1_2, i_X0_areRhyming_1_3, i_X0_areRhyming_1_4, i_X0_areRhyming_1_5, i_X0_areRhyming_1_6, i_X0_areRhyming_44, i_X0_areRhyming_45, i_X0_areRhyming_46, i_X0_areRhyming_47, i_X0_areRhyming_50, i_X0_areRhyming_53, i_X0_areRhyming_54, i_X0_areRhyming_55, i_X0_areRhyming_56, i_X0_areRhyming_59, i_X0_areRhyming_62, i_X0_areRhyming_63, i_X0_areRhyming_66, i_X0_areRhyming_67, gh_o6, gf_6_1, sgF_0, sgF_5, sgF_6, sgF_7, sgF_9, sgF_10, wdF_0, wdF_1, wdF_2, wdF_3, lsF_0, lsF_1, lsF_2, z_o_i, z_ai_i, z_si_i, z_ab_b, z_ab_z, z_sb_b, z_sb_z, z_al_i, z_al_b, z_pu_s, z_pu_n, nI_toN, z_inN, true_and, and_true, nI_add, pk_mul, vu_eq, vu_ne, nI_leI, nI_ltI, nI_eqI, nI_eq0, ↓ok_0, ↓ok_1, ↓bI_ok, if_true, if_false, nI_lt0, nI_ge0, ne_eq, not_true_eq_false, not_false_eq_true, bI_eq0, bI_ne0, bI_T, bI_F, Bool.false_eq_true, Nat.one_ne_zero, Nat.zero_ne_one, nI_m1, kT, kH, h, h2]
        exact q
    · rw [bI_f (by simp [rqs, rq, h])] at q
      simp (disch := omega) only [i_X0_areRhyming_1_0, i_X0_areRhyming_1_1, i_X0_areRhyming_1_2, i_X0_areRhyming_1_3, i_X0_areRhyming_1_4, i_X0_areRhyming_1_5, i_X0_areRhyming_1_6, i_X0_areRhyming_44, i_X0_areRhyming_45, i_X0_areRhyming_46, i_X0_areRhyming_47, i_X0_areRhyming_50, i_X0_areRhyming_66, i_X0_areRhyming_67, gh_o6, gf_6_1, sgF_0, sgF_5, sgF_6, sgF_7, sgF_9, sgF_10, wdF_0, wdF_1, wdF_2, wdF_3, lsF_0, lsF_1, lsF_2, z_o_i, z_ai_i, z_si_i, z_ab_b, z_ab_z, z_sb_b, z_sb_z, z_al_i, z_al_b, z_pu_s, z_pu_n, nI_toN, z_inN, true_and, and_true, nI_add, pk_mul, vu_eq, vu_ne, nI_leI, nI_ltI, nI_eqI, nI_eq0, ↓ok_0, ↓ok_1, ↓bI_ok, if_true, if_false, nI_lt0, nI_ge0, ne_eq, not_true_eq_false, not_false_eq_true, bI_eq0, bI_ne0, bI_T, bI_F, Bool.false_eq_true, Nat.one_ne_zero, Nat.zero_ne_one, nI_m1, kT, h]
      exact q
  by_cases k1 : kind = 1
  · subst k1
    rcases tT with h | h
    · rcases tH with h2 | h2
      · rw [bI_t (by simp [rqs, rq, h, h2])] at q
        simp (disch := omega) only [i_X0_areRhyming_1_0, i_X0_areRhyming_1_1, i_X0_areRhyming_1_2, i_X0_areRhyming_1_3, i_X0_areRhyming_1_4, i_X0_areRhyming_1_5, i_X0_areRhyming_1_6, i_X0_areRhyming_68, i_X0_areRhyming_69, i_X0_areRhyming_70, i_X0_areRhyming_71, i_X0_areRhyming_74, i_X0_areRhyming_77, i_X0_areRhyming_78, i_X0_areRhyming_79, i_X0_areRhyming_80, i_X0_areRhyming_83, i_X0_areRhyming_86, i_X0_areRhyming_87, i_X0_areRhyming_90, i_X0_areRhyming_91, gh_o6, gf_6_1, sgF_0, sgF_5, sgF_6, sgF_7, sgF_9, sgF_10, wdF_0, wdF_1, wdF_2, wdF_3, lsF_0, lsF_1, lsF_2, z_o_i, z_ai_i, z_si_i, z_ab_b, z_ab_z, z_sb_b, z_sb_z, z_al_i, z_al_b, z_pu_s, z_pu_n, nI_toN, z_inN, true_and, and_true, nI_add, pk_mul, vu_eq, vu_ne, nI_leI, nI_ltI, nI_eqI, nI_eq0, ↓ok_0, ↓ok_1, ↓bI_ok, if_true, if_false, nI_lt0, nI_ge0, ne_eq, not_true_eq_false, not_false_eq_true, bI_eq0, bI_ne0, bI_T, bI_F, Bool.false_eq_true, Nat.one_ne_zero, Nat.zero_ne_one, nI_m1, kT, kH, h, h2]
        exact q
      · rw [bI_f (by simp [rqs, rq, h2])] at q
        simp (disch := omega) only [i_X0_areRhyming_1_0, i_X0_areRhyming_1_1, i_X0_areRhyming_1_2, i_X0_areRhyming_1_3, i_X0_areRhyming_1_4, i_X0_areRhyming_1_5, i_X0_areRhyming_1_6, i_X0_areRhyming_68, i_X0_areRhyming_69, i_X0_areRhyming_70, i_X0_areRhyming_71, i_X0_areRhyming_74, i_X0_areRhyming_77, i_X0_areRhyming_78, i_X0_areRhyming_79, i_X0_areRhyming_80, i_X0_areRhyming_83, i_X0_areRhyming_86, i_X0_areRhyming_87, i_X0_areRhyming_90, i_X0_areRhyming_91, gh_o6, gf_6_1, sgF_0, sgF_5, sgF_6, sgF_7, sgF_9, sgF_10, wdF_0, wdF_1, wdF_2, wdF_3, lsF_0, lsF_1, lsF_2, z_o_i, z_ai_i, z_si_i, z_ab_b, z_ab_z, z_sb_b, z_sb_z, z_al_i, z_al_b, z_pu_s, z_pu_n, nI_toN, z_inN, true_and, and_true, nI_add, pk_mul, vu_eq, vu_ne, nI_leI, nI_ltI, nI_eqI, nI_eq0, ↓ok_0, ↓ok_1, ↓bI_ok, if_true, if_false, nI_lt0, nI_ge0, ne_eq, not_true_eq_false, not_false_eq_true, bI_eq0, bI_ne0, bI_T, bI_F, Bool.false_eq_true, Nat.one_ne_zero, Nat.zero_ne_one, nI_m1, kT, kH, h, h2]
        exact q
    · rw [bI_f (by simp [rqs, rq, h])] at q
      simp (disch := omega) only [i_X0_areRhyming_1_0, i_X0_areRhyming_1_1, i_X0_areRhyming_1_2, i_X0_areRhyming_1_3, i_X0_areRhyming_1_4, i_X0_areRhyming_1_5, i_X0_areRhyming_1_6, i_X0_areRhyming_68, i_X0_areRhyming_69, i_X0_areRhyming_70, i_X0_areRhyming_71, i_X0_areRhyming_74, i_X0_areRhyming_90, i_X0_areRhyming_91, gh_o6, gf_6_1, sgF_0, sgF_5, sgF_6, sgF_7, sgF_9, sgF_10, wdF_0, wdF_1, wdF_2, wdF_3, lsF_0, lsF_1, lsF_2, z_o_i, z_ai_i, z_si_i, z_ab_b, z_ab_z, z_sb_b, z_sb_z, z_al_i, z_al_b, z_pu_s, z_pu_n, nI_toN, z_inN, true_and, and_true, nI_add, pk_mul, vu_eq, vu_ne, nI_leI, nI_ltI, nI_eqI, nI_eq0, ↓ok_0, ↓ok_1, ↓bI_ok, if_true, if_false, nI_lt0, nI_ge0, ne_eq, not_true_eq_false, not_false_eq_true, bI_eq0, bI_ne0, bI_T, bI_F, Bool.false_eq_true, Nat.one_ne_zero, Nat.zero_ne_one, nI_m1, kT, h]
      exact q
  by_cases k2 : kind = 2
  · subst k2
    simp (disch := omega) only [i_X0_areRhyming_1_0, i_X0_areRhyming_1_1, i_X0_areRhyming_1_2, i_X0_areRhyming_1_3, i_X0_areRhyming_1_4, i_X0_areRhyming_1_5, i_X0_areRhyming_1_6, i_X0_areRhyming_92, i_X0_areRhyming_93, i_X0_areRhyming_94, i_X0_areRhyming_95, i_X0_areRhyming_98, gh_o6, gf_6_1, sgF_0, sgF_5, sgF_6, sgF_7, sgF_9, sgF_10, wdF_0, wdF_1, wdF_2, wdF_3, lsF_0, lsF_1, lsF_2, z_o_i, z_ai_i, z_si_i, z_ab_b, z_ab_z, z_sb_b, z_sb_z, z_al_i, z_al_b, z_pu_s, z_pu_n, nI_toN, z_inN, true_and, and_true, nI_add, pk_mul, vu_eq, vu_ne, nI_leI, nI_ltI, nI_eqI, nI_eq0, ↓ok_0, ↓ok_1, ↓bI_ok, if_true, if_false, nI_lt0, nI_ge0, ne_eq, not_true_eq_false, not_false_eq_true, bI_eq0, bI_ne0, bI_T, bI_F, Bool.false_eq_true, Nat.one_ne_zero, Nat.zero_ne_one, nI_m1, kV]
    simpa [rqs, rq] using q
  by_cases k3 : kind = 3
  · subst k3
    obtain ⟨so, vo, st, r0⟩ := S0.rd (A := A) (P := P) hI
    obtain ⟨so', vo', st', r1⟩ := S1.rd (A := A) (P := P) hI
    have l0 := lvw_sp (f := hs s.1 t0) (s.1 35 t0) ⟨_, h0.2.1, h0.2.2⟩
    have l1 := lvw_sp (f := hs s.1 t1) (s.1 35 t1) ⟨_, h1.2.1, h1.2.2⟩
    have kA : ∀ {d nx : Nat} {Q : z_Q}, XC d m_X0_areAlikeFrom [.ref 6, .ref p0, .int (nI (lvw (hs s.1 t0) (s.1 35 t0) + 1)), .ref p1, .int (nI (lvw (hs s.1 t1) (s.1 35 t1) + 1))] (GH A P dy) nx Q = _ := k_alikeS hI hC S0 S1 l0.1 l1.1
    have ll0 := l0.1
    have ll1 := l1.1
    have eq3 : rqs s.1 3 t0 t1 = enq (s.1 35 t0) (lvw (hs s.1 t0) (s.1 35 t0)) (hs s.1 t0) (s.1 35 t1) (lvw (hs s.1 t1) (s.1 35 t1)) (hs s.1 t1) := by simp [rqs, rq]
    by_cases c : s.1 35 t0 ≤ lvw (hs s.1 t0) (s.1 35 t0) + 1
    · rw [bI_f (by rw [eq3]; simp [enq]; omega)] at q
      simp (disch := omega) only [i_X0_areRhyming_1_0, i_X0_areRhyming_1_1, i_X0_areRhyming_1_2, i_X0_areRhyming_1_3, i_X0_areRhyming_1_4, i_X0_areRhyming_1_5, i_X0_areRhyming_1_6, i_X0_areRhyming_99, i_X0_areRhyming_100, i_X0_areRhyming_103, i_X0_areRhyming_104, i_X0_areRhyming_105, i_X0_areRhyming_106, i_X0_areRhyming_109, i_X0_areRhyming_137, i_X0_areRhyming_138, gh_o6, gf_6_1, sgF_0, sgF_5, sgF_6, sgF_7, sgF_9, sgF_10, wdF_0, wdF_1, wdF_2, wdF_3, lsF_0, lsF_1, lsF_2, z_o_i, z_ai_i, z_si_i, z_ab_b, z_ab_z, z_sb_b, z_sb_z, z_al_i, z_al_b, z_pu_s, z_pu_n, nI_toN, z_inN, true_and, and_true, nI_add, pk_mul, vu_eq, vu_ne, nI_leI, nI_ltI, nI_eqI, nI_eq0, ↓ok_0, ↓ok_1, ↓bI_ok, if_true, if_false, nI_lt0, nI_ge0, ne_eq, not_true_eq_false, not_false_eq_true, bI_eq0, bI_ne0, bI_T, bI_F, Bool.false_eq_true, Nat.one_ne_zero, Nat.zero_ne_one, nI_m1, r0, c]
      exact q
    · by_cases h : taq (s.1 35 t0) (lvw (hs s.1 t0) (s.1 35 t0) + 1) (hs s.1 t0) (s.1 35 t1) (lvw (hs s.1 t1) (s.1 35 t1) + 1) (hs s.1 t1) = true
      · rw [bI_t (by rw [eq3]; simp [enq, h]; omega)] at q
        simp (disch := omega) only [i_X0_areRhyming_1_0, i_X0_areRhyming_1_1, i_X0_areRhyming_1_2, i_X0_areRhyming_1_3, i_X0_areRhyming_1_4, i_X0_areRhyming_1_5, i_X0_areRhyming_1_6, i_X0_areRhyming_99, i_X0_areRhyming_100, i_X0_areRhyming_103, i_X0_areRhyming_104, i_X0_areRhyming_105, i_X0_areRhyming_106, i_X0_areRhyming_109, i_X0_areRhyming_112, i_X0_areRhyming_113, i_X0_areRhyming_114, i_X0_areRhyming_115, i_X0_areRhyming_118, i_X0_areRhyming_119, i_X0_areRhyming_120, i_X0_areRhyming_121, i_X0_areRhyming_122, i_X0_areRhyming_125, i_X0_areRhyming_126, i_X0_areRhyming_127, i_X0_areRhyming_130, i_X0_areRhyming_133, i_X0_areRhyming_134, i_X0_areRhyming_137, i_X0_areRhyming_138, gh_o6, gf_6_1, sgF_0, sgF_5, sgF_6, sgF_7, sgF_9, sgF_10, wdF_0, wdF_1, wdF_2, wdF_3, lsF_0, lsF_1, lsF_2, z_o_i, z_ai_i, z_si_i, z_ab_b, z_ab_z, z_sb_b, z_sb_z, z_al_i, z_al_b, z_pu_s, z_pu_n, nI_toN, z_inN, true_and, and_true, nI_add, pk_mul, vu_eq, vu_ne, nI_leI, nI_ltI, nI_eqI, nI_eq0, ↓ok_0, ↓ok_1, ↓bI_ok, if_true, if_false, nI_lt0, nI_ge0, ne_eq, not_true_eq_false, not_false_eq_true, bI_eq0, bI_ne0, bI_T, bI_F, Bool.false_eq_true, Nat.one_ne_zero, Nat.zero_ne_one, nI_m1, r0, r1, c, kA, h]
        exact q
      · rw [bI_f (by rw [eq3]; simp [enq, h])] at q
        simp (disch := omega) only [i_X0_areRhyming_1_0, i_X0_areRhyming_1_1, i_X0_areRhyming_1_2, i_X0_areRhyming_1_3, i_X0_areRhyming_1_4, i_X0_areRhyming_1_5, i_X0_areRhyming_1_6, i_X0_areRhyming_99, i_X0_areRhyming_100, i_X0_areRhyming_103, i_X0_areRhyming_104, i_X0_areRhyming_105, i_X0_areRhyming_106, i_X0_areRhyming_109, i_X0_areRhyming_112, i_X0_areRhyming_113, i_X0_areRhyming_114, i_X0_areRhyming_115, i_X0_areRhyming_118, i_X0_areRhyming_119, i_X0_areRhyming_120, i_X0_areRhyming_121, i_X0_areRhyming_122, i_X0_areRhyming_125, i_X0_areRhyming_126, i_X0_areRhyming_127, i_X0_areRhyming_130, i_X0_areRhyming_133, i_X0_areRhyming_134, i_X0_areRhyming_137, i_X0_areRhyming_138, gh_o6, gf_6_1, sgF_0, sgF_5, sgF_6, sgF_7, sgF_9, sgF_10, wdF_0, wdF_1, wdF_2, wdF_3, lsF_0, lsF_1, lsF_2, z_o_i, z_ai_i, z_si_i, z_ab_b, z_ab_z, z_sb_b, z_sb_z, z_al_i, z_al_b, z_pu_s, z_pu_n, nI_toN, z_inN, true_and, and_true, nI_add, pk_mul, vu_eq, vu_ne, nI_leI, nI_ltI, nI_eqI, nI_eq0, ↓ok_0, ↓ok_1, ↓bI_ok, if_true, if_false, nI_lt0, nI_ge0, ne_eq, not_true_eq_false, not_false_eq_true, bI_eq0, bI_ne0, bI_T, bI_F, Bool.false_eq_true, Nat.one_ne_zero, Nat.zero_ne_one, nI_m1, r0, r1, c, kA, h]
        exact q
  by_cases k4 : kind = 4
  · subst k4
    simp (disch := omega) only [i_X0_areRhyming_1_0, i_X0_areRhyming_1_1, i_X0_areRhyming_1_2, i_X0_areRhyming_1_3, i_X0_areRhyming_1_4, i_X0_areRhyming_1_5, i_X0_areRhyming_1_6, i_X0_areRhyming_139, i_X0_areRhyming_140, i_X0_areRhyming_141, i_X0_areRhyming_142, gh_o6, gf_6_1, sgF_0, sgF_5, sgF_6, sgF_7, sgF_9, sgF_10, wdF_0, wdF_1, wdF_2, wdF_3, lsF_0, lsF_1, lsF_2, z_o_i, z_ai_i, z_si_i, z_ab_b, z_ab_z, z_sb_b, z_sb_z, z_al_i, z_al_b, z_pu_s, z_pu_n, nI_toN, z_inN, true_and, and_true, nI_add, pk_mul, vu_eq, vu_ne, nI_leI, nI_ltI, nI_eqI, nI_eq0, ↓ok_0, ↓ok_1, ↓bI_ok, if_true, if_false, nI_lt0, nI_ge0, ne_eq, not_true_eq_false, not_false_eq_true, bI_eq0, bI_ne0, bI_T, bI_F, Bool.false_eq_true, Nat.one_ne_zero, Nat.zero_ne_one, nI_m1]
    refine k_costS hI hC S0 S1 G0 G1 (fun B R hF => ?_)
    have q4 := hQ B R hF
    have nr : B 6 1 = nI (s.1 32 10) := (hF.rc hC).1.2.1
    have cb := cqs_le (s0 := t0) (s1 := t1) hI.b35
    have sc := hI.sc
    have e4 : rqs s.1 4 t0 t1 = decide (cqs s.1 t0 t1 ≤ s.1 32 10) := by simp [rqs, rq, cqs]; rfl
    by_cases c : s.1 32 10 < cqs s.1 t0 t1
    · rw [bI_f (by rw [e4]; simp; omega)] at q4
      simp (disch := omega) only [i_X0_areRhyming_145, i_X0_areRhyming_146, i_X0_areRhyming_149, i_X0_areRhyming_152, i_X0_areRhyming_153, i_X0_areRhyming_156, i_X0_areRhyming_157, gh_o6, gf_6_1, sgF_0, sgF_5, sgF_6, sgF_7, sgF_9, sgF_10, wdF_0, wdF_1, wdF_2, wdF_3, lsF_0, lsF_1, lsF_2, z_o_i, z_ai_i, z_si_i, z_ab_b, z_ab_z, z_sb_b, z_sb_z, z_al_i, z_al_b, z_pu_s, z_pu_n, nI_toN, z_inN, true_and, and_true, nI_add, pk_mul, vu_eq, vu_ne, nI_leI, nI_ltI, nI_eqI, nI_eq0, ↓ok_0, ↓ok_1, ↓bI_ok, if_true, if_false, nI_lt0, nI_ge0, ne_eq, not_true_eq_false, not_false_eq_true, bI_eq0, bI_ne0, bI_T, bI_F, Bool.false_eq_true, Nat.one_ne_zero, Nat.zero_ne_one, nI_m1, nr, c]
      exact q4
    · rw [bI_t (by rw [e4]; simp; omega)] at q4
      simp (disch := omega) only [i_X0_areRhyming_145, i_X0_areRhyming_146, i_X0_areRhyming_149, i_X0_areRhyming_152, i_X0_areRhyming_153, i_X0_areRhyming_156, i_X0_areRhyming_157, gh_o6, gf_6_1, sgF_0, sgF_5, sgF_6, sgF_7, sgF_9, sgF_10, wdF_0, wdF_1, wdF_2, wdF_3, lsF_0, lsF_1, lsF_2, z_o_i, z_ai_i, z_si_i, z_ab_b, z_ab_z, z_sb_b, z_sb_z, z_al_i, z_al_b, z_pu_s, z_pu_n, nI_toN, z_inN, true_and, and_true, nI_add, pk_mul, vu_eq, vu_ne, nI_leI, nI_ltI, nI_eqI, nI_eq0, ↓ok_0, ↓ok_1, ↓bI_ok, if_true, if_false, nI_lt0, nI_ge0, ne_eq, not_true_eq_false, not_false_eq_true, bI_eq0, bI_ne0, bI_T, bI_F, Bool.false_eq_true, Nat.one_ne_zero, Nat.zero_ne_one, nI_m1, nr, c]
      exact q4
  have k6 : kind = 6 := by omega
  subst k6
  have e6 : rqs s.1 6 t0 t1 = taq (s.1 35 t0) (tl s.1 t0) (hs s.1 t0) (s.1 35 t1) (tl s.1 t1) (hs s.1 t1) := by simp [rqs, rq]
  rw [e6] at q
  simp (disch := omega) only [i_X0_areRhyming_1_0, i_X0_areRhyming_1_1, i_X0_areRhyming_1_2, i_X0_areRhyming_1_3, i_X0_areRhyming_1_4, i_X0_areRhyming_1_5, i_X0_areRhyming_1_6, i_X0_areRhyming_158, i_X0_areRhyming_159, i_X0_areRhyming_160, i_X0_areRhyming_161, i_X0_areRhyming_164, gh_o6, gf_6_1, sgF_0, sgF_5, sgF_6, sgF_7, sgF_9, sgF_10, wdF_0, wdF_1, wdF_2, wdF_3, lsF_0, lsF_1, lsF_2, z_o_i, z_ai_i, z_si_i, z_ab_b, z_ab_z, z_sb_b, z_sb_z, z_al_i, z_al_b, z_pu_s, z_pu_n, nI_toN, z_inN, true_and, and_true, nI_add, pk_mul, vu_eq, vu_ne, nI_leI, nI_ltI, nI_eqI, nI_eq0, ↓ok_0, ↓ok_1, ↓bI_ok, if_true, if_false, nI_lt0, nI_ge0, ne_eq, not_true_eq_false, not_false_eq_true, bI_eq0, bI_ne0, bI_T, bI_F, Bool.false_eq_true, Nat.one_ne_zero, Nat.zero_ne_one, nI_m1, kT]
  exact q
/-- the ear's firstPair -/
theorem l_fpI {w u kind i : Nat} {pw pu : Nat} {R : Option Nat} (hI : Iv s) (hC : Rc s A P) (W0 : Wq s dy nz ρ w pw) (W1 : Wq s dy nz ρ u pu) (hw : w < s.1 32 1) (hu : u < s.1 32 1) (hk : kind ≤ 6) (k5 : kind ≠ 5) (hi : i < s.1 34 w)
    (hS : ∀ B U j, Fe A B P U → R = some j → Q (some (.int (nI (3 * i + j)))) (GH B U dy) nx) (hN : ∀ B U x5, Fe A B P U → R = none → X (d + 3) m_X0_firstPair 3 [some (.ref 6), some (.ref pw), some (.ref pu), some (.int (nI kind)), some (.int (nI (i + 1))), x5] [] (GH B U dy) nx bc bs Q) :
    ∀ (m j : Nat) (B : Nat → Nat → Int32) (U : Nat → Nat → Nat), j + m = s.1 34 u → Fe A B P U → fi (fun q => rqs s.1 kind (3 * w + i) (3 * u + q)) m j = R → X (d + 3) m_X0_firstPair 18 [some (.ref 6), some (.ref pw), some (.ref pu), some (.int (nI kind)), some (.int (nI i)), some (.int (nI j))] [] (GH B U dy) nx bc bs Q := by
  obtain ⟨l, b, e, c, mm, g, K, w1, w2, w3, w4, w5, w6, w7, w8⟩ := W0
  obtain ⟨l', b', e', c', mm', g', K', v1, v2, v3, v4, v5, v6, v7, v8⟩ := W1
  have b34 := hI.b34 w
  have c34 := hI.b34 u
  intro m
  induction m with
  | zero =>
    intro j B U hj hF hr
    have le : s.1 34 u ≤ j := by omega
    have cs : ∀ {d nx : Nat} {Q : z_Q}, XC d m_Jx4a65c_size_8abf5 [.ref l'] (GH B U dy) nx Q = Q (some (.int (nI (s.1 34 u)))) (GH B U dy) nx := c_size v2
    simp (disch := omega) only [i_X0_firstPair_18, i_X0_firstPair_20, i_X0_firstPair_21, i_X0_firstPair_24, i_X0_firstPair_27, i_X0_firstPair_76, i_X0_firstPair_79, gh_o6, gf_6_1, sgF_0, sgF_5, sgF_6, sgF_7, sgF_9, sgF_10, wdF_0, wdF_1, wdF_2, wdF_3, lsF_0, lsF_1, lsF_2, z_o_i, z_ai_i, z_si_i, z_ab_b, z_ab_z, z_sb_b, z_sb_z, z_al_i, z_al_b, z_pu_s, z_pu_n, nI_toN, z_inN, true_and, and_true, nI_add, pk_mul, vu_eq, vu_ne, nI_leI, nI_ltI, nI_eqI, nI_eq0, ↓ok_0, ↓ok_1, ↓bI_ok, if_true, if_false, nI_lt0, nI_ge0, ne_eq, not_true_eq_false, not_false_eq_true, bI_eq0, bI_ne0, bI_T, bI_F, Bool.false_eq_true, Nat.one_ne_zero, Nat.zero_ne_one, nI_m1, v1, v2, cs, le]
    exact hN B U _ hF hr.symm
  | succ m ih =>
    intro j B U hj hF hr
    have le : ¬ s.1 34 u ≤ j := by omega
    obtain ⟨q0, a0, S0⟩ := w8 i hi
    obtain ⟨q1, a1, S1⟩ := v8 j (by omega)
    obtain ⟨_, _, _, r0⟩ := S0.rd (A := B) (P := U) hI
    obtain ⟨_, _, _, r1⟩ := S1.rd (A := B) (P := U) hI
    have cs : ∀ {d nx : Nat} {Q : z_Q}, XC d m_Jx4a65c_size_8abf5 [.ref l'] (GH B U dy) nx Q = Q (some (.int (nI (s.1 34 u)))) (GH B U dy) nx := c_size v2
    have cg : ∀ {d nx : Nat} {Q : z_Q}, XC (d + 2) m_Jx4a65c_get_915e3 [.ref l, .int (nI i)] (GH B U dy) nx Q = Q (some (.ref q0)) (GH B U dy) nx := c_get w2 w3 hi w6 (by omega) a0
    have cg' : ∀ {d nx : Nat} {Q : z_Q}, XC (d + 2) m_Jx4a65c_get_915e3 [.ref l', .int (nI j)] (GH B U dy) nx Q = Q (some (.ref q1)) (GH B U dy) nx := c_get v2 v3 (by omega) v6 (by omega) a1
    rw [i_X0_firstPair_18]
    simp (disch := omega) only [i_X0_firstPair_20, i_X0_firstPair_21, i_X0_firstPair_24, i_X0_firstPair_27, i_X0_firstPair_30, i_X0_firstPair_31, i_X0_firstPair_32, i_X0_firstPair_35, i_X0_firstPair_37, i_X0_firstPair_40, i_X0_firstPair_43, i_X0_firstPair_44, i_X0_firstPair_47, i_X0_firstPair_49, i_X0_firstPair_52, i_X0_firstPair_55, i_X0_firstPair_56, gh_o6, gf_6_1, sgF_0, sgF_5, sgF_6, sgF_7, sgF_9, sgF_10, wdF_0, wdF_1, wdF_2, wdF_3, lsF_0, lsF_1, lsF_2, z_o_i, z_ai_i, z_si_i, z_ab_b, z_ab_z, z_sb_b, z_sb_z, z_al_i, z_al_b, z_pu_s, z_pu_n, nI_toN, z_inN, true_and, and_true, nI_add, pk_mul, vu_eq, vu_ne, nI_leI, nI_ltI, nI_eqI, nI_eq0, ↓ok_0, ↓ok_1, ↓bI_ok, if_true, if_false, nI_lt0, nI_ge0, ne_eq, not_true_eq_false, not_false_eq_true, bI_eq0, bI_ne0, bI_T, bI_F, Bool.false_eq_true, Nat.one_ne_zero, Nat.zero_ne_one, nI_m1, w1, w2, v1, v2, cs, cg, cg', r0, r1, le]
    refine k_rhy hI (hF.rc hC) S0 S1 (hI.gd hw hi) (hI.gd hu (by omega)) hk k5 (fun C V hG => ?_)
    have hFG := hF.trans hG
    rw [fi] at hr
    by_cases c : rqs s.1 kind (3 * w + i) (3 * u + j) = true
    · rw [if_pos c] at hr
      simp (disch := omega) only [i_X0_firstPair_59, i_X0_firstPair_62, i_X0_firstPair_63, i_X0_firstPair_65, i_X0_firstPair_66, i_X0_firstPair_68, i_X0_firstPair_69, gh_o6, gf_6_1, sgF_0, sgF_5, sgF_6, sgF_7, sgF_9, sgF_10, wdF_0, wdF_1, wdF_2, wdF_3, lsF_0, lsF_1, lsF_2, z_o_i, z_ai_i, z_si_i, z_ab_b, z_ab_z, z_sb_b, z_sb_z, z_al_i, z_al_b, z_pu_s, z_pu_n, nI_toN, z_inN, true_and, and_true, nI_add, pk_mul, vu_eq, vu_ne, nI_leI, nI_ltI, nI_eqI, nI_eq0, ↓ok_0, ↓ok_1, ↓bI_ok, if_true, if_false, nI_lt0, nI_ge0, ne_eq, not_true_eq_false, not_false_eq_true, bI_eq0, bI_ne0, bI_T, bI_F, Bool.false_eq_true, Nat.one_ne_zero, Nat.zero_ne_one, nI_m1, c]
      exact hS C V j hFG hr.symm
    · rw [if_neg c] at hr
      simp (disch := omega) only [i_X0_firstPair_59, i_X0_firstPair_70, i_X0_firstPair_73, gh_o6, gf_6_1, sgF_0, sgF_5, sgF_6, sgF_7, sgF_9, sgF_10, wdF_0, wdF_1, wdF_2, wdF_3, lsF_0, lsF_1, lsF_2, z_o_i, z_ai_i, z_si_i, z_ab_b, z_ab_z, z_sb_b, z_sb_z, z_al_i, z_al_b, z_pu_s, z_pu_n, nI_toN, z_inN, true_and, and_true, nI_add, pk_mul, vu_eq, vu_ne, nI_leI, nI_ltI, nI_eqI, nI_eq0, ↓ok_0, ↓ok_1, ↓bI_ok, if_true, if_false, nI_lt0, nI_ge0, ne_eq, not_true_eq_false, not_false_eq_true, bI_eq0, bI_ne0, bI_T, bI_F, Bool.false_eq_true, Nat.one_ne_zero, Nat.zero_ne_one, nI_m1, c]
      exact ih (j + 1) C V (by omega) hFG hr
theorem l_fpO {w u kind : Nat} {pw pu : Nat} {R : Option Nat} (hI : Iv s) (hC : Rc s A P) (W0 : Wq s dy nz ρ w pw) (W1 : Wq s dy nz ρ u pu) (hw : w < s.1 32 1) (hu : u < s.1 32 1) (hk : kind ≤ 6) (k5 : kind ≠ 5)
    (hQ : ∀ B U, Fe A B P U → Q (some (.int (oI R))) (GH B U dy) nx) :
    ∀ (m i : Nat) (B : Nat → Nat → Int32) (U : Nat → Nat → Nat) (x5 : Option Value), i + m = s.1 34 w → Fe A B P U → fo (fun p q => rqs s.1 kind (3 * w + p) (3 * u + q)) (s.1 34 u) m i = R → X (d + 3) m_X0_firstPair 3 [some (.ref 6), some (.ref pw), some (.ref pu), some (.int (nI kind)), some (.int (nI i)), x5] [] (GH B U dy) nx bc bs Q := by
  have W0' := W0
  obtain ⟨l, b, e, c, mm, g, K, w1, w2, w3, w4, w5, w6, w7, w8⟩ := W0
  have b34 := hI.b34 w
  intro m
  induction m with
  | zero =>
    intro i B U x5 hi hF hr
    have le : s.1 34 w ≤ i := by omega
    have cs : ∀ {d nx : Nat} {Q : z_Q}, XC d m_Jx4a65c_size_8abf5 [.ref l] (GH B U dy) nx Q = Q (some (.int (nI (s.1 34 w)))) (GH B U dy) nx := c_size w2
    have q := hQ B U hF
    rw [← hr] at q
    simp (disch := omega) only [i_X0_firstPair_3, i_X0_firstPair_5, i_X0_firstPair_6, i_X0_firstPair_9, i_X0_firstPair_12, i_X0_firstPair_82, i_X0_firstPair_83, gh_o6, gf_6_1, sgF_0, sgF_5, sgF_6, sgF_7, sgF_9, sgF_10, wdF_0, wdF_1, wdF_2, wdF_3, lsF_0, lsF_1, lsF_2, z_o_i, z_ai_i, z_si_i, z_ab_b, z_ab_z, z_sb_b, z_sb_z, z_al_i, z_al_b, z_pu_s, z_pu_n, nI_toN, z_inN, true_and, and_true, nI_add, pk_mul, vu_eq, vu_ne, nI_leI, nI_ltI, nI_eqI, nI_eq0, ↓ok_0, ↓ok_1, ↓bI_ok, if_true, if_false, nI_lt0, nI_ge0, ne_eq, not_true_eq_false, not_false_eq_true, bI_eq0, bI_ne0, bI_T, bI_F, Bool.false_eq_true, Nat.one_ne_zero, Nat.zero_ne_one, nI_m1, w1, w2, cs, le]
    exact q
  | succ m ih =>
    intro i B U x5 hi hF hr
    have le : ¬ s.1 34 w ≤ i := by omega
    have cs : ∀ {d nx : Nat} {Q : z_Q}, XC d m_Jx4a65c_size_8abf5 [.ref l] (GH B U dy) nx Q = Q (some (.int (nI (s.1 34 w)))) (GH B U dy) nx := c_size w2
    rw [fo] at hr
    rw [i_X0_firstPair_3]
    simp (disch := omega) only [i_X0_firstPair_5, i_X0_firstPair_6, i_X0_firstPair_9, i_X0_firstPair_12, i_X0_firstPair_15, i_X0_firstPair_16, gh_o6, gf_6_1, sgF_0, sgF_5, sgF_6, sgF_7, sgF_9, sgF_10, wdF_0, wdF_1, wdF_2, wdF_3, lsF_0, lsF_1, lsF_2, z_o_i, z_ai_i, z_si_i, z_ab_b, z_ab_z, z_sb_b, z_sb_z, z_al_i, z_al_b, z_pu_s, z_pu_n, nI_toN, z_inN, true_and, and_true, nI_add, pk_mul, vu_eq, vu_ne, nI_leI, nI_ltI, nI_eqI, nI_eq0, ↓ok_0, ↓ok_1, ↓bI_ok, if_true, if_false, nI_lt0, nI_ge0, ne_eq, not_true_eq_false, not_false_eq_true, bI_eq0, bI_ne0, bI_T, bI_F, Bool.false_eq_true, Nat.one_ne_zero, Nat.zero_ne_one, nI_m1, w1, w2, cs, le]
    refine l_fpI (A := A) (P := P) (R := fi (fun q => rqs s.1 kind (3 * w + i) (3 * u + q)) (s.1 34 u) 0) hI hC W0' W1 hw hu hk k5 (by omega) ?_ ?_ (s.1 34 u) 0 B U (by omega) hF rfl
    · intro C V j hG e
      have q := hQ C V hG
      rw [e] at hr
      rw [← hr] at q
      exact q
    · intro C V y5 hG e
      rw [e] at hr
      exact ih (i + 1) C V y5 (by omega) hG hr
theorem k_fpE {w u kind pw pu : Nat} (hI : Iv s) (hC : Rc s A P) (W0 : Wq s dy nz ρ w pw) (W1 : Wq s dy nz ρ u pu) (hw : w < s.1 32 1) (hu : u < s.1 32 1) (hk : kind ≤ 6) (k5 : kind ≠ 5) (hQ : ∀ B U, Fe A B P U → Q (some (.int (oI (fo (fun p q => rqs s.1 kind (3 * w + p) (3 * u + q)) (s.1 34 u) (s.1 34 w) 0)))) (GH B U dy) nx) : XC (d + 3) m_X0_firstPair [.ref 6, .ref pw, .ref pu, .int (nI kind)] (GH A P dy) nx Q := by
  show X (d + 3) m_X0_firstPair 0 [some (.ref 6), some (.ref pw), some (.ref pu), some (.int (nI kind)), none, none] [] (GH A P dy) nx 0 0 Q
  rw [i_X0_firstPair_0, i_X0_firstPair_1]
  exact l_fpO hI hC W0 W1 hw hu hk k5 hQ (s.1 34 w) 0 A P none (by omega) (Fe.rf hC) rfl
/-- the ear's leastCost -/
theorem l_lkI {w u i : Nat} {pw pu : Nat} {R : Option Nat} (hI : Iv s) (hC : Rc s A P) (W0 : Wq s dy nz ρ w pw) (W1 : Wq s dy nz ρ u pu) (hw : w < s.1 32 1) (hu : u < s.1 32 1) (hi : i < s.1 34 w)
    (hN : ∀ B U x5 x6, Fe A B P U → X (d + 3) m_X0_leastCost 5 [some (.ref 6), some (.ref pw), some (.ref pu), some (.int (oI R)), some (.int (nI (i + 1))), x5, x6] [] (GH B U dy) nx bc bs Q) :
    ∀ (m j : Nat) (B : Nat → Nat → Int32) (U : Nat → Nat → Nat) (bb : Option Nat) (x6 : Option Value), j + m = s.1 34 u → Fe A B P U → (∀ y, bb = some y → y ≤ 192) → lcI (fun q => cqs s.1 (3 * w + i) (3 * u + q)) m j bb = R → X (d + 3) m_X0_leastCost 20 [some (.ref 6), some (.ref pw), some (.ref pu), some (.int (oI bb)), some (.int (nI i)), some (.int (nI j)), x6] [] (GH B U dy) nx bc bs Q := by
  obtain ⟨l, b, e, c, mm, g, K, w1, w2, w3, w4, w5, w6, w7, w8⟩ := W0
  obtain ⟨l', b', e', c', mm', g', K', v1, v2, v3, v4, v5, v6, v7, v8⟩ := W1
  have b34 := hI.b34 w
  have c34 := hI.b34 u
  intro m
  induction m with
  | zero =>
    intro j B U bb x6 hj hF hb hr
    have le : s.1 34 u ≤ j := by omega
    have cs : ∀ {d nx : Nat} {Q : z_Q}, XC d m_Jx4a65c_size_8abf5 [.ref l'] (GH B U dy) nx Q = Q (some (.int (nI (s.1 34 u)))) (GH B U dy) nx := c_size v2
    have hr' : bb = R := hr
    rw [hr']
    simp (disch := omega) only [i_X0_leastCost_20, i_X0_leastCost_22, i_X0_leastCost_23, i_X0_leastCost_26, i_X0_leastCost_29, i_X0_leastCost_82, i_X0_leastCost_85, gh_o6, gf_6_1, sgF_0, sgF_5, sgF_6, sgF_7, sgF_9, sgF_10, wdF_0, wdF_1, wdF_2, wdF_3, lsF_0, lsF_1, lsF_2, z_o_i, z_ai_i, z_si_i, z_ab_b, z_ab_z, z_sb_b, z_sb_z, z_al_i, z_al_b, z_pu_s, z_pu_n, nI_toN, z_inN, true_and, and_true, nI_add, pk_mul, vu_eq, vu_ne, nI_leI, nI_ltI, nI_eqI, nI_eq0, ↓ok_0, ↓ok_1, ↓bI_ok, if_true, if_false, nI_lt0, nI_ge0, ne_eq, not_true_eq_false, not_false_eq_true, bI_eq0, bI_ne0, bI_T, bI_F, Bool.false_eq_true, Nat.one_ne_zero, Nat.zero_ne_one, nI_m1, v1, v2, cs, le]
    exact hN B U _ _ hF
  | succ m ih =>
    intro j B U bb x6 hj hF hb hr
    have le : ¬ s.1 34 u ≤ j := by omega
    obtain ⟨q0, a0, S0⟩ := w8 i hi
    obtain ⟨q1, a1, S1⟩ := v8 j (by omega)
    obtain ⟨_, _, _, r0⟩ := S0.rd (A := B) (P := U) hI
    obtain ⟨_, _, _, r1⟩ := S1.rd (A := B) (P := U) hI
    have cs : ∀ {d nx : Nat} {Q : z_Q}, XC d m_Jx4a65c_size_8abf5 [.ref l'] (GH B U dy) nx Q = Q (some (.int (nI (s.1 34 u)))) (GH B U dy) nx := c_size v2
    have cg : ∀ {d nx : Nat} {Q : z_Q}, XC (d + 2) m_Jx4a65c_get_915e3 [.ref l, .int (nI i)] (GH B U dy) nx Q = Q (some (.ref q0)) (GH B U dy) nx := c_get w2 w3 hi w6 (by omega) a0
    have cg' : ∀ {d nx : Nat} {Q : z_Q}, XC (d + 2) m_Jx4a65c_get_915e3 [.ref l', .int (nI j)] (GH B U dy) nx Q = Q (some (.ref q1)) (GH B U dy) nx := c_get v2 v3 (by omega) v6 (by omega) a1
    rw [i_X0_leastCost_20]
    simp (disch := omega) only [i_X0_leastCost_22, i_X0_leastCost_23, i_X0_leastCost_26, i_X0_leastCost_29, i_X0_leastCost_32, i_X0_leastCost_33, i_X0_leastCost_34, i_X0_leastCost_37, i_X0_leastCost_39, i_X0_leastCost_42, i_X0_leastCost_45, i_X0_leastCost_46, i_X0_leastCost_49, i_X0_leastCost_51, i_X0_leastCost_54, i_X0_leastCost_57, gh_o6, gf_6_1, sgF_0, sgF_5, sgF_6, sgF_7, sgF_9, sgF_10, wdF_0, wdF_1, wdF_2, wdF_3, lsF_0, lsF_1, lsF_2, z_o_i, z_ai_i, z_si_i, z_ab_b, z_ab_z, z_sb_b, z_sb_z, z_al_i, z_al_b, z_pu_s, z_pu_n, nI_toN, z_inN, true_and, and_true, nI_add, pk_mul, vu_eq, vu_ne, nI_leI, nI_ltI, nI_eqI, nI_eq0, ↓ok_0, ↓ok_1, ↓bI_ok, if_true, if_false, nI_lt0, nI_ge0, ne_eq, not_true_eq_false, not_false_eq_true, bI_eq0, bI_ne0, bI_T, bI_F, Bool.false_eq_true, Nat.one_ne_zero, Nat.zero_ne_one, nI_m1, w1, w2, v1, v2, cs, cg, cg', r0, r1, le]
    refine k_costS hI (hF.rc hC) S0 S1 (hI.gd hw hi) (hI.gd hu (by omega)) (fun C V hG => ?_)
    have hFG := hF.trans hG
    have cb := cqs_le (s0 := 3 * w + i) (s1 := 3 * u + j) hI.b35
    rw [lcI] at hr
    have key : ∀ v : Int32, v = oI (some (mn bb (cqs s.1 (3 * w + i) (3 * u + j)))) → X (d + 3) m_X0_leastCost 20 [some (.ref 6), some (.ref pw), some (.ref pu), some (.int v), some (.int (nI i)), some (.int (nI (j + 1))), some (.int (nI (cqs s.1 (3 * w + i) (3 * u + j))))] [] (GH C V dy) nx bc bs Q := by
      intro v hv
      rw [hv]
      exact ih (j + 1) C V _ _ (by omega) hFG (fun y hy => by cases hy; exact mn_le hb cb) hr
    cases bb with
    | none =>
      have on : oI none = -1 := rfl
      have me : ((-1 : Int32) = -1) = True := by simp
      rw [on]
      simp (disch := omega) only [i_X0_leastCost_60, i_X0_leastCost_62, i_X0_leastCost_63, i_X0_leastCost_64, i_X0_leastCost_73, i_X0_leastCost_75, i_X0_leastCost_76, i_X0_leastCost_79, gh_o6, gf_6_1, sgF_0, sgF_5, sgF_6, sgF_7, sgF_9, sgF_10, wdF_0, wdF_1, wdF_2, wdF_3, lsF_0, lsF_1, lsF_2, z_o_i, z_ai_i, z_si_i, z_ab_b, z_ab_z, z_sb_b, z_sb_z, z_al_i, z_al_b, z_pu_s, z_pu_n, nI_toN, z_inN, true_and, and_true, nI_add, pk_mul, vu_eq, vu_ne, nI_leI, nI_ltI, nI_eqI, nI_eq0, ↓ok_0, ↓ok_1, ↓bI_ok, if_true, if_false, nI_lt0, nI_ge0, ne_eq, not_true_eq_false, not_false_eq_true, bI_eq0, bI_ne0, bI_T, bI_F, Bool.false_eq_true, Nat.one_ne_zero, Nat.zero_ne_one, nI_m1, me]
      exact key _ rfl
    | some y =>
      have oy : oI (some y) = nI y := rfl
      have yb := hb y rfl
      rw [oy]
      by_cases lt : y ≤ cqs s.1 (3 * w + i) (3 * u + j)
      · simp (disch := omega) only [i_X0_leastCost_60, i_X0_leastCost_62, i_X0_leastCost_63, i_X0_leastCost_64, i_X0_leastCost_67, i_X0_leastCost_69, i_X0_leastCost_70, i_X0_leastCost_76, i_X0_leastCost_79, gh_o6, gf_6_1, sgF_0, sgF_5, sgF_6, sgF_7, sgF_9, sgF_10, wdF_0, wdF_1, wdF_2, wdF_3, lsF_0, lsF_1, lsF_2, z_o_i, z_ai_i, z_si_i, z_ab_b, z_ab_z, z_sb_b, z_sb_z, z_al_i, z_al_b, z_pu_s, z_pu_n, nI_toN, z_inN, true_and, and_true, nI_add, pk_mul, vu_eq, vu_ne, nI_leI, nI_ltI, nI_eqI, nI_eq0, ↓ok_0, ↓ok_1, ↓bI_ok, if_true, if_false, nI_lt0, nI_ge0, ne_eq, not_true_eq_false, not_false_eq_true, bI_eq0, bI_ne0, bI_T, bI_F, Bool.false_eq_true, Nat.one_ne_zero, Nat.zero_ne_one, nI_m1, lt]
        refine key _ ?_
        simp only [mn]
        rw [if_neg (by omega)]
        rfl
      · simp (disch := omega) only [i_X0_leastCost_60, i_X0_leastCost_62, i_X0_leastCost_63, i_X0_leastCost_64, i_X0_leastCost_67, i_X0_leastCost_69, i_X0_leastCost_70, i_X0_leastCost_73, i_X0_leastCost_75, i_X0_leastCost_76, i_X0_leastCost_79, gh_o6, gf_6_1, sgF_0, sgF_5, sgF_6, sgF_7, sgF_9, sgF_10, wdF_0, wdF_1, wdF_2, wdF_3, lsF_0, lsF_1, lsF_2, z_o_i, z_ai_i, z_si_i, z_ab_b, z_ab_z, z_sb_b, z_sb_z, z_al_i, z_al_b, z_pu_s, z_pu_n, nI_toN, z_inN, true_and, and_true, nI_add, pk_mul, vu_eq, vu_ne, nI_leI, nI_ltI, nI_eqI, nI_eq0, ↓ok_0, ↓ok_1, ↓bI_ok, if_true, if_false, nI_lt0, nI_ge0, ne_eq, not_true_eq_false, not_false_eq_true, bI_eq0, bI_ne0, bI_T, bI_F, Bool.false_eq_true, Nat.one_ne_zero, Nat.zero_ne_one, nI_m1, lt]
        refine key _ ?_
        simp only [mn]
        rw [if_pos (by omega)]
        rfl
theorem l_lkO {w u : Nat} {pw pu : Nat} {R : Option Nat} (hI : Iv s) (hC : Rc s A P) (W0 : Wq s dy nz ρ w pw) (W1 : Wq s dy nz ρ u pu) (hw : w < s.1 32 1) (hu : u < s.1 32 1)
    (hQ : ∀ B U, Fe A B P U → Q (some (.int (oI R))) (GH B U dy) nx) :
    ∀ (m i : Nat) (B : Nat → Nat → Int32) (U : Nat → Nat → Nat) (bb : Option Nat) (x5 x6 : Option Value), i + m = s.1 34 w → Fe A B P U → (∀ y, bb = some y → y ≤ 192) → lcO (fun p q => cqs s.1 (3 * w + p) (3 * u + q)) (s.1 34 u) m i bb = R → X (d + 3) m_X0_leastCost 5 [some (.ref 6), some (.ref pw), some (.ref pu), some (.int (oI bb)), some (.int (nI i)), x5, x6] [] (GH B U dy) nx bc bs Q := by
  have W0' := W0
  obtain ⟨l, b, e, c, mm, g, K, w1, w2, w3, w4, w5, w6, w7, w8⟩ := W0
  have b34 := hI.b34 w
  intro m
  induction m with
  | zero =>
    intro i B U bb x5 x6 hi hF hb hr
    have le : s.1 34 w ≤ i := by omega
    have cs : ∀ {d nx : Nat} {Q : z_Q}, XC d m_Jx4a65c_size_8abf5 [.ref l] (GH B U dy) nx Q = Q (some (.int (nI (s.1 34 w)))) (GH B U dy) nx := c_size w2
    have q := hQ B U hF
    rw [← hr] at q
    simp (disch := omega) only [i_X0_leastCost_5, i_X0_leastCost_7, i_X0_leastCost_8, i_X0_leastCost_11, i_X0_leastCost_14, i_X0_leastCost_88, i_X0_leastCost_89, gh_o6, gf_6_1, sgF_0, sgF_5, sgF_6, sgF_7, sgF_9, sgF_10, wdF_0, wdF_1, wdF_2, wdF_3, lsF_0, lsF_1, lsF_2, z_o_i, z_ai_i, z_si_i, z_ab_b, z_ab_z, z_sb_b, z_sb_z, z_al_i, z_al_b, z_pu_s, z_pu_n, nI_toN, z_inN, true_and, and_true, nI_add, pk_mul, vu_eq, vu_ne, nI_leI, nI_ltI, nI_eqI, nI_eq0, ↓ok_0, ↓ok_1, ↓bI_ok, if_true, if_false, nI_lt0, nI_ge0, ne_eq, not_true_eq_false, not_false_eq_true, bI_eq0, bI_ne0, bI_T, bI_F, Bool.false_eq_true, Nat.one_ne_zero, Nat.zero_ne_one, nI_m1, w1, w2, cs, le]
    exact q
  | succ m ih =>
    intro i B U bb x5 x6 hi hF hb hr
    have le : ¬ s.1 34 w ≤ i := by omega
    have cs : ∀ {d nx : Nat} {Q : z_Q}, XC d m_Jx4a65c_size_8abf5 [.ref l] (GH B U dy) nx Q = Q (some (.int (nI (s.1 34 w)))) (GH B U dy) nx := c_size w2
    rw [lcO] at hr
    rw [i_X0_leastCost_5]
    simp (disch := omega) only [i_X0_leastCost_7, i_X0_leastCost_8, i_X0_leastCost_11, i_X0_leastCost_14, i_X0_leastCost_17, i_X0_leastCost_18, gh_o6, gf_6_1, sgF_0, sgF_5, sgF_6, sgF_7, sgF_9, sgF_10, wdF_0, wdF_1, wdF_2, wdF_3, lsF_0, lsF_1, lsF_2, z_o_i, z_ai_i, z_si_i, z_ab_b, z_ab_z, z_sb_b, z_sb_z, z_al_i, z_al_b, z_pu_s, z_pu_n, nI_toN, z_inN, true_and, and_true, nI_add, pk_mul, vu_eq, vu_ne, nI_leI, nI_ltI, nI_eqI, nI_eq0, ↓ok_0, ↓ok_1, ↓bI_ok, if_true, if_false, nI_lt0, nI_ge0, ne_eq, not_true_eq_false, not_false_eq_true, bI_eq0, bI_ne0, bI_T, bI_F, Bool.false_eq_true, Nat.one_ne_zero, Nat.zero_ne_one, nI_m1, w1, w2, cs, le]
    refine l_lkI (A := A) (P := P) (R := lcI (fun q => cqs s.1 (3 * w + i) (3 * u + q)) (s.1 34 u) 0 bb) hI hC W0' W1 hw hu (by omega) ?_ (s.1 34 u) 0 B U bb _ (by omega) hF hb rfl
    intro C V y5 y6 hG
    exact ih (i + 1) C V _ y5 y6 (by omega) hG (lcI_le (fun q => cqs_le hI.b35) _ _ _ hb) hr
theorem k_lcE {w u pw pu : Nat} (hI : Iv s) (hC : Rc s A P) (W0 : Wq s dy nz ρ w pw) (W1 : Wq s dy nz ρ u pu) (hw : w < s.1 32 1) (hu : u < s.1 32 1) (hQ : ∀ B U, Fe A B P U → Q (some (.int (oI (lcq s.1 w u)))) (GH B U dy) nx) : XC (d + 3) m_X0_leastCost [.ref 6, .ref pw, .ref pu] (GH A P dy) nx Q := by
  show X (d + 3) m_X0_leastCost 0 [some (.ref 6), some (.ref pw), some (.ref pu), none, none, none, none] [] (GH A P dy) nx 0 0 Q
  rw [i_X0_leastCost_0, i_X0_leastCost_1, i_X0_leastCost_2, i_X0_leastCost_3]
  exact l_lkO hI hC W0 W1 hw hu hQ (s.1 34 w) 0 A P none none none (by omega) (Fe.rf hC) (fun y hy => by cases hy) rfl
end CRhy
