/-! THE CLASS: saying -/
section CSa2
variable {s : z_S} {A : Nat → Nat → Int32} {P : Nat → Nat → Nat} {dy : z_H} {d nx nz bc bs : Nat} {Q : z_Q} {wd ln : Nat → Nat}
theorem x_saying {w n : Int32} {f g : Int64} (hI : Iv s) (hK : Cl s A P dy nx) (hQ : ∀ B R dz nz, Cl (s_saying s w n f g).2 B R dz nz → nx ≤ nz ∧ dz 0 = dy 0 → Fz A B → Q (some (.int (s_saying s w n f g).1)) (GH B R dz) nz) : XC (d + 7) m_X7_saying [.ref 3, .int w, .int n, .long f, .long g] (GH A P dy) nx Q := by
  show X (d + 7) m_X7_saying 0 [some (.ref 3), some (.int w), some (.int n), some (.long f), none, some (.long g), none, none] [] (GH A P dy) nx 6 127 Q
  have hK' := hK
  obtain ⟨hC, wd, ln, hD⟩ := hK
  have sc := hI.sc
  have kW : ∀ {d nx : Nat} {Q : z_Q} {w : Nat}, w < s.1 32 1 → XC (d + 3) m_X7_wordAt [.ref 3, .int (nI w)] (GH A P dy) nx Q = Q (some (.ref (wd w))) (GH A P dy) nx := fun h => k_wordAt hD h
  have kN : ∀ {d nx : Nat} {Q : z_Q} {x : Int32}, ¬ iw x (s.1 32 1) = true → XC (d + 3) m_X7_wordAt [.ref 3, .int x] (GH A P dy) nx Q = Q (some .null) (GH A P dy) nx := fun h => k_wordAtN hD sc.1 h
  unfold s_saying at hQ
  by_cases hw : iw w (s.1 32 1) = true
  · obtain ⟨u, hu, rfl⟩ := iw_ex hw
    rw [nI_toN (n := u) (by omega)] at hQ
    by_cases hn : ir n 1 12 = true
    · obtain ⟨k, k1, k2, rfl⟩ := ir_ex hn
      rw [nI_toN (n := k) (by omega)] at hQ
      have c1 : ¬ k < 1 := by omega
      have c2 : ¬ 12 < k := by omega
      simp (disch := omega) only [i_X7_saying_0, i_X7_saying_0n, i_X7_saying_1, i_X7_saying_2, i_X7_saying_5, i_X7_saying_5n, i_X7_saying_7, i_X7_saying_7n, i_X7_saying_9, i_X7_saying_9n, i_X7_saying_12, i_X7_saying_13, i_X7_saying_14, i_X7_saying_17, i_X7_saying_18, i_X7_saying_20, i_X7_saying_23, i_X7_saying_24, i_X7_saying_25, i_X7_saying_27, gh_o3, gf_3_0, wdF_1, lsF_2, z_o_i, z_ai_i, z_si_i, z_ab_b, z_ab_z, z_sb_b, z_sb_z, z_al_i, z_al_b, z_pu_s, z_pu_n, nI_toN, z_inN, true_and, and_true, nI_add, pk_mul, vu_eq, vu_ne, nI_leI, nI_ltI, nI_eqI, nI_eq0, nI_le0, ↓ok_0, ↓ok_1, if_true, if_false, nI_lt0, nI_ge0, ne_eq, not_true_eq_false, not_false_eq_true, nI_m1, kW, c1, c2]
      refine k_cbs k2 ?_
      by_cases ok : aS f g k = true ∧ aV f g k = true
      · rw [if_pos ⟨hw, hn, ok⟩] at hQ
        rw [bI_t ok]
        obtain ⟨ρ, c4, c5, a0, a1, a2, a3, a4, a5⟩ := hD
        obtain ⟨l, b, e, c, m, G, K, hp, hr, he, ⟨q1, q2, q3, q4⟩, ⟨kk1, kk2⟩, cc, h8⟩ := a4 u hu
        have w1 : GH A P dy (wd u) = .inr (.inl (6, wdF (nI (s.1 33 u)) l b (nI (s.1 38 u) - nI 1))) := by rw [gh_dy hp.1]; exact q1
        have l1 : GH A P dy l = .inr (.inl (9, lsF m e (nI (s.1 34 u)))) := by rw [gh_dy hp.2.2.1]; exact q2
        have b34 := hI.b34 u
        have kS : ∀ {d nx : Nat} {Q : z_Q}, XC d m_Jx4a65c_size_8abf5 [.ref l] (GH A P dy) nx Q = _ := c_size l1
        by_cases f3 : s.1 34 u = 3
        · rw [if_pos f3] at hQ
          have lt : ¬ s.1 34 u < 3 := by omega
          simp (disch := omega) only [i_X7_saying_30, i_X7_saying_36, i_X7_saying_36n, i_X7_saying_38, i_X7_saying_41, i_X7_saying_44, i_X7_saying_45, i_X7_saying_48, i_X7_saying_50, gh_o3, gf_3_0, wdF_1, lsF_2, z_o_i, z_ai_i, z_si_i, z_ab_b, z_ab_z, z_sb_b, z_sb_z, z_al_i, z_al_b, z_pu_s, z_pu_n, nI_toN, z_inN, true_and, and_true, nI_add, pk_mul, vu_eq, vu_ne, nI_leI, nI_ltI, nI_eqI, nI_eq0, nI_le0, ↓ok_0, ↓ok_1, if_true, if_false, nI_lt0, nI_ge0, ne_eq, not_true_eq_false, not_false_eq_true, nI_m1, w1, l1, kS, lt]
          exact hQ A P dy nx hK' ⟨Nat.le_refl _, rfl⟩ Fz.refl
        · rw [if_neg f3] at hQ
          have lt : s.1 34 u < 3 := by omega
          simp (disch := omega) only [i_X7_saying_30, i_X7_saying_36, i_X7_saying_36n, i_X7_saying_38, i_X7_saying_41, i_X7_saying_44, i_X7_saying_45, i_X7_saying_51, i_X7_saying_51n, i_X7_saying_53, gh_o3, gf_3_0, wdF_1, lsF_2, z_o_i, z_ai_i, z_si_i, z_ab_b, z_ab_z, z_sb_b, z_sb_z, z_al_i, z_al_b, z_pu_s, z_pu_n, nI_toN, z_inN, true_and, and_true, nI_add, pk_mul, vu_eq, vu_ne, nI_leI, nI_ltI, nI_eqI, nI_eq0, nI_le0, ↓ok_0, ↓ok_1, if_true, if_false, nI_lt0, nI_ge0, ne_eq, not_true_eq_false, not_false_eq_true, nI_m1, w1, l1, kS, lt]
          rw [i_X7_saying_56]
          refine ⟨⟨by omega, by omega⟩, ?_⟩
          rw [gh_dyup a0.1, i_X7_saying_59, i_X7_saying_60, i_X7_saying_61, i_X7_saying_62, i_X7_saying_64]
          refine ⟨⟨by omega, by omega⟩, k_sin a0.1 k1 k2 ok.2 vu_eq (fun dz d0 d1 d2 d3 dx => ?_)⟩
          have dl : ∀ x, x < nx → dz x = dy x := fun x hx => by rw [dx x (by omega) (by omega) (by omega) (by omega), vu_ne (by omega)]
          have dz1 : dz 1 = dy 1 := dl 1 (by omega)
          have l1' : GH A P dz l = .inr (.inl (9, lsF m e (nI (s.1 34 u)))) := by rw [gh_dy hp.2.2.1, dl l hp.2.2.2.1]; exact q2
          simp (disch := omega) only [z_pu_n]
          rw [i_X7_saying_67, l1', z_o_i]
          refine ⟨⟨by omega, by omega⟩, ?_⟩
          have ge : GH A P dz e = .inr (.inr (c, G)) := by
            rcases he with ⟨e1, _⟩ | ⟨e1, e2, _⟩
            · rw [e1, gh_1, dz1, ← e1]; exact q3
            · rw [gh_dy e1, dl _ e2]; exact q3
          refine c_add (c0 := 3) (m := m) (e := e) (n := s.1 34 u) (cap := c) (g := G) (vs := sgE nx k (fS f g) (gS f g)) l1' ge (by rw [gh_dy a0.1]; exact d0) (by omega) (by omega) (by omega) (by omega) cc (by omega) (by omega) (by omega) (Or.inr (Or.inr rfl)) (fun i hi => ?_) (fun e' cap' g' nx' h1 h2 h3 h4 => ?_)
          · obtain ⟨q, gq, so, vo, st, F, hq, hr', q1', _⟩ := h8 i hi
            exact ⟨q, _, gq, by omega, by rw [gh_dy hq.1, dl _ hq.2.1]; exact q1'⟩
          · have ee : (e' < nx ∧ 63 ≤ e' ∧ ρ e' = 8 * u + 7 ∧ nx' = nx + 4 ∧ cap' = 10) ∨ (e' = nx + 4 ∧ nx' = nx + 5 ∧ cap' = 10) := by
              by_cases q : s.1 34 u < c
              · obtain ⟨z1, z2, z3⟩ := h1 q
                rcases he with ⟨_, e2⟩ | ⟨e1, e2, e3, e4⟩
                · omega
                · left; exact ⟨by omega, by omega, by rw [z1]; exact e3, z3, by omega⟩
              · obtain ⟨z1, z2, z3⟩ := h2 (by omega)
                right
                refine ⟨z1, z3, ?_⟩
                rw [z2]; unfold cpN
                rw [if_pos (by omega)]
            have el : e' ≠ l := by
              rcases ee with ⟨_, _, z, _⟩ | ⟨z, _⟩
              · exact fun q => by rw [q] at z; omega
              · omega
            rw [gh_dyup (by omega), gh_dyup hp.2.2.1]
            have w1' : GH A P (va_up (va_up dz e' (.inr (.inr (cap', g')))) l (.inr (.inl (9, lsF (m + nI 1) e' (nI (s.1 34 u + 1)))))) (wd u) = .inr (.inl (6, wdF (nI (s.1 33 u)) l b (nI (s.1 38 u) - nI 1))) := by
              have n1 : wd u ≠ l := fun z => by have := congrArg ρ z; omega
              have n2 : wd u ≠ e' := by
                rcases ee with ⟨_, _, z, _⟩ | ⟨z, _⟩
                · exact fun q => by rw [← q] at z; omega
                · omega
              rw [gh_dy hp.1, vu_ne n1, vu_ne n2, dl _ hp.2.1]; exact q1
            have l1'' : GH A P (va_up (va_up dz e' (.inr (.inr (cap', g')))) l (.inr (.inl (9, lsF (m + nI 1) e' (nI (s.1 34 u + 1)))))) l = .inr (.inl (9, lsF (m + nI 1) e' (nI (s.1 34 u + 1)))) := by rw [gh_dy hp.2.2.1, vu_eq]
            have kS3 : ∀ {d nx : Nat} {Q : z_Q}, XC d m_Jx4a65c_size_8abf5 [.ref l] (GH A P (va_up (va_up dz e' (.inr (.inr (cap', g')))) l (.inr (.inl (9, lsF (m + nI 1) e' (nI (s.1 34 u + 1))))))) nx Q = _ := c_size l1''
            simp (disch := omega) only [i_X7_saying_70, i_X7_saying_71, i_X7_saying_71n, i_X7_saying_73, i_X7_saying_76, i_X7_saying_79, i_X7_saying_80, i_X7_saying_81, z_pu_s, wdF_1, z_o_i, z_o_i, z_ai_i, z_si_i, z_ab_b, z_ab_z, z_sb_b, z_sb_z, z_al_i, z_al_b, z_pu_s, z_pu_n, nI_toN, z_inN, true_and, and_true, nI_add, pk_mul, vu_eq, vu_ne, w1', l1'', kS3, pk_sub, Nat.add_sub_cancel]
            have oth : ∀ x, x < nx → ρ x ≠ 8 * u + 5 → ρ x ≠ 8 * u + 7 → va_up (va_up dz e' (.inr (.inr (cap', g')))) l (.inr (.inl (9, lsF (m + nI 1) e' (nI (s.1 34 u + 1))))) x = dy x := fun x h1 h2 h3 => by
              have ne : x ≠ e' := by
                rcases ee with ⟨_, _, z, _⟩ | ⟨z, _⟩
                · exact fun q => h3 (by rw [q]; exact z)
                · omega
              have nl : x ≠ l := fun z => h2 (by rw [z]; exact hr.2.1)
              rw [vu_ne nl, vu_ne ne, dl x h1]
            have o1 : va_up (va_up dz e' (.inr (.inr (cap', g')))) l (.inr (.inl (9, lsF (m + nI 1) e' (nI (s.1 34 u + 1))))) 1 = dy 1 := by rw [vu_ne (by omega), vu_ne (by omega)]; exact dz1
            have o0 : va_up (va_up dz e' (.inr (.inr (cap', g')))) l (.inr (.inl (9, lsF (m + nI 1) e' (nI (s.1 34 u + 1))))) 0 = dy 0 := by rw [vu_ne (by omega), vu_ne (by omega)]; exact dl 0 (by omega)
            have hn' : nx ≤ nx' := by omega
            have ner : ∀ y, y = nx ∨ y = nx + 1 ∨ y = nx + 2 ∨ y = nx + 3 → va_up (va_up dz e' (.inr (.inr (cap', g')))) l (.inr (.inl (9, lsF (m + nI 1) e' (nI (s.1 34 u + 1))))) y = dz y := fun y hy => by rw [vu_ne (by omega), vu_ne (by omega)]
            have nel : va_up (va_up dz e' (.inr (.inr (cap', g')))) l (.inr (.inl (9, lsF (m + nI 1) e' (nI (s.1 34 u + 1))))) l = .inr (.inl (9, lsF (m + nI 1) e' (nI (s.1 34 u + 1)))) := vu_eq
            have nee : va_up (va_up dz e' (.inr (.inr (cap', g')))) l (.inr (.inl (9, lsF (m + nI 1) e' (nI (s.1 34 u + 1))))) e' = .inr (.inr (cap', g')) := by rw [vu_ne el, vu_eq]
            generalize va_up (va_up dz e' (.inr (.inr (cap', g')))) l (.inr (.inl (9, lsF (m + nI 1) e' (nI (s.1 34 u + 1))))) = dw at oth o1 o0 ner nel nee ⊢
            let σ : Nat → Nat := va_up (va_up (va_up (va_up (va_up ρ nx 0) (nx + 1) 0) (nx + 2) 0) (nx + 3) 0) (nx + 4) (8 * u + 7)
            have hσ : ∀ x, x < nx → σ x = ρ x := fun x hx => by
              show va_up (va_up (va_up (va_up (va_up ρ nx _) (nx + 1) _) (nx + 2) _) (nx + 3) _) (nx + 4) _ x = ρ x
              rw [vu_ne (by omega), vu_ne (by omega), vu_ne (by omega), vu_ne (by omega), vu_ne (by omega)]
            have σ0 : σ nx = 0 := by
              show va_up (va_up (va_up (va_up (va_up ρ nx _) (nx + 1) _) (nx + 2) _) (nx + 3) _) (nx + 4) _ nx = _
              rw [vu_ne (by omega), vu_ne (by omega), vu_ne (by omega), vu_ne (by omega), vu_eq]
            have σ1 : σ (nx + 1) = 0 := by
              show va_up (va_up (va_up (va_up (va_up ρ nx _) (nx + 1) _) (nx + 2) _) (nx + 3) _) (nx + 4) _ (nx + 1) = _
              rw [vu_ne (by omega), vu_ne (by omega), vu_ne (by omega), vu_eq]
            have σ2 : σ (nx + 2) = 0 := by
              show va_up (va_up (va_up (va_up (va_up ρ nx _) (nx + 1) _) (nx + 2) _) (nx + 3) _) (nx + 4) _ (nx + 2) = _
              rw [vu_ne (by omega), vu_ne (by omega), vu_eq]
            have σ3 : σ (nx + 3) = 0 := by
              show va_up (va_up (va_up (va_up (va_up ρ nx _) (nx + 1) _) (nx + 2) _) (nx + 3) _) (nx + 4) _ (nx + 3) = _
              rw [vu_ne (by omega), vu_eq]
            have σ4 : σ (nx + 4) = 8 * u + 7 := by
              show va_up (va_up (va_up (va_up (va_up ρ nx _) (nx + 1) _) (nx + 2) _) (nx + 3) _) (nx + 4) _ (nx + 4) = _
              rw [vu_eq]
            have t34 : (nS s.1 u k f g) 34 u = s.1 34 u + 1 := by
              show va_up (s.1 34) u (s.1 34 u + 1) u = _
              rw [vu_eq]
            have t35 : (nS s.1 u k f g) 35 (3 * u + s.1 34 u) = k := by
              show va_up (s.1 35) (3 * u + s.1 34 u) k (3 * u + s.1 34 u) = k
              rw [vu_eq]
            have old : ∀ v j, v < s.1 32 1 → j < s.1 34 v → (nS s.1 u k f g) 35 (3 * v + j) = s.1 35 (3 * v + j) ∧ 0 < s.1 35 (3 * v + j) ∧ (∀ i, i < s.1 35 (3 * v + j) → rs s.1 (3 * v + j) i = rs (nS s.1 u k f g) (3 * v + j) i) ∧ ∀ i, i < s.1 35 (3 * v + j) → ss s.1 (3 * v + j) i = ss (nS s.1 u k f g) (3 * v + j) i := fun v j hv hj => by
              have b := hI.b34 v
              have ne : 3 * v + j ≠ 3 * u + s.1 34 u := by
                intro z
                have : v = u := by omega
                subst this
                omega
              have b35 := hI.b35 (3 * v + j)
              refine ⟨?_, hI.n0 hv hj, fun i hi => ?_, fun i hi => ?_⟩
              · show va_up (s.1 35) (3 * u + s.1 34 u) k (3 * v + j) = _
                rw [vu_ne ne]
              · show _ = pt (s.1 36) (fun i => bN f g i % 40) (12 * (3 * u + s.1 34 u)) k (12 * (3 * v + j) + i)
                rw [pt_out (by omega)]; rfl
              · show _ = pt (s.1 37) (fun i => bN f g i / 40) (12 * (3 * u + s.1 34 u)) k (12 * (3 * v + j) + i)
                rw [pt_out (by omega)]; rfl
            refine hQ _ _ _ nx' ⟨hC.w (fun k h33 h34 h35 h36 h37 h38 h42 h43 h32 => ?_) ⟨rfl, rfl, rfl, rfl⟩, wd, ln, σ, c4, c5, ⟨by omega, by rw [o1]; exact a0.2⟩, ⟨a1.1, a1.2⟩, ?_, ?_, fun v hv => ?_, fun l hl => ?_⟩ ⟨hn', o0⟩ Fz.refl
            · show va_up (va_up (va_up (va_up s.1 35 _) 36 _) 37 _) 34 _ k = s.1 k
              rw [vu_ne h34, vu_ne h37, vu_ne h36, vu_ne h35]
            · exact a2.of hn' hσ o1 (fun x x1 x2 x3 => oth x x2 (by omega) (by omega))
            · exact a3.of hn' hσ o1 (fun x x1 x2 x3 => oth x x2 (by omega) (by omega))
            · by_cases q : v = u
              · subst q
                refine ⟨l, b, e', cap', m + nI 1, g', K, ⟨hp.1, by omega, hp.2.2.1, by omega, hp.2.2.2.2.1, by omega⟩, ?_, ?_, ⟨?_, ?_, nee, ?_⟩, ⟨kk1, kk2⟩, ?_, fun j hj => ?_⟩
                · rw [hσ _ hp.2.1, hσ _ hp.2.2.2.1, hσ _ hp.2.2.2.2.2]; exact hr
                · right
                  rcases ee with ⟨z1, z2, z3, z4, z5⟩ | ⟨z1, z2, z3⟩
                  · exact ⟨z2, by omega, by rw [hσ e' z1]; exact z3, z5⟩
                  · exact ⟨by omega, by omega, by rw [z1]; exact σ4, z3⟩
                · rw [oth _ hp.2.1 (by omega) (by omega)]; exact q1
                · rw [nel]
                  show _ = Sum.inr (Sum.inl (9, lsF (m + nI 1) e' (nI ((nS s.1 v k f g) 34 v))))
                  rw [t34]
                · rw [oth _ hp.2.2.2.2.2 (by omega) (by omega)]; exact q4
                · show (nS s.1 v k f g) 34 v ≤ cap'
                  rw [t34]; omega
                · have hj' : j < (nS s.1 v k f g) 34 v := hj
                  rw [t34] at hj'
                  by_cases qj : j = s.1 34 v
                  · subst qj
                    refine ⟨nx, h4, ?_⟩
                    have sg : Sg dw nx' σ nx k (fS f g) (gS f g) := by
                      refine ⟨nx + 1, nx + 2, nx + 3, pt (fun _ => 0) (fun i => nI (fS f g i)) 0 k, ⟨a0.1, by omega, by omega, by omega, by omega, by omega, by omega, by omega⟩, ⟨σ0, σ1, σ2, σ3⟩, ?_, ?_, fun i hi => ?_, ?_, ?_⟩
                      · rw [ner _ (by omega)]; exact d0
                      · rw [ner _ (by omega)]; exact d1
                      · rw [pt_in (by omega) (by omega)]; rfl
                      · rw [ner _ (by omega)]; exact d2
                      · rw [ner _ (by omega)]; exact d3
                    show Sg dw nx' σ nx ((nS s.1 v k f g) 35 (3 * v + s.1 34 v)) _ _
                    rw [t35]
                    refine sg.cg k1 (fun i hi => ?_) (fun i hi => ?_)
                    · show _ = pt (s.1 36) (fun i => bN f g i % 40) (12 * (3 * v + s.1 34 v)) k (12 * (3 * v + s.1 34 v) + i)
                      rw [pt_in (by omega) (by omega), Nat.add_sub_cancel_left]; rfl
                    · show _ = pt (s.1 37) (fun i => bN f g i / 40) (12 * (3 * v + s.1 34 v)) k (12 * (3 * v + s.1 34 v) + i)
                      rw [pt_in (by omega) (by omega), Nat.add_sub_cancel_left]; rfl
                  · obtain ⟨q, g1, g2⟩ := h8 j (by omega)
                    obtain ⟨o1', o2', o3', o4'⟩ := old v j hu (by omega)
                    refine ⟨q, by rw [h3 j (by omega)]; exact g1, ?_⟩
                    show Sg dw nx' σ q ((nS s.1 v k f g) 35 (3 * v + j)) _ _
                    rw [o1']
                    exact (g2.of hn' hσ (fun x x1 x2 x3 => oth x x2 (by omega) (by omega))).cg o2' o3' o4'
              · exact (a4 v hv).of hn' hσ o1 (fun x x1 x2 x3 => oth x x2 (by omega) (by omega)) rfl (vu_ne q) rfl (fun _ _ => rfl) (fun j hj => old v j hv hj)
            · exact (a5 l hl).of hn' hσ (fun x x1 x2 x3 => oth x x2 (by omega) (by omega)) rfl (fun _ _ => rfl)
      · rw [if_neg (fun q => ok ⟨q.2.2.1, q.2.2.2⟩)] at hQ
        rw [bI_f ok]
        simp (disch := omega) only [i_X7_saying_30, i_X7_saying_33, i_X7_saying_35, gh_o3, gf_3_0, wdF_1, lsF_2, z_o_i, z_ai_i, z_si_i, z_ab_b, z_ab_z, z_sb_b, z_sb_z, z_al_i, z_al_b, z_pu_s, z_pu_n, nI_toN, z_inN, true_and, and_true, nI_add, pk_mul, vu_eq, vu_ne, nI_leI, nI_ltI, nI_eqI, nI_eq0, nI_le0, ↓ok_0, ↓ok_1, if_true, if_false, nI_lt0, nI_ge0, ne_eq, not_true_eq_false, not_false_eq_true, nI_m1]
        exact hQ A P dy nx hK' ⟨Nat.le_refl _, rfl⟩ Fz.refl
    · rw [if_neg (fun q => hn q.2.1)] at hQ
      simp only [ir, decide_eq_true_eq] at hn
      by_cases n1 : n < nI 1
      · simp (disch := omega) only [i_X7_saying_0, i_X7_saying_0n, i_X7_saying_1, i_X7_saying_2, i_X7_saying_5, i_X7_saying_5n, i_X7_saying_7, i_X7_saying_7n, i_X7_saying_9, i_X7_saying_9n, i_X7_saying_12, i_X7_saying_13, i_X7_saying_14, i_X7_saying_33, i_X7_saying_35, gh_o3, gf_3_0, wdF_1, lsF_2, z_o_i, z_ai_i, z_si_i, z_ab_b, z_ab_z, z_sb_b, z_sb_z, z_al_i, z_al_b, z_pu_s, z_pu_n, nI_toN, z_inN, true_and, and_true, nI_add, pk_mul, vu_eq, vu_ne, nI_leI, nI_ltI, nI_eqI, nI_eq0, nI_le0, ↓ok_0, ↓ok_1, if_true, if_false, nI_lt0, nI_ge0, ne_eq, not_true_eq_false, not_false_eq_true, nI_m1, kW, n1]
        exact hQ A P dy nx hK' ⟨Nat.le_refl _, rfl⟩ Fz.refl
      · have n12 : nI 12 < n := by
          rw [Int32.lt_iff_toInt_lt, nI_toInt (by omega)] at n1 ⊢
          omega
        simp (disch := omega) only [i_X7_saying_0, i_X7_saying_0n, i_X7_saying_1, i_X7_saying_2, i_X7_saying_5, i_X7_saying_5n, i_X7_saying_7, i_X7_saying_7n, i_X7_saying_9, i_X7_saying_9n, i_X7_saying_12, i_X7_saying_13, i_X7_saying_14, i_X7_saying_17, i_X7_saying_18, i_X7_saying_20, i_X7_saying_33, i_X7_saying_35, gh_o3, gf_3_0, wdF_1, lsF_2, z_o_i, z_ai_i, z_si_i, z_ab_b, z_ab_z, z_sb_b, z_sb_z, z_al_i, z_al_b, z_pu_s, z_pu_n, nI_toN, z_inN, true_and, and_true, nI_add, pk_mul, vu_eq, vu_ne, nI_leI, nI_ltI, nI_eqI, nI_eq0, nI_le0, ↓ok_0, ↓ok_1, if_true, if_false, nI_lt0, nI_ge0, ne_eq, not_true_eq_false, not_false_eq_true, nI_m1, kW, n1, n12]
        exact hQ A P dy nx hK' ⟨Nat.le_refl _, rfl⟩ Fz.refl
  · rw [if_neg (fun q => hw q.1)] at hQ
    have kNw : ∀ {d nx : Nat} {Q : z_Q}, XC (d + 3) m_X7_wordAt [.ref 3, .int w] (GH A P dy) nx Q = Q (some .null) (GH A P dy) nx := kN hw
    simp (disch := omega) only [i_X7_saying_0, i_X7_saying_0n, i_X7_saying_1, i_X7_saying_2, i_X7_saying_5, i_X7_saying_5n, i_X7_saying_7, i_X7_saying_7n, i_X7_saying_9, i_X7_saying_9n, i_X7_saying_33, i_X7_saying_35, gh_o3, gf_3_0, wdF_1, lsF_2, z_o_i, z_ai_i, z_si_i, z_ab_b, z_ab_z, z_sb_b, z_sb_z, z_al_i, z_al_b, z_pu_s, z_pu_n, nI_toN, z_inN, true_and, and_true, nI_add, pk_mul, vu_eq, vu_ne, nI_leI, nI_ltI, nI_eqI, nI_eq0, nI_le0, ↓ok_0, ↓ok_1, if_true, if_false, nI_lt0, nI_ge0, ne_eq, not_true_eq_false, not_false_eq_true, nI_m1, kNw]
    exact hQ A P dy nx hK' ⟨Nat.le_refl _, rfl⟩ Fz.refl
end CSa2
