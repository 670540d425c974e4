/-! THE CLASS: what stays when cells change; writing, spell, copy -/
theorem by_id {v : Int32} (h : -128 ≤ v.toInt ∧ v.toInt ≤ 127) : v.toInt8.toInt32 = v := by
  apply Int32.toInt_inj.mp
  rw [Int8.toInt_toInt32, Int32.toInt_toInt8]
  exact Int.bmod_eq_of_le (by omega) (by omega)
theorem by_fit {v : Int32} (h : -128 ≤ v.toInt ∧ v.toInt ≤ 127) : fits .byte (.int v) = true := by
  have := pk_fb v
  rw [by_id h] at this
  exact this
section Mv
variable {s t : z_S} {dy dz : z_H} {nx ny : Nat} {ρ σ : Nat → Nat}
theorem Sg.of {p n : Nat} {f g : Nat → Nat} (h : Sg dy nx ρ p n f g) (hn : nx ≤ ny) (hρ : ∀ x, x < nx → σ x = ρ x) (hd : ∀ x, 63 ≤ x → x < nx → ρ x = 0 → dz x = dy x) : Sg dz ny σ p n f g := by
  obtain ⟨so, vo, st, F, ⟨b1, c1, b2, c2, b3, c3, b4, c4⟩, ⟨r1, r2, r3, r4⟩, h1, h2, h3, h4, h5⟩ := h
  exact ⟨so, vo, st, F, ⟨b1, by omega, b2, by omega, b3, by omega, b4, by omega⟩, ⟨by rw [hρ p c1]; exact r1, by rw [hρ so c2]; exact r2, by rw [hρ vo c3]; exact r3, by rw [hρ st c4]; exact r4⟩, by rw [hd p b1 c1 r1]; exact h1, by rw [hd so b2 c2 r2]; exact h2, h3, by rw [hd vo b3 c3 r3]; exact h4, by rw [hd st b4 c4 r4]; exact h5⟩
theorem cv_c {f h : Nat → Nat} : ∀ n, (∀ i, i < n → f i = h i) → cv f n = cv h n := by
  intro n
  induction n with
  | zero => intro _; rfl
  | succ n ih => intro e; simp only [cv, ih (fun i hi => e i (by omega)), e n (by omega)]
theorem lvw_c {f h : Nat → Nat} : ∀ n, (∀ i, i < n → f i = h i) → lvw f n = lvw h n := by
  intro n
  induction n with
  | zero => intro _; rfl
  | succ n ih => intro e; simp only [lvw, ih (fun i hi => e i (by omega)), e n (by omega)]
theorem bt_c {f h g k : Nat → Nat} : ∀ n, (∀ i, i < n → f i = h i) → (∀ i, i < n → g i = k i) → bt f g n = bt h k n := by
  intro n
  induction n with
  | zero => intro _ _; rfl
  | succ n ih =>
    intro e1 e2
    have q := ih (fun i hi => e1 i (by omega)) (fun i hi => e2 i (by omega))
    simp only [bt, q, e1 n (by omega), e2 n (by omega)]
    cases e : bt h k n with
    | none => rfl
    | some c =>
      have := bt_lt e
      simp only [e2 c (by omega)]
theorem vr_c {f h g k : Nat → Nat} : ∀ n, (∀ i, i < n → f i = h i) → (∀ i, i < n → g i = k i) → vr f g n = vr h k n := by
  intro n
  induction n with
  | zero => intro _ _; rfl
  | succ n ih =>
    intro e1 e2
    simp only [vr, ih (fun i hi => e1 i (by omega)) (fun i hi => e2 i (by omega)), e1 n (by omega), e2 n (by omega), cv_c n (fun i hi => e1 i (by omega))]
theorem Sg.cg {p n : Nat} {f g h k : Nat → Nat} (hS : Sg dy nx ρ p n f g) (n0 : 0 < n) (e1 : ∀ i, i < n → f i = h i) (e2 : ∀ i, i < n → g i = k i) : Sg dy nx ρ p n h k := by
  obtain ⟨so, vo, st, F, b, r, h1, h2, h3, h4, h5⟩ := hS
  have q1 := cv_c n e1
  have q2 := lvw_c n e1
  have q3 : tlR f g n = tlR h k n := by unfold tlR; rw [bt_c n e1 e2]
  have lt : tlR h k n < n := by
    unfold tlR
    cases e : bt h k n with
    | none => exact n0
    | some c => exact bt_lt e
  have q4 : g (tlR h k n) = k (tlR h k n) := e2 _ lt
  have q5 : cv f (tlR h k n) = cv h (tlR h k n) := cv_c _ (fun i hi => e1 i (by omega))
  rw [q1, q2, q3, q4, q5] at h1
  exact ⟨so, vo, st, F, b, r, h1, h2, fun i hi => by rw [h3 i hi, e1 i hi], by rw [h4, vr_c n e1 e1], by rw [h5, vr_c n e1 e2]⟩
theorem Dw.of {w p : Nat} (h : Dw s dy nx ρ w p) (hn : nx ≤ ny) (hρ : ∀ x, x < nx → σ x = ρ x) (h1 : dz 1 = dy 1) (hd : ∀ x, 63 ≤ x → x < nx → (ρ x = 0 ∨ (8 * w + 4 ≤ ρ x ∧ ρ x ≤ 8 * w + 7)) → dz x = dy x) (e33 : t.1 33 w = s.1 33 w) (e34 : t.1 34 w = s.1 34 w) (e38 : t.1 38 w = s.1 38 w) (eL : ∀ i, i < 8 → t.2 (8 * w + i) = s.2 (8 * w + i)) (eS : ∀ k, k < s.1 34 w → t.1 35 (3 * w + k) = s.1 35 (3 * w + k) ∧ 0 < s.1 35 (3 * w + k) ∧ (∀ i, i < s.1 35 (3 * w + k) → rs s.1 (3 * w + k) i = rs t.1 (3 * w + k) i) ∧ ∀ i, i < s.1 35 (3 * w + k) → ss s.1 (3 * w + k) i = ss t.1 (3 * w + k) i) : Dw t dz ny σ w p := by
  obtain ⟨l, b, e, c, m, g, K, ⟨p1, p2, l1, l2, b1, b2⟩, ⟨r1, r2, r3⟩, he, ⟨q1, q2, q3, q4⟩, ⟨k1, k2⟩, c1, h8⟩ := h
  refine ⟨l, b, e, c, m, g, K, ⟨p1, by omega, l1, by omega, b1, by omega⟩, ⟨by rw [hρ p p2]; exact r1, by rw [hρ l l2]; exact r2, by rw [hρ b b2]; exact r3⟩, ?_, ⟨?_, ?_, ?_, ?_⟩, ⟨k1, ?_⟩, by rw [e34]; exact c1, ?_⟩
  · rcases he with z | ⟨e1, e2, e3, e4⟩
    · exact Or.inl z
    · exact Or.inr ⟨e1, by omega, by rw [hρ e e2]; exact e3, e4⟩
  · rw [hd p p1 p2 (by omega), e33, e38]; exact q1
  · rw [hd l l1 l2 (by omega), e34]; exact q2
  · rcases he with ⟨e1, _⟩ | ⟨e1, e2, e3, e4⟩
    · rw [e1, h1, ← e1]; exact q3
    · rw [hd e e1 e2 (by omega)]; exact q3
  · rw [hd b b1 b2 (by omega)]; exact q4
  · rw [e38]; intro z i hi; rw [eL i hi]; exact k2 z i hi
  · rw [e34]
    intro k hk
    obtain ⟨q, g1, g2⟩ := h8 k hk
    obtain ⟨f1, f0, f2, f3⟩ := eS k hk
    refine ⟨q, g1, ?_⟩
    rw [f1]
    exact (g2.of hn hρ (fun x x1 x2 x3 => hd x x1 x2 (Or.inl x3))).cg f0 f2 f3
theorem Dl.of {l p : Nat} (h : Dl s dy nx ρ l p) (hn : nx ≤ ny) (hρ : ∀ x, x < nx → σ x = ρ x) (hd : ∀ x, 63 ≤ x → x < nx → ρ x = 0 → dz x = dy x) (e42 : t.1 42 l = s.1 42 l) (e43 : ∀ i, i < s.1 42 l → t.1 43 (8 * l + i) = s.1 43 (8 * l + i)) : Dl t dz ny σ l p := by
  obtain ⟨q, F, ⟨b1, c1, b2, c2⟩, ⟨r1, r2⟩, g1, g2, g3⟩ := h
  refine ⟨q, F, ⟨b1, by omega, b2, by omega⟩, ⟨by rw [hρ p c1]; exact r1, by rw [hρ q c2]; exact r2⟩, ?_, ?_, ?_⟩
  · rw [hd p b1 c1 r1, e42]; exact g1
  · rw [hd q b2 c2 r2, e42]; exact g2
  · rw [e42]; intro i hi; rw [e43 i hi]; exact g3 i hi
theorem La.of {e c n ro : Nat} {wd : Nat → Nat} (h : La dy nx ρ e c n wd ro) (hn : nx ≤ ny) (hρ : ∀ x, x < nx → σ x = ρ x) (h1 : dz 1 = dy 1) (hd : ∀ x, 63 ≤ x → x < nx → ρ x = ro → dz x = dy x) : La dz ny σ e c n wd ro := by
  obtain ⟨g, he, c1, q, hg⟩ := h
  refine ⟨g, ?_, c1, ?_, hg⟩
  · rcases he with z | ⟨e1, e2, e3, e4⟩
    · exact Or.inl z
    · exact Or.inr ⟨e1, by omega, by rw [hρ e e2]; exact e3, e4⟩
  · rcases he with ⟨e1, _⟩ | ⟨e1, e2, e3, e4⟩
    · rw [e1, h1, ← e1]; exact q
    · rw [hd e e1 e2 e3]; exact q
end Mv
/-- every saying has sounds -/
theorem Iv.n0 {s : z_S} (h : Iv s) {w k : Nat} (hw : w < s.1 32 1) (hk : k < s.1 34 w) : 0 < s.1 35 (3 * w + k) := by
  have := (h.tl (h.gd hw hk)).2.1
  omega
section CMut
variable {s : z_S} {A : Nat → Nat → Int32} {P : Nat → Nat → Nat} {dy : z_H} {d nx nz bc bs : Nat} {Q : z_Q} {wd ln : Nat → Nat}
/-- one word's letters and their number change -/
theorem Rd.wb {w : Nat} {K' L' : Nat → Int32} {len : Nat} {ρ : Nat → Nat} {l b e c c4 c5 : Nat} {m : Int32} {g : Nat → Option Nat} (hI : Iv s) (hw : w < s.1 32 1) (a0 : 63 ≤ nx ∧ dy 1 = .inr (.inr (0, fun _ => none))) (a1 : A 4 2 = nI (s.1 32 1) ∧ A 5 2 = nI (s.1 32 13)) (a2 : La dy nx ρ (P 4 1) c4 (s.1 32 1) wd 1) (a3 : La dy nx ρ (P 5 1) c5 (s.1 32 13) ln 2) (a4 : ∀ w, w < s.1 32 1 → Dw s dy nx ρ w (wd w)) (a5 : ∀ l, l < s.1 32 13 → Dl s dy nx ρ l (ln l))
    (hp : 63 ≤ wd w ∧ wd w < nx ∧ 63 ≤ l ∧ l < nx ∧ 63 ≤ b ∧ b < nx) (hr : ρ (wd w) = 8 * w + 4 ∧ ρ l = 8 * w + 5 ∧ ρ b = 8 * w + 6) (he : (e = 1 ∧ c = 0) ∨ (63 ≤ e ∧ e < nx ∧ ρ e = 8 * w + 7 ∧ c = 10)) (q2 : dy l = .inr (.inl (9, lsF m e (nI (s.1 34 w))))) (q3 : dy e = .inr (.inr (c, g))) (c1 : s.1 34 w ≤ c) (h8 : ∀ k, k < s.1 34 w → ∃ q, g k = some q ∧ Sg dy nx ρ q (s.1 35 (3 * w + k)) (rs s.1 (3 * w + k)) (ss s.1 (3 * w + k)))
    (hK : ∀ i, -128 ≤ (K' i).toInt ∧ (K' i).toInt ≤ 127) (hKL : ¬ len = 0 → ∀ i, i < 8 → K' i = L' (8 * w + i)) (hL : ∀ v i, v ≠ w → i < 8 → L' (8 * v + i) = s.2 (8 * v + i)) :
    Rd (va_up s.1 38 (va_up (s.1 38) w len), L') A P (va_up (va_up dy b (.inl (1, 8, K'))) (wd w) (.inr (.inl (6, wdF (nI (s.1 33 w)) l b (nI len - nI 1))))) nx wd ln := by
  have oth : ∀ x, 63 ≤ x → x < nx → ¬ ρ x = 8 * w + 4 → ¬ ρ x = 8 * w + 6 → va_up (va_up dy b (.inl (1, 8, K'))) (wd w) (.inr (.inl (6, wdF (nI (s.1 33 w)) l b (nI len - nI 1)))) x = dy x := fun x _ _ h1 h2 => by
    rw [vu_ne (fun z => h1 (by rw [z]; exact hr.1)), vu_ne (fun z => h2 (by rw [z]; exact hr.2.2))]
  have o1 : va_up (va_up dy b (.inl (1, 8, K'))) (wd w) (.inr (.inl (6, wdF (nI (s.1 33 w)) l b (nI len - nI 1)))) 1 = dy 1 := by
    rw [vu_ne (by omega), vu_ne (by omega)]
  refine ⟨ρ, c4, c5, ⟨a0.1, by rw [o1]; exact a0.2⟩, a1, a2.of (Nat.le_refl _) (fun _ _ => rfl) o1 (fun x x1 x2 x3 => oth x x1 x2 (by omega) (by omega)), a3.of (Nat.le_refl _) (fun _ _ => rfl) o1 (fun x x1 x2 x3 => oth x x1 x2 (by omega) (by omega)), fun v hv => ?_, fun v hv => (a5 v hv).of (Nat.le_refl _) (fun _ _ => rfl) (fun x x1 x2 x3 => oth x x1 x2 (by omega) (by omega)) rfl (fun _ _ => rfl)⟩
  by_cases ev : v = w
  · subst ev
    refine ⟨l, b, e, c, m, g, K', hp, hr, he, ⟨?_, ?_, ?_, ?_⟩, ⟨hK, ?_⟩, c1, fun k hk => ?_⟩
    · rw [vu_eq]
      show _ = Sum.inr (Sum.inl (6, wdF (nI (s.1 33 v)) l b (nI (va_up (s.1 38) v len v) - nI 1)))
      rw [vu_eq]
    · rw [oth l hp.2.2.1 hp.2.2.2.1 (by omega) (by omega)]; exact q2
    · rcases he with ⟨e1, _⟩ | ⟨e1, e2, e3, e4⟩
      · rw [e1, o1, ← e1]; exact q3
      · rw [oth e e1 e2 (by omega) (by omega)]; exact q3
    · rw [vu_ne (fun z => by have := congrArg ρ z; omega), vu_eq]
    · show ¬ va_up (s.1 38) v len v = 0 → _
      rw [vu_eq]
      exact hKL
    · obtain ⟨q, g1, g2⟩ := h8 k hk
      exact ⟨q, g1, g2.of (Nat.le_refl _) (fun _ _ => rfl) (fun x x1 x2 x3 => oth x x1 x2 (by omega) (by omega))⟩
  · exact (a4 v hv).of (Nat.le_refl _) (fun _ _ => rfl) o1 (fun x x1 x2 x3 => oth x x1 x2 (by omega) (by omega)) rfl rfl (vu_ne ev) (fun i hi => hL v i ev hi) (fun k hk => ⟨rfl, hI.n0 hv hk, fun _ _ => rfl, fun _ _ => rfl⟩)
theorem Rc.w {t : z_S} (h : Rc s A P) (e : ∀ k, k ≠ 33 → k ≠ 34 → k ≠ 35 → k ≠ 36 → k ≠ 37 → k ≠ 38 → k ≠ 42 → k ≠ 43 → k ≠ 32 → t.1 k = s.1 k) (e32 : t.1 32 10 = s.1 32 10 ∧ t.1 32 11 = s.1 32 11 ∧ t.1 32 16 = s.1 32 16 ∧ t.1 32 19 = s.1 32 19) : Rc t A P := by
  obtain ⟨⟨h1, h2, h3, h4⟩, ⟨g1, g2, g3, g4, g5⟩, hr⟩ := h
  refine ⟨⟨?_, ?_, ?_, ?_⟩, ⟨?_, ?_, ?_, ?_, ?_⟩, hr⟩
  · rw [e 40 (by omega) (by omega) (by omega) (by omega) (by omega) (by omega) (by omega) (by omega) (by omega)]; exact h1
  · rw [e32.1]; exact h2
  · rw [e32.2.1]; exact h3
  · rw [e 41 (by omega) (by omega) (by omega) (by omega) (by omega) (by omega) (by omega) (by omega) (by omega)]; exact h4
  · rw [e32.2.2.1]; exact g1
  · rw [e32.2.2.2]; exact g2
  · rw [e 44 (by omega) (by omega) (by omega) (by omega) (by omega) (by omega) (by omega) (by omega) (by omega)]; exact g3
  · rw [e 45 (by omega) (by omega) (by omega) (by omega) (by omega) (by omega) (by omega) (by omega) (by omega)]; exact g4
  · rw [e 46 (by omega) (by omega) (by omega) (by omega) (by omega) (by omega) (by omega) (by omega) (by omega)]; exact g5
theorem x_writing {w n : Int32} (hI : Iv s) (hK : Cl s A P dy nx) (hQ : ∀ B R dz nz, Cl (s_writing s w n).2 B R dz nz → nx ≤ nz ∧ dz 0 = dy 0 → Fz A B → Q (some (.int (s_writing s w n).1)) (GH B R dz) nz) : XC (d + 4) m_X7_writing [.ref 3, .int w, .int n] (GH A P dy) nx Q := by
  show X (d + 4) m_X7_writing 0 [some (.ref 3), some (.int w), some (.int n), none] [] (GH A P dy) nx 0 0 Q
  have hK' := hK
  obtain ⟨hC, wd, ln, hD⟩ := hK
  have sc := hI.sc
  have kW : ∀ {d nx : Nat} {Q : z_Q} {w : Nat}, w < s.1 32 1 → XC (d + 3) m_X7_wordAt [.ref 3, .int (nI w)] (GH A P dy) nx Q = Q (some (.ref (wd w))) (GH A P dy) nx := fun h => k_wordAt hD h
  have kN : ∀ {d nx : Nat} {Q : z_Q} {x : Int32}, ¬ iw x (s.1 32 1) = true → XC (d + 3) m_X7_wordAt [.ref 3, .int x] (GH A P dy) nx Q = Q (some .null) (GH A P dy) nx := fun h => k_wordAtN hD sc.1 h
  unfold s_writing at hQ
  by_cases hw : iw w (s.1 32 1) = true
  · obtain ⟨u, hu, rfl⟩ := iw_ex hw
    by_cases n8 : n ≤ nI 8
    · rw [if_pos ⟨hw, n8⟩] at hQ
      by_cases n0 : n < 0
      · rw [if_pos n0] at hQ
        have n0' : ¬ 0 ≤ n := Int32.not_le.mpr n0
        simp (disch := omega) only [i_X7_writing_0, i_X7_writing_0n, i_X7_writing_1, i_X7_writing_2, i_X7_writing_5, i_X7_writing_5n, i_X7_writing_6, i_X7_writing_6n, i_X7_writing_7, i_X7_writing_7n, i_X7_writing_10, i_X7_writing_11, i_X7_writing_13, i_X7_writing_19, i_X7_writing_20, i_X7_writing_23, i_X7_writing_25, gh_o3, gf_3_0, wdF_0, wdF_1, wdF_2, wdF_3, wdU_3, z_o_i, z_ai_i, z_si_i, z_ab_b, z_ab_z, z_sb_b, z_sb_z, z_al_i, z_al_b, z_pu_s, z_pu_n, nI_toN, z_inN, true_and, and_true, nI_add, pk_mul, vu_eq, vu_ne, nI_leI, nI_ltI, nI_eqI, nI_eq0, nI_le0, ↓ok_0, ↓ok_1, if_true, if_false, nI_lt0, nI_ge0, ne_eq, not_true_eq_false, not_false_eq_true, nI_m1, kW, n8, n0']
        exact hQ A P dy nx hK' ⟨Nat.le_refl _, rfl⟩ Fz.refl
      · rw [if_neg n0] at hQ
        have hn : iw n 9 = true := by
          rw [iw_ge (by omega)]
          refine ⟨n0, fun q => ?_⟩
          have := Int32.le_trans q n8
          exact absurd this (by decide)
        obtain ⟨v, hv, rfl⟩ := iw_ex hn
        rw [nI_toN (by omega), nI_toN (by omega)] at hQ
        have v8 : v ≤ 8 := by omega
        obtain ⟨ρ, c4, c5, a0, a1, a2, a3, a4, a5⟩ := hD
        obtain ⟨l, b, e, c, m, g, K, hp, hr, he, ⟨q1, q2, q3, q4⟩, ⟨k1, k2⟩, c1, h8⟩ := a4 u hu
        have w1 : ∀ {A : Nat → Nat → Int32} {P : Nat → Nat → Nat}, GH A P dy (wd u) = .inr (.inl (6, wdF (nI (s.1 33 u)) l b (nI (s.1 38 u) - nI 1))) := fun {A P} => by rw [gh_dy hp.1]; exact q1
        have wb : GH A P dy b = .inl (1, 8, K) := by rw [gh_dy hp.2.2.2.2.1]; exact q4
        simp (disch := omega) only [i_X7_writing_0, i_X7_writing_0n, i_X7_writing_1, i_X7_writing_2, i_X7_writing_5, i_X7_writing_5n, i_X7_writing_6, i_X7_writing_6n, i_X7_writing_7, i_X7_writing_7n, i_X7_writing_10, i_X7_writing_11, i_X7_writing_13, i_X7_writing_19, i_X7_writing_20, i_X7_writing_26, i_X7_writing_26n, i_X7_writing_27, i_X7_writing_30, i_X7_writing_31, gh_o3, gf_3_0, wdF_0, wdF_1, wdF_2, wdF_3, wdU_3, z_o_i, z_ai_i, z_si_i, z_ab_b, z_ab_z, z_sb_b, z_sb_z, z_al_i, z_al_b, z_pu_s, z_pu_n, nI_toN, z_inN, true_and, and_true, nI_add, pk_mul, vu_eq, vu_ne, nI_leI, nI_ltI, nI_eqI, nI_eq0, nI_le0, ↓ok_0, ↓ok_1, if_true, if_false, nI_lt0, nI_ge0, ne_eq, not_true_eq_false, not_false_eq_true, nI_m1, kW, v8, w1]
        refine c_fillB wb (by omega) ?_
        rw [gh_dyup hp.2.2.2.2.1]
        have ne : wd u ≠ b := fun z => by have := congrArg ρ z; omega
        have w1' : ∀ {X : z_C}, GH A P (va_up dy b X) (wd u) = .inr (.inl (6, wdF (nI (s.1 33 u)) l b (nI (s.1 38 u) - nI 1))) := fun {X} => by rw [gh_dy hp.1, vu_ne ne]; exact q1
        simp (disch := omega) only [i_X7_writing_34, i_X7_writing_34n, i_X7_writing_35, i_X7_writing_36, i_X7_writing_39, i_X7_writing_40, gh_o3, gf_3_0, wdF_0, wdF_1, wdF_2, wdF_3, wdU_3, z_o_i, z_ai_i, z_si_i, z_ab_b, z_ab_z, z_sb_b, z_sb_z, z_al_i, z_al_b, z_pu_s, z_pu_n, nI_toN, z_inN, true_and, and_true, nI_add, pk_mul, vu_eq, vu_ne, nI_leI, nI_ltI, nI_eqI, nI_eq0, nI_le0, ↓ok_0, ↓ok_1, if_true, if_false, nI_lt0, nI_ge0, ne_eq, not_true_eq_false, not_false_eq_true, nI_m1, w1']
        rw [gh_dyup hp.1]
        have ev : (nI v : Int32) = nI (v + 1) - nI 1 := by rw [pk_sub (by omega)]; rfl
        have rd := Rd.wb (A := A) (P := P) (K' := pt K (fun _ => nI 0) 0 8) (L' := pt s.2 (fun _ => nI 0) (8 * u) 8) (len := v + 1) hI hu a0 a1 a2 a3 a4 a5 hp hr he q2 q3 c1 h8 (fun i => by
          unfold pt
          by_cases z : 0 ≤ i ∧ i < 0 + 8
          · rw [if_pos z]; exact (by decide : -128 ≤ (nI 0 : Int32).toInt ∧ (nI 0 : Int32).toInt ≤ 127)
          · rw [if_neg z]; exact k1 i) (fun _ i hi => by rw [pt_in (by omega) (by omega), pt_in (by omega) (by omega)]) (fun x i hx hi => pt_out (by omega))
        rw [← ev] at rd
        refine hQ A P _ nx ⟨hC.w (fun k _ _ _ _ _ h38 _ _ _ => vu_ne h38) ⟨rfl, rfl, rfl, rfl⟩, wd, ln, rd⟩ ⟨Nat.le_refl _, by rw [vu_ne (by omega), vu_ne (by omega)]⟩ Fz.refl
    · rw [if_neg (fun q => n8 q.2)] at hQ
      simp (disch := omega) only [i_X7_writing_0, i_X7_writing_0n, i_X7_writing_1, i_X7_writing_2, i_X7_writing_5, i_X7_writing_5n, i_X7_writing_6, i_X7_writing_6n, i_X7_writing_7, i_X7_writing_7n, i_X7_writing_10, i_X7_writing_11, i_X7_writing_13, i_X7_writing_16, i_X7_writing_18, gh_o3, gf_3_0, wdF_0, wdF_1, wdF_2, wdF_3, wdU_3, z_o_i, z_ai_i, z_si_i, z_ab_b, z_ab_z, z_sb_b, z_sb_z, z_al_i, z_al_b, z_pu_s, z_pu_n, nI_toN, z_inN, true_and, and_true, nI_add, pk_mul, vu_eq, vu_ne, nI_leI, nI_ltI, nI_eqI, nI_eq0, nI_le0, ↓ok_0, ↓ok_1, if_true, if_false, nI_lt0, nI_ge0, ne_eq, not_true_eq_false, not_false_eq_true, nI_m1, kW, n8]
      exact hQ A P dy nx hK' ⟨Nat.le_refl _, rfl⟩ Fz.refl
  · rw [if_neg (fun q => hw q.1)] at hQ
    have kNw : ∀ {d nx : Nat} {Q : z_Q}, XC (d + 3) m_X7_wordAt [.ref 3, .int w] (GH A P dy) nx Q = Q (some .null) (GH A P dy) nx := kN hw
    simp (disch := omega) only [i_X7_writing_0, i_X7_writing_0n, i_X7_writing_1, i_X7_writing_2, i_X7_writing_5, i_X7_writing_5n, i_X7_writing_6, i_X7_writing_6n, i_X7_writing_7, i_X7_writing_7n, i_X7_writing_16, i_X7_writing_18, gh_o3, gf_3_0, wdF_0, wdF_1, wdF_2, wdF_3, wdU_3, z_o_i, z_ai_i, z_si_i, z_ab_b, z_ab_z, z_sb_b, z_sb_z, z_al_i, z_al_b, z_pu_s, z_pu_n, nI_toN, z_inN, true_and, and_true, nI_add, pk_mul, vu_eq, vu_ne, nI_leI, nI_ltI, nI_eqI, nI_eq0, nI_le0, ↓ok_0, ↓ok_1, if_true, if_false, nI_lt0, nI_ge0, ne_eq, not_true_eq_false, not_false_eq_true, nI_m1, kNw]
    exact hQ A P dy nx hK' ⟨Nat.le_refl _, rfl⟩ Fz.refl
theorem Rd.wb1 {w : Nat} {K' L' : Nat → Int32} {ρ : Nat → Nat} {l b e c c4 c5 : Nat} {m : Int32} {g : Nat → Option Nat} (hI : Iv s) (hw : w < s.1 32 1) (a0 : 63 ≤ nx ∧ dy 1 = .inr (.inr (0, fun _ => none))) (a1 : A 4 2 = nI (s.1 32 1) ∧ A 5 2 = nI (s.1 32 13)) (a2 : La dy nx ρ (P 4 1) c4 (s.1 32 1) wd 1) (a3 : La dy nx ρ (P 5 1) c5 (s.1 32 13) ln 2) (a4 : ∀ w, w < s.1 32 1 → Dw s dy nx ρ w (wd w)) (a5 : ∀ l, l < s.1 32 13 → Dl s dy nx ρ l (ln l))
    (hp : 63 ≤ wd w ∧ wd w < nx ∧ 63 ≤ l ∧ l < nx ∧ 63 ≤ b ∧ b < nx) (hr : ρ (wd w) = 8 * w + 4 ∧ ρ l = 8 * w + 5 ∧ ρ b = 8 * w + 6) (he : (e = 1 ∧ c = 0) ∨ (63 ≤ e ∧ e < nx ∧ ρ e = 8 * w + 7 ∧ c = 10)) (q1 : dy (wd w) = .inr (.inl (6, wdF (nI (s.1 33 w)) l b (nI (s.1 38 w) - nI 1)))) (q2 : dy l = .inr (.inl (9, lsF m e (nI (s.1 34 w))))) (q3 : dy e = .inr (.inr (c, g))) (c1 : s.1 34 w ≤ c) (h8 : ∀ k, k < s.1 34 w → ∃ q, g k = some q ∧ Sg dy nx ρ q (s.1 35 (3 * w + k)) (rs s.1 (3 * w + k)) (ss s.1 (3 * w + k)))
    (hK : ∀ i, -128 ≤ (K' i).toInt ∧ (K' i).toInt ≤ 127) (hKL : ¬ s.1 38 w = 0 → ∀ i, i < 8 → K' i = L' (8 * w + i)) (hL : ∀ v i, v ≠ w → i < 8 → L' (8 * v + i) = s.2 (8 * v + i)) :
    Rd (s.1, L') A P (va_up dy b (.inl (1, 8, K'))) nx wd ln := by
  have h := Rd.wb (A := A) (P := P) (K' := K') (L' := L') (len := s.1 38 w) hI hw a0 a1 a2 a3 a4 a5 hp hr he q2 q3 c1 h8 hK hKL hL
  have e1 : va_up s.1 38 (va_up (s.1 38) w (s.1 38 w)) = s.1 := by rw [vu_self rfl, vu_self rfl]
  have ne : wd w ≠ b := fun z => by have := congrArg ρ z; omega
  rw [e1, vu_self (by rw [vu_ne ne]; exact q1.symm)] at h
  exact h
theorem x_spell {w p v : Int32} (hI : Iv s) (hK : Cl s A P dy nx) (hQ : ∀ B R dz nz, Cl (s_spell s w p v).2 B R dz nz → nx ≤ nz ∧ dz 0 = dy 0 → Fz A B → Q (some (.int (s_spell s w p v).1)) (GH B R dz) nz) : XC (d + 4) m_X7_spell [.ref 3, .int w, .int p, .int v] (GH A P dy) nx Q := by
  show X (d + 4) m_X7_spell 0 [some (.ref 3), some (.int w), some (.int p), some (.int v), none, none] [] (GH A P dy) nx 0 0 Q
  have hK' := hK
  obtain ⟨hC, wd, ln, hD⟩ := hK
  have sc := hI.sc
  have kW : ∀ {d nx : Nat} {Q : z_Q} {w : Nat}, w < s.1 32 1 → XC (d + 3) m_X7_wordAt [.ref 3, .int (nI w)] (GH A P dy) nx Q = Q (some (.ref (wd w))) (GH A P dy) nx := fun h => k_wordAt hD h
  have kN : ∀ {d nx : Nat} {Q : z_Q} {x : Int32}, ¬ iw x (s.1 32 1) = true → XC (d + 3) m_X7_wordAt [.ref 3, .int x] (GH A P dy) nx Q = Q (some .null) (GH A P dy) nx := fun h => k_wordAtN hD sc.1 h
  have me : ((-1 : Int32) = -1) = True := by simp
  unfold s_spell at hQ
  by_cases hw : iw w (s.1 32 1) = true
  · rw [if_pos hw] at hQ
    obtain ⟨u, hu, rfl⟩ := iw_ex hw
    rw [nI_toN (by omega)] at hQ
    obtain ⟨ρ, c4, c5, a0, a1, a2, a3, a4, a5⟩ := hD
    obtain ⟨l, b, e, c, m, g, K, hp, hr, he, ⟨q1, q2, q3, q4⟩, ⟨k1, k2⟩, c1, h8⟩ := a4 u hu
    have w1 : GH A P dy (wd u) = .inr (.inl (6, wdF (nI (s.1 33 u)) l b (nI (s.1 38 u) - nI 1))) := by rw [gh_dy hp.1]; exact q1
    have wb : GH A P dy b = .inl (1, 8, K) := by rw [gh_dy hp.2.2.2.2.1]; exact q4
    have b38 := hI.b38 u
    by_cases z : s.1 38 u = 0
    · rw [if_pos z] at hQ
      have w1' : GH A P dy (wd u) = .inr (.inl (6, wdF (nI (s.1 33 u)) l b (-1))) := by rw [w1, z]; rfl
      simp (disch := omega) only [i_X7_spell_0, i_X7_spell_0n, i_X7_spell_1, i_X7_spell_2, i_X7_spell_5, i_X7_spell_5n, i_X7_spell_7, i_X7_spell_7n, i_X7_spell_9, i_X7_spell_9n, i_X7_spell_15, i_X7_spell_15n, i_X7_spell_17, i_X7_spell_20, i_X7_spell_21, i_X7_spell_24, i_X7_spell_26, gh_o3, gf_3_0, wdF_0, wdF_1, wdF_2, wdF_3, wdU_3, z_o_i, z_ai_i, z_si_i, z_ab_b, z_ab_z, z_sb_b, z_sb_z, z_al_i, z_al_b, z_pu_s, z_pu_n, nI_toN, z_inN, true_and, and_true, nI_add, pk_mul, vu_eq, vu_ne, nI_leI, nI_ltI, nI_eqI, nI_eq0, nI_le0, ↓ok_0, ↓ok_1, if_true, if_false, nI_lt0, nI_ge0, ne_eq, not_true_eq_false, not_false_eq_true, nI_m1, kW, w1', me]
      exact hQ A P dy nx hK' ⟨Nat.le_refl _, rfl⟩ Fz.refl
    · rw [if_neg z] at hQ
      have w1' : GH A P dy (wd u) = .inr (.inl (6, wdF (nI (s.1 33 u)) l b (nI (s.1 38 u - 1)))) := by rw [w1, pk_sub (by omega)]
      by_cases hpp : iw p (s.1 38 u - 1) = true
      · rw [if_pos hpp] at hQ
        obtain ⟨q, hq, rfl⟩ := iw_ex hpp
        rw [nI_toN (by omega)] at hQ
        by_cases hv : ib v = true
        · rw [if_pos hv] at hQ
          have hv' := hv
          simp only [ib, decide_eq_true_eq] at hv'
          have v1 : ¬ v < -128 := by
            rw [Int32.lt_iff_toInt_lt, show (-128 : Int32).toInt = -128 by decide]; omega
          have v2 : v ≤ nI 127 := by
            rw [Int32.le_iff_toInt_le, nI_toInt (by omega)]; omega
          have nb : v.toInt8.toInt32 = v := by_id hv'
          have nn : vp_nar .byte v = v := by_id hv'
          simp (disch := omega) only [i_X7_spell_0, i_X7_spell_0n, i_X7_spell_1, i_X7_spell_2, i_X7_spell_5, i_X7_spell_5n, i_X7_spell_7, i_X7_spell_7n, i_X7_spell_9, i_X7_spell_9n, i_X7_spell_15, i_X7_spell_15n, i_X7_spell_17, i_X7_spell_20, i_X7_spell_21, i_X7_spell_27, i_X7_spell_28, i_X7_spell_31, i_X7_spell_32, i_X7_spell_32n, i_X7_spell_34, i_X7_spell_37, i_X7_spell_43, i_X7_spell_44, i_X7_spell_46, i_X7_spell_49, i_X7_spell_50, i_X7_spell_52, i_X7_spell_58, i_X7_spell_58n, i_X7_spell_60, i_X7_spell_63, i_X7_spell_64, i_X7_spell_65, i_X7_spell_67, i_X7_spell_67n, i_X7_spell_69, i_X7_spell_72, i_X7_spell_73, i_X7_spell_74, i_X7_spell_75, i_X7_spell_76, i_X7_spell_79, i_X7_spell_81, i_X7_spell_82, gh_o3, gf_3_0, wdF_0, wdF_1, wdF_2, wdF_3, wdU_3, z_o_i, z_ai_i, z_si_i, z_ab_b, z_ab_z, z_sb_b, z_sb_z, z_al_i, z_al_b, z_pu_s, z_pu_n, nI_toN, z_inN, true_and, and_true, nI_add, pk_mul, vu_eq, vu_ne, nI_leI, nI_ltI, nI_eqI, nI_eq0, nI_le0, ↓ok_0, ↓ok_1, if_true, if_false, nI_lt0, nI_ge0, ne_eq, not_true_eq_false, not_false_eq_true, nI_m1, kW, w1', wb, hq, v1, v2, nb, nn]
          rw [gh_dyup hp.2.2.2.2.1, k2 z q (by omega), Int32.add_comm]
          refine hQ A P _ nx ⟨hC.w (fun k _ _ _ _ _ _ _ _ _ => rfl) ⟨rfl, rfl, rfl, rfl⟩, wd, ln, Rd.wb1 hI hu a0 a1 a2 a3 a4 a5 hp hr he q1 q2 q3 c1 h8 (fun i => ?_) (fun _ i hi => ?_) (fun x i hx hi => vu_ne (by omega))⟩ ⟨Nat.le_refl _, vu_ne (by omega)⟩ Fz.refl
          · rw [vu_if]
            by_cases e : i = q
            · rw [if_pos e]; exact hv'
            · rw [if_neg e]; exact k1 i
          · rw [vu_if, vu_if]
            by_cases e : i = q
            · rw [if_pos e, if_pos (by omega)]
            · rw [if_neg e, if_neg (by omega)]; exact k2 z i hi
        · rw [if_neg hv] at hQ
          simp only [ib, decide_eq_true_eq] at hv
          by_cases v1 : v < -128
          · simp (disch := omega) only [i_X7_spell_0, i_X7_spell_0n, i_X7_spell_1, i_X7_spell_2, i_X7_spell_5, i_X7_spell_5n, i_X7_spell_7, i_X7_spell_7n, i_X7_spell_9, i_X7_spell_9n, i_X7_spell_15, i_X7_spell_15n, i_X7_spell_17, i_X7_spell_20, i_X7_spell_21, i_X7_spell_27, i_X7_spell_28, i_X7_spell_31, i_X7_spell_32, i_X7_spell_32n, i_X7_spell_34, i_X7_spell_37, i_X7_spell_43, i_X7_spell_44, i_X7_spell_46, i_X7_spell_55, i_X7_spell_57, gh_o3, gf_3_0, wdF_0, wdF_1, wdF_2, wdF_3, wdU_3, z_o_i, z_ai_i, z_si_i, z_ab_b, z_ab_z, z_sb_b, z_sb_z, z_al_i, z_al_b, z_pu_s, z_pu_n, nI_toN, z_inN, true_and, and_true, nI_add, pk_mul, vu_eq, vu_ne, nI_leI, nI_ltI, nI_eqI, nI_eq0, nI_le0, ↓ok_0, ↓ok_1, if_true, if_false, nI_lt0, nI_ge0, ne_eq, not_true_eq_false, not_false_eq_true, nI_m1, kW, w1', hq, v1]
            exact hQ A P dy nx hK' ⟨Nat.le_refl _, rfl⟩ Fz.refl
          · have v2 : ¬ v ≤ nI 127 := by
              rw [Int32.lt_iff_toInt_lt, show (-128 : Int32).toInt = -128 by decide] at v1
              rw [Int32.le_iff_toInt_le, nI_toInt (by omega)]; omega
            simp (disch := omega) only [i_X7_spell_0, i_X7_spell_0n, i_X7_spell_1, i_X7_spell_2, i_X7_spell_5, i_X7_spell_5n, i_X7_spell_7, i_X7_spell_7n, i_X7_spell_9, i_X7_spell_9n, i_X7_spell_15, i_X7_spell_15n, i_X7_spell_17, i_X7_spell_20, i_X7_spell_21, i_X7_spell_27, i_X7_spell_28, i_X7_spell_31, i_X7_spell_32, i_X7_spell_32n, i_X7_spell_34, i_X7_spell_37, i_X7_spell_43, i_X7_spell_44, i_X7_spell_46, i_X7_spell_49, i_X7_spell_50, i_X7_spell_52, i_X7_spell_55, i_X7_spell_57, gh_o3, gf_3_0, wdF_0, wdF_1, wdF_2, wdF_3, wdU_3, z_o_i, z_ai_i, z_si_i, z_ab_b, z_ab_z, z_sb_b, z_sb_z, z_al_i, z_al_b, z_pu_s, z_pu_n, nI_toN, z_inN, true_and, and_true, nI_add, pk_mul, vu_eq, vu_ne, nI_leI, nI_ltI, nI_eqI, nI_eq0, nI_le0, ↓ok_0, ↓ok_1, if_true, if_false, nI_lt0, nI_ge0, ne_eq, not_true_eq_false, not_false_eq_true, nI_m1, kW, w1', hq, v1, v2]
            exact hQ A P dy nx hK' ⟨Nat.le_refl _, rfl⟩ Fz.refl
      · rw [if_neg hpp] at hQ
        by_cases p0 : p < 0
        · simp (disch := omega) only [i_X7_spell_0, i_X7_spell_0n, i_X7_spell_1, i_X7_spell_2, i_X7_spell_5, i_X7_spell_5n, i_X7_spell_7, i_X7_spell_7n, i_X7_spell_9, i_X7_spell_9n, i_X7_spell_15, i_X7_spell_15n, i_X7_spell_17, i_X7_spell_20, i_X7_spell_21, i_X7_spell_27, i_X7_spell_28, i_X7_spell_40, i_X7_spell_42, gh_o3, gf_3_0, wdF_0, wdF_1, wdF_2, wdF_3, wdU_3, z_o_i, z_ai_i, z_si_i, z_ab_b, z_ab_z, z_sb_b, z_sb_z, z_al_i, z_al_b, z_pu_s, z_pu_n, nI_toN, z_inN, true_and, and_true, nI_add, pk_mul, vu_eq, vu_ne, nI_leI, nI_ltI, nI_eqI, nI_eq0, nI_le0, ↓ok_0, ↓ok_1, if_true, if_false, nI_lt0, nI_ge0, ne_eq, not_true_eq_false, not_false_eq_true, nI_m1, kW, w1', p0]
          exact hQ A P dy nx hK' ⟨Nat.le_refl _, rfl⟩ Fz.refl
        · have p1 : ¬ p < nI (s.1 38 u - 1) := Int32.not_lt.mpr ((iw_lt (by simpa using hpp) (by omega)).resolve_left p0)
          simp (disch := omega) only [i_X7_spell_0, i_X7_spell_0n, i_X7_spell_1, i_X7_spell_2, i_X7_spell_5, i_X7_spell_5n, i_X7_spell_7, i_X7_spell_7n, i_X7_spell_9, i_X7_spell_9n, i_X7_spell_15, i_X7_spell_15n, i_X7_spell_17, i_X7_spell_20, i_X7_spell_21, i_X7_spell_27, i_X7_spell_28, i_X7_spell_31, i_X7_spell_32, i_X7_spell_32n, i_X7_spell_34, i_X7_spell_37, i_X7_spell_40, i_X7_spell_42, gh_o3, gf_3_0, wdF_0, wdF_1, wdF_2, wdF_3, wdU_3, z_o_i, z_ai_i, z_si_i, z_ab_b, z_ab_z, z_sb_b, z_sb_z, z_al_i, z_al_b, z_pu_s, z_pu_n, nI_toN, z_inN, true_and, and_true, nI_add, pk_mul, vu_eq, vu_ne, nI_leI, nI_ltI, nI_eqI, nI_eq0, nI_le0, ↓ok_0, ↓ok_1, if_true, if_false, nI_lt0, nI_ge0, ne_eq, not_true_eq_false, not_false_eq_true, nI_m1, kW, w1', p0, p1]
          exact hQ A P dy nx hK' ⟨Nat.le_refl _, rfl⟩ Fz.refl
  · rw [if_neg hw] at hQ
    have kNw : ∀ {d nx : Nat} {Q : z_Q}, XC (d + 3) m_X7_wordAt [.ref 3, .int w] (GH A P dy) nx Q = Q (some .null) (GH A P dy) nx := kN hw
    simp (disch := omega) only [i_X7_spell_0, i_X7_spell_0n, i_X7_spell_1, i_X7_spell_2, i_X7_spell_5, i_X7_spell_5n, i_X7_spell_7, i_X7_spell_7n, i_X7_spell_9, i_X7_spell_9n, i_X7_spell_12, i_X7_spell_14, gh_o3, gf_3_0, wdF_0, wdF_1, wdF_2, wdF_3, wdU_3, z_o_i, z_ai_i, z_si_i, z_ab_b, z_ab_z, z_sb_b, z_sb_z, z_al_i, z_al_b, z_pu_s, z_pu_n, nI_toN, z_inN, true_and, and_true, nI_add, pk_mul, vu_eq, vu_ne, nI_leI, nI_ltI, nI_eqI, nI_eq0, nI_le0, ↓ok_0, ↓ok_1, if_true, if_false, nI_lt0, nI_ge0, ne_eq, not_true_eq_false, not_false_eq_true, nI_m1, kNw]
    exact hQ A P dy nx hK' ⟨Nat.le_refl _, rfl⟩ Fz.refl
theorem x_copy {f t p m : Int32} (hI : Iv s) (hK : Cl s A P dy nx) (hQ : ∀ B R dz nz, Cl (s_copy s f t p m).2 B R dz nz → nx ≤ nz ∧ dz 0 = dy 0 → Fz A B → Q (some (.int (s_copy s f t p m).1)) (GH B R dz) nz) : XC (d + 4) m_X7_copy [.ref 3, .int f, .int t, .int p, .int m] (GH A P dy) nx Q := by
  show X (d + 4) m_X7_copy 0 [some (.ref 3), some (.int f), some (.int t), some (.int p), some (.int m), none, none] [] (GH A P dy) nx 0 0 Q
  have hK' := hK
  obtain ⟨hC, wd, ln, hD⟩ := hK
  have sc := hI.sc
  have kW : ∀ {d nx : Nat} {Q : z_Q} {w : Nat}, w < s.1 32 1 → XC (d + 3) m_X7_wordAt [.ref 3, .int (nI w)] (GH A P dy) nx Q = Q (some (.ref (wd w))) (GH A P dy) nx := fun h => k_wordAt hD h
  have kN : ∀ {d nx : Nat} {Q : z_Q} {x : Int32}, ¬ iw x (s.1 32 1) = true → XC (d + 3) m_X7_wordAt [.ref 3, .int x] (GH A P dy) nx Q = Q (some .null) (GH A P dy) nx := fun h => k_wordAtN hD sc.1 h
  have q := hQ A P dy nx
  have me : ((-1 : Int32) = -1) = True := by simp
  unfold s_copy at hQ q
  by_cases hf : iw f (s.1 32 1) = true
  · obtain ⟨u, hu, rfl⟩ := iw_ex hf
    by_cases ht : iw t (s.1 32 1) = true
    · rw [if_pos ⟨hf, ht⟩] at hQ q
      obtain ⟨v, hv, rfl⟩ := iw_ex ht
      rw [nI_toN (by omega), nI_toN (by omega)] at hQ q
      obtain ⟨ρ, c4, c5, a0, a1, a2, a3, a4, a5⟩ := hD
      obtain ⟨l', b', e', c', m', g', K', hp', hr', he', ⟨q1', q2', q3', q4'⟩, ⟨k1', k2'⟩, c1', h8'⟩ := a4 u hu
      obtain ⟨l, b, e, c, mm, g, K, hp, hr, he, ⟨q1, q2, q3, q4⟩, ⟨k1, k2⟩, c1, h8⟩ := a4 v hv
      have wu : GH A P dy (wd u) = .inr (.inl (6, wdF (nI (s.1 33 u)) l' b' (nI (s.1 38 u) - nI 1))) := by rw [gh_dy hp'.1]; exact q1'
      have wv : GH A P dy (wd v) = .inr (.inl (6, wdF (nI (s.1 33 v)) l b (nI (s.1 38 v) - nI 1))) := by rw [gh_dy hp.1]; exact q1
      have wbu : GH A P dy b' = .inl (1, 8, K') := by rw [gh_dy hp'.2.2.2.2.1]; exact q4'
      have wbv : GH A P dy b = .inl (1, 8, K) := by rw [gh_dy hp.2.2.2.2.1]; exact q4
      have b38 := hI.b38 u
      have c38 := hI.b38 v
      by_cases z : s.1 38 u = 0
      · rw [if_pos (Or.inl z)] at q
        have wu' : GH A P dy (wd u) = .inr (.inl (6, wdF (nI (s.1 33 u)) l' b' (-1))) := by rw [wu, z]; rfl
        simp (disch := omega) only [i_X7_copy_0, i_X7_copy_0n, i_X7_copy_1, i_X7_copy_2, i_X7_copy_5, i_X7_copy_5n, i_X7_copy_7, i_X7_copy_7n, i_X7_copy_8, i_X7_copy_9, i_X7_copy_12, i_X7_copy_12n, i_X7_copy_14, i_X7_copy_14n, i_X7_copy_16, i_X7_copy_16n, i_X7_copy_19, i_X7_copy_19n, i_X7_copy_21, i_X7_copy_21n, i_X7_copy_24, i_X7_copy_26, i_X7_copy_27, i_X7_copy_27n, i_X7_copy_29, i_X7_copy_32, i_X7_copy_33, i_X7_copy_45, i_X7_copy_47, gh_o3, gf_3_0, wdF_0, wdF_1, wdF_2, wdF_3, wdU_3, z_o_i, z_ai_i, z_si_i, z_ab_b, z_ab_z, z_sb_b, z_sb_z, z_al_i, z_al_b, z_pu_s, z_pu_n, nI_toN, z_inN, true_and, and_true, nI_add, pk_mul, vu_eq, vu_ne, nI_leI, nI_ltI, nI_eqI, nI_eq0, nI_le0, ↓ok_0, ↓ok_1, if_true, if_false, nI_lt0, nI_ge0, ne_eq, not_true_eq_false, not_false_eq_true, nI_m1, kW, wu', me]
        exact q hK' ⟨Nat.le_refl _, rfl⟩ Fz.refl
      have wu' : GH A P dy (wd u) = .inr (.inl (6, wdF (nI (s.1 33 u)) l' b' (nI (s.1 38 u - 1)))) := by rw [wu, pk_sub (by omega)]
      by_cases y : s.1 38 v = 0
      · rw [if_pos (Or.inr y)] at q
        have wv' : GH A P dy (wd v) = .inr (.inl (6, wdF (nI (s.1 33 v)) l b (-1))) := by rw [wv, y]; rfl
        simp (disch := omega) only [i_X7_copy_0, i_X7_copy_0n, i_X7_copy_1, i_X7_copy_2, i_X7_copy_5, i_X7_copy_5n, i_X7_copy_7, i_X7_copy_7n, i_X7_copy_8, i_X7_copy_9, i_X7_copy_12, i_X7_copy_12n, i_X7_copy_14, i_X7_copy_14n, i_X7_copy_16, i_X7_copy_16n, i_X7_copy_19, i_X7_copy_19n, i_X7_copy_21, i_X7_copy_21n, i_X7_copy_24, i_X7_copy_26, i_X7_copy_27, i_X7_copy_27n, i_X7_copy_29, i_X7_copy_32, i_X7_copy_33, i_X7_copy_36, i_X7_copy_36n, i_X7_copy_38, i_X7_copy_41, i_X7_copy_42, i_X7_copy_45, i_X7_copy_47, gh_o3, gf_3_0, wdF_0, wdF_1, wdF_2, wdF_3, wdU_3, z_o_i, z_ai_i, z_si_i, z_ab_b, z_ab_z, z_sb_b, z_sb_z, z_al_i, z_al_b, z_pu_s, z_pu_n, nI_toN, z_inN, true_and, and_true, nI_add, pk_mul, vu_eq, vu_ne, nI_leI, nI_ltI, nI_eqI, nI_eq0, nI_le0, ↓ok_0, ↓ok_1, if_true, if_false, nI_lt0, nI_ge0, ne_eq, not_true_eq_false, not_false_eq_true, nI_m1, kW, wu', wv', me]
        exact q hK' ⟨Nat.le_refl _, rfl⟩ Fz.refl
      have wv' : GH A P dy (wd v) = .inr (.inl (6, wdF (nI (s.1 33 v)) l b (nI (s.1 38 v - 1)))) := by rw [wv, pk_sub (by omega)]
      rw [if_neg (fun z' => z'.elim z y)] at hQ q
      by_cases hm : iw m (s.1 38 u) = true
      · obtain ⟨k, hk, rfl⟩ := iw_ex hm
        rw [nI_toN (by omega)] at hQ q
        have k1l : k ≤ s.1 38 u - 1 := by omega
        by_cases hpp : iw p (s.1 38 v - k) = true
        · rw [if_pos ⟨hm, hpp⟩] at hQ
          obtain ⟨r, hr2, rfl⟩ := iw_ex hpp
          rw [nI_toN (by omega)] at hQ
          have r1 : r ≤ s.1 38 v - 1 - k := by omega
          simp (disch := omega) only [i_X7_copy_0, i_X7_copy_0n, i_X7_copy_1, i_X7_copy_2, i_X7_copy_5, i_X7_copy_5n, i_X7_copy_7, i_X7_copy_7n, i_X7_copy_8, i_X7_copy_9, i_X7_copy_12, i_X7_copy_12n, i_X7_copy_14, i_X7_copy_14n, i_X7_copy_16, i_X7_copy_16n, i_X7_copy_19, i_X7_copy_19n, i_X7_copy_21, i_X7_copy_21n, i_X7_copy_24, i_X7_copy_26, i_X7_copy_27, i_X7_copy_27n, i_X7_copy_29, i_X7_copy_32, i_X7_copy_33, i_X7_copy_36, i_X7_copy_36n, i_X7_copy_38, i_X7_copy_41, i_X7_copy_42, i_X7_copy_48, i_X7_copy_50, i_X7_copy_53, i_X7_copy_55, i_X7_copy_55n, i_X7_copy_57, i_X7_copy_60, i_X7_copy_66, i_X7_copy_67, i_X7_copy_70, i_X7_copy_71, i_X7_copy_71n, i_X7_copy_73, i_X7_copy_76, i_X7_copy_78, i_X7_copy_79, i_X7_copy_85, i_X7_copy_85n, i_X7_copy_87, i_X7_copy_90, i_X7_copy_91, i_X7_copy_91n, i_X7_copy_93, i_X7_copy_96, i_X7_copy_97, gh_o3, gf_3_0, wdF_0, wdF_1, wdF_2, wdF_3, wdU_3, z_o_i, z_ai_i, z_si_i, z_ab_b, z_ab_z, z_sb_b, z_sb_z, z_al_i, z_al_b, z_pu_s, z_pu_n, nI_toN, z_inN, true_and, and_true, nI_add, pk_mul, vu_eq, vu_ne, nI_leI, nI_ltI, nI_eqI, nI_eq0, nI_le0, ↓ok_0, ↓ok_1, if_true, if_false, nI_lt0, nI_ge0, ne_eq, not_true_eq_false, not_false_eq_true, nI_m1, kW, wu', wv', k1l, pk_sub, r1]
          rw [X_copyi (M := m_X7_copy) (pc := 99) (cp := 96) (k := 1) (n0 := 8) (n1 := 8) (f := K') (g := K) (by decide +kernel) rfl rfl rfl (Nat.le_of_ble_eq_true rfl) wbu wbv (Or.inr ⟨rfl, fun i _ => by_fit (k1' _)⟩) (by rw [nI_lt0 (by omega)]; exact id) (by rw [nI_lt0 (by omega)]; exact id) (by decide) (by rw [nI_toN (by omega), nI_toN (by omega)]; omega) (by rw [nI_toN (by omega), nI_toN (by omega)]; omega), gh_dyup hp.2.2.2.2.1, nI_toN (by omega), nI_toN (by omega), nI_toN (by omega), i_X7_copy_102, i_X7_copy_104]
          refine hQ A P _ nx ⟨hC.w (fun k _ _ _ _ _ _ _ _ _ => rfl) ⟨rfl, rfl, rfl, rfl⟩, wd, ln, Rd.wb1 hI hv a0 a1 a2 a3 a4 a5 hp hr he q1 q2 q3 c1 h8 (fun i => ?_) (fun _ i hi => ?_) (fun x i hx hi => pt_out (by omega))⟩ ⟨Nat.le_refl _, vu_ne (by omega)⟩ Fz.refl
          · unfold va_cpy
            by_cases e : r ≤ i ∧ i < r + k
            · rw [if_pos e]; exact k1' _
            · rw [if_neg e]; exact k1 i
          · unfold va_cpy pt
            by_cases e : r ≤ i ∧ i < r + k
            · rw [if_pos e, if_pos (by omega), Nat.zero_add, k2' z (i - r) (by omega)]
              show s.2 (8 * u + (i - r)) = s.2 (8 * u + (8 * v + i - (8 * v + r)))
              rw [show 8 * v + i - (8 * v + r) = i - r by omega]
            · rw [if_neg e, if_neg (by omega)]; exact k2 y i hi
        · rw [if_neg (fun z' => hpp z'.2)] at q
          by_cases p0 : p < 0
          · simp (disch := omega) only [i_X7_copy_0, i_X7_copy_0n, i_X7_copy_1, i_X7_copy_2, i_X7_copy_5, i_X7_copy_5n, i_X7_copy_7, i_X7_copy_7n, i_X7_copy_8, i_X7_copy_9, i_X7_copy_12, i_X7_copy_12n, i_X7_copy_14, i_X7_copy_14n, i_X7_copy_16, i_X7_copy_16n, i_X7_copy_19, i_X7_copy_19n, i_X7_copy_21, i_X7_copy_21n, i_X7_copy_24, i_X7_copy_26, i_X7_copy_27, i_X7_copy_27n, i_X7_copy_29, i_X7_copy_32, i_X7_copy_33, i_X7_copy_36, i_X7_copy_36n, i_X7_copy_38, i_X7_copy_41, i_X7_copy_42, i_X7_copy_48, i_X7_copy_50, i_X7_copy_53, i_X7_copy_55, i_X7_copy_55n, i_X7_copy_57, i_X7_copy_60, i_X7_copy_66, i_X7_copy_67, i_X7_copy_82, i_X7_copy_84, gh_o3, gf_3_0, wdF_0, wdF_1, wdF_2, wdF_3, wdU_3, z_o_i, z_ai_i, z_si_i, z_ab_b, z_ab_z, z_sb_b, z_sb_z, z_al_i, z_al_b, z_pu_s, z_pu_n, nI_toN, z_inN, true_and, and_true, nI_add, pk_mul, vu_eq, vu_ne, nI_leI, nI_ltI, nI_eqI, nI_eq0, nI_le0, ↓ok_0, ↓ok_1, if_true, if_false, nI_lt0, nI_ge0, ne_eq, not_true_eq_false, not_false_eq_true, nI_m1, kW, wu', wv', k1l, p0]
            exact q hK' ⟨Nat.le_refl _, rfl⟩ Fz.refl
          · have kv : ¬ p ≤ nI (s.1 38 v - 1) - nI k := by
              intro q'
              apply hpp
              simp only [iw, decide_eq_true_eq]
              rw [Int32.le_iff_toInt_le, pk_sub_toInt (by omega) (by omega)] at q'
              rw [Int32.lt_iff_toInt_lt] at p0
              have e : (0 : Int32).toInt = 0 := by decide
              omega
            simp (disch := omega) only [i_X7_copy_0, i_X7_copy_0n, i_X7_copy_1, i_X7_copy_2, i_X7_copy_5, i_X7_copy_5n, i_X7_copy_7, i_X7_copy_7n, i_X7_copy_8, i_X7_copy_9, i_X7_copy_12, i_X7_copy_12n, i_X7_copy_14, i_X7_copy_14n, i_X7_copy_16, i_X7_copy_16n, i_X7_copy_19, i_X7_copy_19n, i_X7_copy_21, i_X7_copy_21n, i_X7_copy_24, i_X7_copy_26, i_X7_copy_27, i_X7_copy_27n, i_X7_copy_29, i_X7_copy_32, i_X7_copy_33, i_X7_copy_36, i_X7_copy_36n, i_X7_copy_38, i_X7_copy_41, i_X7_copy_42, i_X7_copy_48, i_X7_copy_50, i_X7_copy_53, i_X7_copy_55, i_X7_copy_55n, i_X7_copy_57, i_X7_copy_60, i_X7_copy_66, i_X7_copy_67, i_X7_copy_70, i_X7_copy_71, i_X7_copy_71n, i_X7_copy_73, i_X7_copy_76, i_X7_copy_78, i_X7_copy_79, i_X7_copy_82, i_X7_copy_84, gh_o3, gf_3_0, wdF_0, wdF_1, wdF_2, wdF_3, wdU_3, z_o_i, z_ai_i, z_si_i, z_ab_b, z_ab_z, z_sb_b, z_sb_z, z_al_i, z_al_b, z_pu_s, z_pu_n, nI_toN, z_inN, true_and, and_true, nI_add, pk_mul, vu_eq, vu_ne, nI_leI, nI_ltI, nI_eqI, nI_eq0, nI_le0, ↓ok_0, ↓ok_1, if_true, if_false, nI_lt0, nI_ge0, ne_eq, not_true_eq_false, not_false_eq_true, nI_m1, kW, wu', wv', k1l, p0, kv]
            exact q hK' ⟨Nat.le_refl _, rfl⟩ Fz.refl
      · rw [if_neg (fun z' => hm z'.1)] at q
        by_cases p0 : m < 0
        · simp (disch := omega) only [i_X7_copy_0, i_X7_copy_0n, i_X7_copy_1, i_X7_copy_2, i_X7_copy_5, i_X7_copy_5n, i_X7_copy_7, i_X7_copy_7n, i_X7_copy_8, i_X7_copy_9, i_X7_copy_12, i_X7_copy_12n, i_X7_copy_14, i_X7_copy_14n, i_X7_copy_16, i_X7_copy_16n, i_X7_copy_19, i_X7_copy_19n, i_X7_copy_21, i_X7_copy_21n, i_X7_copy_24, i_X7_copy_26, i_X7_copy_27, i_X7_copy_27n, i_X7_copy_29, i_X7_copy_32, i_X7_copy_33, i_X7_copy_36, i_X7_copy_36n, i_X7_copy_38, i_X7_copy_41, i_X7_copy_42, i_X7_copy_48, i_X7_copy_50, i_X7_copy_63, i_X7_copy_65, gh_o3, gf_3_0, wdF_0, wdF_1, wdF_2, wdF_3, wdU_3, z_o_i, z_ai_i, z_si_i, z_ab_b, z_ab_z, z_sb_b, z_sb_z, z_al_i, z_al_b, z_pu_s, z_pu_n, nI_toN, z_inN, true_and, and_true, nI_add, pk_mul, vu_eq, vu_ne, nI_leI, nI_ltI, nI_eqI, nI_eq0, nI_le0, ↓ok_0, ↓ok_1, if_true, if_false, nI_lt0, nI_ge0, ne_eq, not_true_eq_false, not_false_eq_true, nI_m1, kW, wu', wv', p0]
          exact q hK' ⟨Nat.le_refl _, rfl⟩ Fz.refl
        · have kv : ¬ m ≤ nI (s.1 38 u - 1) := by
            have := (iw_lt (by simpa using hm) (by omega)).resolve_left p0
            rw [Int32.le_iff_toInt_le, nI_toInt (by omega)] at this
            rw [Int32.le_iff_toInt_le, nI_toInt (by omega)]
            omega
          simp (disch := omega) only [i_X7_copy_0, i_X7_copy_0n, i_X7_copy_1, i_X7_copy_2, i_X7_copy_5, i_X7_copy_5n, i_X7_copy_7, i_X7_copy_7n, i_X7_copy_8, i_X7_copy_9, i_X7_copy_12, i_X7_copy_12n, i_X7_copy_14, i_X7_copy_14n, i_X7_copy_16, i_X7_copy_16n, i_X7_copy_19, i_X7_copy_19n, i_X7_copy_21, i_X7_copy_21n, i_X7_copy_24, i_X7_copy_26, i_X7_copy_27, i_X7_copy_27n, i_X7_copy_29, i_X7_copy_32, i_X7_copy_33, i_X7_copy_36, i_X7_copy_36n, i_X7_copy_38, i_X7_copy_41, i_X7_copy_42, i_X7_copy_48, i_X7_copy_50, i_X7_copy_53, i_X7_copy_55, i_X7_copy_55n, i_X7_copy_57, i_X7_copy_60, i_X7_copy_63, i_X7_copy_65, gh_o3, gf_3_0, wdF_0, wdF_1, wdF_2, wdF_3, wdU_3, z_o_i, z_ai_i, z_si_i, z_ab_b, z_ab_z, z_sb_b, z_sb_z, z_al_i, z_al_b, z_pu_s, z_pu_n, nI_toN, z_inN, true_and, and_true, nI_add, pk_mul, vu_eq, vu_ne, nI_leI, nI_ltI, nI_eqI, nI_eq0, nI_le0, ↓ok_0, ↓ok_1, if_true, if_false, nI_lt0, nI_ge0, ne_eq, not_true_eq_false, not_false_eq_true, nI_m1, kW, wu', wv', p0, kv]
          exact q hK' ⟨Nat.le_refl _, rfl⟩ Fz.refl
    · rw [if_neg (fun z => ht z.2)] at q
      have kNt : ∀ {d nx : Nat} {Q : z_Q}, XC (d + 3) m_X7_wordAt [.ref 3, .int t] (GH A P dy) nx Q = Q (some .null) (GH A P dy) nx := kN ht
      simp (disch := omega) only [i_X7_copy_0, i_X7_copy_0n, i_X7_copy_1, i_X7_copy_2, i_X7_copy_5, i_X7_copy_5n, i_X7_copy_7, i_X7_copy_7n, i_X7_copy_8, i_X7_copy_9, i_X7_copy_12, i_X7_copy_12n, i_X7_copy_14, i_X7_copy_14n, i_X7_copy_16, i_X7_copy_16n, i_X7_copy_19, i_X7_copy_19n, i_X7_copy_21, i_X7_copy_21n, i_X7_copy_24, i_X7_copy_26, gh_o3, gf_3_0, wdF_0, wdF_1, wdF_2, wdF_3, wdU_3, z_o_i, z_ai_i, z_si_i, z_ab_b, z_ab_z, z_sb_b, z_sb_z, z_al_i, z_al_b, z_pu_s, z_pu_n, nI_toN, z_inN, true_and, and_true, nI_add, pk_mul, vu_eq, vu_ne, nI_leI, nI_ltI, nI_eqI, nI_eq0, nI_le0, ↓ok_0, ↓ok_1, if_true, if_false, nI_lt0, nI_ge0, ne_eq, not_true_eq_false, not_false_eq_true, nI_m1, kW, kNt]
      exact q hK' ⟨Nat.le_refl _, rfl⟩ Fz.refl
  · rw [if_neg (fun z => hf z.1)] at q
    have kNf : ∀ {d nx : Nat} {Q : z_Q}, XC (d + 3) m_X7_wordAt [.ref 3, .int f] (GH A P dy) nx Q = Q (some .null) (GH A P dy) nx := kN hf
    by_cases ht : iw t (s.1 32 1) = true
    · obtain ⟨v, hv, rfl⟩ := iw_ex ht
      simp (disch := omega) only [i_X7_copy_0, i_X7_copy_0n, i_X7_copy_1, i_X7_copy_2, i_X7_copy_5, i_X7_copy_5n, i_X7_copy_7, i_X7_copy_7n, i_X7_copy_8, i_X7_copy_9, i_X7_copy_12, i_X7_copy_12n, i_X7_copy_14, i_X7_copy_14n, i_X7_copy_16, i_X7_copy_16n, i_X7_copy_24, i_X7_copy_26, gh_o3, gf_3_0, wdF_0, wdF_1, wdF_2, wdF_3, wdU_3, z_o_i, z_ai_i, z_si_i, z_ab_b, z_ab_z, z_sb_b, z_sb_z, z_al_i, z_al_b, z_pu_s, z_pu_n, nI_toN, z_inN, true_and, and_true, nI_add, pk_mul, vu_eq, vu_ne, nI_leI, nI_ltI, nI_eqI, nI_eq0, nI_le0, ↓ok_0, ↓ok_1, if_true, if_false, nI_lt0, nI_ge0, ne_eq, not_true_eq_false, not_false_eq_true, nI_m1, kW, kNf]
      exact q hK' ⟨Nat.le_refl _, rfl⟩ Fz.refl
    · have kNt : ∀ {d nx : Nat} {Q : z_Q}, XC (d + 3) m_X7_wordAt [.ref 3, .int t] (GH A P dy) nx Q = Q (some .null) (GH A P dy) nx := kN ht
      simp (disch := omega) only [i_X7_copy_0, i_X7_copy_0n, i_X7_copy_1, i_X7_copy_2, i_X7_copy_5, i_X7_copy_5n, i_X7_copy_7, i_X7_copy_7n, i_X7_copy_8, i_X7_copy_9, i_X7_copy_12, i_X7_copy_12n, i_X7_copy_14, i_X7_copy_14n, i_X7_copy_16, i_X7_copy_16n, i_X7_copy_24, i_X7_copy_26, gh_o3, gf_3_0, wdF_0, wdF_1, wdF_2, wdF_3, wdU_3, z_o_i, z_ai_i, z_si_i, z_ab_b, z_ab_z, z_sb_b, z_sb_z, z_al_i, z_al_b, z_pu_s, z_pu_n, nI_toN, z_inN, true_and, and_true, nI_add, pk_mul, vu_eq, vu_ne, nI_leI, nI_ltI, nI_eqI, nI_eq0, nI_le0, ↓ok_0, ↓ok_1, if_true, if_false, nI_lt0, nI_ge0, ne_eq, not_true_eq_false, not_false_eq_true, nI_m1, kNf, kNt]
      exact q hK' ⟨Nat.le_refl _, rfl⟩ Fz.refl
end CMut
