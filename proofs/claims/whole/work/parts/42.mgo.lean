/-! THE MODEL: goOn -/
/-- the filling: lines tried at a place -/
def gl (a : Nat → Nat → Nat) (L : Nat → Int32) (ok : Nat → Bool) (F : (Nat → Nat) → Nat → Nat × (Nat → Nat) × Nat) (i : Nat) (S : Nat → Nat) : Nat → Nat → Nat → Nat × (Nat → Nat) × Nat
  | 0, _, t => (0, S, t)
  | n + 1, l, t => if t = 0 then (2, S, 0) else
    if fat (va_up a 46 (va_up S i (l + 1))) L ok i = 0 then
      (if (F (va_up S i (l + 1)) (t - 1)).1 = 0 then gl a L ok F i S n (l + 1) (F (va_up S i (l + 1)) (t - 1)).2.2 else F (va_up S i (l + 1)) (t - 1))
    else gl a L ok F i S n (l + 1) (t - 1)
/-- the filling from a place on: 1 filled, 0 not, 2 spent -/
def gq (a : Nat → Nat → Nat) (L : Nat → Int32) (ok : Nat → Bool) : Nat → Nat → (Nat → Nat) → Nat → Nat × (Nat → Nat) × Nat
  | 0, _, S, t => (1, S, t)
  | m + 1, i, S, t =>
    if ¬ S i = 0 then (if fat (va_up a 46 S) L ok i = 0 then gq a L ok m (i + 1) S t else (0, S, t))
    else if ¬ a 45 i = 0 then
      (if fat (va_up a 46 (va_up S i (S (a 45 i - 1)))) L ok i = 0 then gq a L ok m (i + 1) (va_up S i (S (a 45 i - 1))) t else (0, S, t))
    else gl a L ok (fun S t => gq a L ok m (i + 1) S t) i S (a 32 13) 0 t
theorem fat_le {a : Nat → Nat → Nat} {L : Nat → Int32} {ok : Nat → Bool} {i : Nat} : fat a L ok i ≤ 5 := by
  unfold fat
  split
  · omega
  · split
    · omega
    · split
      · omega
      · split
        · omega
        · split
          · omega
          · split <;> omega
/-- what goOn may change -/
def Fg (A B : Nat → Nat → Int32) : Prop := (∀ k, (k < 46 ∨ 51 < k) → k ≠ 32 → B k = A k) ∧ ∀ j, j ≠ 39 → j ≠ 40 → B 32 j = A 32 j
theorem Fg.refl {A : Nat → Nat → Int32} : Fg A A := ⟨fun _ _ _ => rfl, fun _ _ _ => rfl⟩
theorem Fg.trans {A B C : Nat → Nat → Int32} (h : Fg A B) (g : Fg B C) : Fg A C := ⟨fun k h1 h2 => (g.1 k h1 h2).trans (h.1 k h1 h2), fun j h1 h2 => (g.2 j h1 h2).trans (h.2 j h1 h2)⟩
theorem Fr.fg {A B : Nat → Nat → Int32} (h : Fr A B) : Fg A B := ⟨fun k h1 _ => h k (by omega), fun j _ _ => by rw [h 32 (by omega)]⟩
theorem Fg.st {A : Nat → Nat → Int32} {f : Nat → Int32} : Fg A (va_up A 46 f) := ⟨fun k h1 h2 => vu_ne (by omega), fun j _ _ => by rw [vu_ne (by omega)]⟩
theorem Fg.fl {A : Nat → Nat → Int32} {j : Nat} {v : Int32} (hj : j = 39 ∨ j = 40) : Fg A (va_up A 32 (va_up (A 32) j v)) := ⟨fun k h1 h2 => vu_ne h2, fun i h1 h2 => by rw [vu_eq, vu_ne (by omega)]⟩
/-- the stanza is another one -/
theorem Rp.st {a : Nat → Nat → Nat} {A : Nat → Nat → Int32} {S T : Nat → Nat} {f : Nat → Int32} (h : Rp (va_up a 46 S) A) (hf : ∀ i, f i = nI (T i) - nI 1) (hT : ∀ i, T i ≤ 16) : Rp (va_up a 46 T) (va_up A 46 f) := by
  obtain ⟨⟨h1, h2, h3, h4, h5, h6, h7, h8, h9, h10, h11, h12, h13⟩, hs, hb, hc⟩ := h
  refine ⟨⟨h1, h2, h3, h4, h5, h6, h7, h8, h9, h10, h11, h12, fun i => hf i⟩, hs, fun i => ?_, hc⟩
  obtain ⟨b1, b2, b3, b4, b5, b6, b7, b8, b9, b10, b11, b12, b13⟩ := hb i
  exact ⟨b1, b2, b3, b4, b5, b6, b7, b8, b9, b10, b11, b12, hT i⟩
theorem Rp.fl {a : Nat → Nat → Nat} {A : Nat → Nat → Int32} {j : Nat} {v : Int32} (h : Rp a A) (hj : j = 0 ∨ 36 ≤ j) : Rp a (va_up A 32 (va_up (A 32) j v)) := by
  refine h.of (fun k hk => ⟨fun e i h0 h1 => ?_, fun e => vu_ne e⟩)
  subst e
  rw [vu_eq, vu_ne (by omega)]
/-- what the model keeps of places and lines -/
def Wf (a : Nat → Nat → Nat) : Prop := ∀ k, k < a 32 16 → a 45 k ≤ k
theorem Wa.st {a : Nat → Nat → Nat} {S : Nat → Nat} (h : Wa a) : Wa (va_up a 46 S) := h
theorem Wl.st {a : Nat → Nat → Nat} {S : Nat → Nat} (h : Wl a) : Wl (va_up a 46 S) := h
theorem st_46 {a : Nat → Nat → Nat} {S : Nat → Nat} : va_up a 46 S 46 = S := rfl
theorem Rp.r46 {a : Nat → Nat → Nat} {A : Nat → Nat → Int32} {S : Nat → Nat} (h : Rp (va_up a 46 S) A) (i : Nat) : A 46 i = nI (S i) - nI 1 := h.1.2.2.2.2.2.2.2.2.2.2.2.2 i
theorem vs_le {S : Nat → Nat} {i v n : Nat} (h : ∀ k, S k ≤ n) (hv : v ≤ n) : ∀ k, va_up S i v k ≤ n := fun k => by
  rw [vu_if]
  by_cases e : k = i
  · rw [if_pos e]; exact hv
  · rw [if_neg e]; exact h k
theorem vs_lk {S : Nat → Nat} {i v n M : Nat} (h : ∀ k, k < M → S k ≤ n) (hv : v ≤ n) : ∀ k, k < M → va_up S i v k ≤ n := fun k hk => by
  rw [vu_if]
  by_cases e : k = i
  · rw [if_pos e]; exact hv
  · rw [if_neg e]; exact h k hk
theorem Rp.sb {a : Nat → Nat → Nat} {A : Nat → Nat → Int32} {S : Nat → Nat} (h : Rp (va_up a 46 S) A) (k : Nat) : S k ≤ 16 := (h.2.2.1 k).2.2.2.2.2.2.2.2.2.2.2.2
theorem vs_1 {S : Nat → Nat} {i v : Nat} (h : ∀ k, k < i → 1 ≤ S k) (hv : 1 ≤ v) : ∀ k, k < i + 1 → 1 ≤ va_up S i v k := fun k hk => by
  rw [vu_if]
  by_cases e : k = i
  · rw [if_pos e]; exact hv
  · rw [if_neg e]; exact h k (by omega)
theorem vs_rm {S : Nat → Nat} {f : Nat → Int32} {i v : Nat} {x : Int32} (h : ∀ k, f k = nI (S k) - nI 1) (hx : x = nI v - nI 1) : ∀ k, va_up f i x k = nI (va_up S i v k) - nI 1 := fun k => by
  rw [vu_if, vu_if]
  by_cases e : k = i
  · rw [if_pos e, if_pos e]; exact hx
  · rw [if_neg e, if_neg e]; exact h k
theorem vs_back {S : Nat → Nat} {i v : Nat} (h : S i = 0) : va_up (va_up S i v) i 0 = S := by
  rw [vu_vu]; exact vu_self h.symm
section MGo
variable {a : Nat → Nat → Nat} {P : Nat → Nat → Nat} {dy : z_H} {nx bc bs : Nat} {L : Nat → Int32} {ok : Nat → Bool}
theorem z_fit1 : (z_fit 1 (.int (nI 1)) = true) = True := by simp only [eq_iff_iff, iff_true]; decide
theorem z_fit0 : (z_fit 1 (.int (nI 0)) = true) = True := by simp only [eq_iff_iff, iff_true]; decide
/-- goOn from i on, of m places: what a call of it owes -/
def Go (a : Nat → Nat → Nat) (P : Nat → Nat → Nat) (dy : z_H) (L : Nat → Int32) (ok : Nat → Bool) (D i : Nat) (G : (Nat → Nat) → Nat → Nat × (Nat → Nat) × Nat) : Prop :=
  ∀ (A : Nat → Nat → Int32) (S : Nat → Nat) (t nx : Nat) (Q : z_Q), Rp (va_up a 46 S) A → A 39 = L → (∀ k, k < i → 1 ≤ S k) → (∀ k, k < a 32 16 → S k ≤ a 32 13) → (∀ l, l < a 32 13 → A 62 l = bI (ok l = true)) → A 32 39 = nI t → t ≤ 20000 → A 32 40 = nI 0 →
    (∀ B, Fg A B → (G S t).1 ≤ 2 → ((G S t).1 = 1 → Rp (va_up a 46 (G S t).2.1) B) → (¬ (G S t).1 = 1 → Rp (va_up a 46 S) B) → B 32 39 = nI (G S t).2.2 → (G S t).2.2 ≤ 20000 → B 32 40 = bI ((G S t).1 = 2) → Q (some (.int (bI ((G S t).1 = 1)))) (GH B P dy) nx) → XC D m_X8_goOn [.ref 32, .int (nI i)] (GH A P dy) nx Q
/-- findAt, then goOn, behind it what comes -/
theorem s_go {i e : Nat} {G : (Nat → Nat) → Nat → Nat × (Nat → Nat) × Nat} (hW : Wa a) (hL : Wl a) (hf : Wf a) (hi : i < a 32 16) {A : Nat → Nat → Int32} {S : Nat → Nat} {Q : z_Q} (hR : Rp (va_up a 46 S) A) (hA : A 39 = L) (hz : ∀ k, k < i → 1 ≤ S k) (hl : ∀ k, k < a 32 16 → S k ≤ a 32 13) (hok : ∀ l, l < a 32 13 → A 62 l = bI (ok l = true))
    (hQ : ∀ B, Fr A B → Q (some (.int (nI (fat (va_up a 46 S) L ok i)))) (GH B P dy) nx) : XC (e + 6) m_X8_findAt [.ref 32, .int (nI i)] (GH A P dy) nx Q := by
  have hsc := hR.2.2.2
  have h16 : a 32 16 ≤ 14 := hsc.2.2.2.2.2.1
  subst hA
  exact c_findAt hR (Wa.st hW) (Wl.st hL) (by omega) hz (fun k hk => hl k (by omega)) (hf i hi) hok hQ
theorem s_goR {i v : Nat} {B : Nat → Nat → Int32} {S : Nat → Nat} (hR : Rp (va_up a 46 (va_up S i v)) B) (hS : S i = 0) (hl : ∀ k, k < a 32 16 → S k ≤ a 32 13) : Rp (va_up a 46 S) (va_up B 46 (va_up (B 46) i (-1))) := by
  have h13 : a 32 13 ≤ 16 := hR.2.2.2.2.2.2.2.1
  have bv : v ≤ 16 := by have := (hR.2.2.1 i).2.2.2.2.2.2.2.2.2.2.2.2; rw [st_46, vu_eq] at this; exact this
  have m0 : (-1 : Int32) = nI 0 - nI 1 := by decide
  have hR2 := hR.st (f := va_up (B 46) i (-1)) (vs_rm hR.r46 m0) (vs_le hR.sb (Nat.zero_le _))
  rw [vs_back hS] at hR2
  exact hR2
theorem s_goE {i e l v : Nat} {B : Nat → Nat → Int32} {S : Nat → Nat} {Q : z_Q} (hR : Rp (va_up a 46 (va_up S i v)) B) (hS : S i = 0) (hl : ∀ k, k < a 32 16 → S k ≤ a 32 13) (hi : i < a 32 16) (hl2 : l < 30) (hs : B 32 40 = nI 1) (hQ : Q (some (.int (nI 0))) (GH (va_up B 46 (va_up (B 46) i (-1))) P dy) nx) : X (e + 7) m_X8_goOn 102 [some (.ref 32), some (.int (nI i)), some (.int (nI l))] [] (GH B P dy) nx bc bs Q := by
  have hsc := hR.2.2.2
  have h16 : a 32 16 ≤ 14 := hsc.2.2.2.2.2.1
  have h13 : a 32 13 ≤ 16 := hsc.2.2.2.2.1
  have r13 : B 32 13 = nI (a 32 13) := hR.2.1.2.2.2.1
  by_cases z : a 32 13 ≤ l
  · simp (disch := omega) only [i_X8_goOn_102, i_X8_goOn_103, i_X8_goOn_104, i_X8_goOn_107, i_X8_goOn_175, i_X8_goOn_176, i_X8_goOn_179, i_X8_goOn_180, i_X8_goOn_181, i_X8_goOn_182, i_X8_goOn_183, gh_o32, gh_r45, gh_r46, gh_w46, gh_u32, gp_32_39, gp_32_40, gf_32_13, gf_32_16, gf_32_18, gf_32_20, gf_32_39, gf_32_40, z_o_i, z_ai_i, z_si_i, z_ab_b, z_ab_z, z_sb_b, z_sb_z, z_al_i, z_al_b, z_pu_s, z_pu_n, nI_toN, z_inN, true_and, and_true, nI_add, pk_mul, vu_eq, vu_ne, nI_leI, nI_ltI, nI_eqI, nI_eq0, ↓ok_0, ↓ok_1, ↓bI_ok, if_true, if_false, ne_eq, not_true_eq_false, not_false_eq_true, nI_m1, nI_1ne, nI_0eq, bI_eq0, bI_ne0, Bool.false_eq_true, pk_sub, z_fit1, Nat.one_ne_zero, r13, z]
    exact hQ
  · simp (disch := omega) only [i_X8_goOn_102, i_X8_goOn_103, i_X8_goOn_104, i_X8_goOn_107, i_X8_goOn_110, i_X8_goOn_111, i_X8_goOn_114, i_X8_goOn_175, i_X8_goOn_176, i_X8_goOn_179, i_X8_goOn_180, i_X8_goOn_181, i_X8_goOn_182, i_X8_goOn_183, gh_o32, gh_r45, gh_r46, gh_w46, gh_u32, gp_32_39, gp_32_40, gf_32_13, gf_32_16, gf_32_18, gf_32_20, gf_32_39, gf_32_40, z_o_i, z_ai_i, z_si_i, z_ab_b, z_ab_z, z_sb_b, z_sb_z, z_al_i, z_al_b, z_pu_s, z_pu_n, nI_toN, z_inN, true_and, and_true, nI_add, pk_mul, vu_eq, vu_ne, nI_leI, nI_ltI, nI_eqI, nI_eq0, ↓ok_0, ↓ok_1, ↓bI_ok, if_true, if_false, ne_eq, not_true_eq_false, not_false_eq_true, nI_m1, nI_1ne, nI_0eq, bI_eq0, bI_ne0, Bool.false_eq_true, pk_sub, z_fit1, Nat.one_ne_zero, r13, z, hs]
    exact hQ
theorem l_go {i e : Nat} {G : (Nat → Nat) → Nat → Nat × (Nat → Nat) × Nat} (hW : Wa a) (hL : Wl a) (hf : Wf a) (hi : i < a 32 16) (hG : Go a P dy L ok (e + 6) (i + 1) G) {A : Nat → Nat → Int32} {S : Nat → Nat} {Q : z_Q} (h45 : a 45 i = 0) (hS : S i = 0) (hz : ∀ k, k < i → 1 ≤ S k) (hl : ∀ k, k < a 32 16 → S k ≤ a 32 13)
    {R : Nat × (Nat → Nat) × Nat} (hQ : ∀ B, Fg A B → R.1 ≤ 2 → (R.1 = 1 → Rp (va_up a 46 R.2.1) B) → (¬ R.1 = 1 → Rp (va_up a 46 S) B) → B 32 39 = nI R.2.2 → R.2.2 ≤ 20000 → B 32 40 = bI (R.1 = 2) → Q (some (.int (bI (R.1 = 1)))) (GH B P dy) nx) :
    ∀ (n l t : Nat) (B : Nat → Nat → Int32) (v : Nat), l + n = a 32 13 → Fg A B → Rp (va_up a 46 (va_up S i v)) B → B 39 = L → (∀ l, l < a 32 13 → B 62 l = bI (ok l = true)) → B 32 39 = nI t → t ≤ 20000 → B 32 40 = nI 0 → gl a L ok G i S n l t = R →
      X (e + 7) m_X8_goOn 102 [some (.ref 32), some (.int (nI i)), some (.int (nI l))] [] (GH B P dy) nx bc bs Q := by
  intro n
  induction n with
  | zero =>
    intro l t B v hn hF hR h39 hok ht tb hs hr
    have hsc := hR.2.2.2
    have h16 : a 32 16 ≤ 14 := hsc.2.2.2.2.2.1
    have h13 : a 32 13 ≤ 16 := hsc.2.2.2.2.1
    have r13 : B 32 13 = nI (a 32 13) := hR.2.1.2.2.2.1
    have le : a 32 13 ≤ l := by omega
    have m0 : (-1 : Int32) = nI 0 - nI 1 := by decide
    simp (disch := omega) only [i_X8_goOn_102, i_X8_goOn_103, i_X8_goOn_104, i_X8_goOn_107, i_X8_goOn_175, i_X8_goOn_176, i_X8_goOn_179, i_X8_goOn_180, i_X8_goOn_181, i_X8_goOn_182, i_X8_goOn_183, gh_o32, gh_r45, gh_r46, gh_w46, gh_u32, gp_32_39, gp_32_40, gf_32_13, gf_32_16, gf_32_18, gf_32_20, gf_32_39, gf_32_40, z_o_i, z_ai_i, z_si_i, z_ab_b, z_ab_z, z_sb_b, z_sb_z, z_al_i, z_al_b, z_pu_s, z_pu_n, nI_toN, z_inN, true_and, and_true, nI_add, pk_mul, vu_eq, vu_ne, nI_leI, nI_ltI, nI_eqI, nI_eq0, ↓ok_0, ↓ok_1, ↓bI_ok, if_true, if_false, ne_eq, not_true_eq_false, not_false_eq_true, nI_m1, nI_1ne, nI_0eq, bI_eq0, bI_ne0, Bool.false_eq_true, pk_sub, z_fit1, Nat.one_ne_zero, r13, le]
    have hR2 := hR.st (f := va_up (B 46) i (-1)) (vs_rm hR.r46 m0) (vs_le hR.sb (Nat.zero_le _))
    rw [vs_back hS] at hR2
    have q := hQ (va_up B 46 (va_up (B 46) i (-1))) (hF.trans Fg.st)
    rw [← hr, gl] at q
    exact q (by simp) (fun z => absurd z (by simp)) (fun _ => hR2) ht tb hs
  | succ n ih =>
    intro l t B v hn hF hR h39 hok ht tb hs hr
    have hsc := hR.2.2.2
    have h16 : a 32 16 ≤ 14 := hsc.2.2.2.2.2.1
    have h13 : a 32 13 ≤ 16 := hsc.2.2.2.2.1
    have r13 : B 32 13 = nI (a 32 13) := hR.2.1.2.2.2.1
    have le : ¬ a 32 13 ≤ l := by omega
    have m0 : (-1 : Int32) = nI 0 - nI 1 := by decide
    have bv : v ≤ 16 := by have := (hR.2.2.1 i).2.2.2.2.2.2.2.2.2.2.2.2; rw [st_46, vu_eq] at this; exact this
    have bT : ∀ (w : Nat), w ≤ a 32 13 → ∀ k, k < a 32 16 → va_up S i w k ≤ a 32 13 := fun w hw => vs_lk hl hw
    rw [gl] at hr
    rw [i_X8_goOn_102]
    by_cases t0 : t = 0
    · rw [if_pos t0] at hr
      subst t0
      simp (disch := omega) only [i_X8_goOn_103, i_X8_goOn_104, i_X8_goOn_107, i_X8_goOn_110, i_X8_goOn_111, i_X8_goOn_114, i_X8_goOn_117, i_X8_goOn_118, i_X8_goOn_121, i_X8_goOn_124, i_X8_goOn_125, i_X8_goOn_126, i_X8_goOn_129, i_X8_goOn_169, i_X8_goOn_172, gh_o32, gh_r45, gh_r46, gh_w46, gh_u32, gp_32_39, gp_32_40, gf_32_13, gf_32_16, gf_32_18, gf_32_20, gf_32_39, gf_32_40, z_o_i, z_ai_i, z_si_i, z_ab_b, z_ab_z, z_sb_b, z_sb_z, z_al_i, z_al_b, z_pu_s, z_pu_n, nI_toN, z_inN, true_and, and_true, nI_add, pk_mul, vu_eq, vu_ne, nI_leI, nI_ltI, nI_eqI, nI_eq0, ↓ok_0, ↓ok_1, ↓bI_ok, if_true, if_false, ne_eq, not_true_eq_false, not_false_eq_true, nI_m1, nI_1ne, nI_0eq, bI_eq0, bI_ne0, Bool.false_eq_true, pk_sub, z_fit1, Nat.one_ne_zero, r13, le, hs, ht]
      have hRC : Rp (va_up a 46 (va_up S i v)) (va_up B 32 (va_up (B 32) 40 (nI 1))) := hR.fl (by omega)
      refine s_goE hRC hS hl (by omega) (by omega) (by rw [vu_eq, vu_eq]) ?_
      have hR2 := s_goR hRC hS hl
      have q := hQ _ ((hF.trans (Fg.fl (j := 40) (v := nI 1) (by omega))).trans (Fg.st (f := va_up (B 46) i (-1))))
      rw [← hr] at q
      refine q (by simp) (fun z => absurd z (by simp)) (fun _ => hR2) ?_ (by simp) ?_
      · rw [vu_ne (by omega), vu_eq, vu_ne (by omega)]; exact ht
      · rw [vu_ne (by omega), vu_eq, vu_eq]; rfl
    · rw [if_neg t0] at hr
      have t1 : 1 ≤ t := by omega
      have e46 : ∀ {v : Int32}, va_up B 32 (va_up (B 32) 39 v) 46 = B 46 := rfl
      simp (disch := omega) only [i_X8_goOn_103, i_X8_goOn_104, i_X8_goOn_107, i_X8_goOn_110, i_X8_goOn_111, i_X8_goOn_114, i_X8_goOn_117, i_X8_goOn_118, i_X8_goOn_121, i_X8_goOn_132, i_X8_goOn_133, i_X8_goOn_134, i_X8_goOn_137, i_X8_goOn_138, i_X8_goOn_139, i_X8_goOn_142, i_X8_goOn_143, i_X8_goOn_146, i_X8_goOn_147, i_X8_goOn_148, i_X8_goOn_149, i_X8_goOn_150, i_X8_goOn_151, gh_o32, gh_r45, gh_r46, gh_w46, gh_u32, gp_32_39, gp_32_40, gf_32_13, gf_32_16, gf_32_18, gf_32_20, gf_32_39, gf_32_40, z_o_i, z_ai_i, z_si_i, z_ab_b, z_ab_z, z_sb_b, z_sb_z, z_al_i, z_al_b, z_pu_s, z_pu_n, nI_toN, z_inN, true_and, and_true, nI_add, pk_mul, vu_eq, vu_ne, nI_leI, nI_ltI, nI_eqI, nI_eq0, ↓ok_0, ↓ok_1, ↓bI_ok, if_true, if_false, ne_eq, not_true_eq_false, not_false_eq_true, nI_m1, nI_1ne, nI_0eq, bI_eq0, bI_ne0, Bool.false_eq_true, pk_sub, z_fit1, Nat.one_ne_zero, r13, le, hs, ht, t0, e46]
      have hR1 : Rp (va_up a 46 (va_up S i (l + 1))) (va_up (va_up B 32 (va_up (B 32) 39 (nI (t - 1)))) 46 (va_up (B 46) i (nI l))) := by
        have := (hR.fl (j := 39) (v := nI (t - 1)) (by omega)).st (f := va_up (B 46) i (nI l)) (T := va_up S i (l + 1)) (fun k => by
          have := vs_rm (i := i) (v := l + 1) (x := nI l) hR.r46 (by rw [pk_sub (by omega)]; congr 1) k
          rw [vu_vu] at this
          exact this) (fun k => by
          have := vs_le (i := i) (v := l + 1) hR.sb (by omega) k
          rw [vu_vu] at this
          exact this)
        exact this
      have hF1 : Fg A (va_up (va_up B 32 (va_up (B 32) 39 (nI (t - 1)))) 46 (va_up (B 46) i (nI l))) := (hF.trans (Fg.fl (by omega))).trans Fg.st
      generalize hC : va_up (va_up B 32 (va_up (B 32) 39 (nI (t - 1)))) 46 (va_up (B 46) i (nI l)) = C at hR1 hF1 ⊢
      have c39 : C 39 = L := by rw [← hC]; exact h39
      have c62 : C 62 = B 62 := by rw [← hC]; rfl
      have cok : ∀ l, l < a 32 13 → C 62 l = bI (ok l = true) := by rw [c62]; exact hok
      have ct : C 32 39 = nI (t - 1) := by rw [← hC, vu_ne (by omega), vu_eq, vu_eq]
      have cs : C 32 40 = nI 0 := by rw [← hC, vu_ne (by omega), vu_eq, vu_ne (by omega)]; exact hs
      have hz1 : ∀ k, k < i → 1 ≤ va_up S i (l + 1) k := fun k hk => by rw [vu_ne (by omega)]; exact hz k hk
      refine s_go (ok := ok) (G := G) hW hL hf hi hR1 c39 hz1 (bT (l + 1) (by omega)) cok (fun D hD => ?_)
      have fl := fat_le (a := va_up a 46 (va_up S i (l + 1))) (L := L) (ok := ok) (i := i)
      have hRD : Rp (va_up a 46 (va_up S i (l + 1))) D := hD.rp hR1
      have hFD := hF1.trans hD.fg
      have d39 : D 39 = L := by rw [hD 39 (by omega)]; exact c39
      have dok : ∀ l, l < a 32 13 → D 62 l = bI (ok l = true) := by rw [hD 62 (by omega)]; exact cok
      have dt : D 32 39 = nI (t - 1) := by rw [hD 32 (by omega)]; exact ct
      have ds : D 32 40 = nI 0 := by rw [hD 32 (by omega)]; exact cs
      by_cases f0 : fat (va_up a 46 (va_up S i (l + 1))) L ok i = 0
      · rw [if_pos f0] at hr
        simp (disch := omega) only [i_X8_goOn_154, i_X8_goOn_157, i_X8_goOn_158, i_X8_goOn_159, i_X8_goOn_160, i_X8_goOn_161, gh_o32, gh_r45, gh_r46, gh_w46, gh_u32, gp_32_39, gp_32_40, gf_32_13, gf_32_16, gf_32_18, gf_32_20, gf_32_39, gf_32_40, z_o_i, z_ai_i, z_si_i, z_ab_b, z_ab_z, z_sb_b, z_sb_z, z_al_i, z_al_b, z_pu_s, z_pu_n, nI_toN, z_inN, true_and, and_true, nI_add, pk_mul, vu_eq, vu_ne, nI_leI, nI_ltI, nI_eqI, nI_eq0, ↓ok_0, ↓ok_1, ↓bI_ok, if_true, if_false, ne_eq, not_true_eq_false, not_false_eq_true, nI_m1, nI_1ne, nI_0eq, bI_eq0, bI_ne0, Bool.false_eq_true, pk_sub, z_fit1, Nat.one_ne_zero, f0]
        refine hG D (va_up S i (l + 1)) (t - 1) nx _ hRD d39 (vs_1 hz (by omega)) (bT (l + 1) (by omega)) dok dt (by omega) ds (fun E hE cb r1 r0 et eb es => ?_)
        have hFE := hFD.trans hE
        by_cases g1 : (G (va_up S i (l + 1)) (t - 1)).1 = 1
        · rw [if_neg (by omega)] at hr
          simp (disch := omega) only [i_X8_goOn_164, i_X8_goOn_167, i_X8_goOn_168, gh_o32, gh_r45, gh_r46, gh_w46, gh_u32, gp_32_39, gp_32_40, gf_32_13, gf_32_16, gf_32_18, gf_32_20, gf_32_39, gf_32_40, z_o_i, z_ai_i, z_si_i, z_ab_b, z_ab_z, z_sb_b, z_sb_z, z_al_i, z_al_b, z_pu_s, z_pu_n, nI_toN, z_inN, true_and, and_true, nI_add, pk_mul, vu_eq, vu_ne, nI_leI, nI_ltI, nI_eqI, nI_eq0, ↓ok_0, ↓ok_1, ↓bI_ok, if_true, if_false, ne_eq, not_true_eq_false, not_false_eq_true, nI_m1, nI_1ne, nI_0eq, bI_eq0, bI_ne0, Bool.false_eq_true, pk_sub, z_fit1, Nat.one_ne_zero, g1, bI_T]
          have q := hQ E hFE
          rw [← hr] at q
          rw [bI_t g1] at q
          exact q cb r1 (fun z => absurd g1 z) et eb es
        · have hRE := r0 g1
          by_cases g0 : (G (va_up S i (l + 1)) (t - 1)).1 = 0
          · rw [if_pos g0] at hr
            have g2 : ¬ (G (va_up S i (l + 1)) (t - 1)).1 = 2 := by omega
            rw [bI_f g2] at es
            simp (disch := omega) only [i_X8_goOn_164, i_X8_goOn_167, i_X8_goOn_168, i_X8_goOn_169, i_X8_goOn_172, gh_o32, gh_r45, gh_r46, gh_w46, gh_u32, gp_32_39, gp_32_40, gf_32_13, gf_32_16, gf_32_18, gf_32_20, gf_32_39, gf_32_40, z_o_i, z_ai_i, z_si_i, z_ab_b, z_ab_z, z_sb_b, z_sb_z, z_al_i, z_al_b, z_pu_s, z_pu_n, nI_toN, z_inN, true_and, and_true, nI_add, pk_mul, vu_eq, vu_ne, nI_leI, nI_ltI, nI_eqI, nI_eq0, ↓ok_0, ↓ok_1, ↓bI_ok, if_true, if_false, ne_eq, not_true_eq_false, not_false_eq_true, nI_m1, nI_1ne, nI_0eq, bI_eq0, bI_ne0, Bool.false_eq_true, pk_sub, z_fit1, Nat.one_ne_zero, g1, bI_F]
            exact ih (l + 1) _ E (l + 1) (by omega) hFE hRE (by rw [hE.1 39 (by omega) (by omega)]; exact d39) (by rw [hE.1 62 (by omega) (by omega)]; exact dok) et eb es hr
          · rw [if_neg g0] at hr
            have g2 : (G (va_up S i (l + 1)) (t - 1)).1 = 2 := by omega
            rw [bI_t g2] at es
            simp (disch := omega) only [i_X8_goOn_164, i_X8_goOn_167, i_X8_goOn_168, i_X8_goOn_169, i_X8_goOn_172, gh_o32, gh_r45, gh_r46, gh_w46, gh_u32, gp_32_39, gp_32_40, gf_32_13, gf_32_16, gf_32_18, gf_32_20, gf_32_39, gf_32_40, z_o_i, z_ai_i, z_si_i, z_ab_b, z_ab_z, z_sb_b, z_sb_z, z_al_i, z_al_b, z_pu_s, z_pu_n, nI_toN, z_inN, true_and, and_true, nI_add, pk_mul, vu_eq, vu_ne, nI_leI, nI_ltI, nI_eqI, nI_eq0, ↓ok_0, ↓ok_1, ↓bI_ok, if_true, if_false, ne_eq, not_true_eq_false, not_false_eq_true, nI_m1, nI_1ne, nI_0eq, bI_eq0, bI_ne0, Bool.false_eq_true, pk_sub, z_fit1, Nat.one_ne_zero, g1, bI_F]
            refine s_goE hRE hS hl (by omega) (by omega) es ?_
            have q := hQ _ (hFE.trans (Fg.st (f := va_up (E 46) i (-1))))
            rw [← hr] at q
            rw [bI_f g1] at q
            refine q cb (fun z => absurd z g1) (fun _ => s_goR hRE hS hl) ?_ eb ?_
            · rw [vu_ne (by omega)]; exact et
            · rw [vu_ne (by omega), bI_t g2]; exact es
      · rw [if_neg f0] at hr
        simp (disch := omega) only [i_X8_goOn_154, i_X8_goOn_169, i_X8_goOn_172, gh_o32, gh_r45, gh_r46, gh_w46, gh_u32, gp_32_39, gp_32_40, gf_32_13, gf_32_16, gf_32_18, gf_32_20, gf_32_39, gf_32_40, z_o_i, z_ai_i, z_si_i, z_ab_b, z_ab_z, z_sb_b, z_sb_z, z_al_i, z_al_b, z_pu_s, z_pu_n, nI_toN, z_inN, true_and, and_true, nI_add, pk_mul, vu_eq, vu_ne, nI_leI, nI_ltI, nI_eqI, nI_eq0, ↓ok_0, ↓ok_1, ↓bI_ok, if_true, if_false, ne_eq, not_true_eq_false, not_false_eq_true, nI_m1, nI_1ne, nI_0eq, bI_eq0, bI_ne0, Bool.false_eq_true, pk_sub, z_fit1, Nat.one_ne_zero, f0]
        exact ih (l + 1) (t - 1) D (l + 1) (by omega) hFD hRD d39 dok dt (by omega) ds hr
theorem c_go (hW : Wa a) (hL : Wl a) (hf : Wf a) : ∀ (m i D : Nat), i + m = a 32 16 → m + 7 ≤ D → Go a P dy L ok D i (fun S t => gq a L ok m i S t) := by
  intro m
  induction m with
  | zero =>
    intro i D hi hD A S t nx Q hR h39 hz hl hok ht tb hs hQ
    obtain ⟨e, rfl⟩ : ∃ e, D = e + 7 := ⟨D - 7, by omega⟩
    show X (e + 7) m_X8_goOn 0 [some (.ref 32), some (.int (nI i)), none] [] (GH A P dy) nx 0 0 Q
    have hsc := hR.2.2.2
    have h16 : a 32 16 ≤ 14 := hsc.2.2.2.2.2.1
    have r16 : A 32 16 = nI (a 32 16) := hR.2.1.2.2.2.2.1
    have hi' : i = a 32 16 := by omega
    simp (disch := omega) only [i_X8_goOn_0, i_X8_goOn_1, i_X8_goOn_2, i_X8_goOn_5, i_X8_goOn_8, i_X8_goOn_9, gh_o32, gh_r45, gh_r46, gh_w46, gh_u32, gp_32_39, gp_32_40, gf_32_13, gf_32_16, gf_32_18, gf_32_20, gf_32_39, gf_32_40, z_o_i, z_ai_i, z_si_i, z_ab_b, z_ab_z, z_sb_b, z_sb_z, z_al_i, z_al_b, z_pu_s, z_pu_n, nI_toN, z_inN, true_and, and_true, nI_add, pk_mul, vu_eq, vu_ne, nI_leI, nI_ltI, nI_eqI, nI_eq0, ↓ok_0, ↓ok_1, ↓bI_ok, if_true, if_false, ne_eq, not_true_eq_false, not_false_eq_true, nI_m1, nI_1ne, nI_0eq, bI_eq0, bI_ne0, Bool.false_eq_true, pk_sub, z_fit1, Nat.one_ne_zero, r16, hi']
    exact hQ A Fg.refl (Nat.le_succ 1) (fun _ => hR) (fun z => absurd rfl z) ht tb hs
  | succ m ih =>
    intro i D hi hD A S t nx Q hR h39 hz hl hok ht tb hs hQ
    obtain ⟨e, rfl⟩ : ∃ e, D = e + 7 := ⟨D - 7, by omega⟩
    show X (e + 7) m_X8_goOn 0 [some (.ref 32), some (.int (nI i)), none] [] (GH A P dy) nx 0 0 Q
    have hG := ih (i + 1) (e + 6) (by omega) (by omega)
    have hsc := hR.2.2.2
    have h16 : a 32 16 ≤ 14 := hsc.2.2.2.2.2.1
    have h13 : a 32 13 ≤ 16 := hsc.2.2.2.2.1
    have r16 : A 32 16 = nI (a 32 16) := hR.2.1.2.2.2.2.1
    have r45 : A 45 i = nI (a 45 i) - nI 1 := hR.1.2.2.2.2.2.2.2.2.2.2.2.1 i
    have b45 : a 45 i ≤ 14 := (hR.2.2.1 i).2.2.2.2.2.2.2.2.2.2.2.1
    have ne : ¬ i = a 32 16 := by omega
    have m0 : (nI 0 - nI 1 : Int32) = -1 := by decide
    have r46 := hR.r46 i
    have li := hl i (by omega)
    simp only [gq] at hQ
    by_cases s0 : S i = 0
    · rw [s0, m0] at r46
      simp only [s0, not_true_eq_false, if_false] at hQ
      by_cases g0 : a 45 i = 0
      · simp only [g0, not_true_eq_false, if_false] at hQ
        rw [g0, m0] at r45
        simp (disch := omega) only [i_X8_goOn_0, i_X8_goOn_1, i_X8_goOn_2, i_X8_goOn_5, i_X8_goOn_8, i_X8_goOn_9, i_X8_goOn_10, i_X8_goOn_11, i_X8_goOn_14, i_X8_goOn_15, i_X8_goOn_16, i_X8_goOn_17, i_X8_goOn_44, i_X8_goOn_45, i_X8_goOn_48, i_X8_goOn_49, i_X8_goOn_50, i_X8_goOn_51, i_X8_goOn_100, i_X8_goOn_101, gh_o32, gh_r45, gh_r46, gh_w46, gh_u32, gp_32_39, gp_32_40, gf_32_13, gf_32_16, gf_32_18, gf_32_20, gf_32_39, gf_32_40, z_o_i, z_ai_i, z_si_i, z_ab_b, z_ab_z, z_sb_b, z_sb_z, z_al_i, z_al_b, z_pu_s, z_pu_n, nI_toN, z_inN, true_and, and_true, nI_add, pk_mul, vu_eq, vu_ne, nI_leI, nI_ltI, nI_eqI, nI_eq0, ↓ok_0, ↓ok_1, ↓bI_ok, if_true, if_false, ne_eq, not_true_eq_false, not_false_eq_true, nI_m1, nI_1ne, nI_0eq, bI_eq0, bI_ne0, Bool.false_eq_true, pk_sub, z_fit1, Nat.one_ne_zero, r16, ne, r46, r45]
        refine l_go (S := S) hW hL hf (by omega) hG g0 s0 hz hl (R := gl a L ok (fun S t => gq a L ok m (i + 1) S t) i S (a 32 13) 0 t) hQ (a 32 13) 0 t A 0 (by omega) Fg.refl ?_ h39 hok ht tb hs rfl
        rw [vu_self s0.symm]
        exact hR
      · simp only [g0, not_false_eq_true, if_true] at hQ
        have gi := hf i (by omega)
        rw [pk_sub (by omega)] at r45
        have zg := hz (a 45 i - 1) (by omega)
        have lg := hl (a 45 i - 1) (by omega)
        have r46g : A 46 (a 45 i - 1) = nI (S (a 45 i - 1)) - nI 1 := hR.r46 _
        simp (disch := omega) only [i_X8_goOn_0, i_X8_goOn_1, i_X8_goOn_2, i_X8_goOn_5, i_X8_goOn_8, i_X8_goOn_9, i_X8_goOn_10, i_X8_goOn_11, i_X8_goOn_14, i_X8_goOn_15, i_X8_goOn_16, i_X8_goOn_17, i_X8_goOn_44, i_X8_goOn_45, i_X8_goOn_48, i_X8_goOn_49, i_X8_goOn_50, i_X8_goOn_51, i_X8_goOn_54, i_X8_goOn_55, i_X8_goOn_58, i_X8_goOn_59, i_X8_goOn_60, i_X8_goOn_63, i_X8_goOn_64, i_X8_goOn_67, i_X8_goOn_68, i_X8_goOn_69, i_X8_goOn_70, i_X8_goOn_71, i_X8_goOn_72, i_X8_goOn_73, gh_o32, gh_r45, gh_r46, gh_w46, gh_u32, gp_32_39, gp_32_40, gf_32_13, gf_32_16, gf_32_18, gf_32_20, gf_32_39, gf_32_40, z_o_i, z_ai_i, z_si_i, z_ab_b, z_ab_z, z_sb_b, z_sb_z, z_al_i, z_al_b, z_pu_s, z_pu_n, nI_toN, z_inN, true_and, and_true, nI_add, pk_mul, vu_eq, vu_ne, nI_leI, nI_ltI, nI_eqI, nI_eq0, ↓ok_0, ↓ok_1, ↓bI_ok, if_true, if_false, ne_eq, not_true_eq_false, not_false_eq_true, nI_m1, nI_1ne, nI_0eq, bI_eq0, bI_ne0, Bool.false_eq_true, pk_sub, z_fit1, Nat.one_ne_zero, r16, ne, r46, r45, r46g]
        have hR1 : Rp (va_up a 46 (va_up S i (S (a 45 i - 1)))) (va_up A 46 (va_up (A 46) i (nI (S (a 45 i - 1) - 1)))) :=
          hR.st (vs_rm hR.r46 (by rw [pk_sub (by omega)])) (vs_le hR.sb (Nat.le_trans lg h13))
        have hz1 : ∀ k, k < i → 1 ≤ va_up S i (S (a 45 i - 1)) k := fun k hk => by rw [vu_ne (by omega)]; exact hz k hk
        refine s_go (ok := ok) (G := fun S t => gq a L ok m (i + 1) S t) hW hL hf (by omega) hR1 h39 hz1 (vs_lk hl lg) hok (fun D hD => ?_)
        have fl := fat_le (a := va_up a 46 (va_up S i (S (a 45 i - 1)))) (L := L) (ok := ok) (i := i)
        have hRD : Rp (va_up a 46 (va_up S i (S (a 45 i - 1)))) D := hD.rp hR1
        have hFD : Fg A D := Fg.st.trans hD.fg
        have dt : D 32 39 = nI t := by rw [hD 32 (by omega)]; exact ht
        have ds : D 32 40 = nI 0 := by rw [hD 32 (by omega)]; exact hs
        by_cases f0 : fat (va_up a 46 (va_up S i (S (a 45 i - 1)))) L ok i = 0
        · simp only [f0, if_true] at hQ
          simp (disch := omega) only [i_X8_goOn_76, i_X8_goOn_79, i_X8_goOn_80, i_X8_goOn_81, i_X8_goOn_82, i_X8_goOn_83, gh_o32, gh_r45, gh_r46, gh_w46, gh_u32, gp_32_39, gp_32_40, gf_32_13, gf_32_16, gf_32_18, gf_32_20, gf_32_39, gf_32_40, z_o_i, z_ai_i, z_si_i, z_ab_b, z_ab_z, z_sb_b, z_sb_z, z_al_i, z_al_b, z_pu_s, z_pu_n, nI_toN, z_inN, true_and, and_true, nI_add, pk_mul, vu_eq, vu_ne, nI_leI, nI_ltI, nI_eqI, nI_eq0, ↓ok_0, ↓ok_1, ↓bI_ok, if_true, if_false, ne_eq, not_true_eq_false, not_false_eq_true, nI_m1, nI_1ne, nI_0eq, bI_eq0, bI_ne0, Bool.false_eq_true, pk_sub, z_fit1, Nat.one_ne_zero, f0]
          refine hG D _ t nx _ hRD (by rw [hD 39 (by omega)]; exact h39) (vs_1 hz zg) (vs_lk hl lg) (by rw [hD 62 (by omega)]; exact hok) dt tb ds (fun E hE cb r1 r0 et eb es => ?_)
          have hFE := hFD.trans hE
          by_cases g1 : (gq a L ok m (i + 1) (va_up S i (S (a 45 i - 1))) t).1 = 1
          · simp (disch := omega) only [i_X8_goOn_86, i_X8_goOn_89, i_X8_goOn_90, gh_o32, gh_r45, gh_r46, gh_w46, gh_u32, gp_32_39, gp_32_40, gf_32_13, gf_32_16, gf_32_18, gf_32_20, gf_32_39, gf_32_40, z_o_i, z_ai_i, z_si_i, z_ab_b, z_ab_z, z_sb_b, z_sb_z, z_al_i, z_al_b, z_pu_s, z_pu_n, nI_toN, z_inN, true_and, and_true, nI_add, pk_mul, vu_eq, vu_ne, nI_leI, nI_ltI, nI_eqI, nI_eq0, ↓ok_0, ↓ok_1, ↓bI_ok, if_true, if_false, ne_eq, not_true_eq_false, not_false_eq_true, nI_m1, nI_1ne, nI_0eq, bI_eq0, bI_ne0, Bool.false_eq_true, pk_sub, z_fit1, Nat.one_ne_zero, g1, bI_T]
            have q := hQ E hFE cb r1 (fun z => absurd g1 z) et eb es
            rw [bI_t g1] at q
            exact q
          · have hRE := r0 g1
            simp (disch := omega) only [i_X8_goOn_86, i_X8_goOn_89, i_X8_goOn_90, i_X8_goOn_91, i_X8_goOn_92, i_X8_goOn_95, i_X8_goOn_96, i_X8_goOn_97, i_X8_goOn_98, i_X8_goOn_99, gh_o32, gh_r45, gh_r46, gh_w46, gh_u32, gp_32_39, gp_32_40, gf_32_13, gf_32_16, gf_32_18, gf_32_20, gf_32_39, gf_32_40, z_o_i, z_ai_i, z_si_i, z_ab_b, z_ab_z, z_sb_b, z_sb_z, z_al_i, z_al_b, z_pu_s, z_pu_n, nI_toN, z_inN, true_and, and_true, nI_add, pk_mul, vu_eq, vu_ne, nI_leI, nI_ltI, nI_eqI, nI_eq0, ↓ok_0, ↓ok_1, ↓bI_ok, if_true, if_false, ne_eq, not_true_eq_false, not_false_eq_true, nI_m1, nI_1ne, nI_0eq, bI_eq0, bI_ne0, Bool.false_eq_true, pk_sub, z_fit1, Nat.one_ne_zero, g1, bI_F]
            have q := hQ (va_up E 46 (va_up (E 46) i (-1))) (hFE.trans Fg.st) cb (fun z => absurd z g1) (fun _ => s_goR hRE s0 hl) (by rw [vu_ne (by omega)]; exact et) eb (by rw [vu_ne (by omega)]; exact es)
            rw [bI_f g1] at q
            exact q
        · simp only [f0, if_false] at hQ
          simp (disch := omega) only [i_X8_goOn_76, i_X8_goOn_91, i_X8_goOn_92, i_X8_goOn_95, i_X8_goOn_96, i_X8_goOn_97, i_X8_goOn_98, i_X8_goOn_99, gh_o32, gh_r45, gh_r46, gh_w46, gh_u32, gp_32_39, gp_32_40, gf_32_13, gf_32_16, gf_32_18, gf_32_20, gf_32_39, gf_32_40, z_o_i, z_ai_i, z_si_i, z_ab_b, z_ab_z, z_sb_b, z_sb_z, z_al_i, z_al_b, z_pu_s, z_pu_n, nI_toN, z_inN, true_and, and_true, nI_add, pk_mul, vu_eq, vu_ne, nI_leI, nI_ltI, nI_eqI, nI_eq0, ↓ok_0, ↓ok_1, ↓bI_ok, if_true, if_false, ne_eq, not_true_eq_false, not_false_eq_true, nI_m1, nI_1ne, nI_0eq, bI_eq0, bI_ne0, Bool.false_eq_true, pk_sub, z_fit1, Nat.one_ne_zero, f0]
          have q := hQ (va_up D 46 (va_up (D 46) i (-1))) (hFD.trans Fg.st) (by omega) (fun z => absurd z (by omega)) (fun _ => s_goR hRD s0 hl) (by rw [vu_ne (by omega)]; exact dt) tb (by rw [vu_ne (by omega), bI_f (by omega)]; exact ds)
          rw [bI_f (by omega)] at q
          exact q
    · simp only [s0, not_false_eq_true, if_true] at hQ
      rw [pk_sub (by omega)] at r46
      simp (disch := omega) only [i_X8_goOn_0, i_X8_goOn_1, i_X8_goOn_2, i_X8_goOn_5, i_X8_goOn_8, i_X8_goOn_9, i_X8_goOn_10, i_X8_goOn_11, i_X8_goOn_14, i_X8_goOn_15, i_X8_goOn_16, i_X8_goOn_17, i_X8_goOn_20, i_X8_goOn_21, i_X8_goOn_22, gh_o32, gh_r45, gh_r46, gh_w46, gh_u32, gp_32_39, gp_32_40, gf_32_13, gf_32_16, gf_32_18, gf_32_20, gf_32_39, gf_32_40, z_o_i, z_ai_i, z_si_i, z_ab_b, z_ab_z, z_sb_b, z_sb_z, z_al_i, z_al_b, z_pu_s, z_pu_n, nI_toN, z_inN, true_and, and_true, nI_add, pk_mul, vu_eq, vu_ne, nI_leI, nI_ltI, nI_eqI, nI_eq0, ↓ok_0, ↓ok_1, ↓bI_ok, if_true, if_false, ne_eq, not_true_eq_false, not_false_eq_true, nI_m1, nI_1ne, nI_0eq, bI_eq0, bI_ne0, Bool.false_eq_true, pk_sub, z_fit1, Nat.one_ne_zero, r16, ne, r46]
      refine s_go (ok := ok) (G := fun S t => gq a L ok m (i + 1) S t) hW hL hf (by omega) hR h39 hz hl hok (fun D hD => ?_)
      have fl := fat_le (a := va_up a 46 S) (L := L) (ok := ok) (i := i)
      have hRD : Rp (va_up a 46 S) D := hD.rp hR
      have dt : D 32 39 = nI t := by rw [hD 32 (by omega)]; exact ht
      have ds : D 32 40 = nI 0 := by rw [hD 32 (by omega)]; exact hs
      by_cases f0 : fat (va_up a 46 S) L ok i = 0
      · simp only [f0, if_true] at hQ
        simp (disch := omega) only [i_X8_goOn_25, i_X8_goOn_28, i_X8_goOn_29, i_X8_goOn_30, i_X8_goOn_31, i_X8_goOn_32, gh_o32, gh_r45, gh_r46, gh_w46, gh_u32, gp_32_39, gp_32_40, gf_32_13, gf_32_16, gf_32_18, gf_32_20, gf_32_39, gf_32_40, z_o_i, z_ai_i, z_si_i, z_ab_b, z_ab_z, z_sb_b, z_sb_z, z_al_i, z_al_b, z_pu_s, z_pu_n, nI_toN, z_inN, true_and, and_true, nI_add, pk_mul, vu_eq, vu_ne, nI_leI, nI_ltI, nI_eqI, nI_eq0, ↓ok_0, ↓ok_1, ↓bI_ok, if_true, if_false, ne_eq, not_true_eq_false, not_false_eq_true, nI_m1, nI_1ne, nI_0eq, bI_eq0, bI_ne0, Bool.false_eq_true, pk_sub, z_fit1, Nat.one_ne_zero, f0]
        refine hG D S t nx _ hRD (by rw [hD 39 (by omega)]; exact h39) (fun k hk => by
          rcases Nat.lt_or_ge k i with y | y
          · exact hz k y
          · rw [show k = i by omega]; omega) hl (by rw [hD 62 (by omega)]; exact hok) dt tb ds (fun E hE cb r1 r0 et eb es => ?_)
        have q := hQ E (hD.fg.trans hE) cb r1 r0 et eb es
        by_cases g1 : (gq a L ok m (i + 1) S t).1 = 1
        · simp (disch := omega) only [i_X8_goOn_35, i_X8_goOn_38, i_X8_goOn_39, i_X8_goOn_42, i_X8_goOn_43, gh_o32, gh_r45, gh_r46, gh_w46, gh_u32, gp_32_39, gp_32_40, gf_32_13, gf_32_16, gf_32_18, gf_32_20, gf_32_39, gf_32_40, z_o_i, z_ai_i, z_si_i, z_ab_b, z_ab_z, z_sb_b, z_sb_z, z_al_i, z_al_b, z_pu_s, z_pu_n, nI_toN, z_inN, true_and, and_true, nI_add, pk_mul, vu_eq, vu_ne, nI_leI, nI_ltI, nI_eqI, nI_eq0, ↓ok_0, ↓ok_1, ↓bI_ok, if_true, if_false, ne_eq, not_true_eq_false, not_false_eq_true, nI_m1, nI_1ne, nI_0eq, bI_eq0, bI_ne0, Bool.false_eq_true, pk_sub, z_fit1, Nat.one_ne_zero, g1, bI_T]
          rw [bI_t g1] at q
          exact q
        · simp (disch := omega) only [i_X8_goOn_35, i_X8_goOn_38, i_X8_goOn_39, i_X8_goOn_42, i_X8_goOn_43, gh_o32, gh_r45, gh_r46, gh_w46, gh_u32, gp_32_39, gp_32_40, gf_32_13, gf_32_16, gf_32_18, gf_32_20, gf_32_39, gf_32_40, z_o_i, z_ai_i, z_si_i, z_ab_b, z_ab_z, z_sb_b, z_sb_z, z_al_i, z_al_b, z_pu_s, z_pu_n, nI_toN, z_inN, true_and, and_true, nI_add, pk_mul, vu_eq, vu_ne, nI_leI, nI_ltI, nI_eqI, nI_eq0, ↓ok_0, ↓ok_1, ↓bI_ok, if_true, if_false, ne_eq, not_true_eq_false, not_false_eq_true, nI_m1, nI_1ne, nI_0eq, bI_eq0, bI_ne0, Bool.false_eq_true, pk_sub, z_fit1, Nat.one_ne_zero, g1, bI_F]
          rw [bI_f g1] at q
          exact q
      · simp only [f0, if_false] at hQ
        simp (disch := omega) only [i_X8_goOn_25, i_X8_goOn_42, i_X8_goOn_43, gh_o32, gh_r45, gh_r46, gh_w46, gh_u32, gp_32_39, gp_32_40, gf_32_13, gf_32_16, gf_32_18, gf_32_20, gf_32_39, gf_32_40, z_o_i, z_ai_i, z_si_i, z_ab_b, z_ab_z, z_sb_b, z_sb_z, z_al_i, z_al_b, z_pu_s, z_pu_n, nI_toN, z_inN, true_and, and_true, nI_add, pk_mul, vu_eq, vu_ne, nI_leI, nI_ltI, nI_eqI, nI_eq0, ↓ok_0, ↓ok_1, ↓bI_ok, if_true, if_false, ne_eq, not_true_eq_false, not_false_eq_true, nI_m1, nI_1ne, nI_0eq, bI_eq0, bI_ne0, Bool.false_eq_true, pk_sub, z_fit1, Nat.one_ne_zero, f0]
        have q := hQ D hD.fg (by omega) (fun z => absurd z (by omega)) (fun _ => hRD) dt tb (by rw [bI_f (by omega)]; exact ds)
        rw [bI_f (by omega)] at q
        exact q
end MGo
