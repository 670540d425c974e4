/-! THE MODEL: rows of good sayings; doRhyme -/
def Gd (a : Nat → Nat → Nat) (s : Nat) : Prop := ∃ i, i < a 35 s ∧ a 36 (12 * s + i) < 10
def Sp (a : Nat → Nat → Nat) : Prop := ∀ x, x < 40 → (a 40 x < 10 ↔ x < 10)
theorem bt_v {f g : Nat → Nat} : ∀ (n b : Nat), bt f g n = some b → f b < 10 := by
  intro n
  induction n with
  | zero => intro b h; simp [bt] at h
  | succ n ih =>
    intro b h
    rw [bt] at h
    cases e : bt f g n with
    | none =>
      rw [e] at h
      by_cases q : f n < 10
      · simp only [q, if_true, Option.some.injEq] at h; rw [← h]; exact q
      · simp [q] at h
    | some c =>
      rw [e] at h
      by_cases q : f n < 10 ∧ g c ≤ g n
      · simp only [q, and_self, if_true, Option.some.injEq] at h; rw [← h]; exact q.1
      · simp only [q, if_false, Option.some.injEq] at h; rw [← h]; exact ih c e
theorem bt_some {f g : Nat → Nat} : ∀ (n : Nat), (∃ i, i < n ∧ f i < 10) → ∃ b, bt f g n = some b := by
  intro n
  induction n with
  | zero => rintro ⟨i, h, _⟩; omega
  | succ n ih =>
    rintro ⟨i, h, hv⟩
    rw [bt]
    cases e : bt f g n with
    | none =>
      by_cases q : f n < 10
      · exact ⟨n, by simp [q]⟩
      · exfalso
        have : i < n := by
          rcases Nat.lt_or_ge i n with z | z
          · exact z
          · exact absurd hv (by rw [show i = n by omega]; exact q)
        obtain ⟨b, hb⟩ := ih ⟨i, this, hv⟩
        rw [e] at hb
        cases hb
    | some c =>
      by_cases q : f n < 10 ∧ g c ≤ g n
      · exact ⟨n, by simp [q]⟩
      · exact ⟨c, by simp [q]⟩
def lvw (f : Nat → Nat) : Nat → Nat
  | 0 => 0
  | n + 1 => if f n < 10 then n else lvw f n
theorem lvw_sp {f : Nat → Nat} : ∀ (n : Nat), (∃ i, i < n ∧ f i < 10) → Lv f n (lvw f n) := by
  intro n
  induction n with
  | zero => rintro ⟨i, h, _⟩; omega
  | succ n ih =>
    rintro ⟨i, h, hv⟩
    rw [lvw]
    by_cases q : f n < 10
    · rw [if_pos q]
      exact ⟨by omega, q, fun j h1 h2 => by omega⟩
    · rw [if_neg q]
      have : i < n := by
        rcases Nat.lt_or_ge i n with z | z
        · exact z
        · exact absurd hv (by rw [show i = n by omega]; exact q)
      obtain ⟨p1, p2, p3⟩ := ih ⟨i, this, hv⟩
      refine ⟨by omega, p2, fun j h1 h2 => ?_⟩
      rcases Nat.lt_or_ge j n with z | z
      · exact p3 j h1 z
      · rw [show j = n by omega]; exact q
/-- the tail of a saying -/
def tl (a : Nat → Nat → Nat) (s : Nat) : Nat := (bt (hs a s) (ss a s) (a 35 s)).getD 0
theorem gd_hs {a : Nat → Nat → Nat} {s : Nat} (g : Gd a s) (hp : Sp a) (hb : ∀ i, a 36 i < 40) : ∃ i, i < a 35 s ∧ hs a s i < 10 := by
  obtain ⟨i, h, hv⟩ := g
  exact ⟨i, h, (hp _ (hb _)).mpr hv⟩
theorem gd_tl {a : Nat → Nat → Nat} {s : Nat} (g : Gd a s) (hp : Sp a) (hb : ∀ i, a 36 i < 40) : bt (hs a s) (ss a s) (a 35 s) = some (tl a s) ∧ tl a s < a 35 s ∧ hs a s (tl a s) < 10 := by
  obtain ⟨b, e⟩ := bt_some (g := ss a s) _ (gd_hs g hp hb)
  have q : tl a s = b := by simp only [tl, e, Option.getD_some]
  rw [q]
  exact ⟨e, bt_lt e, bt_v _ _ e⟩
theorem Rw2_of {a : Nat → Nat → Nat} {A : Nat → Nat → Int32} {s0 s1 : Nat} (hR : Rp a A) (hp : Sp a) (h0 : Row a A 0 s0) (h1 : Row a A 1 s1) (g0 : Gd a s0) (g1 : Gd a s1) : Rw2 A (a 35 s0) (tl a s0) (hs a s0) (a 35 s1) (tl a s1) (hs a s1) := by
  have hb := hR.2.2.1
  have h36 : ∀ i, a 36 i < 40 := fun i => (hb i).2.2.2.1
  obtain ⟨p1, p2, p3⟩ := gd_tl g0 hp h36
  obtain ⟨r1, r2, r3⟩ := gd_tl g1 hp h36
  obtain ⟨u1, u2, u3, u4⟩ := h0
  obtain ⟨w1, w2, w3, w4⟩ := h1
  have y0 := (hb s0).2.2.1
  have y1 := (hb s1).2.2.1
  rw [p1] at u4
  rw [r1] at w4
  refine ⟨⟨u1, w1, u4, w4⟩, ⟨p2, by omega, r2, by omega⟩, fun i q => ?_, fun i q => w2 i q, fun i => (hb _).2.2.2.2.2.1, fun i => (hb _).2.2.2.2.2.1⟩
  have := u2 i q
  rw [show 24 * 0 + i = i by omega] at this
  exact this
/-- whether two rows rhyme by a kind -/
def rq (kind near n0 t0 e0 : Nat) (f0 : Nat → Nat) (n1 t1 e1 : Nat) (f1 : Nat → Nat) : Bool :=
  if kind = 0 then taq n0 t0 f0 n1 t1 f1 && !ahq t0 f0 t1 f1
  else if kind = 1 then taq n0 t0 f0 n1 t1 f1 && ahq t0 f0 t1 f1
  else if kind = 2 then decide (vl f0 (n0 - t0) t0 = vl f1 (n1 - t1) t1)
  else if kind = 3 then enq n0 e0 f0 n1 e1 f1
  else if kind = 4 then decide (dC (fun i => f0 (t0 + i)) (fun j => f1 (t1 + j)) (n0 - t0) (n1 - t1) ≤ near)
  else taq n0 t0 f0 n1 t1 f1
section MDo
variable {a : Nat → Nat → Nat} {A : Nat → Nat → Int32} {P : Nat → Nat → Nat} {dy : z_H} {d nx bc bs : Nat} {Q : z_Q} {n0 t0 n1 t1 : Nat} {f0 f1 : Nat → Nat}
theorem c_doRhyme {kind near e0 e1 : Nat} (hW : Rw2 A n0 t0 f0 n1 t1 f1) (v0 : f0 t0 < 10) (v1 : f1 t1 < 10) (l0 : Lv f0 n0 e0) (l1 : Lv f1 n1 e1) (hk : kind ≤ 6) (hnr : A 32 10 = nI near) (bn : near ≤ 100) (hQ : ∀ T : Nat → Int32, Q (some (.int (bI (rq kind near n0 t0 e0 f0 n1 t1 e1 f1 = true)))) (GH (va_up A 51 T) P dy) nx) : XC (d + 3) m_X8_doRhyme [.ref 32, .int (nI kind)] (GH A P dy) nx Q := by
  show X (d + 3) m_X8_doRhyme 0 [some (.ref 32), some (.int (nI kind))] [] (GH A P dy) nx 0 0 Q
  have hQ' := hQ (A 51)
  rw [vu_self rfl] at hQ'
  rw [i_X8_doRhyme_0]
  by_cases k0 : kind = 0
  · subst k0
    simp (disch := omega) only [i_X8_doRhyme_1_0, i_X8_doRhyme_1_1, i_X8_doRhyme_1_2, i_X8_doRhyme_1_3, i_X8_doRhyme_1_4, i_X8_doRhyme_36, i_X8_doRhyme_37, gh_o32, gh_r47, gh_r49, gh_r50, gh_r51, gh_w51, gf_32_10, gf_32_21, gf_32_23, gf_32_24, gf_32_25, z_o_i, z_ai_i, z_si_i, z_ab_b, z_ab_z, z_sb_b, z_sb_z, z_al_i, z_al_b, z_pu_s, z_pu_n, nI_toN, z_inN, true_and, and_true, nI_add, pk_mul, vu_eq, vu_ne, nI_leI, nI_ltI, nI_eqI, nI_eq0, ↓ok_0, ↓ok_1, bI_eq0, bI_ne0, ↓bI_ok, Nat.one_ne_zero, c_isVowel, if_true, if_false, ne_eq, not_true_eq_false, not_false_eq_true, nI_1ne, nI_0eq, nI_le0, pk_sub, bI_T, bI_F, Nat.zero_ne_one, Bool.false_eq_true]
    refine c_areTailsAlike hW ?_
    by_cases h : taq n0 t0 f0 n1 t1 f1 = true
    · simp (disch := omega) only [i_X8_doRhyme_40, i_X8_doRhyme_43, i_X8_doRhyme_44, gh_o32, gh_r47, gh_r49, gh_r50, gh_r51, gh_w51, gf_32_10, gf_32_21, gf_32_23, gf_32_24, gf_32_25, z_o_i, z_ai_i, z_si_i, z_ab_b, z_ab_z, z_sb_b, z_sb_z, z_al_i, z_al_b, z_pu_s, z_pu_n, nI_toN, z_inN, true_and, and_true, nI_add, pk_mul, vu_eq, vu_ne, nI_leI, nI_ltI, nI_eqI, nI_eq0, ↓ok_0, ↓ok_1, bI_eq0, bI_ne0, ↓bI_ok, Nat.one_ne_zero, c_isVowel, if_true, if_false, ne_eq, not_true_eq_false, not_false_eq_true, nI_1ne, nI_0eq, nI_le0, pk_sub, bI_T, bI_F, Nat.zero_ne_one, Bool.false_eq_true, h]
      refine c_areAheadAlike hW ?_
      by_cases h2 : ahq t0 f0 t1 f1 = true
      · rw [bI_f (by simp [rq, h, h2])] at hQ'
        simp (disch := omega) only [i_X8_doRhyme_47, i_X8_doRhyme_50, i_X8_doRhyme_51, i_X8_doRhyme_54, i_X8_doRhyme_55, gh_o32, gh_r47, gh_r49, gh_r50, gh_r51, gh_w51, gf_32_10, gf_32_21, gf_32_23, gf_32_24, gf_32_25, z_o_i, z_ai_i, z_si_i, z_ab_b, z_ab_z, z_sb_b, z_sb_z, z_al_i, z_al_b, z_pu_s, z_pu_n, nI_toN, z_inN, true_and, and_true, nI_add, pk_mul, vu_eq, vu_ne, nI_leI, nI_ltI, nI_eqI, nI_eq0, ↓ok_0, ↓ok_1, bI_eq0, bI_ne0, ↓bI_ok, Nat.one_ne_zero, c_isVowel, if_true, if_false, ne_eq, not_true_eq_false, not_false_eq_true, nI_1ne, nI_0eq, nI_le0, pk_sub, bI_T, bI_F, Nat.zero_ne_one, Bool.false_eq_true, h2]
        exact hQ'
      · rw [bI_t (by simp [rq, h, h2])] at hQ'
        simp (disch := omega) only [i_X8_doRhyme_47, i_X8_doRhyme_50, i_X8_doRhyme_51, i_X8_doRhyme_54, i_X8_doRhyme_55, gh_o32, gh_r47, gh_r49, gh_r50, gh_r51, gh_w51, gf_32_10, gf_32_21, gf_32_23, gf_32_24, gf_32_25, z_o_i, z_ai_i, z_si_i, z_ab_b, z_ab_z, z_sb_b, z_sb_z, z_al_i, z_al_b, z_pu_s, z_pu_n, nI_toN, z_inN, true_and, and_true, nI_add, pk_mul, vu_eq, vu_ne, nI_leI, nI_ltI, nI_eqI, nI_eq0, ↓ok_0, ↓ok_1, bI_eq0, bI_ne0, ↓bI_ok, Nat.one_ne_zero, c_isVowel, if_true, if_false, ne_eq, not_true_eq_false, not_false_eq_true, nI_1ne, nI_0eq, nI_le0, pk_sub, bI_T, bI_F, Nat.zero_ne_one, Bool.false_eq_true, h2]
        exact hQ'
    · rw [bI_f (by simp [rq, h])] at hQ'
      simp (disch := omega) only [i_X8_doRhyme_40, i_X8_doRhyme_54, i_X8_doRhyme_55, gh_o32, gh_r47, gh_r49, gh_r50, gh_r51, gh_w51, gf_32_10, gf_32_21, gf_32_23, gf_32_24, gf_32_25, z_o_i, z_ai_i, z_si_i, z_ab_b, z_ab_z, z_sb_b, z_sb_z, z_al_i, z_al_b, z_pu_s, z_pu_n, nI_toN, z_inN, true_and, and_true, nI_add, pk_mul, vu_eq, vu_ne, nI_leI, nI_ltI, nI_eqI, nI_eq0, ↓ok_0, ↓ok_1, bI_eq0, bI_ne0, ↓bI_ok, Nat.one_ne_zero, c_isVowel, if_true, if_false, ne_eq, not_true_eq_false, not_false_eq_true, nI_1ne, nI_0eq, nI_le0, pk_sub, bI_T, bI_F, Nat.zero_ne_one, Bool.false_eq_true, h]
      exact hQ'
  · by_cases k1 : kind = 1
    · subst k1
      simp (disch := omega) only [i_X8_doRhyme_1_0, i_X8_doRhyme_1_1, i_X8_doRhyme_1_2, i_X8_doRhyme_1_3, i_X8_doRhyme_1_4, i_X8_doRhyme_56, i_X8_doRhyme_57, gh_o32, gh_r47, gh_r49, gh_r50, gh_r51, gh_w51, gf_32_10, gf_32_21, gf_32_23, gf_32_24, gf_32_25, z_o_i, z_ai_i, z_si_i, z_ab_b, z_ab_z, z_sb_b, z_sb_z, z_al_i, z_al_b, z_pu_s, z_pu_n, nI_toN, z_inN, true_and, and_true, nI_add, pk_mul, vu_eq, vu_ne, nI_leI, nI_ltI, nI_eqI, nI_eq0, ↓ok_0, ↓ok_1, bI_eq0, bI_ne0, ↓bI_ok, Nat.one_ne_zero, c_isVowel, if_true, if_false, ne_eq, not_true_eq_false, not_false_eq_true, nI_1ne, nI_0eq, nI_le0, pk_sub, bI_T, bI_F, Nat.zero_ne_one, Bool.false_eq_true]
      refine c_areTailsAlike hW ?_
      by_cases h : taq n0 t0 f0 n1 t1 f1 = true
      · simp (disch := omega) only [i_X8_doRhyme_60, i_X8_doRhyme_63, i_X8_doRhyme_64, gh_o32, gh_r47, gh_r49, gh_r50, gh_r51, gh_w51, gf_32_10, gf_32_21, gf_32_23, gf_32_24, gf_32_25, z_o_i, z_ai_i, z_si_i, z_ab_b, z_ab_z, z_sb_b, z_sb_z, z_al_i, z_al_b, z_pu_s, z_pu_n, nI_toN, z_inN, true_and, and_true, nI_add, pk_mul, vu_eq, vu_ne, nI_leI, nI_ltI, nI_eqI, nI_eq0, ↓ok_0, ↓ok_1, bI_eq0, bI_ne0, ↓bI_ok, Nat.one_ne_zero, c_isVowel, if_true, if_false, ne_eq, not_true_eq_false, not_false_eq_true, nI_1ne, nI_0eq, nI_le0, pk_sub, bI_T, bI_F, Nat.zero_ne_one, Bool.false_eq_true, h]
        refine c_areAheadAlike hW ?_
        by_cases h2 : ahq t0 f0 t1 f1 = true
        · rw [bI_t (by simp [rq, h, h2])] at hQ'
          simp (disch := omega) only [i_X8_doRhyme_67, i_X8_doRhyme_70, i_X8_doRhyme_71, i_X8_doRhyme_74, i_X8_doRhyme_75, gh_o32, gh_r47, gh_r49, gh_r50, gh_r51, gh_w51, gf_32_10, gf_32_21, gf_32_23, gf_32_24, gf_32_25, z_o_i, z_ai_i, z_si_i, z_ab_b, z_ab_z, z_sb_b, z_sb_z, z_al_i, z_al_b, z_pu_s, z_pu_n, nI_toN, z_inN, true_and, and_true, nI_add, pk_mul, vu_eq, vu_ne, nI_leI, nI_ltI, nI_eqI, nI_eq0, ↓ok_0, ↓ok_1, bI_eq0, bI_ne0, ↓bI_ok, Nat.one_ne_zero, c_isVowel, if_true, if_false, ne_eq, not_true_eq_false, not_false_eq_true, nI_1ne, nI_0eq, nI_le0, pk_sub, bI_T, bI_F, Nat.zero_ne_one, Bool.false_eq_true, h2]
          exact hQ'
        · rw [bI_f (by simp [rq, h2])] at hQ'
          simp (disch := omega) only [i_X8_doRhyme_67, i_X8_doRhyme_70, i_X8_doRhyme_71, i_X8_doRhyme_74, i_X8_doRhyme_75, gh_o32, gh_r47, gh_r49, gh_r50, gh_r51, gh_w51, gf_32_10, gf_32_21, gf_32_23, gf_32_24, gf_32_25, z_o_i, z_ai_i, z_si_i, z_ab_b, z_ab_z, z_sb_b, z_sb_z, z_al_i, z_al_b, z_pu_s, z_pu_n, nI_toN, z_inN, true_and, and_true, nI_add, pk_mul, vu_eq, vu_ne, nI_leI, nI_ltI, nI_eqI, nI_eq0, ↓ok_0, ↓ok_1, bI_eq0, bI_ne0, ↓bI_ok, Nat.one_ne_zero, c_isVowel, if_true, if_false, ne_eq, not_true_eq_false, not_false_eq_true, nI_1ne, nI_0eq, nI_le0, pk_sub, bI_T, bI_F, Nat.zero_ne_one, Bool.false_eq_true, h2]
          exact hQ'
      · rw [bI_f (by simp [rq, h])] at hQ'
        simp (disch := omega) only [i_X8_doRhyme_60, i_X8_doRhyme_74, i_X8_doRhyme_75, gh_o32, gh_r47, gh_r49, gh_r50, gh_r51, gh_w51, gf_32_10, gf_32_21, gf_32_23, gf_32_24, gf_32_25, z_o_i, z_ai_i, z_si_i, z_ab_b, z_ab_z, z_sb_b, z_sb_z, z_al_i, z_al_b, z_pu_s, z_pu_n, nI_toN, z_inN, true_and, and_true, nI_add, pk_mul, vu_eq, vu_ne, nI_leI, nI_ltI, nI_eqI, nI_eq0, ↓ok_0, ↓ok_1, bI_eq0, bI_ne0, ↓bI_ok, Nat.one_ne_zero, c_isVowel, if_true, if_false, ne_eq, not_true_eq_false, not_false_eq_true, nI_1ne, nI_0eq, nI_le0, pk_sub, bI_T, bI_F, Nat.zero_ne_one, Bool.false_eq_true, h]
        exact hQ'
    · by_cases k2 : kind = 2
      · subst k2
        simp (disch := omega) only [i_X8_doRhyme_1_0, i_X8_doRhyme_1_1, i_X8_doRhyme_1_2, i_X8_doRhyme_1_3, i_X8_doRhyme_1_4, i_X8_doRhyme_76, i_X8_doRhyme_77, i_X8_doRhyme_80, gh_o32, gh_r47, gh_r49, gh_r50, gh_r51, gh_w51, gf_32_10, gf_32_21, gf_32_23, gf_32_24, gf_32_25, z_o_i, z_ai_i, z_si_i, z_ab_b, z_ab_z, z_sb_b, z_sb_z, z_al_i, z_al_b, z_pu_s, z_pu_n, nI_toN, z_inN, true_and, and_true, nI_add, pk_mul, vu_eq, vu_ne, nI_leI, nI_ltI, nI_eqI, nI_eq0, ↓ok_0, ↓ok_1, bI_eq0, bI_ne0, ↓bI_ok, Nat.one_ne_zero, c_isVowel, if_true, if_false, ne_eq, not_true_eq_false, not_false_eq_true, nI_1ne, nI_0eq, nI_le0, pk_sub, bI_T, bI_F, Nat.zero_ne_one, Bool.false_eq_true, c_areVowelsAlike hW v0 v1]
        simpa [rq] using hQ'
      · by_cases k3 : kind = 3
        · subst k3
          simp (disch := omega) only [i_X8_doRhyme_1_0, i_X8_doRhyme_1_1, i_X8_doRhyme_1_2, i_X8_doRhyme_1_3, i_X8_doRhyme_1_4, i_X8_doRhyme_81, i_X8_doRhyme_82, i_X8_doRhyme_85, gh_o32, gh_r47, gh_r49, gh_r50, gh_r51, gh_w51, gf_32_10, gf_32_21, gf_32_23, gf_32_24, gf_32_25, z_o_i, z_ai_i, z_si_i, z_ab_b, z_ab_z, z_sb_b, z_sb_z, z_al_i, z_al_b, z_pu_s, z_pu_n, nI_toN, z_inN, true_and, and_true, nI_add, pk_mul, vu_eq, vu_ne, nI_leI, nI_ltI, nI_eqI, nI_eq0, ↓ok_0, ↓ok_1, bI_eq0, bI_ne0, ↓bI_ok, Nat.one_ne_zero, c_isVowel, if_true, if_false, ne_eq, not_true_eq_false, not_false_eq_true, nI_1ne, nI_0eq, nI_le0, pk_sub, bI_T, bI_F, Nat.zero_ne_one, Bool.false_eq_true, c_areEndsAlike hW l0 l1]
          simpa [rq] using hQ'
        · by_cases k4 : kind = 4
          · subst k4
            simp (disch := omega) only [i_X8_doRhyme_1_0, i_X8_doRhyme_1_1, i_X8_doRhyme_1_2, i_X8_doRhyme_1_3, i_X8_doRhyme_1_4, i_X8_doRhyme_86, i_X8_doRhyme_87, gh_o32, gh_r47, gh_r49, gh_r50, gh_r51, gh_w51, gf_32_10, gf_32_21, gf_32_23, gf_32_24, gf_32_25, z_o_i, z_ai_i, z_si_i, z_ab_b, z_ab_z, z_sb_b, z_sb_z, z_al_i, z_al_b, z_pu_s, z_pu_n, nI_toN, z_inN, true_and, and_true, nI_add, pk_mul, vu_eq, vu_ne, nI_leI, nI_ltI, nI_eqI, nI_eq0, ↓ok_0, ↓ok_1, bI_eq0, bI_ne0, ↓bI_ok, Nat.one_ne_zero, c_isVowel, if_true, if_false, ne_eq, not_true_eq_false, not_false_eq_true, nI_1ne, nI_0eq, nI_le0, pk_sub, bI_T, bI_F, Nat.zero_ne_one, Bool.false_eq_true]
            refine c_costOfTails hW (fun T => ?_)
            have q := hQ T
            have e : va_up A 51 T 32 10 = nI near := hnr
            have bd := dC_le (fun i => f0 (t0 + i)) (fun j => f1 (t1 + j)) (n0 - t0) (n1 - t1)
            have bW := hW.2.1
            by_cases c : near < dC (fun i => f0 (t0 + i)) (fun j => f1 (t1 + j)) (n0 - t0) (n1 - t1)
            · rw [bI_f (by simp [rq]; omega)] at q
              simp (disch := omega) only [i_X8_doRhyme_90, i_X8_doRhyme_91, i_X8_doRhyme_94, i_X8_doRhyme_97, i_X8_doRhyme_98, i_X8_doRhyme_101, i_X8_doRhyme_102, gh_o32, gh_r47, gh_r49, gh_r50, gh_r51, gh_w51, gf_32_10, gf_32_21, gf_32_23, gf_32_24, gf_32_25, z_o_i, z_ai_i, z_si_i, z_ab_b, z_ab_z, z_sb_b, z_sb_z, z_al_i, z_al_b, z_pu_s, z_pu_n, nI_toN, z_inN, true_and, and_true, nI_add, pk_mul, vu_eq, vu_ne, nI_leI, nI_ltI, nI_eqI, nI_eq0, ↓ok_0, ↓ok_1, bI_eq0, bI_ne0, ↓bI_ok, Nat.one_ne_zero, c_isVowel, if_true, if_false, ne_eq, not_true_eq_false, not_false_eq_true, nI_1ne, nI_0eq, nI_le0, pk_sub, bI_T, bI_F, Nat.zero_ne_one, Bool.false_eq_true, e, hnr, c]
              exact q
            · rw [bI_t (by simp [rq]; omega)] at q
              simp (disch := omega) only [i_X8_doRhyme_90, i_X8_doRhyme_91, i_X8_doRhyme_94, i_X8_doRhyme_97, i_X8_doRhyme_98, i_X8_doRhyme_101, i_X8_doRhyme_102, gh_o32, gh_r47, gh_r49, gh_r50, gh_r51, gh_w51, gf_32_10, gf_32_21, gf_32_23, gf_32_24, gf_32_25, z_o_i, z_ai_i, z_si_i, z_ab_b, z_ab_z, z_sb_b, z_sb_z, z_al_i, z_al_b, z_pu_s, z_pu_n, nI_toN, z_inN, true_and, and_true, nI_add, pk_mul, vu_eq, vu_ne, nI_leI, nI_ltI, nI_eqI, nI_eq0, ↓ok_0, ↓ok_1, bI_eq0, bI_ne0, ↓bI_ok, Nat.one_ne_zero, c_isVowel, if_true, if_false, ne_eq, not_true_eq_false, not_false_eq_true, nI_1ne, nI_0eq, nI_le0, pk_sub, bI_T, bI_F, Nat.zero_ne_one, Bool.false_eq_true, e, hnr, c]
              exact q
          · have e : rq kind near n0 t0 e0 f0 n1 t1 e1 f1 = taq n0 t0 f0 n1 t1 f1 := by simp only [rq, k0, k1, k2, k3, k4, if_false]
            rw [i_X8_doRhyme_1_out (by
              have : kind = 5 ∨ kind = 6 := by omega
              rcases this with rfl | rfl <;> decide)]
            simp (disch := omega) only [i_X8_doRhyme_103, i_X8_doRhyme_104, gh_o32, gh_r47, gh_r49, gh_r50, gh_r51, gh_w51, gf_32_10, gf_32_21, gf_32_23, gf_32_24, gf_32_25, z_o_i, z_ai_i, z_si_i, z_ab_b, z_ab_z, z_sb_b, z_sb_z, z_al_i, z_al_b, z_pu_s, z_pu_n, nI_toN, z_inN, true_and, and_true, nI_add, pk_mul, vu_eq, vu_ne, nI_leI, nI_ltI, nI_eqI, nI_eq0, ↓ok_0, ↓ok_1, bI_eq0, bI_ne0, ↓bI_ok, Nat.one_ne_zero, c_isVowel, if_true, if_false, ne_eq, not_true_eq_false, not_false_eq_true, nI_1ne, nI_0eq, nI_le0, pk_sub, bI_T, bI_F, Nat.zero_ne_one, Bool.false_eq_true]
            refine c_areTailsAlike hW ?_
            simp (disch := omega) only [i_X8_doRhyme_107, gh_o32, gh_r47, gh_r49, gh_r50, gh_r51, gh_w51, gf_32_10, gf_32_21, gf_32_23, gf_32_24, gf_32_25, z_o_i, z_ai_i, z_si_i, z_ab_b, z_ab_z, z_sb_b, z_sb_z, z_al_i, z_al_b, z_pu_s, z_pu_n, nI_toN, z_inN, true_and, and_true, nI_add, pk_mul, vu_eq, vu_ne, nI_leI, nI_ltI, nI_eqI, nI_eq0, ↓ok_0, ↓ok_1, bI_eq0, bI_ne0, ↓bI_ok, Nat.one_ne_zero, c_isVowel, if_true, if_false, ne_eq, not_true_eq_false, not_false_eq_true, nI_1ne, nI_0eq, nI_le0, pk_sub, bI_T, bI_F, Nat.zero_ne_one, Bool.false_eq_true]
            rw [e] at hQ'
            exact hQ'
end MDo
