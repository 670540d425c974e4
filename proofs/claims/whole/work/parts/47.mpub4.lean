/-! THE MODEL'S CALLS: rhymes, broken -/
theorem fi_some {P : Nat → Bool} : ∀ (m j : Nat), fi P m j ≠ none ↔ ∃ k, j ≤ k ∧ k < j + m ∧ P k = true := by
  intro m
  induction m with
  | zero => intro j; exact ⟨fun h => absurd rfl h, fun ⟨k, h1, h2, _⟩ => by omega⟩
  | succ m ih =>
    intro j
    rw [fi]
    by_cases e : P j = true
    · rw [if_pos e]
      exact ⟨fun _ => ⟨j, by omega, by omega, e⟩, fun _ q => by cases q⟩
    · rw [if_neg e, ih]
      constructor
      · rintro ⟨k, h1, h2, h3⟩; exact ⟨k, by omega, by omega, h3⟩
      · rintro ⟨k, h1, h2, h3⟩
        have : k ≠ j := fun q => e (q ▸ h3)
        exact ⟨k, by omega, by omega, h3⟩
theorem fo_some {P : Nat → Nat → Bool} {n : Nat} : ∀ (m i : Nat), fo P n m i ≠ none ↔ ∃ p q, i ≤ p ∧ p < i + m ∧ q < n ∧ P p q = true := by
  intro m
  induction m with
  | zero => intro i; exact ⟨fun h => absurd rfl h, fun ⟨p, q, h1, h2, _⟩ => by omega⟩
  | succ m ih =>
    intro i
    rw [fo]
    cases e : fi (P i) n 0 with
    | some j =>
      have h : fi (P i) n 0 ≠ none := by rw [e]; exact fun q => by cases q
      obtain ⟨k, h1, h2, h3⟩ := (fi_some _ _).mp h
      exact ⟨fun _ => ⟨i, k, by omega, by omega, by omega, h3⟩, fun _ q => by cases q⟩
    | none =>
      simp only []
      rw [ih]
      constructor
      · rintro ⟨p, q, h1, h2, h3⟩; exact ⟨p, q, by omega, by omega, h3⟩
      · rintro ⟨p, q, h1, h2, h3, h4⟩
        have : p ≠ i := fun z => by
          have : fi (P i) n 0 ≠ none := (fi_some _ _).mpr ⟨q, by omega, by omega, z ▸ h4⟩
          exact this e
        exact ⟨p, q, by omega, by omega, h3, h4⟩
/-- at most N -/
def leN (b : Option Nat) (N : Nat) : Prop := ∃ y, b = some y ∧ y ≤ N
theorem mn_leN {b : Option Nat} {x N : Nat} : mn b x ≤ N ↔ leN b N ∨ x ≤ N := by
  cases b with
  | none => exact ⟨fun h => Or.inr h, fun h => h.elim (fun ⟨y, h, _⟩ => by cases h) id⟩
  | some y =>
    simp only [mn, leN]
    by_cases h : x < y
    · rw [if_pos h]
      exact ⟨Or.inr, fun q => q.elim (fun ⟨z, h1, h2⟩ => by cases h1; omega) id⟩
    · rw [if_neg h]
      exact ⟨fun q => Or.inl ⟨y, rfl, q⟩, fun q => q.elim (fun ⟨z, h1, h2⟩ => by cases h1; exact h2) (fun z => by omega)⟩
theorem lcI_leN {c : Nat → Nat} {N : Nat} : ∀ (m j : Nat) (b : Option Nat), leN (lcI c m j b) N ↔ leN b N ∨ ∃ k, j ≤ k ∧ k < j + m ∧ c k ≤ N := by
  intro m
  induction m with
  | zero => intro j b; exact ⟨Or.inl, fun h => h.elim id (fun ⟨k, _, _, _⟩ => by omega)⟩
  | succ m ih =>
    intro j b
    rw [lcI, ih]
    have e : leN (some (mn b (c j))) N ↔ leN b N ∨ c j ≤ N := by
      rw [← mn_leN]
      exact ⟨fun ⟨y, h1, h2⟩ => by cases h1; exact h2, fun h => ⟨_, rfl, h⟩⟩
    rw [e]
    constructor
    · rintro ((h | h) | ⟨k, h1, h2, h3⟩)
      · exact Or.inl h
      · exact Or.inr ⟨j, by omega, by omega, h⟩
      · exact Or.inr ⟨k, by omega, by omega, h3⟩
    · rintro (h | ⟨k, h1, h2, h3⟩)
      · exact Or.inl (Or.inl h)
      · by_cases q : k = j
        · exact Or.inl (Or.inr (q ▸ h3))
        · exact Or.inr ⟨k, by omega, by omega, h3⟩
theorem lcO_leN {c : Nat → Nat → Nat} {n N : Nat} : ∀ (m i : Nat) (b : Option Nat), leN (lcO c n m i b) N ↔ leN b N ∨ ∃ p q, i ≤ p ∧ p < i + m ∧ q < n ∧ c p q ≤ N := by
  intro m
  induction m with
  | zero => intro j b; exact ⟨Or.inl, fun h => h.elim id (fun ⟨k, _, _, _, _⟩ => by omega)⟩
  | succ m ih =>
    intro i b
    rw [lcO, ih, lcI_leN]
    constructor
    · rintro ((h | ⟨k, h1, h2, h3⟩) | ⟨p, q, h1, h2, h3, h4⟩)
      · exact Or.inl h
      · exact Or.inr ⟨i, k, by omega, by omega, by omega, h3⟩
      · exact Or.inr ⟨p, q, by omega, by omega, h3, h4⟩
    · rintro (h | ⟨p, q, h1, h2, h3, h4⟩)
      · exact Or.inl (Or.inl h)
      · by_cases z : p = i
        · exact Or.inl (Or.inr ⟨q, by omega, by omega, z ▸ h4⟩)
        · exact Or.inr ⟨p, q, by omega, by omega, h3, h4⟩
/-- near rhymes are those of a least cost that is not too great -/
theorem hwq_4 {a : Nat → Nat → Nat} {L : Nat → Int32} {w u : Nat} : hwq a L w u 4 ≠ none ↔ w ≠ u ∧ leN (lcq a w u) (a 32 10) := by
  unfold hwq
  by_cases e : w = u
  · rw [if_pos e]; exact ⟨fun h => absurd rfl h, fun h => absurd e h.1⟩
  · rw [if_neg e, if_neg (by omega), fo_some, lcq, lcO_leN]
    have r : ∀ p q, rqs a 4 (3 * w + p) (3 * u + q) = true ↔ cqs a (3 * w + p) (3 * u + q) ≤ a 32 10 := fun p q => by
      simp only [rqs, rq, cqs]
      simp
    simp only [r]
    constructor
    · rintro ⟨p, q, h⟩; exact ⟨e, Or.inr ⟨p, q, h⟩⟩
    · rintro ⟨_, h | h⟩
      · obtain ⟨y, h, _⟩ := h; cases h
      · exact h
/-- where a cost comes among n -/
def ps (G : Nat → Nat) (c : Nat) : Nat → Nat
  | 0 => 0
  | n + 1 => if c < G n then ps G c n else n + 1
theorem ps_le {G : Nat → Nat} {c : Nat} : ∀ n, ps G c n ≤ n := by
  intro n
  induction n with
  | zero => exact Nat.le_refl _
  | succ n ih => rw [ps]; split <;> omega
def isF {α : Type} (F : Nat → α) (p : Nat) (v : α) : Nat → α := fun k => if k < p then F k else if k = p then v else F (k - 1)
def shR {α : Type} (F : Nat → α) (p n : Nat) : Nat → α := fun k => if p < k ∧ k ≤ n then F (k - 1) else F k
theorem shR_0 {α : Type} {F : Nat → α} {n : Nat} : shR F n n = F := by
  funext k
  exact if_neg (by omega)
theorem shR_step {α : Type} {F : Nat → α} {p n : Nat} {v : α} (hp : p + 1 ≤ n) (hv : v = F p) : va_up (shR F (p + 1) n) (p + 1) v = shR F p n := by
  funext k
  simp only [vu_if, shR]
  by_cases e : k = p + 1
  · rw [if_pos e, if_pos (by omega), hv, e]; rfl
  · rw [if_neg e]
    by_cases h : p + 1 < k ∧ k ≤ n
    · rw [if_pos h, if_pos (by omega)]
    · rw [if_neg h, if_neg (by omega)]
/-- the words that rhyme among the first, by cost -/
def rhF (h : Nat → Bool) (c : Nat → Nat) : Nat → Nat × (Nat → Nat) × (Nat → Nat)
  | 0 => (0, fun _ => 0, fun _ => 0)
  | u + 1 => if h u = true then ((rhF h c u).1 + 1, isF (rhF h c u).2.1 (ps (rhF h c u).2.2 (c u) (rhF h c u).1) u, isF (rhF h c u).2.2 (ps (rhF h c u).2.2 (c u) (rhF h c u).1) (c u)) else rhF h c u
theorem rhF_le {h : Nat → Bool} {c : Nat → Nat} : ∀ u, (rhF h c u).1 ≤ u := by
  intro u
  induction u with
  | zero => exact Nat.le_refl _
  | succ u ih =>
    rw [rhF]
    by_cases e : h u = true
    · rw [if_pos e]; exact Nat.succ_le_succ ih
    · rw [if_neg e]; omega
theorem rhF_b {h : Nat → Bool} {c : Nat → Nat} {N M : Nat} (hc : ∀ u, c u ≤ M) : ∀ u, u ≤ N → (∀ k, (rhF h c u).2.1 k ≤ N) ∧ ∀ k, (rhF h c u).2.2 k ≤ M := by
  intro u
  induction u with
  | zero => intro _; exact ⟨fun k => Nat.zero_le _, fun k => Nat.zero_le _⟩
  | succ u ih =>
    intro hu
    have := ih (by omega)
    rw [rhF]
    by_cases e : h u = true
    · rw [if_pos e]
      refine ⟨fun k => ?_, fun k => ?_⟩
      · simp only [isF]; split
        · exact this.1 k
        · split
          · omega
          · exact this.1 _
      · simp only [isF]; split
        · exact this.2 k
        · split
          · exact hc u
          · exact this.2 _
    · rw [if_neg e]; exact this
/-- the i-th from k on, of m, where P holds -/
def nt (P : Nat → Bool) : Nat → Nat → Nat → Option Nat
  | 0, _, _ => none
  | m + 1, k, i => if P k = true then (if i = 0 then some k else nt P m (k + 1) (i - 1)) else nt P m (k + 1) i
theorem nI_dec {n : Nat} (h : 1 ≤ n) : nI n + (-1) = nI (n - 1) := by
  rw [← pk_sub h, Int32.sub_eq_add_neg]; rfl
/-- what rhymes may change -/
def Fh (A B : Nat → Nat → Int32) : Prop := ∀ k, (k < 47 ∨ 53 < k) → B k = A k
theorem Fh.refl {A : Nat → Nat → Int32} : Fh A A := fun _ _ => rfl
theorem Fh.trans {A B C : Nat → Nat → Int32} (h : Fh A B) (g : Fh B C) : Fh A C := fun k hk => (g k hk).trans (h k hk)
theorem Fr.fh {A B : Nat → Nat → Int32} (h : Fr A B) : Fh A B := fun k hk => h k (by omega)
theorem Fh.up {A B : Nat → Nat → Int32} {q : Nat} {f : Nat → Int32} (h : Fh A B) (hq : q = 52 ∨ q = 53) : Fh A (va_up B q f) := fun k hk => by rw [vu_ne (by omega)]; exact h k hk
theorem Fh.rp {a : Nat → Nat → Nat} {A B : Nat → Nat → Int32} (h : Fh A B) (hR : Rp a A) : Rp a B := hR.of (fun k hk => ⟨fun _ j _ _ => by rw [h k (by omega)], fun _ => h k (by omega)⟩)
theorem Fh.mo {s : z_S} {A B : Nat → Nat → Int32} (h : Fh A B) (hM : Mo s A) : Mo s B := ⟨h.rp hM.1, by rw [h 39 (by omega)]; exact hM.2.1, hM.2.2⟩
theorem Fh.fk {A B : Nat → Nat → Int32} (h : Fh A B) : Fk A B := fun k hk => h k (by omega)
section MPub4
variable {s : z_S} {A : Nat → Nat → Int32} {P : Nat → Nat → Nat} {dy : z_H} {d nx bc bs : Nat} {Q : z_Q}
theorem l_rhW {x1 x2 x3 : Option Value} {u c n : Nat} {G : Nat → Nat} (hn : n < 24) (hc : c < 1000) (hG : ∀ k, k < n → A 53 k = nI (G k)) (bG : ∀ k, G k < 1000) (hQ : ∀ p, p = ps G c n → X (d + 5) m_X8_rhymes 138 [some (.ref 32), x1, x2, x3, some (.int (nI n)), some (.int (nI u)), some (.int (nI c)), some (.int (nI p))] [] (GH (va_up (va_up A 52 (shR (A 52) p n)) 53 (shR (A 53) p n)) P dy) nx bc bs Q) : ∀ (p : Nat), p ≤ n → ps G c n = ps G c p → X (d + 5) m_X8_rhymes 81 [some (.ref 32), x1, x2, x3, some (.int (nI n)), some (.int (nI u)), some (.int (nI c)), some (.int (nI p))] [] (GH (va_up (va_up A 52 (shR (A 52) p n)) 53 (shR (A 53) p n)) P dy) nx bc bs Q := by
  intro p
  induction p with
  | zero =>
    intro hp e
    have q := hQ 0 e.symm
    simp (disch := omega) only [i_X8_rhymes_81, i_X8_rhymes_83, gh_o32, gh_r52, gh_r53, gh_w52, gh_w53, gh_u32, gp_32_0, gf_32_1, gf_32_26, gf_32_27, z_o_i, z_ai_i, z_si_i, z_ab_b, z_ab_z, z_sb_b, z_sb_z, z_al_i, z_al_b, z_pu_s, z_pu_n, nI_toN, z_inN, true_and, and_true, nI_add, pk_mul, vu_eq, vu_ne, nI_leI, nI_ltI, nI_eqI, nI_eq0, nI_le0, ↓ok_0, ↓ok_1, ↓bI_ok, if_true, if_false, ne_eq, not_true_eq_false, not_false_eq_true, nI_m1, nI_1ne, nI_0eq, bI_eq0, bI_ne0, Bool.false_eq_true, pk_sub, c_inK, c_inN, iw_nI, decide_true, decide_false, Nat.add_sub_cancel, nI_ge0, nI_lt0, nm_lt, nm_ge, bI_T, bI_F, Nat.one_ne_zero, Nat.zero_ne_one, pk_div, pk_rem, Nat.le_refl]
    exact q
  | succ p ih =>
    intro hp e
    rw [ps] at e
    have b1 := bG p
    have r53 : shR (A 53) (p + 1) n p = nI (G p) := by rw [shR, if_neg (by omega)]; exact hG p (by omega)
    have r52 : shR (A 52) (p + 1) n p = A 52 p := by rw [shR, if_neg (by omega)]
    have m2 : (nI (p + 1) + (-1) : Int32) = nI p := nI_dec (n := p + 1) (by omega)
    by_cases l : c < G p
    · rw [if_pos l] at e
      have l' : ¬ G p ≤ c := by omega
      rw [i_X8_rhymes_81]
      simp (disch := omega) only [i_X8_rhymes_83, i_X8_rhymes_86, i_X8_rhymes_87, i_X8_rhymes_90, i_X8_rhymes_92, i_X8_rhymes_93, i_X8_rhymes_94, i_X8_rhymes_95, i_X8_rhymes_97, i_X8_rhymes_100, i_X8_rhymes_101, i_X8_rhymes_104, i_X8_rhymes_106, i_X8_rhymes_107, i_X8_rhymes_110, i_X8_rhymes_112, i_X8_rhymes_113, i_X8_rhymes_114, i_X8_rhymes_115, i_X8_rhymes_116, i_X8_rhymes_117, i_X8_rhymes_120, i_X8_rhymes_122, i_X8_rhymes_123, i_X8_rhymes_126, i_X8_rhymes_128, i_X8_rhymes_129, i_X8_rhymes_130, i_X8_rhymes_131, i_X8_rhymes_132, i_X8_rhymes_135, gh_o32, gh_r52, gh_r53, gh_w52, gh_w53, gh_u32, gp_32_0, gf_32_1, gf_32_26, gf_32_27, z_o_i, z_ai_i, z_si_i, z_ab_b, z_ab_z, z_sb_b, z_sb_z, z_al_i, z_al_b, z_pu_s, z_pu_n, nI_toN, z_inN, true_and, and_true, nI_add, pk_mul, vu_eq, vu_ne, nI_leI, nI_ltI, nI_eqI, nI_eq0, nI_le0, ↓ok_0, ↓ok_1, ↓bI_ok, if_true, if_false, ne_eq, not_true_eq_false, not_false_eq_true, nI_m1, nI_1ne, nI_0eq, bI_eq0, bI_ne0, Bool.false_eq_true, pk_sub, c_inK, c_inN, iw_nI, decide_true, decide_false, Nat.add_sub_cancel, nI_ge0, nI_lt0, nm_lt, nm_ge, bI_T, bI_F, Nat.one_ne_zero, Nat.zero_ne_one, pk_div, pk_rem, r53, r52, l', m2]
      have key := ih (by omega) e
      rw [← shR_step (F := A 52) (p := p) (n := n) (v := A 52 p) (by omega) rfl, ← shR_step (F := A 53) (p := p) (n := n) (v := nI (G p)) (by omega) (hG p (by omega)).symm] at key
      have e5 : va_up (va_up A 52 (va_up (shR (A 52) (p + 1) n) (p + 1) (A 52 p))) 53 (va_up (shR (A 53) (p + 1) n) (p + 1) (nI (G p))) = va_up (va_up (va_up (va_up A 52 (shR (A 52) (p + 1) n)) 53 (shR (A 53) (p + 1) n)) 52 (va_up (shR (A 52) (p + 1) n) (p + 1) (A 52 p))) 53 (va_up (shR (A 53) (p + 1) n) (p + 1) (nI (G p))) := by
        rw [vu_swap (k := 53) (m := 52) (by omega), vu_vu, vu_vu]
      rw [e5] at key
      exact key
    · rw [if_neg l] at e
      have l' : G p ≤ c := by omega
      rw [i_X8_rhymes_81]
      simp (disch := omega) only [i_X8_rhymes_83, i_X8_rhymes_86, i_X8_rhymes_87, i_X8_rhymes_90, i_X8_rhymes_92, i_X8_rhymes_93, i_X8_rhymes_94, i_X8_rhymes_95, i_X8_rhymes_97, gh_o32, gh_r52, gh_r53, gh_w52, gh_w53, gh_u32, gp_32_0, gf_32_1, gf_32_26, gf_32_27, z_o_i, z_ai_i, z_si_i, z_ab_b, z_ab_z, z_sb_b, z_sb_z, z_al_i, z_al_b, z_pu_s, z_pu_n, nI_toN, z_inN, true_and, and_true, nI_add, pk_mul, vu_eq, vu_ne, nI_leI, nI_ltI, nI_eqI, nI_eq0, nI_le0, ↓ok_0, ↓ok_1, ↓bI_ok, if_true, if_false, ne_eq, not_true_eq_false, not_false_eq_true, nI_m1, nI_1ne, nI_0eq, bI_eq0, bI_ne0, Bool.false_eq_true, pk_sub, c_inK, c_inN, iw_nI, decide_true, decide_false, Nat.add_sub_cancel, nI_ge0, nI_lt0, nm_lt, nm_ge, bI_T, bI_F, Nat.one_ne_zero, Nat.zero_ne_one, pk_div, pk_rem, r53, l']
      exact hQ (p + 1) e.symm
theorem l_rhO {w kind : Nat} {x3 : Option Value} (hM : Mo s A) (hw : w < s.1 32 1) (hk : kind ≤ 6) {h : Nat → Bool} {c : Nat → Nat} (hh : ∀ u, (h u = true) = (hwq s.1 s.2 w u kind ≠ none)) (hc : ∀ u, c u = if kind = 4 then (lcq s.1 w u).getD 0 else 0)
    (hQ : ∀ B x5 x6 x7, Fh A B → (∀ k, k < (rhF h c (s.1 32 1)).1 → B 52 k = nI ((rhF h c (s.1 32 1)).2.1 k)) → X (d + 5) m_X8_rhymes 165 [some (.ref 32), some (.int (nI w)), some (.int (nI kind)), x3, some (.int (nI (rhF h c (s.1 32 1)).1)), x5, x6, x7] [] (GH B P dy) nx bc bs Q) :
    ∀ (m u : Nat) (B : Nat → Nat → Int32) (x6 x7 : Option Value), u + m = s.1 32 1 → Fh A B → (∀ k, k < (rhF h c u).1 → B 52 k = nI ((rhF h c u).2.1 k) ∧ B 53 k = nI ((rhF h c u).2.2 k)) → X (d + 5) m_X8_rhymes 38 [some (.ref 32), some (.int (nI w)), some (.int (nI kind)), x3, some (.int (nI (rhF h c u).1)), some (.int (nI u)), x6, x7] [] (GH B P dy) nx bc bs Q := by
  have sc := hM.1.sc
  have bl : ∀ u y, lcq s.1 w u = some y → y ≤ 192 := fun u y e => lcO_le (fun i j => cqs_le (fun t => hM.1.b35 t)) _ _ _ (fun z q => by cases q) y e
  have cb : ∀ u, c u ≤ 192 := fun u => by
    rw [hc u]
    by_cases k4 : kind = 4
    · rw [if_pos k4]
      cases e : lcq s.1 w u with
      | none => simp
      | some y => exact bl u y e
    · rw [if_neg k4]; omega
  intro m
  induction m with
  | zero =>
    intro u B x6 x7 hu hF hr
    have e : u = s.1 32 1 := by omega
    subst e
    have r1 := (hF.rp hM.1).q1
    simp (disch := omega) only [i_X8_rhymes_38, i_X8_rhymes_40, i_X8_rhymes_41, i_X8_rhymes_44, gh_o32, gh_r52, gh_r53, gh_w52, gh_w53, gh_u32, gp_32_0, gf_32_1, gf_32_26, gf_32_27, z_o_i, z_ai_i, z_si_i, z_ab_b, z_ab_z, z_sb_b, z_sb_z, z_al_i, z_al_b, z_pu_s, z_pu_n, nI_toN, z_inN, true_and, and_true, nI_add, pk_mul, vu_eq, vu_ne, nI_leI, nI_ltI, nI_eqI, nI_eq0, nI_le0, ↓ok_0, ↓ok_1, ↓bI_ok, if_true, if_false, ne_eq, not_true_eq_false, not_false_eq_true, nI_m1, nI_1ne, nI_0eq, bI_eq0, bI_ne0, Bool.false_eq_true, pk_sub, c_inK, c_inN, iw_nI, decide_true, decide_false, Nat.add_sub_cancel, nI_ge0, nI_lt0, nm_lt, nm_ge, bI_T, bI_F, Nat.one_ne_zero, Nat.zero_ne_one, pk_div, pk_rem, r1, Nat.le_refl]
    exact hQ B _ _ _ hF (fun k hk => (hr k hk).1)
  | succ m ih =>
    intro u B x6 x7 hu hF hr
    have hB : Mo s B := hF.mo hM
    have r1 := hB.1.q1
    have le : ¬ s.1 32 1 ≤ u := by omega
    have rl := rhF_le (h := h) (c := c) u
    have rb := rhF_b (h := h) (c := c) (N := 24) (M := 192) cb u (by omega)
    rw [i_X8_rhymes_38]
    simp (disch := omega) only [i_X8_rhymes_40, i_X8_rhymes_41, i_X8_rhymes_44, i_X8_rhymes_47, i_X8_rhymes_48, i_X8_rhymes_49, i_X8_rhymes_51, i_X8_rhymes_52, gh_o32, gh_r52, gh_r53, gh_w52, gh_w53, gh_u32, gp_32_0, gf_32_1, gf_32_26, gf_32_27, z_o_i, z_ai_i, z_si_i, z_ab_b, z_ab_z, z_sb_b, z_sb_z, z_al_i, z_al_b, z_pu_s, z_pu_n, nI_toN, z_inN, true_and, and_true, nI_add, pk_mul, vu_eq, vu_ne, nI_leI, nI_ltI, nI_eqI, nI_eq0, nI_le0, ↓ok_0, ↓ok_1, ↓bI_ok, if_true, if_false, ne_eq, not_true_eq_false, not_false_eq_true, nI_m1, nI_1ne, nI_0eq, bI_eq0, bI_ne0, Bool.false_eq_true, pk_sub, c_inK, c_inN, iw_nI, decide_true, decide_false, Nat.add_sub_cancel, nI_ge0, nI_lt0, nm_lt, nm_ge, bI_T, bI_F, Nat.one_ne_zero, Nat.zero_ne_one, pk_div, pk_rem, r1, le]
    refine c_howOf hB.1 hB.2.2.1 hw (by omega) hk (fun C hC => ?_)
    rw [hB.2.1]
    have om : (oI (hwq s.1 s.2 w u kind) = -1) = (hwq s.1 s.2 w u kind = none) := oI_m1 (fun y hy => hwq_lt (fun i => hB.1.b34 i) hy)
    have hFC := hF.trans hC.fh
    have rC : ∀ k, k < (rhF h c u).1 → C 52 k = nI ((rhF h c u).2.1 k) ∧ C 53 k = nI ((rhF h c u).2.2 k) := fun k hk => by rw [hC 52 (by omega), hC 53 (by omega)]; exact hr k hk
    by_cases z : hwq s.1 s.2 w u kind = none
    · have nh : ¬ h u = true := by rw [hh u]; exact fun q => q z
      simp (disch := omega) only [i_X8_rhymes_55, i_X8_rhymes_56, i_X8_rhymes_159, i_X8_rhymes_162, gh_o32, gh_r52, gh_r53, gh_w52, gh_w53, gh_u32, gp_32_0, gf_32_1, gf_32_26, gf_32_27, z_o_i, z_ai_i, z_si_i, z_ab_b, z_ab_z, z_sb_b, z_sb_z, z_al_i, z_al_b, z_pu_s, z_pu_n, nI_toN, z_inN, true_and, and_true, nI_add, pk_mul, vu_eq, vu_ne, nI_leI, nI_ltI, nI_eqI, nI_eq0, nI_le0, ↓ok_0, ↓ok_1, ↓bI_ok, if_true, if_false, ne_eq, not_true_eq_false, not_false_eq_true, nI_m1, nI_1ne, nI_0eq, bI_eq0, bI_ne0, Bool.false_eq_true, pk_sub, c_inK, c_inN, iw_nI, decide_true, decide_false, Nat.add_sub_cancel, nI_ge0, nI_lt0, nm_lt, nm_ge, bI_T, bI_F, Nat.one_ne_zero, Nat.zero_ne_one, pk_div, pk_rem, om, z]
      have q := ih (u + 1) C x6 x7 (by omega) hFC (by rw [rhF, if_neg nh]; exact rC)
      rw [rhF, if_neg nh] at q
      exact q
    · have yh : h u = true := by rw [hh u]; exact z
      -- from the inner loop on
      have inner : ∀ (D : Nat → Nat → Int32) (x7 : Option Value), Fr C D → X (d + 5) m_X8_rhymes 77 [some (.ref 32), some (.int (nI w)), some (.int (nI kind)), x3, some (.int (nI (rhF h c u).1)), some (.int (nI u)), some (.int (nI (c u))), x7] [] (GH D P dy) nx bc bs Q := by
        intro D x7 hD
        have hFD := hFC.trans hD.fh
        have rD : ∀ k, k < (rhF h c u).1 → D 52 k = nI ((rhF h c u).2.1 k) ∧ D 53 k = nI ((rhF h c u).2.2 k) := fun k hk => by rw [hD 52 (by omega), hD 53 (by omega)]; exact rC k hk
        rw [i_X8_rhymes_77, i_X8_rhymes_79]
        have e0 : va_up (va_up D 52 (shR (D 52) (rhF h c u).1 (rhF h c u).1)) 53 (shR (D 53) (rhF h c u).1 (rhF h c u).1) = D := by
          rw [shR_0, shR_0, vu_self rfl, vu_self rfl]
        have cu := cb u
        have w1 := l_rhW (d := d) (P := P) (dy := dy) (nx := nx) (bc := bc) (bs := bs) (Q := Q) (A := D) (x1 := some (.int (nI w))) (x2 := some (.int (nI kind))) (x3 := x3) (u := u) (c := c u) (n := (rhF h c u).1) (G := (rhF h c u).2.2) (by omega) (by omega) (fun k hk => (rD k hk).2) (fun k => by have := rb.2 k; omega) (fun p hp => ?_) (rhF h c u).1 (Nat.le_refl _) rfl
        · rw [e0] at w1
          exact w1
        · have pl := ps_le (G := (rhF h c u).2.2) (c := c u) (rhF h c u).1
          rw [← hp] at pl
          simp (disch := omega) only [i_X8_rhymes_138, i_X8_rhymes_139, i_X8_rhymes_142, i_X8_rhymes_144, i_X8_rhymes_146, i_X8_rhymes_147, i_X8_rhymes_148, i_X8_rhymes_151, i_X8_rhymes_153, i_X8_rhymes_155, i_X8_rhymes_156, i_X8_rhymes_159, i_X8_rhymes_162, gh_o32, gh_r52, gh_r53, gh_w52, gh_w53, gh_u32, gp_32_0, gf_32_1, gf_32_26, gf_32_27, z_o_i, z_ai_i, z_si_i, z_ab_b, z_ab_z, z_sb_b, z_sb_z, z_al_i, z_al_b, z_pu_s, z_pu_n, nI_toN, z_inN, true_and, and_true, nI_add, pk_mul, vu_eq, vu_ne, nI_leI, nI_ltI, nI_eqI, nI_eq0, nI_le0, ↓ok_0, ↓ok_1, ↓bI_ok, if_true, if_false, ne_eq, not_true_eq_false, not_false_eq_true, nI_m1, nI_1ne, nI_0eq, bI_eq0, bI_ne0, Bool.false_eq_true, pk_sub, c_inK, c_inN, iw_nI, decide_true, decide_false, Nat.add_sub_cancel, nI_ge0, nI_lt0, nm_lt, nm_ge, bI_T, bI_F, Nat.one_ne_zero, Nat.zero_ne_one, pk_div, pk_rem]
          have q := ih (u + 1) (va_up (va_up (va_up (va_up D 52 (shR (D 52) p (rhF h c u).1)) 53 (shR (D 53) p (rhF h c u).1)) 52 (va_up (shR (D 52) p (rhF h c u).1) p (nI u))) 53 (va_up (shR (D 53) p (rhF h c u).1) p (nI (c u)))) (some (.int (nI (c u)))) (some (.int (nI p))) (by omega) ((((hFD.up (by omega)).up (by omega)).up (by omega)).up (by omega)) ?_
          · rw [rhF, if_pos yh] at q
            exact q
          · rw [rhF, if_pos yh, ← hp]
            intro k hk
            have hk' : k < (rhF h c u).1 + 1 := hk
            rw [vu_ne (by omega), vu_eq, vu_eq]
            simp only [isF, vu_if, shR]
            by_cases k1 : k = p
            · have k2 : ¬ k < p := by omega
              simp only [k1, k2, Nat.lt_irrefl, if_true, if_false]
              exact ⟨trivial, trivial⟩
            · by_cases k2 : k < p
              · have k3 : ¬ (p < k ∧ k ≤ (rhF h c u).1) := by omega
                simp only [k1, k2, k3, if_true, if_false]
                exact rD k (by omega)
              · have k3 : p < k ∧ k ≤ (rhF h c u).1 := by omega
                simp only [k1, k2, k3, and_self, if_true, if_false]
                exact rD (k - 1) (by omega)
      have hcu := hc u
      by_cases k4 : kind = 4
      · rw [if_pos k4] at hcu
        subst k4
        simp (disch := omega) only [i_X8_rhymes_55, i_X8_rhymes_56, i_X8_rhymes_59, i_X8_rhymes_60, i_X8_rhymes_61, i_X8_rhymes_64, i_X8_rhymes_65, i_X8_rhymes_66, i_X8_rhymes_68, gh_o32, gh_r52, gh_r53, gh_w52, gh_w53, gh_u32, gp_32_0, gf_32_1, gf_32_26, gf_32_27, z_o_i, z_ai_i, z_si_i, z_ab_b, z_ab_z, z_sb_b, z_sb_z, z_al_i, z_al_b, z_pu_s, z_pu_n, nI_toN, z_inN, true_and, and_true, nI_add, pk_mul, vu_eq, vu_ne, nI_leI, nI_ltI, nI_eqI, nI_eq0, nI_le0, ↓ok_0, ↓ok_1, ↓bI_ok, if_true, if_false, ne_eq, not_true_eq_false, not_false_eq_true, nI_m1, nI_1ne, nI_0eq, bI_eq0, bI_ne0, Bool.false_eq_true, pk_sub, c_inK, c_inN, iw_nI, decide_true, decide_false, Nat.add_sub_cancel, nI_ge0, nI_lt0, nm_lt, nm_ge, bI_T, bI_F, Nat.one_ne_zero, Nat.zero_ne_one, pk_div, pk_rem, om, z]
        refine c_leastCost (hC.rp hB.1) hB.2.2.1 hw (by omega) (fun D hD => ?_)
        have : leN (lcq s.1 w u) (s.1 32 10) := by
          exact (hwq_4.mp z).2
        obtain ⟨y, ey, _⟩ := this
        rw [ey] at hcu ⊢
        have hcu' : c u = y := hcu
        have q := inner D x7 hD
        rw [hcu'] at q
        simp (disch := omega) only [i_X8_rhymes_71, i_X8_rhymes_74, i_X8_rhymes_75, gh_o32, gh_r52, gh_r53, gh_w52, gh_w53, gh_u32, gp_32_0, gf_32_1, gf_32_26, gf_32_27, z_o_i, z_ai_i, z_si_i, z_ab_b, z_ab_z, z_sb_b, z_sb_z, z_al_i, z_al_b, z_pu_s, z_pu_n, nI_toN, z_inN, true_and, and_true, nI_add, pk_mul, vu_eq, vu_ne, nI_leI, nI_ltI, nI_eqI, nI_eq0, nI_le0, ↓ok_0, ↓ok_1, ↓bI_ok, if_true, if_false, ne_eq, not_true_eq_false, not_false_eq_true, nI_m1, nI_1ne, nI_0eq, bI_eq0, bI_ne0, Bool.false_eq_true, pk_sub, c_inK, c_inN, iw_nI, decide_true, decide_false, Nat.add_sub_cancel, nI_ge0, nI_lt0, nm_lt, nm_ge, bI_T, bI_F, Nat.one_ne_zero, Nat.zero_ne_one, pk_div, pk_rem]
        exact q
      · rw [if_neg k4] at hcu
        have q := inner C x7 Fr.refl
        rw [hcu] at q
        simp (disch := omega) only [i_X8_rhymes_55, i_X8_rhymes_56, i_X8_rhymes_59, i_X8_rhymes_60, i_X8_rhymes_61, i_X8_rhymes_74, i_X8_rhymes_75, gh_o32, gh_r52, gh_r53, gh_w52, gh_w53, gh_u32, gp_32_0, gf_32_1, gf_32_26, gf_32_27, z_o_i, z_ai_i, z_si_i, z_ab_b, z_ab_z, z_sb_b, z_sb_z, z_al_i, z_al_b, z_pu_s, z_pu_n, nI_toN, z_inN, true_and, and_true, nI_add, pk_mul, vu_eq, vu_ne, nI_leI, nI_ltI, nI_eqI, nI_eq0, nI_le0, ↓ok_0, ↓ok_1, ↓bI_ok, if_true, if_false, ne_eq, not_true_eq_false, not_false_eq_true, nI_m1, nI_1ne, nI_0eq, bI_eq0, bI_ne0, Bool.false_eq_true, pk_sub, c_inK, c_inN, iw_nI, decide_true, decide_false, Nat.add_sub_cancel, nI_ge0, nI_lt0, nm_lt, nm_ge, bI_T, bI_F, Nat.one_ne_zero, Nat.zero_ne_one, pk_div, pk_rem, om, z, k4]
        exact q
def rhy (s : z_S) (w k : Nat) : Nat × (Nat → Nat) × (Nat → Nat) := rhF (fun u => decide (hwq s.1 s.2 w u k ≠ none)) (fun u => if k = 4 then (lcq s.1 w u).getD 0 else 0) (s.1 32 1)
def s_rhymes (s : z_S) (w k i : Int32) : Int32 :=
  if iw w (s.1 32 1) = true ∧ iw k 7 = true ∧ iw i 2147483648 = true then
    (if i.toNatClampNeg < (rhy s w.toNatClampNeg k.toNatClampNeg).1 then nI ((rhy s w.toNatClampNeg k.toNatClampNeg).2.1 i.toNatClampNeg) else -1) else -3
theorem iw_0 {x : Int32} : (iw x 2147483648 = true) = (0 ≤ x) := by
  have b := Int32.toInt_lt x
  simp only [iw, decide_eq_true_eq, Int32.le_iff_toInt_le]
  rw [show (0 : Int32).toInt = 0 by decide]
  simp only [eq_iff_iff]
  omega
theorem m_rhymes {w k i : Int32} (hM : Mo s A) (hQ : ∀ B, Mo s B → Fk A B → Q (some (.int (s_rhymes s w k i))) (GH B P dy) nx) : XC (d + 5) m_X8_rhymes [.ref 32, .int w, .int k, .int i] (GH A P dy) nx Q := by
  show X (d + 5) m_X8_rhymes 0 [some (.ref 32), some (.int w), some (.int k), some (.int i), none, none, none, none] [] (GH A P dy) nx 0 0 Q
  obtain ⟨B, eB, hB, fB⟩ := t0_ex hM
  simp (disch := omega) only [i_X8_rhymes_0, i_X8_rhymes_1, i_X8_rhymes_2, gh_o32, gh_r52, gh_r53, gh_w52, gh_w53, gh_u32, gp_32_0, gf_32_1, gf_32_26, gf_32_27, z_o_i, z_ai_i, z_si_i, z_ab_b, z_ab_z, z_sb_b, z_sb_z, z_al_i, z_al_b, z_pu_s, z_pu_n, nI_toN, z_inN, true_and, and_true, nI_add, pk_mul, vu_eq, vu_ne, nI_leI, nI_ltI, nI_eqI, nI_eq0, nI_le0, ↓ok_0, ↓ok_1, ↓bI_ok, if_true, if_false, ne_eq, not_true_eq_false, not_false_eq_true, nI_m1, nI_1ne, nI_0eq, bI_eq0, bI_ne0, Bool.false_eq_true, pk_sub, c_inK, c_inN, iw_nI, decide_true, decide_false, Nat.add_sub_cancel, nI_ge0, nI_lt0, nm_lt, nm_ge, bI_T, bI_F, Nat.one_ne_zero, Nat.zero_ne_one, pk_div, pk_rem, eB]
  have iW : ∀ {d nx : Nat} {Q : z_Q} {x : Int32}, XC (d + 1) m_X8_isWord [.ref 32, .int x] (GH B P dy) nx Q = Q (some (.int (bI (iw x (s.1 32 1) = true)))) (GH B P dy) nx := c_isWord hB
  have sc := hB.1.sc
  unfold s_rhymes at hQ
  by_cases hw : iw w (s.1 32 1) = true
  · by_cases hk : iw k 7 = true
    · by_cases hi : iw i 2147483648 = true
      · rw [if_pos ⟨hw, hk, hi⟩] at hQ
        obtain ⟨a, h1, rfl⟩ := iw_ex hw
        obtain ⟨b, h2, rfl⟩ := iw_ex hk
        obtain ⟨c, h3, rfl⟩ := iw_ex hi
        rw [nI_toN (by omega), nI_toN (by omega), nI_toN (by omega)] at hQ
        simp (disch := omega) only [i_X8_rhymes_5, i_X8_rhymes_6, i_X8_rhymes_7, i_X8_rhymes_10, i_X8_rhymes_13, i_X8_rhymes_14, i_X8_rhymes_15, i_X8_rhymes_16, i_X8_rhymes_19, i_X8_rhymes_22, i_X8_rhymes_25, i_X8_rhymes_26, i_X8_rhymes_32, i_X8_rhymes_33, i_X8_rhymes_35, i_X8_rhymes_36, gh_o32, gh_r52, gh_r53, gh_w52, gh_w53, gh_u32, gp_32_0, gf_32_1, gf_32_26, gf_32_27, z_o_i, z_ai_i, z_si_i, z_ab_b, z_ab_z, z_sb_b, z_sb_z, z_al_i, z_al_b, z_pu_s, z_pu_n, nI_toN, z_inN, true_and, and_true, nI_add, pk_mul, vu_eq, vu_ne, nI_leI, nI_ltI, nI_eqI, nI_eq0, nI_le0, ↓ok_0, ↓ok_1, ↓bI_ok, if_true, if_false, ne_eq, not_true_eq_false, not_false_eq_true, nI_m1, nI_1ne, nI_0eq, bI_eq0, bI_ne0, Bool.false_eq_true, pk_sub, c_inK, c_inN, iw_nI, decide_true, decide_false, Nat.add_sub_cancel, nI_ge0, nI_lt0, nm_lt, nm_ge, bI_T, bI_F, Nat.one_ne_zero, Nat.zero_ne_one, pk_div, pk_rem, iW, h1, h2]
        have rl := rhF_le (h := fun u => decide (hwq s.1 s.2 a u b ≠ none)) (c := fun u => if b = 4 then (lcq s.1 a u).getD 0 else 0) (s.1 32 1)
        refine l_rhO (h := fun u => decide (hwq s.1 s.2 a u b ≠ none)) (c := fun u => if b = 4 then (lcq s.1 a u).getD 0 else 0) hB h1 (by omega) (fun u => by simp) (fun u => rfl) (fun C y5 y6 y7 hC rC => ?_) (s.1 32 1) 0 B none none (by omega) Fh.refl (fun k hk => absurd hk (Nat.not_lt_zero k))
        have q := hQ C (hC.mo hB) (fB.trans hC.fk)
        have hrh : rhF (fun u => decide (hwq s.1 s.2 a u b ≠ none)) (fun u => if b = 4 then (lcq s.1 a u).getD 0 else 0) (s.1 32 1) = rhy s a b := rfl
        rw [hrh] at rl rC ⊢
        generalize rhy s a b = R at rl rC q ⊢
        by_cases l : c < R.1
        · rw [if_pos l] at q
          have l' : ¬ R.1 ≤ c := Nat.not_le.mpr l
          have r5 := rC c l
          simp (disch := omega) only [i_X8_rhymes_165, i_X8_rhymes_166, i_X8_rhymes_168, i_X8_rhymes_171, i_X8_rhymes_172, i_X8_rhymes_175, i_X8_rhymes_176, i_X8_rhymes_177, i_X8_rhymes_180, i_X8_rhymes_181, gh_o32, gh_r52, gh_r53, gh_w52, gh_w53, gh_u32, gp_32_0, gf_32_1, gf_32_26, gf_32_27, z_o_i, z_ai_i, z_si_i, z_ab_b, z_ab_z, z_sb_b, z_sb_z, z_al_i, z_al_b, z_pu_s, z_pu_n, nI_toN, z_inN, true_and, and_true, nI_add, pk_mul, vu_eq, vu_ne, nI_leI, nI_ltI, nI_eqI, nI_eq0, nI_le0, ↓ok_0, ↓ok_1, ↓bI_ok, if_true, if_false, ne_eq, not_true_eq_false, not_false_eq_true, nI_m1, nI_1ne, nI_0eq, bI_eq0, bI_ne0, Bool.false_eq_true, pk_sub, c_inK, c_inN, iw_nI, decide_true, decide_false, Nat.add_sub_cancel, nI_ge0, nI_lt0, nm_lt, nm_ge, bI_T, bI_F, Nat.one_ne_zero, Nat.zero_ne_one, pk_div, pk_rem, l', r5]
          exact q
        · rw [if_neg l] at q
          have l' : R.1 ≤ c := Nat.not_lt.mp l
          simp (disch := omega) only [i_X8_rhymes_165, i_X8_rhymes_166, i_X8_rhymes_168, i_X8_rhymes_180, i_X8_rhymes_181, gh_o32, gh_r52, gh_r53, gh_w52, gh_w53, gh_u32, gp_32_0, gf_32_1, gf_32_26, gf_32_27, z_o_i, z_ai_i, z_si_i, z_ab_b, z_ab_z, z_sb_b, z_sb_z, z_al_i, z_al_b, z_pu_s, z_pu_n, nI_toN, z_inN, true_and, and_true, nI_add, pk_mul, vu_eq, vu_ne, nI_leI, nI_ltI, nI_eqI, nI_eq0, nI_le0, ↓ok_0, ↓ok_1, ↓bI_ok, if_true, if_false, ne_eq, not_true_eq_false, not_false_eq_true, nI_m1, nI_1ne, nI_0eq, bI_eq0, bI_ne0, Bool.false_eq_true, pk_sub, c_inK, c_inN, iw_nI, decide_true, decide_false, Nat.add_sub_cancel, nI_ge0, nI_lt0, nm_lt, nm_ge, bI_T, bI_F, Nat.one_ne_zero, Nat.zero_ne_one, pk_div, pk_rem, l']
          exact q
      · rw [if_neg (fun q => hi q.2.2)] at hQ
        rw [iw_0] at hi
        simp (disch := omega) only [i_X8_rhymes_5, i_X8_rhymes_6, i_X8_rhymes_7, i_X8_rhymes_10, i_X8_rhymes_13, i_X8_rhymes_14, i_X8_rhymes_15, i_X8_rhymes_16, i_X8_rhymes_19, i_X8_rhymes_22, i_X8_rhymes_25, i_X8_rhymes_26, i_X8_rhymes_29, i_X8_rhymes_31, gh_o32, gh_r52, gh_r53, gh_w52, gh_w53, gh_u32, gp_32_0, gf_32_1, gf_32_26, gf_32_27, z_o_i, z_ai_i, z_si_i, z_ab_b, z_ab_z, z_sb_b, z_sb_z, z_al_i, z_al_b, z_pu_s, z_pu_n, nI_toN, z_inN, true_and, and_true, nI_add, pk_mul, vu_eq, vu_ne, nI_leI, nI_ltI, nI_eqI, nI_eq0, nI_le0, ↓ok_0, ↓ok_1, ↓bI_ok, if_true, if_false, ne_eq, not_true_eq_false, not_false_eq_true, nI_m1, nI_1ne, nI_0eq, bI_eq0, bI_ne0, Bool.false_eq_true, pk_sub, c_inK, c_inN, iw_nI, decide_true, decide_false, Nat.add_sub_cancel, nI_ge0, nI_lt0, nm_lt, nm_ge, bI_T, bI_F, Nat.one_ne_zero, Nat.zero_ne_one, pk_div, pk_rem, iW, hw, hk, hi]
        exact hQ B hB fB
    · rw [if_neg (fun q => hk q.2.1)] at hQ
      simp (disch := omega) only [i_X8_rhymes_5, i_X8_rhymes_6, i_X8_rhymes_7, i_X8_rhymes_10, i_X8_rhymes_13, i_X8_rhymes_14, i_X8_rhymes_15, i_X8_rhymes_16, i_X8_rhymes_19, i_X8_rhymes_22, i_X8_rhymes_29, i_X8_rhymes_31, gh_o32, gh_r52, gh_r53, gh_w52, gh_w53, gh_u32, gp_32_0, gf_32_1, gf_32_26, gf_32_27, z_o_i, z_ai_i, z_si_i, z_ab_b, z_ab_z, z_sb_b, z_sb_z, z_al_i, z_al_b, z_pu_s, z_pu_n, nI_toN, z_inN, true_and, and_true, nI_add, pk_mul, vu_eq, vu_ne, nI_leI, nI_ltI, nI_eqI, nI_eq0, nI_le0, ↓ok_0, ↓ok_1, ↓bI_ok, if_true, if_false, ne_eq, not_true_eq_false, not_false_eq_true, nI_m1, nI_1ne, nI_0eq, bI_eq0, bI_ne0, Bool.false_eq_true, pk_sub, c_inK, c_inN, iw_nI, decide_true, decide_false, Nat.add_sub_cancel, nI_ge0, nI_lt0, nm_lt, nm_ge, bI_T, bI_F, Nat.one_ne_zero, Nat.zero_ne_one, pk_div, pk_rem, iW, hw, hk]
      exact hQ B hB fB
  · rw [if_neg (fun q => hw q.1)] at hQ
    simp (disch := omega) only [i_X8_rhymes_5, i_X8_rhymes_6, i_X8_rhymes_7, i_X8_rhymes_10, i_X8_rhymes_29, i_X8_rhymes_31, gh_o32, gh_r52, gh_r53, gh_w52, gh_w53, gh_u32, gp_32_0, gf_32_1, gf_32_26, gf_32_27, z_o_i, z_ai_i, z_si_i, z_ab_b, z_ab_z, z_sb_b, z_sb_z, z_al_i, z_al_b, z_pu_s, z_pu_n, nI_toN, z_inN, true_and, and_true, nI_add, pk_mul, vu_eq, vu_ne, nI_leI, nI_ltI, nI_eqI, nI_eq0, nI_le0, ↓ok_0, ↓ok_1, ↓bI_ok, if_true, if_false, ne_eq, not_true_eq_false, not_false_eq_true, nI_m1, nI_1ne, nI_0eq, bI_eq0, bI_ne0, Bool.false_eq_true, pk_sub, c_inK, c_inN, iw_nI, decide_true, decide_false, Nat.add_sub_cancel, nI_ge0, nI_lt0, nm_lt, nm_ge, bI_T, bI_F, Nat.one_ne_zero, Nat.zero_ne_one, pk_div, pk_rem, iW, hw]
    exact hQ B hB fB
/-- broken rhymes by number -/
def brP (a : Nat → Nat → Nat) (w k : Nat) : Bool := decide (k % 24 < a 32 1) && bk3 a w (k / 24) (k % 24)
theorem l_broken {w : Nat} {x2 : Option Value} {R : Option Nat} (hM : Mo s A) (hw : w < s.1 32 1) (hQ : ∀ B, Fr A B → Q (some (.int (oI R))) (GH B P dy) nx) : ∀ (m k i : Nat) (B : Nat → Nat → Int32), k + m = 24 * s.1 32 1 → i < 2147483648 → Fr A B → nt (brP s.1 w) m k i = R → X (d + 4) m_X8_broken 25 [some (.ref 32), some (.int (nI w)), x2, some (.int (nI i)), some (.int (nI k))] [] (GH B P dy) nx bc bs Q := by
  have sc := hM.1.sc
  intro m
  induction m with
  | zero =>
    intro k i B hk hi hF hr
    have r1 := (hF.rp hM.1).q1
    have le : 24 * s.1 32 1 ≤ k := by omega
    have q := hQ B hF
    rw [← hr] at q
    simp (disch := omega) only [i_X8_broken_25, i_X8_broken_27, i_X8_broken_29, i_X8_broken_30, i_X8_broken_33, i_X8_broken_34, i_X8_broken_83, i_X8_broken_84, gh_o32, gh_r52, gh_r53, gh_w52, gh_w53, gh_u32, gp_32_0, gf_32_1, gf_32_26, gf_32_27, z_o_i, z_ai_i, z_si_i, z_ab_b, z_ab_z, z_sb_b, z_sb_z, z_al_i, z_al_b, z_pu_s, z_pu_n, nI_toN, z_inN, true_and, and_true, nI_add, pk_mul, vu_eq, vu_ne, nI_leI, nI_ltI, nI_eqI, nI_eq0, nI_le0, ↓ok_0, ↓ok_1, ↓bI_ok, if_true, if_false, ne_eq, not_true_eq_false, not_false_eq_true, nI_m1, nI_1ne, nI_0eq, bI_eq0, bI_ne0, Bool.false_eq_true, pk_sub, c_inK, c_inN, iw_nI, decide_true, decide_false, Nat.add_sub_cancel, nI_ge0, nI_lt0, nm_lt, nm_ge, bI_T, bI_F, Nat.one_ne_zero, Nat.zero_ne_one, pk_div, pk_rem, r1, le]
    exact q
  | succ m ih =>
    intro k i B hk hi hF hr
    have hB := hF.mo hM
    have r1 := hB.1.q1
    have le : ¬ 24 * s.1 32 1 ≤ k := by omega
    rw [nt] at hr
    rw [i_X8_broken_25]
    have z24 : ¬ (24 : Nat) = 0 := by omega
    have md : k - k / 24 * 24 = k % 24 := by omega
    by_cases c1 : k % 24 < s.1 32 1
    · have c1' : ¬ s.1 32 1 ≤ k % 24 := by omega
      have kd : k / 24 < s.1 32 1 := by omega
      simp (disch := omega) only [i_X8_broken_27, i_X8_broken_29, i_X8_broken_30, i_X8_broken_33, i_X8_broken_34, i_X8_broken_37, i_X8_broken_39, i_X8_broken_41, i_X8_broken_42, i_X8_broken_43, i_X8_broken_46, i_X8_broken_49, i_X8_broken_50, i_X8_broken_51, i_X8_broken_53, i_X8_broken_55, i_X8_broken_56, i_X8_broken_58, i_X8_broken_60, i_X8_broken_61, gh_o32, gh_r52, gh_r53, gh_w52, gh_w53, gh_u32, gp_32_0, gf_32_1, gf_32_26, gf_32_27, z_o_i, z_ai_i, z_si_i, z_ab_b, z_ab_z, z_sb_b, z_sb_z, z_al_i, z_al_b, z_pu_s, z_pu_n, nI_toN, z_inN, true_and, and_true, nI_add, pk_mul, vu_eq, vu_ne, nI_leI, nI_ltI, nI_eqI, nI_eq0, nI_le0, ↓ok_0, ↓ok_1, ↓bI_ok, if_true, if_false, ne_eq, not_true_eq_false, not_false_eq_true, nI_m1, nI_1ne, nI_0eq, bI_eq0, bI_ne0, Bool.false_eq_true, pk_sub, c_inK, c_inN, iw_nI, decide_true, decide_false, Nat.add_sub_cancel, nI_ge0, nI_lt0, nm_lt, nm_ge, bI_T, bI_F, Nat.one_ne_zero, Nat.zero_ne_one, pk_div, pk_rem, r1, le, c1', z24, md]
      refine c_isBroken hB.1 hB.2.2.1 hw kd c1 (fun C hC => ?_)
      by_cases c2 : bk3 s.1 w (k / 24) (k % 24) = true
      · have pk : brP s.1 w k = true := by simp [brP, c1, c2]
        rw [if_pos pk] at hr
        by_cases i0 : i = 0
        · rw [if_pos i0] at hr
          subst i0
          have q := hQ C (hF.trans hC)
          rw [← hr] at q
          simp (disch := omega) only [i_X8_broken_64, i_X8_broken_67, i_X8_broken_68, i_X8_broken_71, i_X8_broken_73, gh_o32, gh_r52, gh_r53, gh_w52, gh_w53, gh_u32, gp_32_0, gf_32_1, gf_32_26, gf_32_27, z_o_i, z_ai_i, z_si_i, z_ab_b, z_ab_z, z_sb_b, z_sb_z, z_al_i, z_al_b, z_pu_s, z_pu_n, nI_toN, z_inN, true_and, and_true, nI_add, pk_mul, vu_eq, vu_ne, nI_leI, nI_ltI, nI_eqI, nI_eq0, nI_le0, ↓ok_0, ↓ok_1, ↓bI_ok, if_true, if_false, ne_eq, not_true_eq_false, not_false_eq_true, nI_m1, nI_1ne, nI_0eq, bI_eq0, bI_ne0, Bool.false_eq_true, pk_sub, c_inK, c_inN, iw_nI, decide_true, decide_false, Nat.add_sub_cancel, nI_ge0, nI_lt0, nm_lt, nm_ge, bI_T, bI_F, Nat.one_ne_zero, Nat.zero_ne_one, pk_div, pk_rem, c2]
          exact q
        · rw [if_neg i0] at hr
          have m2 : (nI i + (-1) : Int32) = nI (i - 1) := nI_dec (by omega)
          simp (disch := omega) only [i_X8_broken_64, i_X8_broken_67, i_X8_broken_68, i_X8_broken_71, i_X8_broken_73, i_X8_broken_74, i_X8_broken_77, i_X8_broken_80, gh_o32, gh_r52, gh_r53, gh_w52, gh_w53, gh_u32, gp_32_0, gf_32_1, gf_32_26, gf_32_27, z_o_i, z_ai_i, z_si_i, z_ab_b, z_ab_z, z_sb_b, z_sb_z, z_al_i, z_al_b, z_pu_s, z_pu_n, nI_toN, z_inN, true_and, and_true, nI_add, pk_mul, vu_eq, vu_ne, nI_leI, nI_ltI, nI_eqI, nI_eq0, nI_le0, ↓ok_0, ↓ok_1, ↓bI_ok, if_true, if_false, ne_eq, not_true_eq_false, not_false_eq_true, nI_m1, nI_1ne, nI_0eq, bI_eq0, bI_ne0, Bool.false_eq_true, pk_sub, c_inK, c_inN, iw_nI, decide_true, decide_false, Nat.add_sub_cancel, nI_ge0, nI_lt0, nm_lt, nm_ge, bI_T, bI_F, Nat.one_ne_zero, Nat.zero_ne_one, pk_div, pk_rem, c2, i0, m2]
          exact ih (k + 1) (i - 1) C (by omega) (by omega) (hF.trans hC) hr
      · have pk : ¬ brP s.1 w k = true := by simp [brP, c2]
        rw [if_neg pk] at hr
        simp (disch := omega) only [i_X8_broken_64, i_X8_broken_77, i_X8_broken_80, gh_o32, gh_r52, gh_r53, gh_w52, gh_w53, gh_u32, gp_32_0, gf_32_1, gf_32_26, gf_32_27, z_o_i, z_ai_i, z_si_i, z_ab_b, z_ab_z, z_sb_b, z_sb_z, z_al_i, z_al_b, z_pu_s, z_pu_n, nI_toN, z_inN, true_and, and_true, nI_add, pk_mul, vu_eq, vu_ne, nI_leI, nI_ltI, nI_eqI, nI_eq0, nI_le0, ↓ok_0, ↓ok_1, ↓bI_ok, if_true, if_false, ne_eq, not_true_eq_false, not_false_eq_true, nI_m1, nI_1ne, nI_0eq, bI_eq0, bI_ne0, Bool.false_eq_true, pk_sub, c_inK, c_inN, iw_nI, decide_true, decide_false, Nat.add_sub_cancel, nI_ge0, nI_lt0, nm_lt, nm_ge, bI_T, bI_F, Nat.one_ne_zero, Nat.zero_ne_one, pk_div, pk_rem, c2]
        exact ih (k + 1) i C (by omega) hi (hF.trans hC) hr
    · have pk : ¬ brP s.1 w k = true := by simp [brP, c1]
      rw [if_neg pk] at hr
      have c1' : s.1 32 1 ≤ k % 24 := by omega
      simp (disch := omega) only [i_X8_broken_27, i_X8_broken_29, i_X8_broken_30, i_X8_broken_33, i_X8_broken_34, i_X8_broken_37, i_X8_broken_39, i_X8_broken_41, i_X8_broken_42, i_X8_broken_43, i_X8_broken_46, i_X8_broken_77, i_X8_broken_80, gh_o32, gh_r52, gh_r53, gh_w52, gh_w53, gh_u32, gp_32_0, gf_32_1, gf_32_26, gf_32_27, z_o_i, z_ai_i, z_si_i, z_ab_b, z_ab_z, z_sb_b, z_sb_z, z_al_i, z_al_b, z_pu_s, z_pu_n, nI_toN, z_inN, true_and, and_true, nI_add, pk_mul, vu_eq, vu_ne, nI_leI, nI_ltI, nI_eqI, nI_eq0, nI_le0, ↓ok_0, ↓ok_1, ↓bI_ok, if_true, if_false, ne_eq, not_true_eq_false, not_false_eq_true, nI_m1, nI_1ne, nI_0eq, bI_eq0, bI_ne0, Bool.false_eq_true, pk_sub, c_inK, c_inN, iw_nI, decide_true, decide_false, Nat.add_sub_cancel, nI_ge0, nI_lt0, nm_lt, nm_ge, bI_T, bI_F, Nat.one_ne_zero, Nat.zero_ne_one, pk_div, pk_rem, r1, le, c1', z24, md]
      exact ih (k + 1) i B (by omega) hi hF hr
def s_broken (s : z_S) (w i : Int32) : Int32 := if iw w (s.1 32 1) = true ∧ iw i 2147483648 = true then oI (nt (brP s.1 w.toNatClampNeg) (24 * s.1 32 1) 0 i.toNatClampNeg) else -3
theorem m_broken {w i : Int32} (hM : Mo s A) (hQ : ∀ B, Mo s B → Fk A B → Q (some (.int (s_broken s w i))) (GH B P dy) nx) : XC (d + 4) m_X8_broken [.ref 32, .int w, .int i] (GH A P dy) nx Q := by
  show X (d + 4) m_X8_broken 0 [some (.ref 32), some (.int w), some (.int i), none, none] [] (GH A P dy) nx 0 0 Q
  obtain ⟨B, eB, hB, fB⟩ := t0_ex hM
  simp (disch := omega) only [i_X8_broken_0, i_X8_broken_1, i_X8_broken_2, gh_o32, gh_r52, gh_r53, gh_w52, gh_w53, gh_u32, gp_32_0, gf_32_1, gf_32_26, gf_32_27, z_o_i, z_ai_i, z_si_i, z_ab_b, z_ab_z, z_sb_b, z_sb_z, z_al_i, z_al_b, z_pu_s, z_pu_n, nI_toN, z_inN, true_and, and_true, nI_add, pk_mul, vu_eq, vu_ne, nI_leI, nI_ltI, nI_eqI, nI_eq0, nI_le0, ↓ok_0, ↓ok_1, ↓bI_ok, if_true, if_false, ne_eq, not_true_eq_false, not_false_eq_true, nI_m1, nI_1ne, nI_0eq, bI_eq0, bI_ne0, Bool.false_eq_true, pk_sub, c_inK, c_inN, iw_nI, decide_true, decide_false, Nat.add_sub_cancel, nI_ge0, nI_lt0, nm_lt, nm_ge, bI_T, bI_F, Nat.one_ne_zero, Nat.zero_ne_one, pk_div, pk_rem, eB]
  have iW : ∀ {d nx : Nat} {Q : z_Q} {x : Int32}, XC (d + 1) m_X8_isWord [.ref 32, .int x] (GH B P dy) nx Q = Q (some (.int (bI (iw x (s.1 32 1) = true)))) (GH B P dy) nx := c_isWord hB
  have sc := hB.1.sc
  unfold s_broken at hQ
  by_cases hw : iw w (s.1 32 1) = true
  · by_cases hi : iw i 2147483648 = true
    · rw [if_pos ⟨hw, hi⟩] at hQ
      obtain ⟨a, h1, rfl⟩ := iw_ex hw
      obtain ⟨c, h3, rfl⟩ := iw_ex hi
      rw [nI_toN (by omega), nI_toN (by omega)] at hQ
      simp (disch := omega) only [i_X8_broken_5, i_X8_broken_6, i_X8_broken_7, i_X8_broken_10, i_X8_broken_13, i_X8_broken_14, i_X8_broken_20, i_X8_broken_21, i_X8_broken_22, i_X8_broken_23, gh_o32, gh_r52, gh_r53, gh_w52, gh_w53, gh_u32, gp_32_0, gf_32_1, gf_32_26, gf_32_27, z_o_i, z_ai_i, z_si_i, z_ab_b, z_ab_z, z_sb_b, z_sb_z, z_al_i, z_al_b, z_pu_s, z_pu_n, nI_toN, z_inN, true_and, and_true, nI_add, pk_mul, vu_eq, vu_ne, nI_leI, nI_ltI, nI_eqI, nI_eq0, nI_le0, ↓ok_0, ↓ok_1, ↓bI_ok, if_true, if_false, ne_eq, not_true_eq_false, not_false_eq_true, nI_m1, nI_1ne, nI_0eq, bI_eq0, bI_ne0, Bool.false_eq_true, pk_sub, c_inK, c_inN, iw_nI, decide_true, decide_false, Nat.add_sub_cancel, nI_ge0, nI_lt0, nm_lt, nm_ge, bI_T, bI_F, Nat.one_ne_zero, Nat.zero_ne_one, pk_div, pk_rem, iW, h1]
      exact l_broken hB h1 (fun C hC => hQ C (hC.mo hB) (fB.trans hC.fk)) (24 * s.1 32 1) 0 c B (by omega) h3 Fr.refl rfl
    · rw [if_neg (fun q => hi q.2)] at hQ
      rw [iw_0] at hi
      simp (disch := omega) only [i_X8_broken_5, i_X8_broken_6, i_X8_broken_7, i_X8_broken_10, i_X8_broken_13, i_X8_broken_14, i_X8_broken_17, i_X8_broken_19, gh_o32, gh_r52, gh_r53, gh_w52, gh_w53, gh_u32, gp_32_0, gf_32_1, gf_32_26, gf_32_27, z_o_i, z_ai_i, z_si_i, z_ab_b, z_ab_z, z_sb_b, z_sb_z, z_al_i, z_al_b, z_pu_s, z_pu_n, nI_toN, z_inN, true_and, and_true, nI_add, pk_mul, vu_eq, vu_ne, nI_leI, nI_ltI, nI_eqI, nI_eq0, nI_le0, ↓ok_0, ↓ok_1, ↓bI_ok, if_true, if_false, ne_eq, not_true_eq_false, not_false_eq_true, nI_m1, nI_1ne, nI_0eq, bI_eq0, bI_ne0, Bool.false_eq_true, pk_sub, c_inK, c_inN, iw_nI, decide_true, decide_false, Nat.add_sub_cancel, nI_ge0, nI_lt0, nm_lt, nm_ge, bI_T, bI_F, Nat.one_ne_zero, Nat.zero_ne_one, pk_div, pk_rem, iW, hw, hi]
      exact hQ B hB fB
  · rw [if_neg (fun q => hw q.1)] at hQ
    simp (disch := omega) only [i_X8_broken_5, i_X8_broken_6, i_X8_broken_7, i_X8_broken_10, i_X8_broken_17, i_X8_broken_19, gh_o32, gh_r52, gh_r53, gh_w52, gh_w53, gh_u32, gp_32_0, gf_32_1, gf_32_26, gf_32_27, z_o_i, z_ai_i, z_si_i, z_ab_b, z_ab_z, z_sb_b, z_sb_z, z_al_i, z_al_b, z_pu_s, z_pu_n, nI_toN, z_inN, true_and, and_true, nI_add, pk_mul, vu_eq, vu_ne, nI_leI, nI_ltI, nI_eqI, nI_eq0, nI_le0, ↓ok_0, ↓ok_1, ↓bI_ok, if_true, if_false, ne_eq, not_true_eq_false, not_false_eq_true, nI_m1, nI_1ne, nI_0eq, bI_eq0, bI_ne0, Bool.false_eq_true, pk_sub, c_inK, c_inN, iw_nI, decide_true, decide_false, Nat.add_sub_cancel, nI_ge0, nI_lt0, nm_lt, nm_ge, bI_T, bI_F, Nat.one_ne_zero, Nat.zero_ne_one, pk_div, pk_rem, iW, hw]
    exact hQ B hB fB
end MPub4
