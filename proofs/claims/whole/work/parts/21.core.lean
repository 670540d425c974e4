/-! small rows for walks over the small machine -/
theorem z_o_i {ci : Nat} {fs : Nat → Value} {K : (Nat → Value) → Prop} : z_o (.inr (.inl (ci, fs))) ci K = K fs := by simp [z_o]
theorem z_ai_i {n : Nat} {f : Nat → Int32} {i : Int32} {K : Int32 → Prop} : z_ai (.inl (0, n, f)) i K = (z_in i n = true ∧ K (f i.toNatClampNeg)) := by simp [z_ai]
theorem z_ai_3 {n : Nat} {f : Nat → Int32} {i : Int32} {K : Int32 → Prop} : z_ai (.inl (3, n, f)) i K = (z_in i n = true ∧ K (f i.toNatClampNeg)) := by simp [z_ai]
theorem z_si_i {n : Nat} {f : Nat → Int32} {i : Int32} {K : Nat → (Nat → Int32) → Prop} : z_si (.inl (0, n, f)) i K = (z_in i n = true ∧ K n f) := by simp [z_si]
theorem z_ab_b {n : Nat} {f : Nat → Int32} {i : Int32} {K : Int32 → Prop} : z_ab (.inl (1, n, f)) i K = (z_in i n = true ∧ K (f i.toNatClampNeg)) := by simp [z_ab]
theorem z_ab_z {n : Nat} {f : Nat → Int32} {i : Int32} {K : Int32 → Prop} : z_ab (.inl (2, n, f)) i K = (z_in i n = true ∧ K (f i.toNatClampNeg)) := by simp [z_ab]
theorem z_sb_b {n : Nat} {f : Nat → Int32} {i x : Int32} {K : z_C → Prop} : z_sb (.inl (1, n, f)) i x K = (z_in i n = true ∧ K (.inl (1, n, va_up f i.toNatClampNeg (vp_nar .byte x)))) := by
  by_cases e : z_in i n = true <;> simp [z_sb, e]
theorem z_sb_z {n : Nat} {f : Nat → Int32} {i x : Int32} {K : z_C → Prop} : z_sb (.inl (2, n, f)) i x K = (z_in i n = true ∧ K (.inl (2, n, va_up f i.toNatClampNeg (vp_nar .boolean x)))) := by
  by_cases e : z_in i n = true <;> simp [z_sb, e]
theorem z_al_i {k n : Nat} {f : Nat → Int32} {K : Int32 → Prop} : z_al (.inl (k, n, f)) K = K (nI n) := rfl
theorem z_al_b {n : Nat} {f : Nat → Option Nat} {K : Int32 → Prop} : z_al (.inr (.inr (n, f))) K = K (nI n) := rfl
theorem z_aq_i {n : Nat} {f : Nat → Option Nat} {i : Int32} {K : Option Nat → Prop} : z_aq (.inr (.inr (n, f))) i K = (z_in i n = true ∧ K (f i.toNatClampNeg)) := rfl
theorem z_pu_s {v : Value} {st : List Value} : z_pu (some v) st = v :: st := rfl
theorem z_pu_n {st : List Value} : z_pu none st = st := rfl
theorem nI_toN {n : Nat} (h : n < 2147483648) : (nI n).toNatClampNeg = n := nI_clamp h
theorem z_inN {j n : Nat} (hj : j < n) (hn : n < 2147483648) : z_in (nI j) n = true := by
  have := vp_in_nI hj hn
  simp only [z_in, Bool.not_eq_true', Bool.or_eq_false_iff, decide_eq_false_iff_not]
  exact ⟨fun q => this (Or.inl q), fun q => this (Or.inr q)⟩
theorem lc_lt {x y : Int64} : lg_cmp x y < 0 ↔ x < y := by
  unfold lg_cmp
  simp only [gt_iff_lt]
  by_cases h : y < x
  · rw [if_pos h]
    simp only [Int64.lt_iff_toInt_lt] at h ⊢
    constructor
    · intro q; exact absurd q (by decide)
    · intro q; omega
  · rw [if_neg h]
    by_cases h2 : x = y
    · rw [if_pos h2]
      subst h2
      simp only [Int64.lt_iff_toInt_lt, Int.lt_irrefl, iff_false]
      decide
    · rw [if_neg h2]
      simp only [Int64.lt_iff_toInt_lt, ← Int64.toInt_inj] at h h2 ⊢
      constructor
      · intro _; omega
      · intro _; decide
theorem lc_gt {x y : Int64} : 0 < lg_cmp x y ↔ y < x := by
  unfold lg_cmp
  simp only [gt_iff_lt]
  by_cases h : y < x
  · rw [if_pos h]
    simp only [h, iff_true]
    decide
  · rw [if_neg h]
    by_cases h2 : x = y
    · rw [if_pos h2]
      simp only [h, iff_false]
      decide
    · rw [if_neg h2]
      simp only [h, iff_false]
      decide
theorem c64_le (a b : Int32) : a.toInt64 ≤ b.toInt64 ↔ a ≤ b := by
  rw [Int64.le_iff_toInt_le, Int32.le_iff_toInt_le, Int32.toInt_toInt64, Int32.toInt_toInt64]
theorem c64_lt (a b : Int32) : a.toInt64 < b.toInt64 ↔ a < b := by
  rw [Int64.lt_iff_toInt_lt, Int32.lt_iff_toInt_lt, Int32.toInt_toInt64, Int32.toInt_toInt64]
/-- a boolean as a number -/
def bI (c : Prop) [Decidable c] : Int32 := if c then nI 1 else nI 0
theorem bI_t {c : Prop} [Decidable c] (h : c) : bI c = nI 1 := if_pos h
theorem bI_f {c : Prop} [Decidable c] (h : ¬ c) : bI c = nI 0 := if_neg h
theorem bI_eq0 {c : Prop} [Decidable c] : (bI c = 0) = ¬ c := by
  by_cases h : c
  · simp only [bI_t h, h, not_true_eq_false, eq_iff_iff, iff_false]; decide
  · simp only [bI_f h, h, not_false_eq_true, eq_iff_iff, iff_true]; rfl
theorem bI_ne0 {c : Prop} [Decidable c] : (bI c ≠ 0) = c := by
  by_cases h : c
  · simp only [bI_t h, h, ne_eq, eq_iff_iff, iff_true]; decide
  · simp only [bI_f h, h, ne_eq, eq_iff_iff, iff_false, Decidable.not_not]; rfl
theorem bI_ok {c : Prop} [Decidable c] : (bI c = 0 ∨ bI c = 1) = True := by
  by_cases h : c
  · simp only [bI_t h, eq_iff_iff, iff_true]; exact Or.inr rfl
  · simp only [bI_f h, eq_iff_iff, iff_true]; exact Or.inl rfl
theorem ok_0 : ((nI 0 : Int32) = 0 ∨ (nI 0 : Int32) = 1) = True := by simp only [eq_iff_iff, iff_true]; exact Or.inl rfl
theorem ok_1 : ((nI 1 : Int32) = 0 ∨ (nI 1 : Int32) = 1) = True := by simp only [eq_iff_iff, iff_true]; exact Or.inr rfl
/-- a method that ends in two places with 1 and 0 -/
theorem bI_if {c : Prop} [Decidable c] {Q : z_Q} {h : z_H} {nx : Nat} : (if c then Q (some (.int (nI 1))) h nx else Q (some (.int (nI 0))) h nx) = Q (some (.int (bI c))) h nx := by
  by_cases q : c
  · rw [if_pos q, bI_t q]
  · rw [if_neg q, bI_f q]
/-- VerseBenchModel.in -/
theorem c_in {d : Nat} {h : z_H} {nx : Nat} {Q : z_Q} {v lo hi : Int64} : XC d m_X8_in [.long v, .long lo, .long hi] h nx Q = Q (some (.int (bI (¬ v < lo ∧ ¬ hi < v)))) h nx := by
  show X d m_X8_in 0 [some (.long v), none, some (.long lo), none, some (.long hi), none] [] h nx 0 0 Q = _
  simp only [i_X8_in_0, i_X8_in_1, i_X8_in_2, i_X8_in_3, i_X8_in_6, i_X8_in_7, i_X8_in_9, i_X8_in_10, i_X8_in_13, i_X8_in_14, i_X8_in_17, i_X8_in_18, lc_lt, lc_gt, ok_0, ok_1, true_and]
  by_cases h1 : v < lo
  · rw [if_pos h1, bI_f (fun q => q.1 h1)]
  · by_cases h2 : hi < v
    · rw [if_neg h1, if_pos h2, bI_f (fun q => q.2 h2)]
    · rw [if_neg h1, if_neg h2, bI_t ⟨h1, h2⟩]
/-- VerseBenchModel.isVowel -/
theorem c_isVowel {d : Nat} {h : z_H} {nx : Nat} {Q : z_Q} {x : Int32} : XC d m_X8_isVowel [.int x] h nx Q = Q (some (.int (bI (x < nI 10)))) h nx := by
  show X d m_X8_isVowel 0 [some (.int x)] [] h nx 0 0 Q = _
  simp only [i_X8_isVowel_0, i_X8_isVowel_1, i_X8_isVowel_3, i_X8_isVowel_6, i_X8_isVowel_7, i_X8_isVowel_10, i_X8_isVowel_11, ok_0, ok_1, true_and]
  by_cases h1 : x < nI 10
  · rw [if_neg (by rw [Int32.not_le]; exact h1), bI_t h1]
  · rw [if_pos (Int32.not_lt.mp h1), bI_f h1]
