/-! tails of joined sayings -/
theorem bt_max {f g : Nat → Nat} : ∀ (n b : Nat), bt f g n = some b → b < n ∧ f b < 10 ∧ (∀ i, i < n → f i < 10 → g i ≤ g b) ∧ ∀ i, b < i → i < n → f i < 10 → g i < g b := by
  intro n
  induction n with
  | zero => intro b h; cases h
  | succ n ih =>
    intro b h
    rw [bt] at h
    cases e : bt f g n with
    | none =>
      have no : ∀ i, i < n → ¬ f i < 10 := fun i hi hv => by
        obtain ⟨c, hc⟩ := bt_some (f := f) (g := g) n ⟨i, hi, hv⟩
        rw [e] at hc; cases hc
      rw [e] at h
      by_cases v : f n < 10
      · simp only [v, if_true] at h
        cases h
        refine ⟨by omega, v, fun i hi hv => ?_, fun i h1 h2 _ => by omega⟩
        by_cases q : i = n
        · rw [q]; exact Nat.le_refl _
        · exact absurd hv (no i (by omega))
      · simp only [v, if_false] at h
        cases h
    | some c =>
      obtain ⟨c1, c2, c3, c4⟩ := ih c e
      rw [e] at h
      by_cases v : f n < 10 ∧ g c ≤ g n
      · simp only [v, and_self, if_true] at h
        cases h
        refine ⟨by omega, v.1, fun i hi hv => ?_, fun i h1 h2 _ => by omega⟩
        by_cases q : i = n
        · rw [q]; exact Nat.le_refl _
        · have := c3 i (by omega) hv; omega
      · simp only [v, if_false] at h
        cases h
        refine ⟨by omega, c2, fun i hi hv => ?_, fun i h1 h2 hv => ?_⟩
        · by_cases q : i = n
          · subst q
            have : ¬ g b ≤ g i := fun z => v ⟨hv, z⟩
            omega
          · exact c3 i (by omega) hv
        · by_cases q : i = n
          · subst q
            have : ¬ g b ≤ g i := fun z => v ⟨hv, z⟩
            omega
          · exact c4 i h1 (by omega) hv
theorem bt_is {f g : Nat → Nat} {n b : Nat} (h1 : b < n) (h2 : f b < 10) (h3 : ∀ i, i < n → f i < 10 → g i ≤ g b) (h4 : ∀ i, b < i → i < n → f i < 10 → g i < g b) : bt f g n = some b := by
  obtain ⟨c, hc⟩ := bt_some (f := f) (g := g) n ⟨b, h1, h2⟩
  obtain ⟨c1, c2, c3, c4⟩ := bt_max n c hc
  rw [hc]
  have e : c = b := by
    rcases Nat.lt_trichotomy c b with q | q | q
    · have := c4 b q h1 h2; have := h3 c c1 c2; omega
    · exact q
    · have := h4 c q c1 c2; have := c3 b h1 h2; omega
  rw [e]
/-- the tail of a saying whose stresses are one less -/
theorem bt_less {f g : Nat → Nat} {n b : Nat} (hg : ∀ i, g i ≤ 2) (h : bt f g n = some b) : bt f (fun i => g i - 1) n = some (if g b = 2 then b else lvw f n) := by
  obtain ⟨c1, c2, c3, c4⟩ := bt_max n b h
  by_cases q : g b = 2
  · rw [if_pos q]
    refine bt_is c1 c2 (fun i hi hv => ?_) (fun i h1 h2 hv => ?_)
    · have := c3 i hi hv; show g i - 1 ≤ g b - 1; omega
    · have := c4 i h1 h2 hv; show g i - 1 < g b - 1; omega
  · rw [if_neg q]
    obtain ⟨l1, l2, l3⟩ := lvw_sp n ⟨b, c1, c2⟩
    have bb := hg b
    refine bt_is l1 l2 (fun i hi hv => ?_) (fun i h1 h2 hv => absurd hv (l3 i h1 h2))
    have := c3 i hi hv; show g i - 1 ≤ g (lvw f n) - 1; omega
/-- the tail of two rows, one behind the other -/
theorem bt_join {f0 g0 f1 g1 : Nat → Nat} {n b : Nat} (h : bt f0 g0 n = some b) : ∀ (m : Nat), bt (hj f0 f1 n) (hj g0 g1 n) (n + m) = match bt f1 g1 m with
    | none => some b
    | some c => if g0 b ≤ g1 c then some (n + c) else some b := by
  obtain ⟨c1, c2, c3, c4⟩ := bt_max n b h
  have jl : ∀ {f g : Nat → Nat} {i : Nat}, i < n → hj f g n i = f i := fun {f g i} hi => if_pos hi
  have jr : ∀ {f g : Nat → Nat} {i : Nat}, hj f g n (n + i) = g i := fun {f g i} => by
    unfold hj; rw [if_neg (by omega)]; congr 1; omega
  have cg : ∀ {f g f' g' : Nat → Nat} (k : Nat), (∀ i, i < k → f i = f' i) → (∀ i, i < k → g i = g' i) → bt f g k = bt f' g' k := by
    intro f g f' g' k
    induction k with
    | zero => intro _ _; rfl
    | succ k ih =>
      intro e1 e2
      have q := ih (fun i hi => e1 i (by omega)) (fun i hi => e2 i (by omega))
      simp only [bt, q, e1 k (by omega), e2 k (by omega)]
      cases e : bt f' g' k with
      | none => rfl
      | some c =>
        have := bt_lt e
        simp only [e2 c (by omega)]
  intro m
  induction m with
  | zero =>
    rw [Nat.add_zero, cg n (fun i hi => jl hi) (fun i hi => jl hi), h]
    rfl
  | succ m ih =>
    rw [show n + (m + 1) = (n + m) + 1 from rfl, bt, ih]
    rw [show bt f1 g1 (m + 1) = (match bt f1 g1 m with | none => if f1 m < 10 then some m else none | some c => if f1 m < 10 ∧ g1 c ≤ g1 m then some m else some c) from rfl]
    cases e : bt f1 g1 m with
    | none =>
      simp only [jr, jl c1]
      by_cases v : f1 m < 10
      · by_cases w : g0 b ≤ g1 m
        · simp [v, w]
        · simp [v, w]
      · simp [v]
    | some c =>
      by_cases w : g0 b ≤ g1 c
      · simp only [w, if_true, jr]
        by_cases v : f1 m < 10 ∧ g1 c ≤ g1 m
        · have : g0 b ≤ g1 m := Nat.le_trans w v.2
          simp [v, this]
        · simp [v, w]
      · simp only [w, if_false, jr, jl c1]
        by_cases v : f1 m < 10 ∧ g1 c ≤ g1 m
        · simp only [v, and_self, if_true, true_and]
        · have n1 : ¬ (f1 m < 10 ∧ g0 b ≤ g1 m) := fun z => v ⟨z.1, by omega⟩
          simp only [v, n1, if_false, w]
