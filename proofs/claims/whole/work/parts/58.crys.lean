/-! THE CLASS: rhymes by number and by cost, broken rhymes by number -/
/-- how many of m from k on -/
def ctk (P : Nat → Bool) : Nat → Nat → Nat
  | 0, _ => 0
  | m + 1, k => (if P k = true then 1 else 0) + ctk P m (k + 1)
theorem nt_snoc {P : Nat → Bool} : ∀ (m k i : Nat), nt P (m + 1) k i = (nt P m k i).or (if P (k + m) = true ∧ ctk P m k = i then some (k + m) else none) := by
  intro m
  induction m with
  | zero =>
    intro k i
    simp only [nt, ctk, Nat.add_zero]
    by_cases p : P k = true
    · by_cases z : i = 0
      · simp [p, z]
      · have : ¬ 0 = i := fun q => z q.symm
        simp [p, z, this]
    · simp [p]
  | succ m ih =>
    intro k i
    rw [nt, ih (k + 1) (i - 1), ih (k + 1) i, show nt P (m + 1) k i = (if P k = true then (if i = 0 then some k else nt P m (k + 1) (i - 1)) else nt P m (k + 1) i) from rfl]
    rw [show k + 1 + m = k + (m + 1) by omega, show ctk P (m + 1) k = (if P k = true then 1 else 0) + ctk P m (k + 1) from rfl]
    by_cases p : P k = true
    · by_cases z : i = 0
      · simp [p, z]
      · rw [if_pos p, if_neg z, if_pos p, if_neg z, if_pos p]
        have e : (ctk P m (k + 1) = i - 1) = (1 + ctk P m (k + 1) = i) := by simp only [eq_iff_iff]; omega
        simp only [e]
    · rw [if_neg p, if_neg p, if_neg p, Nat.zero_add]
theorem nt_none {P : Nat → Bool} : ∀ (m k i : Nat), nt P m k i = none ↔ ctk P m k ≤ i := by
  intro m
  induction m with
  | zero => intro k i; simp [nt, ctk]
  | succ m ih =>
    intro k i
    rw [nt, ctk]
    by_cases p : P k = true
    · by_cases z : i = 0
      · simp [p, z]
      · rw [if_pos p, if_neg z, if_pos p, ih]; omega
    · rw [if_neg p, if_neg p, ih]; omega
theorem ctk_snoc {P : Nat → Bool} : ∀ (m k : Nat), ctk P (m + 1) k = ctk P m k + if P (k + m) = true then 1 else 0 := by
  intro m
  induction m with
  | zero => intro k; simp [ctk]
  | succ m ih =>
    intro k
    rw [ctk, ih (k + 1), show k + 1 + m = k + (m + 1) by omega, show ctk P (m + 1) k = (if P k = true then 1 else 0) + ctk P m (k + 1) from rfl]
    omega
theorem nt_skip {P : Nat → Bool} {m i : Nat} : ∀ (r k : Nat), (∀ j, k ≤ j → j < k + r → ¬ P j = true) → nt P (r + m) k i = nt P m (k + r) i := by
  intro r
  induction r with
  | zero => intro k _; rw [Nat.zero_add, Nat.add_zero]
  | succ r ih =>
    intro k h
    rw [show r + 1 + m = (r + m) + 1 by omega, nt, if_neg (h k (by omega) (by omega)), ih (k + 1) (fun j h1 h2 => h j (by omega) (by omega))]
    congr 1
    omega
/-- by number alone -/
theorem rhF_0 {h : Nat → Bool} {c : Nat → Nat} (hc : ∀ u, c u = 0) : ∀ u, (rhF h c u).1 = ctk h u 0 ∧ (∀ k, (rhF h c u).2.2 k = 0) ∧ ∀ i, (if i < (rhF h c u).1 then some ((rhF h c u).2.1 i) else none) = nt h u 0 i := by
  intro u
  induction u with
  | zero => exact ⟨rfl, fun _ => rfl, fun _ => rfl⟩
  | succ u ih =>
    obtain ⟨i1, i2, i3⟩ := ih
    have ps0 : ps (rhF h c u).2.2 (c u) (rhF h c u).1 = (rhF h c u).1 := by
      generalize (rhF h c u).1 = n
      cases n with
      | zero => rfl
      | succ n => rw [ps, hc u, i2, if_neg (by omega)]
    rw [ctk_snoc, Nat.zero_add, rhF]
    by_cases p : h u = true
    · rw [if_pos p, if_pos p]
      refine ⟨by rw [i1], fun k => ?_, fun i => ?_⟩
      · simp only [isF, ps0]
        split
        · exact i2 k
        · split
          · exact hc u
          · exact i2 _
      · rw [nt_snoc, ← i3 i, Nat.zero_add]
        simp only [isF, ps0]
        rw [← i1]
        by_cases l : i < (rhF h c u).1
        · rw [if_pos (by omega), if_pos l, if_pos l]; rfl
        · rw [if_neg l]
          by_cases e : i = (rhF h c u).1
          · rw [if_pos (by omega), if_neg l, if_pos e, if_pos ⟨p, e.symm⟩]; rfl
          · rw [if_neg (by omega), if_neg (c := h u = true ∧ (rhF h c u).1 = i) (fun z => e z.2.symm), if_neg l]; rfl
    · rw [if_neg p, if_neg p, Nat.add_zero]
      refine ⟨i1, i2, fun i => ?_⟩
      rw [nt_snoc, ← i3 i, Nat.zero_add, if_neg (c := h u = true ∧ ctk h u 0 = i) (fun z => p z.1), Option.or_none]
theorem ps_sp {G : Nat → Nat} {c : Nat} : ∀ n, (∀ k, ps G c n ≤ k → k < n → c < G k) ∧ (ps G c n = 0 ∨ G (ps G c n - 1) ≤ c) := by
  intro n
  induction n with
  | zero => exact ⟨fun k _ h => absurd h (Nat.not_lt_zero k), Or.inl rfl⟩
  | succ n ih =>
    rw [ps]
    by_cases l : c < G n
    · rw [if_pos l]
      refine ⟨fun k h1 h2 => ?_, ih.2⟩
      by_cases e : k = n
      · rw [e]; exact l
      · exact ih.1 k h1 (by omega)
    · rw [if_neg l]
      exact ⟨fun k h1 h2 => by omega, Or.inr (by rw [Nat.add_sub_cancel]; omega)⟩
/-- the words found are sorted by cost, then by number -/
theorem rhF_s {h : Nat → Bool} {c : Nat → Nat} : ∀ u, u ≤ 24 → (∀ i j, i < j → j < (rhF h c u).1 → 24 * (rhF h c u).2.2 i + (rhF h c u).2.1 i < 24 * (rhF h c u).2.2 j + (rhF h c u).2.1 j) ∧ (∀ j, j < (rhF h c u).1 → (rhF h c u).2.1 j < u ∧ h ((rhF h c u).2.1 j) = true ∧ (rhF h c u).2.2 j = c ((rhF h c u).2.1 j)) ∧ ∀ v, v < u → h v = true → ∃ j, j < (rhF h c u).1 ∧ (rhF h c u).2.1 j = v := by
  intro u
  induction u with
  | zero => intro _; exact ⟨fun i j _ h2 => absurd h2 (Nat.not_lt_zero j), fun j h => absurd h (Nat.not_lt_zero j), fun v h => absurd h (Nat.not_lt_zero v)⟩
  | succ u ih =>
    intro hu
    obtain ⟨i1, i2, i3⟩ := ih (by omega)
    rw [rhF]
    by_cases p : h u = true
    · rw [if_pos p]
      have sp := ps_sp (G := (rhF h c u).2.2) (c := c u) (rhF h c u).1
      have pl := ps_le (G := (rhF h c u).2.2) (c := c u) (rhF h c u).1
      generalize ps (rhF h c u).2.2 (c u) (rhF h c u).1 = q at sp pl
      generalize rhF h c u = R at i1 i2 i3 sp pl
      have low : ∀ k, k < q → 24 * R.2.2 k + R.2.1 k < 24 * c u + u := by
        intro k hk
        have b1 := i2 k (by omega)
        have b2 := i2 (q - 1) (by omega)
        have g : R.2.2 (q - 1) ≤ c u := sp.2.resolve_left (by omega)
        by_cases e : k = q - 1
        · rw [e]; omega
        · have := i1 k (q - 1) (by omega) (by omega)
          omega
      have high : ∀ k, q ≤ k → k < R.1 → 24 * c u + u < 24 * R.2.2 k + R.2.1 k := by
        intro k h1 h2
        have := sp.1 k h1 h2
        omega
      have val : ∀ k, k < R.1 + 1 → (k < q ∧ isF R.2.1 q u k = R.2.1 k ∧ isF R.2.2 q (c u) k = R.2.2 k) ∨ (k = q ∧ isF R.2.1 q u k = u ∧ isF R.2.2 q (c u) k = c u) ∨ (q < k ∧ isF R.2.1 q u k = R.2.1 (k - 1) ∧ isF R.2.2 q (c u) k = R.2.2 (k - 1)) := by
        intro k hk
        simp only [isF]
        by_cases l : k < q
        · exact Or.inl ⟨l, by rw [if_pos l], by rw [if_pos l]⟩
        · by_cases e : k = q
          · exact Or.inr (Or.inl ⟨e, by rw [if_neg l, if_pos e], by rw [if_neg l, if_pos e]⟩)
          · exact Or.inr (Or.inr ⟨by omega, by rw [if_neg l, if_neg e], by rw [if_neg l, if_neg e]⟩)
      refine ⟨fun i j hij hj => ?_, fun j hj => ?_, fun v hv hh => ?_⟩
      · have hj' : j < R.1 + 1 := hj
        show 24 * isF R.2.2 q (c u) i + isF R.2.1 q u i < 24 * isF R.2.2 q (c u) j + isF R.2.1 q u j
        rcases val i (by omega) with ⟨a1, a2, a3⟩ | ⟨a1, a2, a3⟩ | ⟨a1, a2, a3⟩ <;> rcases val j hj' with ⟨b1, b2, b3⟩ | ⟨b1, b2, b3⟩ | ⟨b1, b2, b3⟩ <;> rw [a2, a3, b2, b3]
        · exact i1 i j hij (by omega)
        · exact low i a1
        · by_cases e : i = j - 1
          · omega
          · exact i1 i (j - 1) (by omega) (by omega)
        · omega
        · omega
        · exact high (j - 1) (by omega) (by omega)
        · omega
        · omega
        · exact i1 (i - 1) (j - 1) (by omega) (by omega)
      · have hj' : j < R.1 + 1 := hj
        show isF R.2.1 q u j < u + 1 ∧ h (isF R.2.1 q u j) = true ∧ isF R.2.2 q (c u) j = c (isF R.2.1 q u j)
        rcases val j hj' with ⟨b1, b2, b3⟩ | ⟨b1, b2, b3⟩ | ⟨b1, b2, b3⟩ <;> rw [b2, b3]
        · have := i2 j (by omega); exact ⟨by omega, this.2⟩
        · exact ⟨by omega, p, rfl⟩
        · have := i2 (j - 1) (by omega); exact ⟨by omega, this.2⟩
      · by_cases e : v = u
        · refine ⟨q, ?_, ?_⟩
          · show q < R.1 + 1; omega
          · show isF R.2.1 q u q = v
            simp only [isF]; rw [if_neg (by omega), if_pos trivial, e]
        · obtain ⟨j, j1, j2⟩ := i3 v (by omega) hh
          by_cases l : j < q
          · refine ⟨j, ?_, ?_⟩
            · show j < R.1 + 1; omega
            · show isF R.2.1 q u j = v
              simp only [isF]; rw [if_pos l]; exact j2
          · refine ⟨j + 1, ?_, ?_⟩
            · show j + 1 < R.1 + 1; omega
            · show isF R.2.1 q u (j + 1) = v
              simp only [isF]; rw [if_neg (by omega), if_neg (by omega), Nat.add_sub_cancel]; exact j2
    · rw [if_neg p]
      refine ⟨i1, fun j hj => ?_, fun v hv hh => ?_⟩
      · have := i2 j hj; exact ⟨by omega, this.2⟩
      · by_cases e : v = u
        · rw [e] at hh; exact absurd hh p
        · exact i3 v (by omega) hh
/-- the least key that is greater than the last -/
def gtK (x : Nat) (l : Option Nat) : Bool := match l with
  | none => true
  | some y => decide (y < x)
def nxF (kk : Nat → Option Nat) (l : Option Nat) : Nat → Option Nat
  | 0 => none
  | m + 1 => match kk m with
    | none => nxF kk l m
    | some x => if gtK x l = true then some (mn (nxF kk l m) x) else nxF kk l m
theorem nxF_sp {kk : Nat → Option Nat} {l : Option Nat} : ∀ m, (nxF kk l m = none → ∀ j x, j < m → kk j = some x → ¬ gtK x l = true) ∧ ∀ y, nxF kk l m = some y → (∃ j, j < m ∧ kk j = some y) ∧ gtK y l = true ∧ ∀ j x, j < m → kk j = some x → gtK x l = true → y ≤ x := by
  intro m
  induction m with
  | zero => exact ⟨fun _ j x h => absurd h (Nat.not_lt_zero j), fun y h => by cases h⟩
  | succ m ih =>
    have e0 : nxF kk l (m + 1) = match kk m with
      | none => nxF kk l m
      | some x => if gtK x l = true then some (mn (nxF kk l m) x) else nxF kk l m := rfl
    cases e : kk m with
    | none =>
      rw [e] at e0
      simp only [] at e0
      rw [e0]
      refine ⟨fun h j x hj hx => ?_, fun y h => ?_⟩
      · by_cases q : j = m
        · rw [q, e] at hx; cases hx
        · exact ih.1 h j x (by omega) hx
      · obtain ⟨⟨j, j1, j2⟩, h2, h3⟩ := ih.2 y h
        refine ⟨⟨j, by omega, j2⟩, h2, fun i x hi hx hg => ?_⟩
        by_cases q : i = m
        · rw [q, e] at hx; cases hx
        · exact h3 i x (by omega) hx hg
    | some x =>
      rw [e] at e0
      simp only [] at e0
      by_cases g : gtK x l = true
      · rw [if_pos g] at e0
        rw [e0]
        refine ⟨fun h => (by cases h), fun y h => ?_⟩
        have hy : mn (nxF kk l m) x = y := Option.some.inj h
        cases r : nxF kk l m with
        | none =>
          rw [r] at hy
          have : x = y := hy
          subst this
          refine ⟨⟨m, by omega, e⟩, g, fun i z hi hz hg => ?_⟩
          by_cases q : i = m
          · rw [q, e] at hz; cases hz; exact Nat.le_refl _
          · exact absurd hg (ih.1 r i z (by omega) hz)
        | some v =>
          rw [r] at hy
          have hy' : (if x < v then x else v) = y := hy
          obtain ⟨⟨j, j1, j2⟩, h2, h3⟩ := ih.2 v r
          by_cases lt : x < v
          · rw [if_pos lt] at hy'
            subst hy'
            refine ⟨⟨m, by omega, e⟩, g, fun i z hi hz hg => ?_⟩
            by_cases q : i = m
            · rw [q, e] at hz; cases hz; exact Nat.le_refl _
            · have := h3 i z (by omega) hz hg; omega
          · rw [if_neg lt] at hy'
            subst hy'
            refine ⟨⟨j, by omega, j2⟩, h2, fun i z hi hz hg => ?_⟩
            by_cases q : i = m
            · rw [q, e] at hz; cases hz; omega
            · exact h3 i z (by omega) hz hg
      · rw [if_neg g] at e0
        rw [e0]
        refine ⟨fun h j z hj hz => ?_, fun y h => ?_⟩
        · by_cases q : j = m
          · rw [q, e] at hz; cases hz; exact g
          · exact ih.1 h j z (by omega) hz
        · obtain ⟨⟨j, j1, j2⟩, h2, h3⟩ := ih.2 y h
          refine ⟨⟨j, by omega, j2⟩, h2, fun i z hi hz hg => ?_⟩
          by_cases q : i = m
          · rw [q, e] at hz; cases hz; exact absurd hg g
          · exact h3 i z (by omega) hz hg
/-- the keys one after another are those of the sorted words -/
theorem nxF_rh {h : Nat → Bool} {c : Nat → Nat} {W : Nat} {kk : Nat → Option Nat} (hW : W ≤ 24) (hk : ∀ u, u < 24 → kk u = if u < W ∧ h u = true then some (24 * c u + u) else none) (j : Nat) (hj : j ≤ (rhF h c W).1) : nxF kk (if j = 0 then none else some (24 * (rhF h c W).2.2 (j - 1) + (rhF h c W).2.1 (j - 1))) 24 = if j < (rhF h c W).1 then some (24 * (rhF h c W).2.2 j + (rhF h c W).2.1 j) else none := by
  obtain ⟨s1, s2, s3⟩ := rhF_s (h := h) (c := c) W hW
  generalize rhF h c W = R at s1 s2 s3 hj
  · have mem : ∀ i, i < R.1 → kk (R.2.1 i) = some (24 * R.2.2 i + R.2.1 i) := by
      intro i hi
      have := s2 i hi
      rw [hk _ (by omega), if_pos ⟨this.1, this.2.1⟩, this.2.2]
    have inv : ∀ u x, u < 24 → kk u = some x → ∃ i, i < R.1 ∧ x = 24 * R.2.2 i + R.2.1 i := by
      intro u x hu hx
      rw [hk u hu] at hx
      by_cases q : u < W ∧ h u = true
      · rw [if_pos q] at hx
        obtain ⟨i, i1, i2⟩ := s3 u q.1 q.2
        refine ⟨i, i1, ?_⟩
        have := s2 i i1
        cases hx
        rw [this.2.2, i2]
      · rw [if_neg q] at hx; cases hx
    have gt : ∀ i, i < R.1 → (gtK (24 * R.2.2 i + R.2.1 i) (if j = 0 then none else some (24 * R.2.2 (j - 1) + R.2.1 (j - 1))) = true ↔ j ≤ i) := by
      intro i hi
      by_cases j0 : j = 0
      · rw [if_pos j0]; exact ⟨fun _ => by omega, fun _ => rfl⟩
      · rw [if_neg j0]
        simp only [gtK, decide_eq_true_eq]
        constructor
        · intro z
          by_cases q : i < j - 1
          · have := s1 i (j - 1) q (by omega); omega
          · by_cases q2 : i = j - 1
            · rw [q2] at z; omega
            · omega
        · intro z
          exact s1 (j - 1) i (by omega) hi
    generalize (if j = 0 then none else some (24 * R.2.2 (j - 1) + R.2.1 (j - 1))) = l at gt
    have sp := nxF_sp (kk := kk) (l := l) 24
    by_cases lt : j < R.1
    · rw [if_pos lt]
      cases e : nxF kk l 24 with
      | none => exact absurd ((gt j lt).mpr (Nat.le_refl _)) (sp.1 e (R.2.1 j) _ (by have := s2 j lt; omega) (mem j lt))
      | some y =>
        obtain ⟨⟨u, u1, u2⟩, h2, h3⟩ := sp.2 y e
        obtain ⟨i, i1, i2⟩ := inv u y u1 u2
        rw [i2] at h2
        have ij := (gt i i1).mp h2
        have le := h3 (R.2.1 j) _ (by have := s2 j lt; omega) (mem j lt) ((gt j lt).mpr (Nat.le_refl _))
        by_cases q : i = j
        · rw [i2, q]
        · have := s1 j i (by omega) i1; omega
    · rw [if_neg lt]
      cases e : nxF kk l 24 with
      | none => rfl
      | some y =>
        obtain ⟨⟨u, u1, u2⟩, h2, h3⟩ := sp.2 y e
        obtain ⟨i, i1, i2⟩ := inv u y u1 u2
        rw [i2] at h2
        have ij := (gt i i1).mp h2
        omega
