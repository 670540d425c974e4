/-! the class's 27 states and the model's 112 -/
theorem tk_0 {x : Nat × Nat} {c : Nat} : tk x 0 c = x := by unfold tk; rw [if_pos rfl]
theorem tk_cm {x : Nat × Nat} {n c m e : Nat} : tk (tk x n c) m e = tk (tk x m e) n c := by
  by_cases n0 : n = 0
  · subst n0; rw [tk_0, tk_0]
  · by_cases m0 : m = 0
    · subst m0; rw [tk_0, tk_0]
    · have a1 : ¬ min (x.1 + n) 1000000 = 0 := by omega
      have a2 : ¬ min (x.1 + m) 1000000 = 0 := by omega
      simp only [tk, n0, m0, if_false, a1, a2]
      ext
      · show min (min (x.1 + n) 1000000 + m) 1000000 = min (min (x.1 + m) 1000000 + n) 1000000
        omega
      · show min e (if x.1 = 0 then c else min c x.2) = min c (if x.1 = 0 then e else min e x.2)
        by_cases z : x.1 = 0
        · rw [if_pos z, if_pos z]; omega
        · rw [if_neg z, if_neg z]; omega
theorem tu_at {S : Nat → Nat × Nat} {t n c k : Nat} : tu S t n c k = if k = t then tk (S k) n c else S k := by
  unfold tu
  rw [vu_if]
  by_cases e : k = t
  · rw [if_pos e, if_pos e, e]
  · rw [if_neg e, if_neg e]
/-- one place of the class's walk through a syllable -/
def cy1 (mk : Nat → Nat) (marks st m n c : Nat) (T : Nat → Nat × Nat) : Nat → Nat × Nat := if m < marks ∧ ag (mk m) st = true then tu T (m + 1) n c else T
def cy2 (mk : Nat → Nat) (marks st m n c : Nat) (T : Nat → Nat × Nat) : Nat → Nat × Nat := if mk m = 0 ∧ st = 2 ∧ m + 1 < marks ∧ mk (m + 1) = 1 then tu T (15 + m) n (c + 3) else T
def cy3 (st : Nat) (first : Bool) (m n c : Nat) (T : Nat → Nat × Nat) : Nat → Nat × Nat := if st = 0 ∧ first = false then tu T m n (c + 2) else T
def cy4 (marks st m n c : Nat) (T : Nat → Nat × Nat) : Nat → Nat × Nat := if st = 0 ∧ m = marks then tu T 26 n (c + 1) else T
def cy5 (st m n c : Nat) (T : Nat → Nat × Nat) : Nat → Nat × Nat := if st = 0 then tu T m n c else T
def cyF (mk : Nat → Nat) (marks st : Nat) (first : Bool) (S : Nat → Nat × Nat) : Nat → Nat → Nat × Nat
  | 0 => fun _ => (0, 0)
  | m + 1 => cy5 st m (S (13 + m)).1 (S (13 + m)).2 (cy4 marks st m (S m).1 (S m).2 (cy3 st first m (S m).1 (S m).2 (cy2 mk marks st m (S m).1 (S m).2 (cy1 mk marks st m (S m).1 (S m).2 (cyF mk marks st first S m)))))
def cyq (mk : Nat → Nat) (marks st : Nat) (first : Bool) (S : Nat → Nat × Nat) : Nat → Nat × Nat := cyF mk marks st first S (marks + 1)
/-- states beyond the marks are not reached -/
def Zo (marks : Nat) (S : Nat → Nat × Nat) : Prop := (∀ k, marks < k → k ≤ 13 → S k = (0, 0)) ∧ ∀ j, marks < j → j ≤ 12 → S (13 + j) = (0, 0)
theorem Zo_tu {marks t n c : Nat} {S : Nat → Nat × Nat} (h : Zo marks S) (hm : marks ≤ 12) (ht : t ≤ marks ∨ (14 ≤ t ∧ t ≤ 13 + marks) ∨ t = 26) : Zo marks (tu S t n c) := by
  refine ⟨fun k h1 h2 => ?_, fun j h1 h2 => ?_⟩
  · rw [tu_at, if_neg (by omega)]; exact h.1 k h1 h2
  · rw [tu_at, if_neg (by omega)]; exact h.2 j h1 h2
theorem Zo_cyF {mk : Nat → Nat} {marks st : Nat} {first : Bool} {S : Nat → Nat × Nat} (hm : marks ≤ 12) : ∀ m, m ≤ marks + 1 → Zo marks (cyF mk marks st first S m) := by
  intro m
  induction m with
  | zero => intro _; exact ⟨fun _ _ _ => rfl, fun _ _ _ => rfl⟩
  | succ m ih =>
    intro h
    have h0 := ih (by omega)
    have h1 : Zo marks (cy1 mk marks st m (S m).1 (S m).2 (cyF mk marks st first S m)) := by
      unfold cy1; split
      · exact Zo_tu h0 hm (by omega)
      · exact h0
    have h2 : Zo marks (cy2 mk marks st m (S m).1 (S m).2 (cy1 mk marks st m (S m).1 (S m).2 (cyF mk marks st first S m))) := by
      unfold cy2; split
      · exact Zo_tu h1 hm (by omega)
      · exact h1
    have h3 : Zo marks (cy3 st first m (S m).1 (S m).2 (cy2 mk marks st m (S m).1 (S m).2 (cy1 mk marks st m (S m).1 (S m).2 (cyF mk marks st first S m)))) := by
      unfold cy3; split
      · exact Zo_tu h2 hm (by omega)
      · exact h2
    have h4 : Zo marks (cy4 marks st m (S m).1 (S m).2 (cy3 st first m (S m).1 (S m).2 (cy2 mk marks st m (S m).1 (S m).2 (cy1 mk marks st m (S m).1 (S m).2 (cyF mk marks st first S m))))) := by
      unfold cy4; split
      · exact Zo_tu h3 hm (by omega)
      · exact h3
    rw [cyF]
    unfold cy5; split
    · exact Zo_tu h4 hm (by omega)
    · exact h4
/-- the model's states for the class's -/
def emb (marks : Nat) (S : Nat → Nat × Nat) : Nat → Nat × Nat := fun k => if k % 8 = 1 ∧ k / 8 ≤ marks then S (k / 8) else if k % 8 = 5 ∧ k / 8 + 1 ≤ marks then S (14 + k / 8) else if k = 8 * marks + 3 then S 26 else (0, 0)
/-- .. ahead of the first syllable -/
def em0 (marks : Nat) (S : Nat → Nat × Nat) : Nat → Nat × Nat := fun k => if k % 8 = 0 ∧ k / 8 ≤ marks then S (k / 8) else (0, 0)
theorem stq_0 {mk : Nat → Nat} {marks st k c : Nat} {T : Nat → Nat × Nat} : stq mk marks st k 0 c T = T := by
  unfold stq s4q s3q s2q s1q
  simp only [tu_0, ite_self]
theorem syF_s {mk : Nat → Nat} {marks st : Nat} {s : Nat → Nat × Nat} {k : Nat} : syF mk marks st s (k + 1) = stq mk marks st k (s k).1 (s k).2 (syF mk marks st s k) := by
  rw [syF]
  by_cases e : (s k).1 = 0
  · rw [if_pos e, e, stq_0]
  · rw [if_neg e]
/-- the model's block of eight states -/
def mB1 (mk : Nat → Nat) (marks st m n c : Nat) (T : Nat → Nat × Nat) : Nat → Nat × Nat := if m < marks ∧ ag (mk m) st = true then tu T (8 * m + 9) n c else T
def mB2 (mk : Nat → Nat) (marks st m n c : Nat) (T : Nat → Nat × Nat) : Nat → Nat × Nat := if mk m = 0 ∧ st = 2 ∧ m + 1 < marks ∧ mk (m + 1) = 1 then tu T (8 * m + 13) n (c + 3) else T
def mB3 (st : Nat) (first : Bool) (m n c : Nat) (T : Nat → Nat × Nat) : Nat → Nat × Nat := if st = 0 ∧ first = false then tu T (8 * m + 1) n (c + 2) else T
def mB4 (marks st m n c : Nat) (T : Nat → Nat × Nat) : Nat → Nat × Nat := if st = 0 ∧ m = marks then tu T (8 * m + 3) n (c + 1) else T
def mB5 (st m n c : Nat) (T : Nat → Nat × Nat) : Nat → Nat × Nat := if st = 0 then tu T (8 * m + 9) n c else T
def mB (mk : Nat → Nat) (marks st : Nat) (first : Bool) (m n c n5 c5 : Nat) (T : Nat → Nat × Nat) : Nat → Nat × Nat := mB5 st m n5 c5 (mB4 marks st m n c (mB3 st first m n c (mB2 mk marks st m n c (mB1 mk marks st m n c T))))
theorem stq_1 {mk : Nat → Nat} {marks st m n c : Nat} {T : Nat → Nat × Nat} : stq mk marks st (8 * m + 1) n c T = mB4 marks st m n c (mB3 st false m n c (mB2 mk marks st m n c (mB1 mk marks st m n c T))) := by
  rw [stq, if_neg (by omega), if_neg (by omega), show (8 * m + 1) / 8 = m by omega]
  unfold s4q s3q s2q s1q mB4 mB3 mB2 mB1
  have o : (8 * m + 1) % 2 = 1 := by omega
  simp only [o, and_true, show 8 * (m + 1) + 1 = 8 * m + 9 by omega, show 8 * (m + 1) + 5 = 8 * m + 13 by omega]
theorem stq_5 {mk : Nat → Nat} {marks st m n c : Nat} {T : Nat → Nat × Nat} : stq mk marks st (8 * m + 5) n c T = mB5 st m n c T := by
  rw [stq, if_neg (by omega), if_pos (by omega), show (8 * m + 5) / 8 = m by omega]
  rfl
theorem stq_00 {mk : Nat → Nat} {marks st m n c : Nat} {T : Nat → Nat × Nat} : stq mk marks st (8 * m) n c T = mB4 marks st m n c (mB3 st true m n c (mB2 mk marks st m n c (mB1 mk marks st m n c T))) := by
  rw [stq, if_neg (by omega), if_neg (by omega), show 8 * m / 8 = m by omega]
  unfold s4q s3q s2q s1q mB4 mB3 mB2 mB1
  have o : ¬ 8 * m % 2 = 1 := by omega
  simp only [o, and_false, if_false, Bool.true_eq_false, show 8 * (m + 1) + 1 = 8 * m + 9 by omega, show 8 * (m + 1) + 5 = 8 * m + 13 by omega]
theorem syF_b1 {mk : Nat → Nat} {marks st : Nat} {S : Nat → Nat × Nat} {m : Nat} (hm : m ≤ marks) (hZ : Zo marks S) (h12 : marks ≤ 12) : syF mk marks st (emb marks S) (8 * m + 8) = mB mk marks st false m (S m).1 (S m).2 (if m + 1 ≤ marks then S (14 + m) else (0, 0)).1 (if m + 1 ≤ marks then S (14 + m) else (0, 0)).2 (syF mk marks st (emb marks S) (8 * m)) := by
  have z : ∀ r, r = 0 ∨ r = 2 ∨ r = 4 ∨ r = 6 ∨ r = 7 → emb marks S (8 * m + r) = (0, 0) := by
    intro r hr
    unfold emb
    rw [if_neg (by omega), if_neg (by omega), if_neg (by omega)]
  have e1 : emb marks S (8 * m + 1) = S m := by
    unfold emb
    rw [if_pos (by omega)]
    congr 1
    omega
  have e5 : emb marks S (8 * m + 5) = if m + 1 ≤ marks then S (14 + m) else (0, 0) := by
    unfold emb
    rw [if_neg (by omega)]
    by_cases q : m + 1 ≤ marks
    · rw [if_pos (by omega), if_pos q]; congr 1; omega
    · rw [if_neg (by omega), if_neg q, if_neg (by omega)]
  have st0 : syF mk marks st (emb marks S) (8 * m + 1) = syF mk marks st (emb marks S) (8 * m) := by
    rw [syF_s, show emb marks S (8 * m) = (0, 0) from z 0 (by omega), stq_0]
  have st2 : syF mk marks st (emb marks S) (8 * m + 3) = syF mk marks st (emb marks S) (8 * m + 2) := by
    rw [show 8 * m + 3 = (8 * m + 2) + 1 from rfl, syF_s, z 2 (by omega), stq_0]
  have st3 : syF mk marks st (emb marks S) (8 * m + 4) = syF mk marks st (emb marks S) (8 * m + 3) := by
    rw [show 8 * m + 4 = (8 * m + 3) + 1 from rfl, syF_s, stq, if_pos (by omega)]
  have st4 : syF mk marks st (emb marks S) (8 * m + 5) = syF mk marks st (emb marks S) (8 * m + 4) := by
    rw [show 8 * m + 5 = (8 * m + 4) + 1 from rfl, syF_s, z 4 (by omega), stq_0]
  have st6 : syF mk marks st (emb marks S) (8 * m + 7) = syF mk marks st (emb marks S) (8 * m + 6) := by
    rw [show 8 * m + 7 = (8 * m + 6) + 1 from rfl, syF_s, z 6 (by omega), stq_0]
  have st7 : syF mk marks st (emb marks S) (8 * m + 8) = syF mk marks st (emb marks S) (8 * m + 7) := by
    rw [show 8 * m + 8 = (8 * m + 7) + 1 from rfl, syF_s, z 7 (by omega), stq_0]
  have st1 : syF mk marks st (emb marks S) (8 * m + 2) = stq mk marks st (8 * m + 1) (S m).1 (S m).2 (syF mk marks st (emb marks S) (8 * m)) := by
    rw [show 8 * m + 2 = (8 * m + 1) + 1 from rfl, syF_s, e1, st0]
  have st5 : syF mk marks st (emb marks S) (8 * m + 6) = stq mk marks st (8 * m + 5) (if m + 1 ≤ marks then S (14 + m) else (0, 0)).1 (if m + 1 ≤ marks then S (14 + m) else (0, 0)).2 (syF mk marks st (emb marks S) (8 * m + 5)) := by
    rw [show 8 * m + 6 = (8 * m + 5) + 1 from rfl, syF_s, e5]
  rw [st7, st6, st5, st4, st3, st2, st1, stq_1, stq_5]
  rfl
theorem syF_b0 {mk : Nat → Nat} {marks st : Nat} {S : Nat → Nat × Nat} {m : Nat} (hm : m ≤ marks) (h12 : marks ≤ 12) : syF mk marks st (em0 marks S) (8 * m + 8) = mB mk marks st true m (S m).1 (S m).2 0 0 (syF mk marks st (em0 marks S) (8 * m)) := by
  have z : ∀ r, 1 ≤ r → r ≤ 7 → em0 marks S (8 * m + r) = (0, 0) := by
    intro r hr hr2
    unfold em0
    rw [if_neg (by omega)]
  have e0 : em0 marks S (8 * m) = S m := by
    unfold em0
    rw [if_pos (by omega)]
    congr 1
    omega
  have sk : ∀ r, 1 ≤ r → r ≤ 7 → syF mk marks st (em0 marks S) (8 * m + r + 1) = syF mk marks st (em0 marks S) (8 * m + r) := by
    intro r h1 h2
    rw [syF_s, z r h1 h2, stq_0]
  have e8 : syF mk marks st (em0 marks S) (8 * m + 8) = syF mk marks st (em0 marks S) (8 * m + 1) := by
    rw [sk 7 (by omega) (by omega), sk 6 (by omega) (by omega), sk 5 (by omega) (by omega), sk 4 (by omega) (by omega), sk 3 (by omega) (by omega), sk 2 (by omega) (by omega), sk 1 (by omega) (by omega)]
  rw [e8, syF_s, e0, stq_00]
  unfold mB mB5
  rw [tu_0, ite_self]
/-- while the class walks: m places are done -/
def emx (marks st m n5 c5 : Nat) (U : Nat → Nat × Nat) : Nat → Nat × Nat := fun k => if k % 8 = 1 ∧ k / 8 ≤ marks then (if k / 8 = m ∧ st = 0 then tk (U m) n5 c5 else U (k / 8)) else if k % 8 = 5 ∧ k / 8 + 1 ≤ marks then U (14 + k / 8) else if k = 8 * marks + 3 then U 26 else (0, 0)
theorem ite_at {p : Prop} [Decidable p] {f g : Nat → Nat × Nat} {j : Nat} : (if p then f else g) j = if p then f j else g j := by split <;> rfl
section Blk
variable {mk : Nat → Nat} {marks st : Nat} {first : Bool} {m n c n5 c5 k : Nat} {T U : Nat → Nat × Nat}
theorem mB_9 : mB mk marks st first m n c n5 c5 T (8 * m + 9) = if st = 0 then tk (if m < marks ∧ ag (mk m) st = true then tk (T (8 * m + 9)) n c else T (8 * m + 9)) n5 c5 else if m < marks ∧ ag (mk m) st = true then tk (T (8 * m + 9)) n c else T (8 * m + 9) := by
  simp only [mB, mB5, mB4, mB3, mB2, mB1, ite_at, tu_at, if_true, if_false, ite_self, show ¬ 8 * m + 9 = 8 * m + 13 by omega, show ¬ 8 * m + 9 = 8 * m + 1 by omega, show ¬ 8 * m + 9 = 8 * m + 3 by omega]
theorem mB_13 : mB mk marks st first m n c n5 c5 T (8 * m + 13) = if mk m = 0 ∧ st = 2 ∧ m + 1 < marks ∧ mk (m + 1) = 1 then tk (T (8 * m + 13)) n (c + 3) else T (8 * m + 13) := by
  simp only [mB, mB5, mB4, mB3, mB2, mB1, ite_at, tu_at, if_true, if_false, ite_self, show ¬ 8 * m + 13 = 8 * m + 9 by omega, show ¬ 8 * m + 13 = 8 * m + 1 by omega, show ¬ 8 * m + 13 = 8 * m + 3 by omega]
theorem mB_1 : mB mk marks st first m n c n5 c5 T (8 * m + 1) = if st = 0 ∧ first = false then tk (T (8 * m + 1)) n (c + 2) else T (8 * m + 1) := by
  simp only [mB, mB5, mB4, mB3, mB2, mB1, ite_at, tu_at, if_true, if_false, ite_self, show ¬ 8 * m + 1 = 8 * m + 9 by omega, show ¬ 8 * m + 1 = 8 * m + 13 by omega, show ¬ 8 * m + 1 = 8 * m + 3 by omega]
theorem mB_3 : mB mk marks st first m n c n5 c5 T (8 * m + 3) = if st = 0 ∧ m = marks then tk (T (8 * m + 3)) n (c + 1) else T (8 * m + 3) := by
  simp only [mB, mB5, mB4, mB3, mB2, mB1, ite_at, tu_at, if_true, if_false, ite_self, show ¬ 8 * m + 3 = 8 * m + 9 by omega, show ¬ 8 * m + 3 = 8 * m + 13 by omega, show ¬ 8 * m + 3 = 8 * m + 1 by omega]
theorem mB_o (h : k ≠ 8 * m + 9 ∧ k ≠ 8 * m + 13 ∧ k ≠ 8 * m + 1 ∧ k ≠ 8 * m + 3) : mB mk marks st first m n c n5 c5 T k = T k := by
  simp only [mB, mB5, mB4, mB3, mB2, mB1, ite_at, tu_at, h.1, h.2.1, h.2.2.1, h.2.2.2, if_false, ite_self]
def cB (mk : Nat → Nat) (marks st : Nat) (first : Bool) (m n c n5 c5 : Nat) (U : Nat → Nat × Nat) : Nat → Nat × Nat := cy5 st m n5 c5 (cy4 marks st m n c (cy3 st first m n c (cy2 mk marks st m n c (cy1 mk marks st m n c U))))
theorem cB_p (hm : m ≤ 12) : cB mk marks st first m n c n5 c5 U (m + 1) = if m < marks ∧ ag (mk m) st = true then tk (U (m + 1)) n c else U (m + 1) := by
  simp only [cB, cy5, cy4, cy3, cy2, cy1, ite_at, tu_at, if_true, if_false, ite_self, show ¬ m + 1 = 15 + m by omega, show ¬ m + 1 = m by omega, show ¬ m + 1 = 26 by omega]
theorem cB_15 (hm : m ≤ 10) : cB mk marks st first m n c n5 c5 U (15 + m) = if mk m = 0 ∧ st = 2 ∧ m + 1 < marks ∧ mk (m + 1) = 1 then tk (U (15 + m)) n (c + 3) else U (15 + m) := by
  simp only [cB, cy5, cy4, cy3, cy2, cy1, ite_at, tu_at, if_true, if_false, ite_self, show ¬ 15 + m = m + 1 by omega, show ¬ 15 + m = m by omega, show ¬ 15 + m = 26 by omega]
theorem cB_m (hm : m ≤ 12) : cB mk marks st first m n c n5 c5 U m = if st = 0 then tk (if st = 0 ∧ first = false then tk (U m) n (c + 2) else U m) n5 c5 else if st = 0 ∧ first = false then tk (U m) n (c + 2) else U m := by
  simp only [cB, cy5, cy4, cy3, cy2, cy1, ite_at, tu_at, if_true, if_false, ite_self, show ¬ m = m + 1 by omega, show ¬ m = 15 + m by omega, show ¬ m = 26 by omega]
theorem cB_26 (hm : m ≤ 12) (h12 : marks ≤ 12) : cB mk marks st first m n c n5 c5 U 26 = if st = 0 ∧ m = marks then tk (U 26) n (c + 1) else U 26 := by
  by_cases e : m ≤ 10
  · simp only [cB, cy5, cy4, cy3, cy2, cy1, ite_at, tu_at, if_true, if_false, ite_self, show ¬ 26 = m + 1 by omega, show ¬ 26 = 15 + m by omega, show ¬ 26 = m by omega]
  · have nc : ¬ (mk m = 0 ∧ st = 2 ∧ m + 1 < marks ∧ mk (m + 1) = 1) := by omega
    simp only [cB, cy5, cy4, cy3, cy2, cy1, ite_at, tu_at, if_true, if_false, ite_self, nc, show ¬ 26 = m + 1 by omega, show ¬ 26 = m by omega]
theorem cB_o (h : k ≠ m + 1 ∧ (k = 15 + m → ¬ m + 1 < marks) ∧ k ≠ m ∧ k ≠ 26) : cB mk marks st first m n c n5 c5 U k = U k := by
  by_cases e : k = 15 + m
  · have nc : ¬ (mk m = 0 ∧ st = 2 ∧ m + 1 < marks ∧ mk (m + 1) = 1) := fun z => h.2.1 e z.2.2.1
    simp only [cB, cy5, cy4, cy3, cy2, cy1, ite_at, tu_at, nc, h.1, h.2.2.1, h.2.2.2, if_false, ite_self]
  · simp only [cB, cy5, cy4, cy3, cy2, cy1, ite_at, tu_at, e, h.1, h.2.2.1, h.2.2.2, if_false, ite_self]
theorem emx_1 {M : Nat} (hM : M ≤ marks) : emx marks st m n5 c5 U (8 * M + 1) = if M = m ∧ st = 0 then tk (U m) n5 c5 else U M := by
  unfold emx
  rw [if_pos (by omega), show (8 * M + 1) / 8 = M by omega]
theorem emx_5 {M : Nat} (hM : M + 1 ≤ marks) : emx marks st m n5 c5 U (8 * M + 5) = U (14 + M) := by
  unfold emx
  rw [if_neg (by omega), if_pos (by omega), show (8 * M + 5) / 8 = M by omega]
theorem emx_3 : emx marks st m n5 c5 U (8 * marks + 3) = U 26 := by
  unfold emx
  rw [if_neg (by omega), if_neg (by omega), if_pos rfl]
theorem emx_o (h : ¬ (k % 8 = 1 ∧ k / 8 ≤ marks) ∧ ¬ (k % 8 = 5 ∧ k / 8 + 1 ≤ marks) ∧ k ≠ 8 * marks + 3) : emx marks st m n5 c5 U k = (0, 0) := by
  unfold emx
  rw [if_neg h.1, if_neg h.2.1, if_neg h.2.2]
theorem emx_step {n6 c6 : Nat} (hm : m ≤ marks) (h12 : marks ≤ 12) (h6 : ¬ m + 1 ≤ marks → n6 = 0) : mB mk marks st first m n c n6 c6 (emx marks st m n5 c5 U) = emx marks st (m + 1) n6 c6 (cB mk marks st first m n c n5 c5 U) := by
  funext k
  by_cases k1 : k % 8 = 1 ∧ k / 8 ≤ marks
  · obtain ⟨M, hM, rfl⟩ : ∃ M, M ≤ marks ∧ k = 8 * M + 1 := ⟨k / 8, k1.2, by omega⟩
    rw [emx_1 hM]
    by_cases a1 : M = m + 1
    · subst a1
      rw [show 8 * (m + 1) + 1 = 8 * m + 9 by omega, mB_9, show 8 * m + 9 = 8 * (m + 1) + 1 by omega, emx_1 hM, cB_p (by omega)]
      have mm : ¬ (m + 1 = m ∧ st = 0) := by omega
      rw [if_neg mm]
      by_cases s0 : st = 0
      · simp only [s0, eq_self, and_self, if_true]
      · simp only [s0, and_false, if_false]
    · have na : ¬ (M = m + 1 ∧ st = 0) := fun z => a1 z.1
      rw [if_neg na]
      by_cases a0 : M = m
      · subst a0
        rw [mB_1, emx_1 hM, cB_m (by omega)]
        by_cases s0 : st = 0
        · by_cases f0 : first = false
          · simp only [s0, f0, eq_self, and_self, if_true]
            exact tk_cm
          · simp only [s0, f0, eq_self, and_self, and_false, if_true, if_false, Bool.true_eq_false]
        · simp only [s0, false_and, and_false, if_false]
      · rw [mB_o (by omega), emx_1 hM, if_neg (fun z => a0 z.1), cB_o (by omega)]
  · by_cases k5 : k % 8 = 5 ∧ k / 8 + 1 ≤ marks
    · obtain ⟨M, hM, rfl⟩ : ∃ M, M + 1 ≤ marks ∧ k = 8 * M + 5 := ⟨k / 8, k5.2, by omega⟩
      rw [emx_5 hM]
      by_cases a1 : M = m + 1
      · subst a1
        rw [show 8 * (m + 1) + 5 = 8 * m + 13 by omega, mB_13, show 8 * m + 13 = 8 * (m + 1) + 5 by omega, emx_5 hM, show 14 + (m + 1) = 15 + m by omega, cB_15 (by omega)]
      · rw [mB_o (by omega), emx_5 hM, cB_o (by omega)]
    · by_cases k3 : k = 8 * marks + 3
      · subst k3
        rw [emx_3, cB_26 (by omega) h12]
        by_cases a0 : m = marks
        · subst a0
          rw [mB_3, emx_3]
        · rw [mB_o (by omega), emx_3, if_neg (fun z => a0 z.2)]
      · have eo : ∀ {m n5 c5 : Nat} {U : Nat → Nat × Nat}, emx marks st m n5 c5 U k = (0, 0) := emx_o ⟨k1, k5, k3⟩
        rw [eo]
        by_cases b9 : k = 8 * m + 9
        · subst b9
          have nl : ¬ m + 1 ≤ marks := by omega
          have nc : ¬ (m < marks ∧ ag (mk m) st = true) := fun z => by omega
          rw [mB_9, eo, h6 nl]
          simp only [nc, if_false, tk_0, ite_self]
        · by_cases b13 : k = 8 * m + 13
          · subst b13
            rw [mB_13, eo, if_neg (by omega)]
          · by_cases b3 : k = 8 * m + 3
            · subst b3
              rw [mB_3, eo, if_neg (by omega)]
            · rw [mB_o (by omega)]
              exact eo
end Blk
theorem syF_0 {mk : Nat → Nat} {marks st K : Nat} {s : Nat → Nat × Nat} (h : ∀ k, K ≤ k → s k = (0, 0)) : ∀ r, syF mk marks st s (K + r) = syF mk marks st s K := by
  intro r
  induction r with
  | zero => rfl
  | succ r ih => rw [show K + (r + 1) = (K + r) + 1 from rfl, syF_s, h (K + r) (by omega), stq_0, ih]
theorem emx_end {marks st n5 c5 : Nat} {U : Nat → Nat × Nat} : emx marks st (marks + 1) n5 c5 U = emb marks U := by
  funext k
  unfold emx emb
  by_cases k1 : k % 8 = 1 ∧ k / 8 ≤ marks
  · rw [if_pos k1, if_pos k1, if_neg (by omega)]
  · rw [if_neg k1, if_neg k1]
theorem emx_beg {marks st : Nat} : emx marks st 0 0 0 (fun _ => (0, 0)) = fun _ => (0, 0) := by
  funext k
  unfold emx
  simp only [tk_0, ite_self]
/-- a syllable that is not the first -/
theorem syq_1 {mk : Nat → Nat} {marks st : Nat} {S : Nat → Nat × Nat} (h12 : marks ≤ 12) (hZ : Zo marks S) : syq mk marks st (emb marks S) = emb marks (cyq mk marks st false S) := by
  have key : ∀ m, m ≤ marks + 1 → syF mk marks st (emb marks S) (8 * m) = emx marks st m (if m ≤ marks then S (13 + m) else (0, 0)).1 (if m ≤ marks then S (13 + m) else (0, 0)).2 (cyF mk marks st false S m) := by
    intro m
    induction m with
    | zero =>
      intro _
      rw [if_pos (Nat.zero_le _), show S (13 + 0) = (0, 0) from hZ.1 13 (by omega) (by omega)]
      exact emx_beg.symm
    | succ m ih =>
      intro h
      have q := ih (by omega)
      rw [if_pos (show m ≤ marks by omega)] at q
      rw [show 8 * (m + 1) = 8 * m + 8 from rfl, syF_b1 (by omega) hZ h12, q, show 14 + m = 13 + (m + 1) by omega]
      exact emx_step (by omega) h12 (fun z => by rw [if_neg z])
  have e := key (marks + 1) (by omega)
  unfold syq
  rw [show 112 = 8 * (marks + 1) + (112 - 8 * (marks + 1)) by omega, syF_0 (fun k hk => by
    unfold emb
    rw [if_neg (by omega), if_neg (by omega), if_neg (by omega)]), e, emx_end]
  rfl
/-- the first syllable -/
theorem syq_0 {mk : Nat → Nat} {marks st : Nat} {S : Nat → Nat × Nat} (h12 : marks ≤ 12) (hZ : ∀ j, j ≤ 12 → S (13 + j) = (0, 0)) : syq mk marks st (em0 marks S) = emb marks (cyq mk marks st true S) := by
  have key : ∀ m, m ≤ marks + 1 → syF mk marks st (em0 marks S) (8 * m) = emx marks st m 0 0 (cyF mk marks st true S m) := by
    intro m
    induction m with
    | zero => intro _; exact emx_beg.symm
    | succ m ih =>
      intro h
      have q := ih (by omega)
      rw [show 8 * (m + 1) = 8 * m + 8 from rfl, syF_b0 (by omega) h12, q]
      have es := emx_step (mk := mk) (marks := marks) (st := st) (first := true) (m := m) (n := (S m).1) (c := (S m).2) (n5 := 0) (c5 := 0) (n6 := 0) (c6 := 0) (U := cyF mk marks st true S m) (by omega) h12 (fun _ => rfl)
      rw [es]
      have ec : cyF mk marks st true S (m + 1) = cB mk marks st true m (S m).1 (S m).2 (S (13 + m)).1 (S (13 + m)).2 (cyF mk marks st true S m) := rfl
      rw [ec, hZ m (by omega)]
  have e := key (marks + 1) (by omega)
  unfold syq
  rw [show 112 = 8 * (marks + 1) + (112 - 8 * (marks + 1)) by omega, syF_0 (fun k hk => by
    unfold em0
    rw [if_neg (by omega)]), e, emx_end]
  rfl
/-- joining -/
theorem jn_emb {marks : Nat} {U V : Nat → Nat × Nat} (h12 : marks ≤ 12) : jn (emb marks U) (emb marks V) 112 = emb marks (jn U V 27) := by
  funext k
  unfold jn
  by_cases k1 : k % 8 = 1 ∧ k / 8 ≤ marks
  · have e : ∀ W : Nat → Nat × Nat, emb marks W k = W (k / 8) := fun W => if_pos k1
    rw [if_pos (by omega), e, e, e, if_pos (by omega)]
  · by_cases k5 : k % 8 = 5 ∧ k / 8 + 1 ≤ marks
    · have e : ∀ W : Nat → Nat × Nat, emb marks W k = W (14 + k / 8) := fun W => by unfold emb; rw [if_neg k1, if_pos k5]
      rw [if_pos (by omega), e, e, e, if_pos (by omega)]
    · by_cases k3 : k = 8 * marks + 3
      · have e : ∀ W : Nat → Nat × Nat, emb marks W k = W 26 := fun W => by unfold emb; rw [if_neg k1, if_neg k5, if_pos k3]
        rw [if_pos (by omega), e, e, e, if_pos (by omega)]
      · have e : ∀ W : Nat → Nat × Nat, emb marks W k = (0, 0) := fun W => by unfold emb; rw [if_neg k1, if_neg k5, if_neg k3]
        rw [e, e, e, tk_0, ite_self]
theorem emb_0 {marks : Nat} : emb marks (fun _ => (0, 0)) = fun _ => (0, 0) := by
  funext k
  unfold emb
  simp only [ite_self]
theorem Zo_jn {marks : Nat} {U V : Nat → Nat × Nat} (hU : Zo marks U) (hV : Zo marks V) : Zo marks (jn U V 27) := by
  refine ⟨fun k h1 h2 => ?_, fun j h1 h2 => ?_⟩
  · unfold jn; rw [hU.1 k h1 h2, hV.1 k h1 h2, tk_0, ite_self]
  · unfold jn; rw [hU.2 j h1 h2, hV.2 j h1 h2, tk_0, ite_self]
