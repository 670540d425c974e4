/-! THE MODEL: its state as a pair of naturals and letters; what a change of one row or field leaves -/
section MUp
variable {a : Nat → Nat → Nat} {A : Nat → Nat → Int32}
theorem Rp.u33 {f : Nat → Int32} {g : Nat → Nat} (h : Rp a A) (hf : ∀ i, f i = nI (g i)) (hg : ∀ i, g i ≤ 5) : Rp (va_up a 33 g) (va_up A 33 f) := by
  obtain ⟨⟨h1, h2, h3, h4, h5, h6, h7, h8, h9, h10, h11, h12, h13⟩, hs, hb, hc⟩ := h
  refine ⟨⟨fun i => hf i, h2, h3, h4, h5, h6, h7, h8, h9, h10, h11, h12, h13⟩, hs, fun i => ?_, hc⟩
  obtain ⟨b1, b2, b3, b4, b5, b6, b7, b8, b9, b10, b11, b12, b13⟩ := hb i
  exact ⟨hg i, b2, b3, b4, b5, b6, b7, b8, b9, b10, b11, b12, b13⟩
theorem Rp.u34 {f : Nat → Int32} {g : Nat → Nat} (h : Rp a A) (hf : ∀ i, f i = nI (g i)) (hg : ∀ i, g i ≤ 3) : Rp (va_up a 34 g) (va_up A 34 f) := by
  obtain ⟨⟨h1, h2, h3, h4, h5, h6, h7, h8, h9, h10, h11, h12, h13⟩, hs, hb, hc⟩ := h
  refine ⟨⟨h1, fun i => hf i, h3, h4, h5, h6, h7, h8, h9, h10, h11, h12, h13⟩, hs, fun i => ?_, hc⟩
  obtain ⟨b1, b2, b3, b4, b5, b6, b7, b8, b9, b10, b11, b12, b13⟩ := hb i
  exact ⟨b1, hg i, b3, b4, b5, b6, b7, b8, b9, b10, b11, b12, b13⟩
theorem Rp.u35 {f : Nat → Int32} {g : Nat → Nat} (h : Rp a A) (hf : ∀ i, f i = nI (g i)) (hg : ∀ i, g i ≤ 12) : Rp (va_up a 35 g) (va_up A 35 f) := by
  obtain ⟨⟨h1, h2, h3, h4, h5, h6, h7, h8, h9, h10, h11, h12, h13⟩, hs, hb, hc⟩ := h
  refine ⟨⟨h1, h2, fun i => hf i, h4, h5, h6, h7, h8, h9, h10, h11, h12, h13⟩, hs, fun i => ?_, hc⟩
  obtain ⟨b1, b2, b3, b4, b5, b6, b7, b8, b9, b10, b11, b12, b13⟩ := hb i
  exact ⟨b1, b2, hg i, b4, b5, b6, b7, b8, b9, b10, b11, b12, b13⟩
theorem Rp.u36 {f : Nat → Int32} {g : Nat → Nat} (h : Rp a A) (hf : ∀ i, f i = nI (g i)) (hg : ∀ i, g i < 40) : Rp (va_up a 36 g) (va_up A 36 f) := by
  obtain ⟨⟨h1, h2, h3, h4, h5, h6, h7, h8, h9, h10, h11, h12, h13⟩, hs, hb, hc⟩ := h
  refine ⟨⟨h1, h2, h3, fun i => hf i, h5, h6, h7, h8, h9, h10, h11, h12, h13⟩, hs, fun i => ?_, hc⟩
  obtain ⟨b1, b2, b3, b4, b5, b6, b7, b8, b9, b10, b11, b12, b13⟩ := hb i
  exact ⟨b1, b2, b3, hg i, b5, b6, b7, b8, b9, b10, b11, b12, b13⟩
theorem Rp.u37 {f : Nat → Int32} {g : Nat → Nat} (h : Rp a A) (hf : ∀ i, f i = nI (g i)) (hg : ∀ i, g i ≤ 2) : Rp (va_up a 37 g) (va_up A 37 f) := by
  obtain ⟨⟨h1, h2, h3, h4, h5, h6, h7, h8, h9, h10, h11, h12, h13⟩, hs, hb, hc⟩ := h
  refine ⟨⟨h1, h2, h3, h4, fun i => hf i, h6, h7, h8, h9, h10, h11, h12, h13⟩, hs, fun i => ?_, hc⟩
  obtain ⟨b1, b2, b3, b4, b5, b6, b7, b8, b9, b10, b11, b12, b13⟩ := hb i
  exact ⟨b1, b2, b3, b4, hg i, b6, b7, b8, b9, b10, b11, b12, b13⟩
theorem Rp.u40 {f : Nat → Int32} {g : Nat → Nat} (h : Rp a A) (hf : ∀ i, f i = nI (g i)) (hg : ∀ i, g i < 40) : Rp (va_up a 40 g) (va_up A 40 f) := by
  obtain ⟨⟨h1, h2, h3, h4, h5, h6, h7, h8, h9, h10, h11, h12, h13⟩, hs, hb, hc⟩ := h
  refine ⟨⟨h1, h2, h3, h4, h5, fun i => hf i, h7, h8, h9, h10, h11, h12, h13⟩, hs, fun i => ?_, hc⟩
  obtain ⟨b1, b2, b3, b4, b5, b6, b7, b8, b9, b10, b11, b12, b13⟩ := hb i
  exact ⟨b1, b2, b3, b4, b5, hg i, b7, b8, b9, b10, b11, b12, b13⟩
theorem Rp.u41 {f : Nat → Int32} {g : Nat → Nat} (h : Rp a A) (hf : ∀ i, f i = nI (g i)) (hg : ∀ i, g i ≤ 2) : Rp (va_up a 41 g) (va_up A 41 f) := by
  obtain ⟨⟨h1, h2, h3, h4, h5, h6, h7, h8, h9, h10, h11, h12, h13⟩, hs, hb, hc⟩ := h
  refine ⟨⟨h1, h2, h3, h4, h5, h6, fun i => hf i, h8, h9, h10, h11, h12, h13⟩, hs, fun i => ?_, hc⟩
  obtain ⟨b1, b2, b3, b4, b5, b6, b7, b8, b9, b10, b11, b12, b13⟩ := hb i
  exact ⟨b1, b2, b3, b4, b5, b6, hg i, b8, b9, b10, b11, b12, b13⟩
theorem Rp.u42 {f : Nat → Int32} {g : Nat → Nat} (h : Rp a A) (hf : ∀ i, f i = nI (g i)) (hg : ∀ i, g i ≤ 8) : Rp (va_up a 42 g) (va_up A 42 f) := by
  obtain ⟨⟨h1, h2, h3, h4, h5, h6, h7, h8, h9, h10, h11, h12, h13⟩, hs, hb, hc⟩ := h
  refine ⟨⟨h1, h2, h3, h4, h5, h6, h7, fun i => hf i, h9, h10, h11, h12, h13⟩, hs, fun i => ?_, hc⟩
  obtain ⟨b1, b2, b3, b4, b5, b6, b7, b8, b9, b10, b11, b12, b13⟩ := hb i
  exact ⟨b1, b2, b3, b4, b5, b6, b7, hg i, b9, b10, b11, b12, b13⟩
theorem Rp.u43 {f : Nat → Int32} {g : Nat → Nat} (h : Rp a A) (hf : ∀ i, f i = nI (g i)) (hg : ∀ i, g i < 24) : Rp (va_up a 43 g) (va_up A 43 f) := by
  obtain ⟨⟨h1, h2, h3, h4, h5, h6, h7, h8, h9, h10, h11, h12, h13⟩, hs, hb, hc⟩ := h
  refine ⟨⟨h1, h2, h3, h4, h5, h6, h7, h8, fun i => hf i, h10, h11, h12, h13⟩, hs, fun i => ?_, hc⟩
  obtain ⟨b1, b2, b3, b4, b5, b6, b7, b8, b9, b10, b11, b12, b13⟩ := hb i
  exact ⟨b1, b2, b3, b4, b5, b6, b7, b8, hg i, b10, b11, b12, b13⟩
theorem Rp.u44 {f : Nat → Int32} {g : Nat → Nat} (h : Rp a A) (hf : ∀ i, f i = nI (g i)) (hg : ∀ i, g i ≤ 7) : Rp (va_up a 44 g) (va_up A 44 f) := by
  obtain ⟨⟨h1, h2, h3, h4, h5, h6, h7, h8, h9, h10, h11, h12, h13⟩, hs, hb, hc⟩ := h
  refine ⟨⟨h1, h2, h3, h4, h5, h6, h7, h8, h9, fun i => hf i, h11, h12, h13⟩, hs, fun i => ?_, hc⟩
  obtain ⟨b1, b2, b3, b4, b5, b6, b7, b8, b9, b10, b11, b12, b13⟩ := hb i
  exact ⟨b1, b2, b3, b4, b5, b6, b7, b8, b9, hg i, b11, b12, b13⟩
theorem Rp.u38 {f : Nat → Int32} {g : Nat → Nat} (h : Rp a A) (hf : ∀ i, f i = nI (g i) - nI 1) (hg : ∀ i, g i ≤ 9) : Rp (va_up a 38 g) (va_up A 38 f) := by
  obtain ⟨⟨h1, h2, h3, h4, h5, h6, h7, h8, h9, h10, h11, h12, h13⟩, hs, hb, hc⟩ := h
  refine ⟨⟨h1, h2, h3, h4, h5, h6, h7, h8, h9, h10, fun i => hf i, h12, h13⟩, hs, fun i => ?_, hc⟩
  obtain ⟨b1, b2, b3, b4, b5, b6, b7, b8, b9, b10, b11, b12, b13⟩ := hb i
  exact ⟨b1, b2, b3, b4, b5, b6, b7, b8, b9, b10, hg i, b12, b13⟩
theorem Rp.u45 {f : Nat → Int32} {g : Nat → Nat} (h : Rp a A) (hf : ∀ i, f i = nI (g i) - nI 1) (hg : ∀ i, g i ≤ 14) : Rp (va_up a 45 g) (va_up A 45 f) := by
  obtain ⟨⟨h1, h2, h3, h4, h5, h6, h7, h8, h9, h10, h11, h12, h13⟩, hs, hb, hc⟩ := h
  refine ⟨⟨h1, h2, h3, h4, h5, h6, h7, h8, h9, h10, h11, fun i => hf i, h13⟩, hs, fun i => ?_, hc⟩
  obtain ⟨b1, b2, b3, b4, b5, b6, b7, b8, b9, b10, b11, b12, b13⟩ := hb i
  exact ⟨b1, b2, b3, b4, b5, b6, b7, b8, b9, b10, b11, hg i, b13⟩
theorem Rp.u46 {f : Nat → Int32} {g : Nat → Nat} (h : Rp a A) (hf : ∀ i, f i = nI (g i) - nI 1) (hg : ∀ i, g i ≤ 16) : Rp (va_up a 46 g) (va_up A 46 f) := by
  obtain ⟨⟨h1, h2, h3, h4, h5, h6, h7, h8, h9, h10, h11, h12, h13⟩, hs, hb, hc⟩ := h
  refine ⟨⟨h1, h2, h3, h4, h5, h6, h7, h8, h9, h10, h11, h12, fun i => hf i⟩, hs, fun i => ?_, hc⟩
  obtain ⟨b1, b2, b3, b4, b5, b6, b7, b8, b9, b10, b11, b12, b13⟩ := hb i
  exact ⟨b1, b2, b3, b4, b5, b6, b7, b8, b9, b10, b11, b12, hg i⟩
theorem Rp.u39 {f : Nat → Int32} (h : Rp a A) : Rp a (va_up A 39 f) := by
  obtain ⟨⟨h1, h2, h3, h4, h5, h6, h7, h8, h9, h10, h11, h12, h13⟩, hs, hb⟩ := h
  exact ⟨⟨h1, h2, h3, h4, h5, h6, h7, h8, h9, h10, h11, h12, h13⟩, hs, hb⟩
theorem Rp.f1 {v : Nat} (h : Rp a A) (hv : v ≤ 24) : Rp (va_up a 32 (va_up (a 32) 1 v)) (va_up A 32 (va_up (A 32) 1 (nI v))) := by
  obtain ⟨hr, ⟨g1, g2, g3, g4, g5, g6⟩, hb, c1, c2, c3, c4, c5, c6, c7⟩ := h
  exact ⟨hr, ⟨rfl, g2, g3, g4, g5, g6⟩, hb, hv, c2, c3, c4, c5, c6, c7⟩
theorem Rp.f10 {v : Nat} (h : Rp a A) (hv : v ≤ 100) : Rp (va_up a 32 (va_up (a 32) 10 v)) (va_up A 32 (va_up (A 32) 10 (nI v))) := by
  obtain ⟨hr, ⟨g1, g2, g3, g4, g5, g6⟩, hb, c1, c2, c3, c4, c5, c6, c7⟩ := h
  exact ⟨hr, ⟨g1, rfl, g3, g4, g5, g6⟩, hb, c1, hv, c3, c4, c5, c6, c7⟩
theorem Rp.f11 {v : Nat} (h : Rp a A) (hv : 1 ≤ v ∧ v ≤ 12) : Rp (va_up a 32 (va_up (a 32) 11 v)) (va_up A 32 (va_up (A 32) 11 (nI v))) := by
  obtain ⟨hr, ⟨g1, g2, g3, g4, g5, g6⟩, hb, c1, c2, c3, c4, c5, c6, c7⟩ := h
  exact ⟨hr, ⟨g1, g2, rfl, g4, g5, g6⟩, hb, c1, c2, hv.1, hv.2, c5, c6, c7⟩
theorem Rp.f13 {v : Nat} (h : Rp a A) (hv : v ≤ 16) : Rp (va_up a 32 (va_up (a 32) 13 v)) (va_up A 32 (va_up (A 32) 13 (nI v))) := by
  obtain ⟨hr, ⟨g1, g2, g3, g4, g5, g6⟩, hb, c1, c2, c3, c4, c5, c6, c7⟩ := h
  exact ⟨hr, ⟨g1, g2, g3, rfl, g5, g6⟩, hb, c1, c2, c3, c4, hv, c6, c7⟩
theorem Rp.f16 {v : Nat} (h : Rp a A) (hv : v ≤ 14) : Rp (va_up a 32 (va_up (a 32) 16 v)) (va_up A 32 (va_up (A 32) 16 (nI v))) := by
  obtain ⟨hr, ⟨g1, g2, g3, g4, g5, g6⟩, hb, c1, c2, c3, c4, c5, c6, c7⟩ := h
  exact ⟨hr, ⟨g1, g2, g3, g4, rfl, g6⟩, hb, c1, c2, c3, c4, c5, hv, c7⟩
theorem Rp.f19 {v : Nat} (h : Rp a A) (hv : v ≤ 1) : Rp (va_up a 32 (va_up (a 32) 19 v)) (va_up A 32 (va_up (A 32) 19 (nI v))) := by
  obtain ⟨hr, ⟨g1, g2, g3, g4, g5, g6⟩, hb, c1, c2, c3, c4, c5, c6, c7⟩ := h
  exact ⟨hr, ⟨g1, g2, g3, g4, g5, rfl⟩, hb, c1, c2, c3, c4, c5, c6, hv⟩
theorem Rp.r33 (h : Rp a A) (i : Nat) : A 33 i = nI (a 33 i) := h.1.1 i
theorem Rp.b33 (h : Rp a A) (i : Nat) : a 33 i ≤ 5 := (h.2.2.1 i).1
theorem Rp.r34 (h : Rp a A) (i : Nat) : A 34 i = nI (a 34 i) := h.1.2.1 i
theorem Rp.b34 (h : Rp a A) (i : Nat) : a 34 i ≤ 3 := (h.2.2.1 i).2.1
theorem Rp.r35 (h : Rp a A) (i : Nat) : A 35 i = nI (a 35 i) := h.1.2.2.1 i
theorem Rp.b35 (h : Rp a A) (i : Nat) : a 35 i ≤ 12 := (h.2.2.1 i).2.2.1
theorem Rp.r36 (h : Rp a A) (i : Nat) : A 36 i = nI (a 36 i) := h.1.2.2.2.1 i
theorem Rp.b36 (h : Rp a A) (i : Nat) : a 36 i < 40 := (h.2.2.1 i).2.2.2.1
theorem Rp.r37 (h : Rp a A) (i : Nat) : A 37 i = nI (a 37 i) := h.1.2.2.2.2.1 i
theorem Rp.b37 (h : Rp a A) (i : Nat) : a 37 i ≤ 2 := (h.2.2.1 i).2.2.2.2.1
theorem Rp.r40 (h : Rp a A) (i : Nat) : A 40 i = nI (a 40 i) := h.1.2.2.2.2.2.1 i
theorem Rp.b40 (h : Rp a A) (i : Nat) : a 40 i < 40 := (h.2.2.1 i).2.2.2.2.2.1
theorem Rp.r41 (h : Rp a A) (i : Nat) : A 41 i = nI (a 41 i) := h.1.2.2.2.2.2.2.1 i
theorem Rp.b41 (h : Rp a A) (i : Nat) : a 41 i ≤ 2 := (h.2.2.1 i).2.2.2.2.2.2.1
theorem Rp.r42 (h : Rp a A) (i : Nat) : A 42 i = nI (a 42 i) := h.1.2.2.2.2.2.2.2.1 i
theorem Rp.b42 (h : Rp a A) (i : Nat) : a 42 i ≤ 8 := (h.2.2.1 i).2.2.2.2.2.2.2.1
theorem Rp.r43 (h : Rp a A) (i : Nat) : A 43 i = nI (a 43 i) := h.1.2.2.2.2.2.2.2.2.1 i
theorem Rp.b43 (h : Rp a A) (i : Nat) : a 43 i < 24 := (h.2.2.1 i).2.2.2.2.2.2.2.2.1
theorem Rp.r44 (h : Rp a A) (i : Nat) : A 44 i = nI (a 44 i) := h.1.2.2.2.2.2.2.2.2.2.1 i
theorem Rp.b44 (h : Rp a A) (i : Nat) : a 44 i ≤ 7 := (h.2.2.1 i).2.2.2.2.2.2.2.2.2.1
theorem Rp.r38 (h : Rp a A) (i : Nat) : A 38 i = nI (a 38 i) - nI 1 := h.1.2.2.2.2.2.2.2.2.2.2.1 i
theorem Rp.b38 (h : Rp a A) (i : Nat) : a 38 i ≤ 9 := (h.2.2.1 i).2.2.2.2.2.2.2.2.2.2.1
theorem Rp.r45 (h : Rp a A) (i : Nat) : A 45 i = nI (a 45 i) - nI 1 := h.1.2.2.2.2.2.2.2.2.2.2.2.1 i
theorem Rp.b45 (h : Rp a A) (i : Nat) : a 45 i ≤ 14 := (h.2.2.1 i).2.2.2.2.2.2.2.2.2.2.2.1
theorem Rp.s46 (h : Rp a A) (i : Nat) : A 46 i = nI (a 46 i) - nI 1 := h.1.2.2.2.2.2.2.2.2.2.2.2.2 i
theorem Rp.b46 (h : Rp a A) (i : Nat) : a 46 i ≤ 16 := (h.2.2.1 i).2.2.2.2.2.2.2.2.2.2.2.2
theorem Rp.q1 (h : Rp a A) : A 32 1 = nI (a 32 1) := h.2.1.1
theorem Rp.q10 (h : Rp a A) : A 32 10 = nI (a 32 10) := h.2.1.2.1
theorem Rp.q11 (h : Rp a A) : A 32 11 = nI (a 32 11) := h.2.1.2.2.1
theorem Rp.q13 (h : Rp a A) : A 32 13 = nI (a 32 13) := h.2.1.2.2.2.1
theorem Rp.q16 (h : Rp a A) : A 32 16 = nI (a 32 16) := h.2.1.2.2.2.2.1
theorem Rp.q19 (h : Rp a A) : A 32 19 = nI (a 32 19) := h.2.1.2.2.2.2.2
theorem Rp.sc (h : Rp a A) : a 32 1 ≤ 24 ∧ a 32 10 ≤ 100 ∧ 1 ≤ a 32 11 ∧ a 32 11 ≤ 12 ∧ a 32 13 ≤ 16 ∧ a 32 16 ≤ 14 ∧ a 32 19 ≤ 1 := h.2.2.2
end MUp
theorem vs_rn {S : Nat → Nat} {f : Nat → Int32} {i v : Nat} {x : Int32} (h : ∀ k, f k = nI (S k)) (hx : x = nI v) : ∀ k, va_up f i x k = nI (va_up S i v k) := fun k => by
  rw [vu_if, vu_if]
  by_cases e : k = i
  · rw [if_pos e, if_pos e]; exact hx
  · rw [if_neg e, if_neg e]; exact h k
theorem vs_lt {S : Nat → Nat} {i v n : Nat} (h : ∀ k, S k < n) (hv : v < n) : ∀ k, va_up S i v k < n := fun k => by
  rw [vu_if]
  by_cases e : k = i
  · rw [if_pos e]; exact hv
  · rw [if_neg e]; exact h k
abbrev z_S : Type := (Nat → Nat → Nat) × (Nat → Int32)
/-- an argument is one of n numbers -/
def iw (x : Int32) (n : Nat) : Bool := decide (0 ≤ x.toInt ∧ x.toInt < (n : Int))
theorem iw_ex {x : Int32} {n : Nat} (h : iw x n = true) : ∃ m, m < n ∧ x = nI m := by
  simp only [iw, decide_eq_true_eq] at h
  refine ⟨x.toInt.toNat, by omega, ?_⟩
  have b := Int32.toInt_lt x
  apply Int32.toInt_inj.mp
  rw [nI_toInt (by omega)]
  omega
theorem iw_nI {m n : Nat} (h : m < 2147483648) : iw (nI m) n = decide (m < n) := by
  unfold iw
  rw [nI_toInt h]
  congr 1
  simp only [eq_iff_iff]
  omega
theorem iw_lt {x : Int32} {n : Nat} (h : iw x n = false) (hn : n < 2147483648) : x < 0 ∨ nI n ≤ x := by
  simp only [iw, decide_eq_false_iff_not] at h
  rw [Int32.lt_iff_toInt_lt, Int32.le_iff_toInt_le, nI_toInt hn]
  have e : (0 : Int32).toInt = 0 := by decide
  omega
theorem iw_ge {x : Int32} {n : Nat} (hn : n < 2147483648) : (iw x n = true) = (¬ x < 0 ∧ ¬ nI n ≤ x) := by
  simp only [iw, decide_eq_true_eq]
  rw [Int32.lt_iff_toInt_lt, Int32.le_iff_toInt_le, nI_toInt hn]
  have e : (0 : Int32).toInt = 0 := by decide
  simp only [eq_iff_iff]
  omega
theorem c_inK {d : Nat} {h : z_H} {nx : Nat} {Q : z_Q} {x : Int32} {n : Nat} (hn : n < 2147483647) : XC d m_X8_in [.long x.toInt64, .long (lN 0), .long (lN n)] h nx Q = Q (some (.int (bI (iw x (n + 1) = true)))) h nx := by
  rw [c_in]
  have e : (¬ x.toInt64 < lN 0 ∧ ¬ lN n < x.toInt64) = (iw x (n + 1) = true) := by
    simp only [iw, decide_eq_true_eq, Int64.lt_iff_toInt_lt, Int32.toInt_toInt64]
    rw [lN_toInt (by omega), lN_toInt (by omega)]
    simp only [eq_iff_iff]
    omega
  by_cases q : iw x (n + 1) = true
  · rw [bI_t q, bI_t (e ▸ q)]
  · rw [bI_f q, bI_f (e ▸ q)]
theorem c_inN {d : Nat} {h : z_H} {nx : Nat} {Q : z_Q} {x : Int32} {n : Nat} (hn : n < 1000000) : XC d m_X8_in [.long x.toInt64, .long (lN 0), .long (nI n - nI 1).toInt64] h nx Q = Q (some (.int (bI (iw x n = true)))) h nx := by
  rw [c_in]
  have e : (¬ x.toInt64 < lN 0 ∧ ¬ (nI n - nI 1).toInt64 < x.toInt64) = (iw x n = true) := by
    simp only [iw, decide_eq_true_eq, Int64.lt_iff_toInt_lt, Int32.toInt_toInt64]
    rw [lN_toInt (by omega), pk_sub_toInt (by omega) (by omega)]
    simp only [eq_iff_iff]
    omega
  by_cases q : iw x n = true
  · rw [bI_t q, bI_t (e ▸ q)]
  · rw [bI_f q, bI_f (e ▸ q)]
/-- the numbers' bounds -/
def Bd (a : Nat → Nat → Nat) : Prop :=
  (∀ i, a 33 i ≤ 5 ∧ a 34 i ≤ 3 ∧ a 35 i ≤ 12 ∧ a 36 i < 40 ∧ a 37 i ≤ 2 ∧ a 40 i < 40 ∧ a 41 i ≤ 2 ∧ a 42 i ≤ 8 ∧ a 43 i < 24 ∧ a 44 i ≤ 7 ∧ a 38 i ≤ 9 ∧ a 45 i ≤ 14 ∧ a 46 i ≤ 16) ∧
  (a 32 1 ≤ 24 ∧ a 32 10 ≤ 100 ∧ 1 ≤ a 32 11 ∧ a 32 11 ≤ 12 ∧ a 32 13 ≤ 16 ∧ a 32 16 ≤ 14 ∧ a 32 19 ≤ 1)
/-- what holds of the state besides -/
def Iw (s : z_S) : Prop := Wa s.1 ∧ Wl s.1 ∧ Wf s.1 ∧ (∀ k, k < s.1 32 16 → s.1 46 k ≤ s.1 32 13) ∧ ∀ i, -128 ≤ (s.2 i).toInt ∧ (s.2 i).toInt ≤ 127
def Iv (s : z_S) : Prop := Bd s.1 ∧ Iw s
/-- the model's cells are those of the state -/
def Mo (s : z_S) (A : Nat → Nat → Int32) : Prop := Rp s.1 A ∧ A 39 = s.2 ∧ Iw s
theorem Mo.iv {s : z_S} {A : Nat → Nat → Int32} (h : Mo s A) : Iv s := ⟨h.1.2.2, h.2.2⟩
/-- the class's cells are as they were -/
def Fk (A B : Nat → Nat → Int32) : Prop := ∀ k, k < 32 → B k = A k
theorem Fk.refl {A : Nat → Nat → Int32} : Fk A A := fun _ _ => rfl
theorem Fk.trans {A B C : Nat → Nat → Int32} (h : Fk A B) (g : Fk B C) : Fk A C := fun k hk => (g k hk).trans (h k hk)
theorem Fk.up {A B : Nat → Nat → Int32} {q : Nat} {f : Nat → Int32} (h : Fk A B) (hq : 32 ≤ q) : Fk A (va_up B q f) := fun k hk => by rw [vu_ne (by omega)]; exact h k hk
theorem Fr.fk {A B : Nat → Nat → Int32} (h : Fr A B) : Fk A B := fun k hk => h k (by omega)
theorem Fr.mo {s : z_S} {A B : Nat → Nat → Int32} (h : Fr A B) (hM : Mo s A) : Mo s B := ⟨h.rp hM.1, by rw [h 39 (by omega)]; exact hM.2.1, hM.2.2⟩
theorem t0_ex {s : z_S} {A : Nat → Nat → Int32} (hM : Mo s A) : ∃ B, va_up A 32 (va_up (A 32) 0 (nI 0)) = B ∧ Mo s B ∧ Fk A B := ⟨_, rfl, ⟨hM.1.fl (by omega), hM.2.1, hM.2.2⟩, Fk.up Fk.refl (by omega)⟩
