/-! THE HEAP OF THE TWO SYSTEMS: A k j is what the row k has at j, or the number in field j of the object k; P k j the reference in field j of the object k, where it changes; dy all cells from 63 on. -/
def oF3 (a : Nat → Int32) (p : Nat → Nat) : Nat → Value := fun j => match j with
  | 0 => .ref 4
  | 1 => .ref 5
  | 2 => .ref 6
  | 3 => .ref 10
  | 4 => .ref 24
  | 5 => .ref 29
  | 6 => .ref 30
  | 7 => .ref 31
  | 8 => .int (a 8)
  | _ => .null
def oF4 (a : Nat → Int32) (p : Nat → Nat) : Nat → Value := fun j => match j with
  | 0 => .int (a 0)
  | 1 => .ref (p 1)
  | 2 => .int (a 2)
  | _ => .null
def oF5 (a : Nat → Int32) (p : Nat → Nat) : Nat → Value := fun j => match j with
  | 0 => .int (a 0)
  | 1 => .ref (p 1)
  | 2 => .int (a 2)
  | _ => .null
def oF6 (a : Nat → Int32) (p : Nat → Nat) : Nat → Value := fun j => match j with
  | 0 => .ref 7
  | 1 => .int (a 1)
  | 2 => .ref (p 2)
  | 3 => .ref (p 3)
  | _ => .null
def oF10 (a : Nat → Int32) (p : Nat → Nat) : Nat → Value := fun j => match j with
  | 0 => .int (a 0)
  | 1 => .ref 11
  | 2 => .int (a 2)
  | 3 => .ref (p 3)
  | 4 => .ref (p 4)
  | 5 => .ref (p 5)
  | 6 => .ref (p 6)
  | _ => .null
def oF12 (a : Nat → Int32) (p : Nat → Nat) : Nat → Value := fun j => match j with
  | 0 => .ref 13
  | 1 => .ref 14
  | _ => .null
def oF15 (a : Nat → Int32) (p : Nat → Nat) : Nat → Value := fun j => match j with
  | 0 => .ref 16
  | 1 => .ref 17
  | _ => .null
def oF18 (a : Nat → Int32) (p : Nat → Nat) : Nat → Value := fun j => match j with
  | 0 => .ref 19
  | 1 => .ref 20
  | _ => .null
def oF21 (a : Nat → Int32) (p : Nat → Nat) : Nat → Value := fun j => match j with
  | 0 => .ref 22
  | 1 => .ref 23
  | _ => .null
def oF24 (a : Nat → Int32) (p : Nat → Nat) : Nat → Value := fun j => match j with
  | 0 => .int (a 0)
  | 1 => .int (a 1)
  | 2 => .ref 25
  | 3 => .ref 26
  | 4 => .ref 27
  | 5 => .ref 28
  | _ => .null
def oF32 (a : Nat → Int32) (p : Nat → Nat) : Nat → Value := fun j => match j with
  | 0 => .int (a 0)
  | 1 => .int (a 1)
  | 2 => .ref 33
  | 3 => .ref 34
  | 4 => .ref 35
  | 5 => .ref 36
  | 6 => .ref 37
  | 7 => .ref 38
  | 8 => .ref 39
  | 9 => .ref 40
  | 10 => .int (a 10)
  | 11 => .int (a 11)
  | 12 => .ref 41
  | 13 => .int (a 13)
  | 14 => .ref 42
  | 15 => .ref 43
  | 16 => .int (a 16)
  | 17 => .ref 44
  | 18 => .ref 45
  | 19 => .int (a 19)
  | 20 => .ref 46
  | 21 => .ref 47
  | 22 => .ref 48
  | 23 => .ref 49
  | 24 => .ref 50
  | 25 => .ref 51
  | 26 => .ref 52
  | 27 => .ref 53
  | 28 => .ref 54
  | 29 => .ref 55
  | 30 => .ref 56
  | 31 => .ref 57
  | 32 => .ref 58
  | 33 => .ref 59
  | 34 => .ref 60
  | 35 => .ref 61
  | 36 => .int (a 36)
  | 37 => .int (a 37)
  | 38 => .ref 62
  | 39 => .int (a 39)
  | 40 => .int (a 40)
  | _ => .null
def g_n (k : Nat) : Nat := match k with
  | 7 => 40
  | 8 => 13
  | 9 => 13
  | 11 => 12
  | 13 => 27
  | 14 => 27
  | 16 => 27
  | 17 => 27
  | 19 => 27
  | 20 => 27
  | 22 => 27
  | 23 => 27
  | 25 => 14
  | 26 => 14
  | 27 => 14
  | 28 => 14
  | 29 => 24
  | 30 => 16
  | 31 => 256
  | 33 => 24
  | 34 => 24
  | 35 => 72
  | 36 => 864
  | 37 => 864
  | 38 => 24
  | 39 => 192
  | 40 => 40
  | 41 => 12
  | 42 => 16
  | 43 => 128
  | 44 => 14
  | 45 => 14
  | 46 => 14
  | 47 => 48
  | 48 => 48
  | 49 => 2
  | 50 => 2
  | 51 => 700
  | 52 => 24
  | 53 => 24
  | 54 => 112
  | 55 => 112
  | 56 => 112
  | 57 => 112
  | 58 => 112
  | 59 => 112
  | 60 => 112
  | 61 => 112
  | 62 => 16
  | _ => 0
/-- the names of rows -/
def g_a (k : Nat) : Bool := [7, 8, 9, 11, 13, 14, 16, 17, 19, 20, 22, 23, 25, 26, 27, 28, 29, 30, 31, 33, 34, 35, 36, 37, 38, 39, 40, 41, 42, 43, 44, 45, 46, 47, 48, 49, 50, 51, 52, 53, 54, 55, 56, 57, 58, 59, 60, 61, 62].contains k
def g_k (k : Nat) : Nat := if k = 62 then 2 else 0
def GH (A : Nat → Nat → Int32) (P : Nat → Nat → Nat) (dy : z_H) : z_H := fun k => if g_a k = true then .inl (g_k k, g_n k, A k)
  else if k = 3 then .inr (.inl (7, oF3 (A 3) (P 3)))
  else if k = 4 then .inr (.inl (9, oF4 (A 4) (P 4)))
  else if k = 5 then .inr (.inl (9, oF5 (A 5) (P 5)))
  else if k = 6 then .inr (.inl (0, oF6 (A 6) (P 6)))
  else if k = 10 then .inr (.inl (4, oF10 (A 10) (P 10)))
  else if k = 12 then .inr (.inl (5, oF12 (A 12) (P 12)))
  else if k = 15 then .inr (.inl (5, oF15 (A 15) (P 15)))
  else if k = 18 then .inr (.inl (5, oF18 (A 18) (P 18)))
  else if k = 21 then .inr (.inl (5, oF21 (A 21) (P 21)))
  else if k = 24 then .inr (.inl (1, oF24 (A 24) (P 24)))
  else if k = 32 then .inr (.inl (8, oF32 (A 32) (P 32)))
  else dy k
section Gh
variable {A : Nat → Nat → Int32} {P : Nat → Nat → Nat} {dy : z_H}
theorem vu_eq {α : Type} {f : Nat → α} {k : Nat} {v : α} : va_up f k v k = v := by simp [va_up]
theorem vu_ne {α : Type} {f : Nat → α} {k j : Nat} {v : α} (h : j ≠ k) : va_up f k v j = f j := by simp [va_up, h]
theorem vu_if {α : Type} {f : Nat → α} {k j : Nat} {v : α} : va_up f k v j = if j = k then v else f j := rfl
theorem gh_row {q : Nat} (hq : g_a q = true) : GH A P dy q = .inl (g_k q, g_n q, A q) := by simp only [GH, hq, if_true]
theorem gh_dy {q : Nat} (hq : 63 ≤ q) : GH A P dy q = dy q := by
  have h1 : g_a q = false := by
    simp only [g_a, List.contains_eq_mem, decide_eq_false_iff_not, List.mem_cons, List.not_mem_nil, or_false]
    omega
  simp only [GH, h1, Bool.false_eq_true, if_false]
  repeat rw [if_neg (by omega)]
theorem gh_up {q : Nat} {f : Nat → Int32} (hq : g_a q = true) : va_up (GH A P dy) q (.inl (g_k q, g_n q, f)) = GH (va_up A q f) P dy := by
  funext x
  by_cases e : x = q
  · subst e
    rw [vu_eq, gh_row hq, vu_eq]
  · rw [vu_ne e]
    simp only [GH]
    by_cases ha : g_a x = true
    · simp only [ha, if_true, vu_ne e]
    · simp only [ha, Bool.false_eq_true, if_false]
      have hk : ∀ k, g_a k = false → va_up A q f k = A k := fun k h => vu_ne (fun z => by rw [z, hq] at h; cases h)
      rw [hk 3 rfl, hk 4 rfl, hk 5 rfl, hk 6 rfl, hk 10 rfl, hk 12 rfl, hk 15 rfl, hk 18 rfl, hk 21 rfl, hk 24 rfl, hk 32 rfl]
theorem gh_dyup {q : Nat} {c : z_C} (hq : 63 ≤ q) : va_up (GH A P dy) q c = GH A P (va_up dy q c) := by
  funext x
  by_cases e : x = q
  · subst e; rw [vu_eq, gh_dy hq, vu_eq]
  · rw [vu_ne e]; simp only [GH, vu_ne e]
theorem gh_o3 : GH A P dy 3 = .inr (.inl (7, oF3 (A 3) (P 3))) := rfl
theorem gf_3_0 {a : Nat → Int32} {p : Nat → Nat} : oF3 a p 0 = .ref 4 := rfl
theorem gf_3_1 {a : Nat → Int32} {p : Nat → Nat} : oF3 a p 1 = .ref 5 := rfl
theorem gf_3_2 {a : Nat → Int32} {p : Nat → Nat} : oF3 a p 2 = .ref 6 := rfl
theorem gf_3_3 {a : Nat → Int32} {p : Nat → Nat} : oF3 a p 3 = .ref 10 := rfl
theorem gf_3_4 {a : Nat → Int32} {p : Nat → Nat} : oF3 a p 4 = .ref 24 := rfl
theorem gf_3_5 {a : Nat → Int32} {p : Nat → Nat} : oF3 a p 5 = .ref 29 := rfl
theorem gf_3_6 {a : Nat → Int32} {p : Nat → Nat} : oF3 a p 6 = .ref 30 := rfl
theorem gf_3_7 {a : Nat → Int32} {p : Nat → Nat} : oF3 a p 7 = .ref 31 := rfl
theorem gf_3_8 {a : Nat → Int32} {p : Nat → Nat} : oF3 a p 8 = .int (a 8) := rfl
theorem gp_3_8 {a : Nat → Int32} {p : Nat → Nat} {v : Int32} : va_up (oF3 a p) 8 (.int v) = oF3 (va_up a 8 v) p := by
  funext i; by_cases e : i = 8
  · subst e; rfl
  · rw [vu_ne e]; unfold oF3; split <;> first | rfl | exact absurd rfl e
theorem gh_u3 {a : Nat → Int32} : va_up (GH A P dy) 3 (.inr (.inl (7, oF3 a (P 3)))) = GH (va_up A 3 a) P dy := by
  funext x; by_cases e : x = 3
  · subst e; rfl
  · rw [vu_ne e]; simp only [GH]; by_cases ha : g_a x = true
    · simp only [ha, if_true, vu_ne e]
    · simp only [ha, Bool.false_eq_true, if_false, e]; rfl
theorem gh_o4 : GH A P dy 4 = .inr (.inl (9, oF4 (A 4) (P 4))) := rfl
theorem gf_4_0 {a : Nat → Int32} {p : Nat → Nat} : oF4 a p 0 = .int (a 0) := rfl
theorem gp_4_0 {a : Nat → Int32} {p : Nat → Nat} {v : Int32} : va_up (oF4 a p) 0 (.int v) = oF4 (va_up a 0 v) p := by
  funext i; by_cases e : i = 0
  · subst e; rfl
  · rw [vu_ne e]; unfold oF4; split <;> first | rfl | exact absurd rfl e
theorem gf_4_1 {a : Nat → Int32} {p : Nat → Nat} : oF4 a p 1 = .ref (p 1) := rfl
theorem gp_4_1 {a : Nat → Int32} {p : Nat → Nat} {v : Nat} : va_up (oF4 a p) 1 (.ref v) = oF4 a (va_up p 1 v) := by
  funext i; by_cases e : i = 1
  · subst e; rfl
  · rw [vu_ne e]; unfold oF4; split <;> first | rfl | exact absurd rfl e
theorem gf_4_2 {a : Nat → Int32} {p : Nat → Nat} : oF4 a p 2 = .int (a 2) := rfl
theorem gp_4_2 {a : Nat → Int32} {p : Nat → Nat} {v : Int32} : va_up (oF4 a p) 2 (.int v) = oF4 (va_up a 2 v) p := by
  funext i; by_cases e : i = 2
  · subst e; rfl
  · rw [vu_ne e]; unfold oF4; split <;> first | rfl | exact absurd rfl e
theorem gh_u4 {a : Nat → Int32} : va_up (GH A P dy) 4 (.inr (.inl (9, oF4 a (P 4)))) = GH (va_up A 4 a) P dy := by
  funext x; by_cases e : x = 4
  · subst e; rfl
  · rw [vu_ne e]; simp only [GH]; by_cases ha : g_a x = true
    · simp only [ha, if_true, vu_ne e]
    · simp only [ha, Bool.false_eq_true, if_false, e]; rfl
theorem gh_v4 {p : Nat → Nat} : va_up (GH A P dy) 4 (.inr (.inl (9, oF4 (A 4) p))) = GH A (va_up P 4 p) dy := by
  funext x; by_cases e : x = 4
  · subst e; rfl
  · rw [vu_ne e]; simp only [GH]; by_cases ha : g_a x = true
    · simp only [ha, if_true]
    · simp only [ha, Bool.false_eq_true, if_false, e]; rfl
theorem gh_o5 : GH A P dy 5 = .inr (.inl (9, oF5 (A 5) (P 5))) := rfl
theorem gf_5_0 {a : Nat → Int32} {p : Nat → Nat} : oF5 a p 0 = .int (a 0) := rfl
theorem gp_5_0 {a : Nat → Int32} {p : Nat → Nat} {v : Int32} : va_up (oF5 a p) 0 (.int v) = oF5 (va_up a 0 v) p := by
  funext i; by_cases e : i = 0
  · subst e; rfl
  · rw [vu_ne e]; unfold oF5; split <;> first | rfl | exact absurd rfl e
theorem gf_5_1 {a : Nat → Int32} {p : Nat → Nat} : oF5 a p 1 = .ref (p 1) := rfl
theorem gp_5_1 {a : Nat → Int32} {p : Nat → Nat} {v : Nat} : va_up (oF5 a p) 1 (.ref v) = oF5 a (va_up p 1 v) := by
  funext i; by_cases e : i = 1
  · subst e; rfl
  · rw [vu_ne e]; unfold oF5; split <;> first | rfl | exact absurd rfl e
theorem gf_5_2 {a : Nat → Int32} {p : Nat → Nat} : oF5 a p 2 = .int (a 2) := rfl
theorem gp_5_2 {a : Nat → Int32} {p : Nat → Nat} {v : Int32} : va_up (oF5 a p) 2 (.int v) = oF5 (va_up a 2 v) p := by
  funext i; by_cases e : i = 2
  · subst e; rfl
  · rw [vu_ne e]; unfold oF5; split <;> first | rfl | exact absurd rfl e
theorem gh_u5 {a : Nat → Int32} : va_up (GH A P dy) 5 (.inr (.inl (9, oF5 a (P 5)))) = GH (va_up A 5 a) P dy := by
  funext x; by_cases e : x = 5
  · subst e; rfl
  · rw [vu_ne e]; simp only [GH]; by_cases ha : g_a x = true
    · simp only [ha, if_true, vu_ne e]
    · simp only [ha, Bool.false_eq_true, if_false, e]; rfl
theorem gh_v5 {p : Nat → Nat} : va_up (GH A P dy) 5 (.inr (.inl (9, oF5 (A 5) p))) = GH A (va_up P 5 p) dy := by
  funext x; by_cases e : x = 5
  · subst e; rfl
  · rw [vu_ne e]; simp only [GH]; by_cases ha : g_a x = true
    · simp only [ha, if_true]
    · simp only [ha, Bool.false_eq_true, if_false, e]; rfl
theorem gh_o6 : GH A P dy 6 = .inr (.inl (0, oF6 (A 6) (P 6))) := rfl
theorem gf_6_0 {a : Nat → Int32} {p : Nat → Nat} : oF6 a p 0 = .ref 7 := rfl
theorem gf_6_1 {a : Nat → Int32} {p : Nat → Nat} : oF6 a p 1 = .int (a 1) := rfl
theorem gp_6_1 {a : Nat → Int32} {p : Nat → Nat} {v : Int32} : va_up (oF6 a p) 1 (.int v) = oF6 (va_up a 1 v) p := by
  funext i; by_cases e : i = 1
  · subst e; rfl
  · rw [vu_ne e]; unfold oF6; split <;> first | rfl | exact absurd rfl e
theorem gf_6_2 {a : Nat → Int32} {p : Nat → Nat} : oF6 a p 2 = .ref (p 2) := rfl
theorem gp_6_2 {a : Nat → Int32} {p : Nat → Nat} {v : Nat} : va_up (oF6 a p) 2 (.ref v) = oF6 a (va_up p 2 v) := by
  funext i; by_cases e : i = 2
  · subst e; rfl
  · rw [vu_ne e]; unfold oF6; split <;> first | rfl | exact absurd rfl e
theorem gf_6_3 {a : Nat → Int32} {p : Nat → Nat} : oF6 a p 3 = .ref (p 3) := rfl
theorem gp_6_3 {a : Nat → Int32} {p : Nat → Nat} {v : Nat} : va_up (oF6 a p) 3 (.ref v) = oF6 a (va_up p 3 v) := by
  funext i; by_cases e : i = 3
  · subst e; rfl
  · rw [vu_ne e]; unfold oF6; split <;> first | rfl | exact absurd rfl e
theorem gh_u6 {a : Nat → Int32} : va_up (GH A P dy) 6 (.inr (.inl (0, oF6 a (P 6)))) = GH (va_up A 6 a) P dy := by
  funext x; by_cases e : x = 6
  · subst e; rfl
  · rw [vu_ne e]; simp only [GH]; by_cases ha : g_a x = true
    · simp only [ha, if_true, vu_ne e]
    · simp only [ha, Bool.false_eq_true, if_false, e]; rfl
theorem gh_v6 {p : Nat → Nat} : va_up (GH A P dy) 6 (.inr (.inl (0, oF6 (A 6) p))) = GH A (va_up P 6 p) dy := by
  funext x; by_cases e : x = 6
  · subst e; rfl
  · rw [vu_ne e]; simp only [GH]; by_cases ha : g_a x = true
    · simp only [ha, if_true]
    · simp only [ha, Bool.false_eq_true, if_false, e]; rfl
theorem gh_o10 : GH A P dy 10 = .inr (.inl (4, oF10 (A 10) (P 10))) := rfl
theorem gf_10_0 {a : Nat → Int32} {p : Nat → Nat} : oF10 a p 0 = .int (a 0) := rfl
theorem gp_10_0 {a : Nat → Int32} {p : Nat → Nat} {v : Int32} : va_up (oF10 a p) 0 (.int v) = oF10 (va_up a 0 v) p := by
  funext i; by_cases e : i = 0
  · subst e; rfl
  · rw [vu_ne e]; unfold oF10; split <;> first | rfl | exact absurd rfl e
theorem gf_10_1 {a : Nat → Int32} {p : Nat → Nat} : oF10 a p 1 = .ref 11 := rfl
theorem gf_10_2 {a : Nat → Int32} {p : Nat → Nat} : oF10 a p 2 = .int (a 2) := rfl
theorem gp_10_2 {a : Nat → Int32} {p : Nat → Nat} {v : Int32} : va_up (oF10 a p) 2 (.int v) = oF10 (va_up a 2 v) p := by
  funext i; by_cases e : i = 2
  · subst e; rfl
  · rw [vu_ne e]; unfold oF10; split <;> first | rfl | exact absurd rfl e
theorem gf_10_3 {a : Nat → Int32} {p : Nat → Nat} : oF10 a p 3 = .ref (p 3) := rfl
theorem gp_10_3 {a : Nat → Int32} {p : Nat → Nat} {v : Nat} : va_up (oF10 a p) 3 (.ref v) = oF10 a (va_up p 3 v) := by
  funext i; by_cases e : i = 3
  · subst e; rfl
  · rw [vu_ne e]; unfold oF10; split <;> first | rfl | exact absurd rfl e
theorem gf_10_4 {a : Nat → Int32} {p : Nat → Nat} : oF10 a p 4 = .ref (p 4) := rfl
theorem gp_10_4 {a : Nat → Int32} {p : Nat → Nat} {v : Nat} : va_up (oF10 a p) 4 (.ref v) = oF10 a (va_up p 4 v) := by
  funext i; by_cases e : i = 4
  · subst e; rfl
  · rw [vu_ne e]; unfold oF10; split <;> first | rfl | exact absurd rfl e
theorem gf_10_5 {a : Nat → Int32} {p : Nat → Nat} : oF10 a p 5 = .ref (p 5) := rfl
theorem gp_10_5 {a : Nat → Int32} {p : Nat → Nat} {v : Nat} : va_up (oF10 a p) 5 (.ref v) = oF10 a (va_up p 5 v) := by
  funext i; by_cases e : i = 5
  · subst e; rfl
  · rw [vu_ne e]; unfold oF10; split <;> first | rfl | exact absurd rfl e
theorem gf_10_6 {a : Nat → Int32} {p : Nat → Nat} : oF10 a p 6 = .ref (p 6) := rfl
theorem gp_10_6 {a : Nat → Int32} {p : Nat → Nat} {v : Nat} : va_up (oF10 a p) 6 (.ref v) = oF10 a (va_up p 6 v) := by
  funext i; by_cases e : i = 6
  · subst e; rfl
  · rw [vu_ne e]; unfold oF10; split <;> first | rfl | exact absurd rfl e
theorem gh_u10 {a : Nat → Int32} : va_up (GH A P dy) 10 (.inr (.inl (4, oF10 a (P 10)))) = GH (va_up A 10 a) P dy := by
  funext x; by_cases e : x = 10
  · subst e; rfl
  · rw [vu_ne e]; simp only [GH]; by_cases ha : g_a x = true
    · simp only [ha, if_true, vu_ne e]
    · simp only [ha, Bool.false_eq_true, if_false, e]; rfl
theorem gh_v10 {p : Nat → Nat} : va_up (GH A P dy) 10 (.inr (.inl (4, oF10 (A 10) p))) = GH A (va_up P 10 p) dy := by
  funext x; by_cases e : x = 10
  · subst e; rfl
  · rw [vu_ne e]; simp only [GH]; by_cases ha : g_a x = true
    · simp only [ha, if_true]
    · simp only [ha, Bool.false_eq_true, if_false, e]; rfl
theorem gh_o12 : GH A P dy 12 = .inr (.inl (5, oF12 (A 12) (P 12))) := rfl
theorem gf_12_0 {a : Nat → Int32} {p : Nat → Nat} : oF12 a p 0 = .ref 13 := rfl
theorem gf_12_1 {a : Nat → Int32} {p : Nat → Nat} : oF12 a p 1 = .ref 14 := rfl
theorem gh_u12 {a : Nat → Int32} : va_up (GH A P dy) 12 (.inr (.inl (5, oF12 a (P 12)))) = GH (va_up A 12 a) P dy := by
  funext x; by_cases e : x = 12
  · subst e; rfl
  · rw [vu_ne e]; simp only [GH]; by_cases ha : g_a x = true
    · simp only [ha, if_true, vu_ne e]
    · simp only [ha, Bool.false_eq_true, if_false, e]; rfl
theorem gh_o15 : GH A P dy 15 = .inr (.inl (5, oF15 (A 15) (P 15))) := rfl
theorem gf_15_0 {a : Nat → Int32} {p : Nat → Nat} : oF15 a p 0 = .ref 16 := rfl
theorem gf_15_1 {a : Nat → Int32} {p : Nat → Nat} : oF15 a p 1 = .ref 17 := rfl
theorem gh_u15 {a : Nat → Int32} : va_up (GH A P dy) 15 (.inr (.inl (5, oF15 a (P 15)))) = GH (va_up A 15 a) P dy := by
  funext x; by_cases e : x = 15
  · subst e; rfl
  · rw [vu_ne e]; simp only [GH]; by_cases ha : g_a x = true
    · simp only [ha, if_true, vu_ne e]
    · simp only [ha, Bool.false_eq_true, if_false, e]; rfl
theorem gh_o18 : GH A P dy 18 = .inr (.inl (5, oF18 (A 18) (P 18))) := rfl
theorem gf_18_0 {a : Nat → Int32} {p : Nat → Nat} : oF18 a p 0 = .ref 19 := rfl
theorem gf_18_1 {a : Nat → Int32} {p : Nat → Nat} : oF18 a p 1 = .ref 20 := rfl
theorem gh_u18 {a : Nat → Int32} : va_up (GH A P dy) 18 (.inr (.inl (5, oF18 a (P 18)))) = GH (va_up A 18 a) P dy := by
  funext x; by_cases e : x = 18
  · subst e; rfl
  · rw [vu_ne e]; simp only [GH]; by_cases ha : g_a x = true
    · simp only [ha, if_true, vu_ne e]
    · simp only [ha, Bool.false_eq_true, if_false, e]; rfl
theorem gh_o21 : GH A P dy 21 = .inr (.inl (5, oF21 (A 21) (P 21))) := rfl
theorem gf_21_0 {a : Nat → Int32} {p : Nat → Nat} : oF21 a p 0 = .ref 22 := rfl
theorem gf_21_1 {a : Nat → Int32} {p : Nat → Nat} : oF21 a p 1 = .ref 23 := rfl
theorem gh_u21 {a : Nat → Int32} : va_up (GH A P dy) 21 (.inr (.inl (5, oF21 a (P 21)))) = GH (va_up A 21 a) P dy := by
  funext x; by_cases e : x = 21
  · subst e; rfl
  · rw [vu_ne e]; simp only [GH]; by_cases ha : g_a x = true
    · simp only [ha, if_true, vu_ne e]
    · simp only [ha, Bool.false_eq_true, if_false, e]; rfl
theorem gh_o24 : GH A P dy 24 = .inr (.inl (1, oF24 (A 24) (P 24))) := rfl
theorem gf_24_0 {a : Nat → Int32} {p : Nat → Nat} : oF24 a p 0 = .int (a 0) := rfl
theorem gp_24_0 {a : Nat → Int32} {p : Nat → Nat} {v : Int32} : va_up (oF24 a p) 0 (.int v) = oF24 (va_up a 0 v) p := by
  funext i; by_cases e : i = 0
  · subst e; rfl
  · rw [vu_ne e]; unfold oF24; split <;> first | rfl | exact absurd rfl e
theorem gf_24_1 {a : Nat → Int32} {p : Nat → Nat} : oF24 a p 1 = .int (a 1) := rfl
theorem gp_24_1 {a : Nat → Int32} {p : Nat → Nat} {v : Int32} : va_up (oF24 a p) 1 (.int v) = oF24 (va_up a 1 v) p := by
  funext i; by_cases e : i = 1
  · subst e; rfl
  · rw [vu_ne e]; unfold oF24; split <;> first | rfl | exact absurd rfl e
theorem gf_24_2 {a : Nat → Int32} {p : Nat → Nat} : oF24 a p 2 = .ref 25 := rfl
theorem gf_24_3 {a : Nat → Int32} {p : Nat → Nat} : oF24 a p 3 = .ref 26 := rfl
theorem gf_24_4 {a : Nat → Int32} {p : Nat → Nat} : oF24 a p 4 = .ref 27 := rfl
theorem gf_24_5 {a : Nat → Int32} {p : Nat → Nat} : oF24 a p 5 = .ref 28 := rfl
theorem gh_u24 {a : Nat → Int32} : va_up (GH A P dy) 24 (.inr (.inl (1, oF24 a (P 24)))) = GH (va_up A 24 a) P dy := by
  funext x; by_cases e : x = 24
  · subst e; rfl
  · rw [vu_ne e]; simp only [GH]; by_cases ha : g_a x = true
    · simp only [ha, if_true, vu_ne e]
    · simp only [ha, Bool.false_eq_true, if_false, e]; rfl
theorem gh_o32 : GH A P dy 32 = .inr (.inl (8, oF32 (A 32) (P 32))) := rfl
theorem gf_32_0 {a : Nat → Int32} {p : Nat → Nat} : oF32 a p 0 = .int (a 0) := rfl
theorem gp_32_0 {a : Nat → Int32} {p : Nat → Nat} {v : Int32} : va_up (oF32 a p) 0 (.int v) = oF32 (va_up a 0 v) p := by
  funext i; by_cases e : i = 0
  · subst e; rfl
  · rw [vu_ne e]; unfold oF32; split <;> first | rfl | exact absurd rfl e
theorem gf_32_1 {a : Nat → Int32} {p : Nat → Nat} : oF32 a p 1 = .int (a 1) := rfl
theorem gp_32_1 {a : Nat → Int32} {p : Nat → Nat} {v : Int32} : va_up (oF32 a p) 1 (.int v) = oF32 (va_up a 1 v) p := by
  funext i; by_cases e : i = 1
  · subst e; rfl
  · rw [vu_ne e]; unfold oF32; split <;> first | rfl | exact absurd rfl e
theorem gf_32_2 {a : Nat → Int32} {p : Nat → Nat} : oF32 a p 2 = .ref 33 := rfl
theorem gf_32_3 {a : Nat → Int32} {p : Nat → Nat} : oF32 a p 3 = .ref 34 := rfl
theorem gf_32_4 {a : Nat → Int32} {p : Nat → Nat} : oF32 a p 4 = .ref 35 := rfl
theorem gf_32_5 {a : Nat → Int32} {p : Nat → Nat} : oF32 a p 5 = .ref 36 := rfl
theorem gf_32_6 {a : Nat → Int32} {p : Nat → Nat} : oF32 a p 6 = .ref 37 := rfl
theorem gf_32_7 {a : Nat → Int32} {p : Nat → Nat} : oF32 a p 7 = .ref 38 := rfl
theorem gf_32_8 {a : Nat → Int32} {p : Nat → Nat} : oF32 a p 8 = .ref 39 := rfl
theorem gf_32_9 {a : Nat → Int32} {p : Nat → Nat} : oF32 a p 9 = .ref 40 := rfl
theorem gf_32_10 {a : Nat → Int32} {p : Nat → Nat} : oF32 a p 10 = .int (a 10) := rfl
theorem gp_32_10 {a : Nat → Int32} {p : Nat → Nat} {v : Int32} : va_up (oF32 a p) 10 (.int v) = oF32 (va_up a 10 v) p := by
  funext i; by_cases e : i = 10
  · subst e; rfl
  · rw [vu_ne e]; unfold oF32; split <;> first | rfl | exact absurd rfl e
theorem gf_32_11 {a : Nat → Int32} {p : Nat → Nat} : oF32 a p 11 = .int (a 11) := rfl
theorem gp_32_11 {a : Nat → Int32} {p : Nat → Nat} {v : Int32} : va_up (oF32 a p) 11 (.int v) = oF32 (va_up a 11 v) p := by
  funext i; by_cases e : i = 11
  · subst e; rfl
  · rw [vu_ne e]; unfold oF32; split <;> first | rfl | exact absurd rfl e
theorem gf_32_12 {a : Nat → Int32} {p : Nat → Nat} : oF32 a p 12 = .ref 41 := rfl
theorem gf_32_13 {a : Nat → Int32} {p : Nat → Nat} : oF32 a p 13 = .int (a 13) := rfl
theorem gp_32_13 {a : Nat → Int32} {p : Nat → Nat} {v : Int32} : va_up (oF32 a p) 13 (.int v) = oF32 (va_up a 13 v) p := by
  funext i; by_cases e : i = 13
  · subst e; rfl
  · rw [vu_ne e]; unfold oF32; split <;> first | rfl | exact absurd rfl e
theorem gf_32_14 {a : Nat → Int32} {p : Nat → Nat} : oF32 a p 14 = .ref 42 := rfl
theorem gf_32_15 {a : Nat → Int32} {p : Nat → Nat} : oF32 a p 15 = .ref 43 := rfl
theorem gf_32_16 {a : Nat → Int32} {p : Nat → Nat} : oF32 a p 16 = .int (a 16) := rfl
theorem gp_32_16 {a : Nat → Int32} {p : Nat → Nat} {v : Int32} : va_up (oF32 a p) 16 (.int v) = oF32 (va_up a 16 v) p := by
  funext i; by_cases e : i = 16
  · subst e; rfl
  · rw [vu_ne e]; unfold oF32; split <;> first | rfl | exact absurd rfl e
theorem gf_32_17 {a : Nat → Int32} {p : Nat → Nat} : oF32 a p 17 = .ref 44 := rfl
theorem gf_32_18 {a : Nat → Int32} {p : Nat → Nat} : oF32 a p 18 = .ref 45 := rfl
theorem gf_32_19 {a : Nat → Int32} {p : Nat → Nat} : oF32 a p 19 = .int (a 19) := rfl
theorem gp_32_19 {a : Nat → Int32} {p : Nat → Nat} {v : Int32} : va_up (oF32 a p) 19 (.int v) = oF32 (va_up a 19 v) p := by
  funext i; by_cases e : i = 19
  · subst e; rfl
  · rw [vu_ne e]; unfold oF32; split <;> first | rfl | exact absurd rfl e
theorem gf_32_20 {a : Nat → Int32} {p : Nat → Nat} : oF32 a p 20 = .ref 46 := rfl
theorem gf_32_21 {a : Nat → Int32} {p : Nat → Nat} : oF32 a p 21 = .ref 47 := rfl
theorem gf_32_22 {a : Nat → Int32} {p : Nat → Nat} : oF32 a p 22 = .ref 48 := rfl
theorem gf_32_23 {a : Nat → Int32} {p : Nat → Nat} : oF32 a p 23 = .ref 49 := rfl
theorem gf_32_24 {a : Nat → Int32} {p : Nat → Nat} : oF32 a p 24 = .ref 50 := rfl
theorem gf_32_25 {a : Nat → Int32} {p : Nat → Nat} : oF32 a p 25 = .ref 51 := rfl
theorem gf_32_26 {a : Nat → Int32} {p : Nat → Nat} : oF32 a p 26 = .ref 52 := rfl
theorem gf_32_27 {a : Nat → Int32} {p : Nat → Nat} : oF32 a p 27 = .ref 53 := rfl
theorem gf_32_28 {a : Nat → Int32} {p : Nat → Nat} : oF32 a p 28 = .ref 54 := rfl
theorem gf_32_29 {a : Nat → Int32} {p : Nat → Nat} : oF32 a p 29 = .ref 55 := rfl
theorem gf_32_30 {a : Nat → Int32} {p : Nat → Nat} : oF32 a p 30 = .ref 56 := rfl
theorem gf_32_31 {a : Nat → Int32} {p : Nat → Nat} : oF32 a p 31 = .ref 57 := rfl
theorem gf_32_32 {a : Nat → Int32} {p : Nat → Nat} : oF32 a p 32 = .ref 58 := rfl
theorem gf_32_33 {a : Nat → Int32} {p : Nat → Nat} : oF32 a p 33 = .ref 59 := rfl
theorem gf_32_34 {a : Nat → Int32} {p : Nat → Nat} : oF32 a p 34 = .ref 60 := rfl
theorem gf_32_35 {a : Nat → Int32} {p : Nat → Nat} : oF32 a p 35 = .ref 61 := rfl
theorem gf_32_36 {a : Nat → Int32} {p : Nat → Nat} : oF32 a p 36 = .int (a 36) := rfl
theorem gp_32_36 {a : Nat → Int32} {p : Nat → Nat} {v : Int32} : va_up (oF32 a p) 36 (.int v) = oF32 (va_up a 36 v) p := by
  funext i; by_cases e : i = 36
  · subst e; rfl
  · rw [vu_ne e]; unfold oF32; split <;> first | rfl | exact absurd rfl e
theorem gf_32_37 {a : Nat → Int32} {p : Nat → Nat} : oF32 a p 37 = .int (a 37) := rfl
theorem gp_32_37 {a : Nat → Int32} {p : Nat → Nat} {v : Int32} : va_up (oF32 a p) 37 (.int v) = oF32 (va_up a 37 v) p := by
  funext i; by_cases e : i = 37
  · subst e; rfl
  · rw [vu_ne e]; unfold oF32; split <;> first | rfl | exact absurd rfl e
theorem gf_32_38 {a : Nat → Int32} {p : Nat → Nat} : oF32 a p 38 = .ref 62 := rfl
theorem gf_32_39 {a : Nat → Int32} {p : Nat → Nat} : oF32 a p 39 = .int (a 39) := rfl
theorem gp_32_39 {a : Nat → Int32} {p : Nat → Nat} {v : Int32} : va_up (oF32 a p) 39 (.int v) = oF32 (va_up a 39 v) p := by
  funext i; by_cases e : i = 39
  · subst e; rfl
  · rw [vu_ne e]; unfold oF32; split <;> first | rfl | exact absurd rfl e
theorem gf_32_40 {a : Nat → Int32} {p : Nat → Nat} : oF32 a p 40 = .int (a 40) := rfl
theorem gp_32_40 {a : Nat → Int32} {p : Nat → Nat} {v : Int32} : va_up (oF32 a p) 40 (.int v) = oF32 (va_up a 40 v) p := by
  funext i; by_cases e : i = 40
  · subst e; rfl
  · rw [vu_ne e]; unfold oF32; split <;> first | rfl | exact absurd rfl e
theorem gh_u32 {a : Nat → Int32} : va_up (GH A P dy) 32 (.inr (.inl (8, oF32 a (P 32)))) = GH (va_up A 32 a) P dy := by
  funext x; by_cases e : x = 32
  · subst e; rfl
  · rw [vu_ne e]; simp only [GH]; by_cases ha : g_a x = true
    · simp only [ha, if_true, vu_ne e]
    · simp only [ha, Bool.false_eq_true, if_false, e]; rfl
theorem gh_r7 : GH A P dy 7 = .inl (0, 40, A 7) := rfl
theorem gh_w7 {f : Nat → Int32} : va_up (GH A P dy) 7 (.inl (0, 40, f)) = GH (va_up A 7 f) P dy := gh_up (q := 7) rfl
theorem gh_r8 : GH A P dy 8 = .inl (0, 13, A 8) := rfl
theorem gh_w8 {f : Nat → Int32} : va_up (GH A P dy) 8 (.inl (0, 13, f)) = GH (va_up A 8 f) P dy := gh_up (q := 8) rfl
theorem gh_r9 : GH A P dy 9 = .inl (0, 13, A 9) := rfl
theorem gh_w9 {f : Nat → Int32} : va_up (GH A P dy) 9 (.inl (0, 13, f)) = GH (va_up A 9 f) P dy := gh_up (q := 9) rfl
theorem gh_r11 : GH A P dy 11 = .inl (0, 12, A 11) := rfl
theorem gh_w11 {f : Nat → Int32} : va_up (GH A P dy) 11 (.inl (0, 12, f)) = GH (va_up A 11 f) P dy := gh_up (q := 11) rfl
theorem gh_r13 : GH A P dy 13 = .inl (0, 27, A 13) := rfl
theorem gh_w13 {f : Nat → Int32} : va_up (GH A P dy) 13 (.inl (0, 27, f)) = GH (va_up A 13 f) P dy := gh_up (q := 13) rfl
theorem gh_r14 : GH A P dy 14 = .inl (0, 27, A 14) := rfl
theorem gh_w14 {f : Nat → Int32} : va_up (GH A P dy) 14 (.inl (0, 27, f)) = GH (va_up A 14 f) P dy := gh_up (q := 14) rfl
theorem gh_r16 : GH A P dy 16 = .inl (0, 27, A 16) := rfl
theorem gh_w16 {f : Nat → Int32} : va_up (GH A P dy) 16 (.inl (0, 27, f)) = GH (va_up A 16 f) P dy := gh_up (q := 16) rfl
theorem gh_r17 : GH A P dy 17 = .inl (0, 27, A 17) := rfl
theorem gh_w17 {f : Nat → Int32} : va_up (GH A P dy) 17 (.inl (0, 27, f)) = GH (va_up A 17 f) P dy := gh_up (q := 17) rfl
theorem gh_r19 : GH A P dy 19 = .inl (0, 27, A 19) := rfl
theorem gh_w19 {f : Nat → Int32} : va_up (GH A P dy) 19 (.inl (0, 27, f)) = GH (va_up A 19 f) P dy := gh_up (q := 19) rfl
theorem gh_r20 : GH A P dy 20 = .inl (0, 27, A 20) := rfl
theorem gh_w20 {f : Nat → Int32} : va_up (GH A P dy) 20 (.inl (0, 27, f)) = GH (va_up A 20 f) P dy := gh_up (q := 20) rfl
theorem gh_r22 : GH A P dy 22 = .inl (0, 27, A 22) := rfl
theorem gh_w22 {f : Nat → Int32} : va_up (GH A P dy) 22 (.inl (0, 27, f)) = GH (va_up A 22 f) P dy := gh_up (q := 22) rfl
theorem gh_r23 : GH A P dy 23 = .inl (0, 27, A 23) := rfl
theorem gh_w23 {f : Nat → Int32} : va_up (GH A P dy) 23 (.inl (0, 27, f)) = GH (va_up A 23 f) P dy := gh_up (q := 23) rfl
theorem gh_r25 : GH A P dy 25 = .inl (0, 14, A 25) := rfl
theorem gh_w25 {f : Nat → Int32} : va_up (GH A P dy) 25 (.inl (0, 14, f)) = GH (va_up A 25 f) P dy := gh_up (q := 25) rfl
theorem gh_r26 : GH A P dy 26 = .inl (0, 14, A 26) := rfl
theorem gh_w26 {f : Nat → Int32} : va_up (GH A P dy) 26 (.inl (0, 14, f)) = GH (va_up A 26 f) P dy := gh_up (q := 26) rfl
theorem gh_r27 : GH A P dy 27 = .inl (0, 14, A 27) := rfl
theorem gh_w27 {f : Nat → Int32} : va_up (GH A P dy) 27 (.inl (0, 14, f)) = GH (va_up A 27 f) P dy := gh_up (q := 27) rfl
theorem gh_r28 : GH A P dy 28 = .inl (0, 14, A 28) := rfl
theorem gh_w28 {f : Nat → Int32} : va_up (GH A P dy) 28 (.inl (0, 14, f)) = GH (va_up A 28 f) P dy := gh_up (q := 28) rfl
theorem gh_r29 : GH A P dy 29 = .inl (0, 24, A 29) := rfl
theorem gh_w29 {f : Nat → Int32} : va_up (GH A P dy) 29 (.inl (0, 24, f)) = GH (va_up A 29 f) P dy := gh_up (q := 29) rfl
theorem gh_r30 : GH A P dy 30 = .inl (0, 16, A 30) := rfl
theorem gh_w30 {f : Nat → Int32} : va_up (GH A P dy) 30 (.inl (0, 16, f)) = GH (va_up A 30 f) P dy := gh_up (q := 30) rfl
theorem gh_r31 : GH A P dy 31 = .inl (0, 256, A 31) := rfl
theorem gh_w31 {f : Nat → Int32} : va_up (GH A P dy) 31 (.inl (0, 256, f)) = GH (va_up A 31 f) P dy := gh_up (q := 31) rfl
theorem gh_r33 : GH A P dy 33 = .inl (0, 24, A 33) := rfl
theorem gh_w33 {f : Nat → Int32} : va_up (GH A P dy) 33 (.inl (0, 24, f)) = GH (va_up A 33 f) P dy := gh_up (q := 33) rfl
theorem gh_r34 : GH A P dy 34 = .inl (0, 24, A 34) := rfl
theorem gh_w34 {f : Nat → Int32} : va_up (GH A P dy) 34 (.inl (0, 24, f)) = GH (va_up A 34 f) P dy := gh_up (q := 34) rfl
theorem gh_r35 : GH A P dy 35 = .inl (0, 72, A 35) := rfl
theorem gh_w35 {f : Nat → Int32} : va_up (GH A P dy) 35 (.inl (0, 72, f)) = GH (va_up A 35 f) P dy := gh_up (q := 35) rfl
theorem gh_r36 : GH A P dy 36 = .inl (0, 864, A 36) := rfl
theorem gh_w36 {f : Nat → Int32} : va_up (GH A P dy) 36 (.inl (0, 864, f)) = GH (va_up A 36 f) P dy := gh_up (q := 36) rfl
theorem gh_r37 : GH A P dy 37 = .inl (0, 864, A 37) := rfl
theorem gh_w37 {f : Nat → Int32} : va_up (GH A P dy) 37 (.inl (0, 864, f)) = GH (va_up A 37 f) P dy := gh_up (q := 37) rfl
theorem gh_r38 : GH A P dy 38 = .inl (0, 24, A 38) := rfl
theorem gh_w38 {f : Nat → Int32} : va_up (GH A P dy) 38 (.inl (0, 24, f)) = GH (va_up A 38 f) P dy := gh_up (q := 38) rfl
theorem gh_r39 : GH A P dy 39 = .inl (0, 192, A 39) := rfl
theorem gh_w39 {f : Nat → Int32} : va_up (GH A P dy) 39 (.inl (0, 192, f)) = GH (va_up A 39 f) P dy := gh_up (q := 39) rfl
theorem gh_r40 : GH A P dy 40 = .inl (0, 40, A 40) := rfl
theorem gh_w40 {f : Nat → Int32} : va_up (GH A P dy) 40 (.inl (0, 40, f)) = GH (va_up A 40 f) P dy := gh_up (q := 40) rfl
theorem gh_r41 : GH A P dy 41 = .inl (0, 12, A 41) := rfl
theorem gh_w41 {f : Nat → Int32} : va_up (GH A P dy) 41 (.inl (0, 12, f)) = GH (va_up A 41 f) P dy := gh_up (q := 41) rfl
theorem gh_r42 : GH A P dy 42 = .inl (0, 16, A 42) := rfl
theorem gh_w42 {f : Nat → Int32} : va_up (GH A P dy) 42 (.inl (0, 16, f)) = GH (va_up A 42 f) P dy := gh_up (q := 42) rfl
theorem gh_r43 : GH A P dy 43 = .inl (0, 128, A 43) := rfl
theorem gh_w43 {f : Nat → Int32} : va_up (GH A P dy) 43 (.inl (0, 128, f)) = GH (va_up A 43 f) P dy := gh_up (q := 43) rfl
theorem gh_r44 : GH A P dy 44 = .inl (0, 14, A 44) := rfl
theorem gh_w44 {f : Nat → Int32} : va_up (GH A P dy) 44 (.inl (0, 14, f)) = GH (va_up A 44 f) P dy := gh_up (q := 44) rfl
theorem gh_r45 : GH A P dy 45 = .inl (0, 14, A 45) := rfl
theorem gh_w45 {f : Nat → Int32} : va_up (GH A P dy) 45 (.inl (0, 14, f)) = GH (va_up A 45 f) P dy := gh_up (q := 45) rfl
theorem gh_r46 : GH A P dy 46 = .inl (0, 14, A 46) := rfl
theorem gh_w46 {f : Nat → Int32} : va_up (GH A P dy) 46 (.inl (0, 14, f)) = GH (va_up A 46 f) P dy := gh_up (q := 46) rfl
theorem gh_r47 : GH A P dy 47 = .inl (0, 48, A 47) := rfl
theorem gh_w47 {f : Nat → Int32} : va_up (GH A P dy) 47 (.inl (0, 48, f)) = GH (va_up A 47 f) P dy := gh_up (q := 47) rfl
theorem gh_r48 : GH A P dy 48 = .inl (0, 48, A 48) := rfl
theorem gh_w48 {f : Nat → Int32} : va_up (GH A P dy) 48 (.inl (0, 48, f)) = GH (va_up A 48 f) P dy := gh_up (q := 48) rfl
theorem gh_r49 : GH A P dy 49 = .inl (0, 2, A 49) := rfl
theorem gh_w49 {f : Nat → Int32} : va_up (GH A P dy) 49 (.inl (0, 2, f)) = GH (va_up A 49 f) P dy := gh_up (q := 49) rfl
theorem gh_r50 : GH A P dy 50 = .inl (0, 2, A 50) := rfl
theorem gh_w50 {f : Nat → Int32} : va_up (GH A P dy) 50 (.inl (0, 2, f)) = GH (va_up A 50 f) P dy := gh_up (q := 50) rfl
theorem gh_r51 : GH A P dy 51 = .inl (0, 700, A 51) := rfl
theorem gh_w51 {f : Nat → Int32} : va_up (GH A P dy) 51 (.inl (0, 700, f)) = GH (va_up A 51 f) P dy := gh_up (q := 51) rfl
theorem gh_r52 : GH A P dy 52 = .inl (0, 24, A 52) := rfl
theorem gh_w52 {f : Nat → Int32} : va_up (GH A P dy) 52 (.inl (0, 24, f)) = GH (va_up A 52 f) P dy := gh_up (q := 52) rfl
theorem gh_r53 : GH A P dy 53 = .inl (0, 24, A 53) := rfl
theorem gh_w53 {f : Nat → Int32} : va_up (GH A P dy) 53 (.inl (0, 24, f)) = GH (va_up A 53 f) P dy := gh_up (q := 53) rfl
theorem gh_r54 : GH A P dy 54 = .inl (0, 112, A 54) := rfl
theorem gh_w54 {f : Nat → Int32} : va_up (GH A P dy) 54 (.inl (0, 112, f)) = GH (va_up A 54 f) P dy := gh_up (q := 54) rfl
theorem gh_r55 : GH A P dy 55 = .inl (0, 112, A 55) := rfl
theorem gh_w55 {f : Nat → Int32} : va_up (GH A P dy) 55 (.inl (0, 112, f)) = GH (va_up A 55 f) P dy := gh_up (q := 55) rfl
theorem gh_r56 : GH A P dy 56 = .inl (0, 112, A 56) := rfl
theorem gh_w56 {f : Nat → Int32} : va_up (GH A P dy) 56 (.inl (0, 112, f)) = GH (va_up A 56 f) P dy := gh_up (q := 56) rfl
theorem gh_r57 : GH A P dy 57 = .inl (0, 112, A 57) := rfl
theorem gh_w57 {f : Nat → Int32} : va_up (GH A P dy) 57 (.inl (0, 112, f)) = GH (va_up A 57 f) P dy := gh_up (q := 57) rfl
theorem gh_r58 : GH A P dy 58 = .inl (0, 112, A 58) := rfl
theorem gh_w58 {f : Nat → Int32} : va_up (GH A P dy) 58 (.inl (0, 112, f)) = GH (va_up A 58 f) P dy := gh_up (q := 58) rfl
theorem gh_r59 : GH A P dy 59 = .inl (0, 112, A 59) := rfl
theorem gh_w59 {f : Nat → Int32} : va_up (GH A P dy) 59 (.inl (0, 112, f)) = GH (va_up A 59 f) P dy := gh_up (q := 59) rfl
theorem gh_r60 : GH A P dy 60 = .inl (0, 112, A 60) := rfl
theorem gh_w60 {f : Nat → Int32} : va_up (GH A P dy) 60 (.inl (0, 112, f)) = GH (va_up A 60 f) P dy := gh_up (q := 60) rfl
theorem gh_r61 : GH A P dy 61 = .inl (0, 112, A 61) := rfl
theorem gh_w61 {f : Nat → Int32} : va_up (GH A P dy) 61 (.inl (0, 112, f)) = GH (va_up A 61 f) P dy := gh_up (q := 61) rfl
theorem gh_r62 : GH A P dy 62 = .inl (2, 16, A 62) := rfl
theorem gh_w62 {f : Nat → Int32} : va_up (GH A P dy) 62 (.inl (2, 16, f)) = GH (va_up A 62 f) P dy := gh_up (q := 62) rfl
end Gh
