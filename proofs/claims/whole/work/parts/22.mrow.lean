/-! THE MODEL: its numbers, and the rows at hand (addSaying, findTail, lay) -/
/-- the row or field k of A are the naturals of a -/
def RN (k : Nat) (a : Nat → Nat → Nat) (A : Nat → Nat → Int32) : Prop := ∀ i, A k i = nI (a k i)
/-- .. or one less -/
def RM (k : Nat) (a : Nat → Nat → Nat) (A : Nat → Nat → Int32) : Prop := ∀ i, A k i = nI (a k i) - nI 1
def Rp (a : Nat → Nat → Nat) (A : Nat → Nat → Int32) : Prop :=
  (RN 33 a A ∧ RN 34 a A ∧ RN 35 a A ∧ RN 36 a A ∧ RN 37 a A ∧ RN 40 a A ∧ RN 41 a A ∧ RN 42 a A ∧ RN 43 a A ∧ RN 44 a A ∧ RM 38 a A ∧ RM 45 a A ∧ RM 46 a A) ∧
  (A 32 1 = nI (a 32 1) ∧ A 32 10 = nI (a 32 10) ∧ A 32 11 = nI (a 32 11) ∧ A 32 13 = nI (a 32 13) ∧ A 32 16 = nI (a 32 16) ∧ A 32 19 = nI (a 32 19)) ∧
  (∀ i, a 33 i ≤ 5 ∧ a 34 i ≤ 3 ∧ a 35 i ≤ 12 ∧ a 36 i < 40 ∧ a 37 i ≤ 2 ∧ a 40 i < 40 ∧ a 41 i ≤ 2 ∧ a 42 i ≤ 8 ∧ a 43 i < 24 ∧ a 44 i ≤ 7 ∧ a 38 i ≤ 9 ∧ a 45 i ≤ 14 ∧ a 46 i ≤ 16) ∧
  (a 32 1 ≤ 24 ∧ a 32 10 ≤ 100 ∧ 1 ≤ a 32 11 ∧ a 32 11 ≤ 12 ∧ a 32 13 ≤ 16 ∧ a 32 16 ≤ 14 ∧ a 32 19 ≤ 1)
theorem Rp.of {a : Nat → Nat → Nat} {A B : Nat → Nat → Int32} (h : Rp a A) (e : ∀ k, k < 47 → (k = 32 → ∀ j, j ≠ 0 → j < 36 → B k j = A k j) ∧ (k ≠ 32 → B k = A k)) : Rp a B := by
  obtain ⟨⟨h1, h2, h3, h4, h5, h6, h7, h8, h9, h10, h11, h12, h13⟩, ⟨g1, g2, g3, g4, g5, g6⟩, hb, hs⟩ := h
  have e1 : ∀ k, k < 47 → k ≠ 32 → ∀ i, B k i = A k i := fun k hk hn i => by rw [(e k hk).2 hn]
  have e2 : ∀ j, j ≠ 0 → j < 36 → B 32 j = A 32 j := fun j h0 hj => (e 32 (by omega)).1 rfl j h0 hj
  refine ⟨⟨fun i => ?_, fun i => ?_, fun i => ?_, fun i => ?_, fun i => ?_, fun i => ?_, fun i => ?_, fun i => ?_, fun i => ?_, fun i => ?_, fun i => ?_, fun i => ?_, fun i => ?_⟩, ⟨?_, ?_, ?_, ?_, ?_, ?_⟩, hb, hs⟩
  · rw [e1 33 (by omega) (by omega)]; exact h1 i
  · rw [e1 34 (by omega) (by omega)]; exact h2 i
  · rw [e1 35 (by omega) (by omega)]; exact h3 i
  · rw [e1 36 (by omega) (by omega)]; exact h4 i
  · rw [e1 37 (by omega) (by omega)]; exact h5 i
  · rw [e1 40 (by omega) (by omega)]; exact h6 i
  · rw [e1 41 (by omega) (by omega)]; exact h7 i
  · rw [e1 42 (by omega) (by omega)]; exact h8 i
  · rw [e1 43 (by omega) (by omega)]; exact h9 i
  · rw [e1 44 (by omega) (by omega)]; exact h10 i
  · rw [e1 38 (by omega) (by omega)]; exact h11 i
  · rw [e1 45 (by omega) (by omega)]; exact h12 i
  · rw [e1 46 (by omega) (by omega)]; exact h13 i
  · rw [e2 1 (by omega) (by omega)]; exact g1
  · rw [e2 10 (by omega) (by omega)]; exact g2
  · rw [e2 11 (by omega) (by omega)]; exact g3
  · rw [e2 13 (by omega) (by omega)]; exact g4
  · rw [e2 16 (by omega) (by omega)]; exact g5
  · rw [e2 19 (by omega) (by omega)]; exact g6
/-- f with the n values of g from a on -/
def pt {α : Type} (f g : Nat → α) (a n : Nat) : Nat → α := fun k => if a ≤ k ∧ k < a + n then g (k - a) else f k
theorem pt_0 {α : Type} (f g : Nat → α) (a : Nat) : pt f g a 0 = f := by
  funext k
  simp only [pt]
  rw [if_neg (by omega)]
theorem pt_succ {α : Type} (f g : Nat → α) (a n : Nat) {v : α} (hv : v = g n) : va_up (pt f g a n) (a + n) v = pt f g a (n + 1) := by
  funext k
  simp only [vu_if, pt]
  by_cases e : k = a + n
  · subst e
    rw [if_pos rfl, if_pos (by omega), hv]
    congr 1
    omega
  · rw [if_neg e]
    by_cases h : a ≤ k ∧ k < a + n
    · rw [if_pos h, if_pos (by omega)]
    · rw [if_neg h, if_neg (by omega)]
theorem vu_vu {α : Type} {f : Nat → α} {k : Nat} {v w : α} : va_up (va_up f k v) k w = va_up f k w := by
  funext j
  simp only [vu_if]
  by_cases e : j = k
  · rw [if_pos e, if_pos e]
  · rw [if_neg e, if_neg e, if_neg e]
theorem vu_swap {α : Type} {f : Nat → α} {k m : Nat} {v w : α} (h : k ≠ m) : va_up (va_up f k v) m w = va_up (va_up f m w) k v := by
  funext j
  simp only [vu_if]
  by_cases e : j = k
  · subst e
    rw [if_neg h, if_pos rfl, if_pos rfl]
  · rw [if_neg e]
    by_cases e2 : j = m
    · subst e2; simp only [e, if_true, if_false]
    · simp only [e2, e, if_false]
theorem vu_self {α : Type} {f : Nat → α} {k : Nat} {v : α} (h : v = f k) : va_up f k v = f := by
  funext j
  simp only [vu_if]
  by_cases e : j = k
  · subst e; rw [if_pos rfl, h]
  · rw [if_neg e]
/-- the rows at hand, with n sounds of a saying behind L0 others in row r -/
def adS (a : Nat → Nat → Nat) (A : Nat → Nat → Int32) (r s less L0 n : Nat) : Nat → Nat → Int32 :=
  va_up (va_up (va_up A 47 (pt (A 47) (fun i => nI (a 40 (a 36 (12 * s + i)))) (24 * r + L0) n)) 48 (pt (A 48) (fun i => nI (a 37 (12 * s + i) - less)) (24 * r + L0) n)) 49 (va_up (A 49) r (nI (L0 + n)))
theorem adS_48 {a : Nat → Nat → Nat} {A : Nat → Nat → Int32} {r s less L0 n : Nat} : adS a A r s less L0 n 48 = pt (A 48) (fun i => nI (a 37 (12 * s + i) - less)) (24 * r + L0) n := rfl
theorem adS_47 {a : Nat → Nat → Nat} {A : Nat → Nat → Int32} {r s less L0 n : Nat} : adS a A r s less L0 n 47 = pt (A 47) (fun i => nI (a 40 (a 36 (12 * s + i)))) (24 * r + L0) n := rfl
theorem adS_49 {a : Nat → Nat → Nat} {A : Nat → Nat → Int32} {r s less L0 n : Nat} : adS a A r s less L0 n 49 = va_up (A 49) r (nI (L0 + n)) := rfl
theorem adS_ne {a : Nat → Nat → Nat} {A : Nat → Nat → Int32} {r s less L0 n k : Nat} (h : k ≠ 47 ∧ k ≠ 48 ∧ k ≠ 49) : adS a A r s less L0 n k = A k := by
  simp only [adS, vu_if, h.1, h.2.1, h.2.2, if_false]
theorem adS_step {a : Nat → Nat → Nat} {A : Nat → Nat → Int32} {r s less L0 n : Nat} : va_up (va_up (va_up (adS a A r s less L0 n) 47 (va_up (adS a A r s less L0 n 47) (24 * r + (L0 + n)) (nI (a 40 (a 36 (12 * s + n)))))) 48 (va_up (adS a A r s less L0 n 48) (24 * r + (L0 + n)) (nI (a 37 (12 * s + n) - less)))) 49 (va_up (adS a A r s less L0 n 49) r (nI (L0 + n + 1))) = adS a A r s less L0 (n + 1) := by
  rw [adS_47, adS_48, adS_49, ← Nat.add_assoc, pt_succ _ _ _ _ rfl, pt_succ _ _ _ _ rfl, vu_vu]
  funext k
  simp only [adS, vu_if]
  by_cases h9 : k = 49
  · simp only [h9, if_true, Nat.add_assoc]
  · by_cases h8 : k = 48
    · simp [h8]
    · by_cases h7 : k = 47
      · simp [h7]
      · simp [h7, h8, h9]
section MRow
variable {a : Nat → Nat → Nat} {A : Nat → Nat → Int32} {P : Nat → Nat → Nat} {dy : z_H} {d nx bc bs : Nat} {Q : z_Q}
theorem l_addSaying {r s less L0 : Nat} (hR : Rp a A) (hr : r < 2) (hs : s < 72) (hless : less ≤ 1) (hL : L0 ≤ 12) (h49 : A 49 r = nI L0) (hQ : Q none (GH (adS a A r s less L0 (a 35 s)) P dy) nx) : ∀ (m i : Nat) (x5 x6 : Option Value), i + m = a 35 s → X d m_X8_addSaying 3 [some (.ref 32), some (.int (nI r)), some (.int (nI s)), some (.int (nI less)), some (.int (nI i)), x5, x6] [] (GH (adS a A r s less L0 i) P dy) nx bc bs Q := by
  obtain ⟨⟨h33, h34, h35, h36, h37, h40, h41, h42, h43, h44, h38, h45, h46⟩, ⟨g1, g2, g3, g4, g5, g6⟩, hb, hsc⟩ := hR
  intro m
  induction m with
  | zero =>
    intro i x5 x6 hi
    have hi' : i = a 35 s := by omega
    subst hi'
    have b35 := (hb s).2.2.1
    have e35 : adS a A r s less L0 (a 35 s) 35 = A 35 := rfl
    simp (disch := omega) only [i_X8_addSaying_0, i_X8_addSaying_1, i_X8_addSaying_3, i_X8_addSaying_5, i_X8_addSaying_6, i_X8_addSaying_9, i_X8_addSaying_10, i_X8_addSaying_11, i_X8_addSaying_14, i_X8_addSaying_16, i_X8_addSaying_17, i_X8_addSaying_18, i_X8_addSaying_19, i_X8_addSaying_22, i_X8_addSaying_23, i_X8_addSaying_24, i_X8_addSaying_25, i_X8_addSaying_27, i_X8_addSaying_28, i_X8_addSaying_31, i_X8_addSaying_33, i_X8_addSaying_34, i_X8_addSaying_37, i_X8_addSaying_38, i_X8_addSaying_41, i_X8_addSaying_43, i_X8_addSaying_44, i_X8_addSaying_45, i_X8_addSaying_47, i_X8_addSaying_48, i_X8_addSaying_49, i_X8_addSaying_50, i_X8_addSaying_51, i_X8_addSaying_52, i_X8_addSaying_55, i_X8_addSaying_57, i_X8_addSaying_58, i_X8_addSaying_59, i_X8_addSaying_61, i_X8_addSaying_62, i_X8_addSaying_63, i_X8_addSaying_64, i_X8_addSaying_65, i_X8_addSaying_67, i_X8_addSaying_68, i_X8_addSaying_71, i_X8_addSaying_73, i_X8_addSaying_75, i_X8_addSaying_78, i_X8_addSaying_79, i_X8_addSaying_82, i_X8_addSaying_84, i_X8_addSaying_85, i_X8_addSaying_86, i_X8_addSaying_89, i_X8_addSaying_90, i_X8_addSaying_91, i_X8_addSaying_92, i_X8_addSaying_93, i_X8_addSaying_94, i_X8_addSaying_95, i_X8_addSaying_98, i_X8_addSaying_101, gh_o32, gh_r35, gf_32_4, z_o_i, z_ai_i, z_si_i, z_ab_b, z_ab_z, z_sb_b, z_sb_z, z_al_i, z_al_b, z_pu_s, z_pu_n, nI_toN, z_inN, true_and, and_true, nI_add, pk_mul, vu_eq, vu_ne, e35, h35 s, nI_leI, Nat.le_refl, if_true]
    exact hQ
  | succ m ih =>
    intro i x5 x6 hi
    have b35 := (hb s).2.2.1
    have b36 := (hb (12 * s + i)).2.2.2.1
    have b37 := (hb (12 * s + i)).2.2.2.2.1
    have e35 : adS a A r s less L0 i 35 = A 35 := rfl
    have e36 : adS a A r s less L0 i 36 = A 36 := rfl
    have e37 : adS a A r s less L0 i 37 = A 37 := rfl
    have e40 : adS a A r s less L0 i 40 = A 40 := rfl
    have e49 : adS a A r s less L0 i 49 r = nI (L0 + i) := by rw [adS_49, vu_eq]
    have k36 := h36 (12 * s + i)
    have k37 := h37 (12 * s + i)
    have k40 := h40 (a 36 (12 * s + i))
    have hnle : ¬ a 35 s ≤ i := by omega
    rw [i_X8_addSaying_3]
    simp (disch := omega) only [i_X8_addSaying_0, i_X8_addSaying_1, i_X8_addSaying_5, i_X8_addSaying_6, i_X8_addSaying_9, i_X8_addSaying_10, i_X8_addSaying_11, i_X8_addSaying_14, i_X8_addSaying_16, i_X8_addSaying_17, i_X8_addSaying_18, i_X8_addSaying_19, i_X8_addSaying_22, i_X8_addSaying_23, i_X8_addSaying_24, i_X8_addSaying_25, i_X8_addSaying_27, i_X8_addSaying_28, i_X8_addSaying_31, i_X8_addSaying_33, i_X8_addSaying_34, i_X8_addSaying_37, i_X8_addSaying_38, i_X8_addSaying_41, i_X8_addSaying_43, i_X8_addSaying_44, i_X8_addSaying_45, i_X8_addSaying_47, i_X8_addSaying_48, i_X8_addSaying_49, i_X8_addSaying_50, i_X8_addSaying_51, i_X8_addSaying_52, i_X8_addSaying_55, i_X8_addSaying_57, i_X8_addSaying_58, i_X8_addSaying_59, i_X8_addSaying_61, i_X8_addSaying_62, i_X8_addSaying_63, i_X8_addSaying_64, i_X8_addSaying_65, i_X8_addSaying_67, i_X8_addSaying_68, i_X8_addSaying_71, i_X8_addSaying_73, i_X8_addSaying_75, i_X8_addSaying_78, i_X8_addSaying_79, i_X8_addSaying_82, i_X8_addSaying_84, i_X8_addSaying_85, i_X8_addSaying_86, i_X8_addSaying_89, i_X8_addSaying_90, i_X8_addSaying_91, i_X8_addSaying_92, i_X8_addSaying_93, i_X8_addSaying_94, i_X8_addSaying_95, i_X8_addSaying_98, i_X8_addSaying_101, gh_o32, gh_r35, gh_r36, gh_r37, gh_r40, gh_r47, gh_r48, gh_r49, gh_w47, gh_w48, gh_w49, gf_32_4, gf_32_5, gf_32_6, gf_32_9, gf_32_21, gf_32_22, gf_32_23, z_o_i, z_ai_i, z_si_i, z_ab_b, z_ab_z, z_sb_b, z_sb_z, z_al_i, z_al_b, z_pu_s, z_pu_n, nI_toN, z_inN, true_and, and_true, nI_add, pk_mul, vu_eq, vu_ne, e35, e36, e37, e40, e49, h35 s, k36, k37, k40, nI_leI, hnle, if_false]
    have hi2 := ih (i + 1) (some (.int (nI (24 * r + (L0 + i))))) (some (.int (nI (a 37 (12 * s + i)) - nI less))) (by omega)
    rw [← adS_step] at hi2
    by_cases hle : less ≤ a 37 (12 * s + i)
    · rw [pk_sub hle] at hi2 ⊢
      rw [if_pos (nI_pos' (by omega))]
      exact hi2
    · have h0 : a 37 (12 * s + i) = 0 := by omega
      have h1 : less = 1 := by omega
      rw [h0, h1] at hi2 ⊢
      rw [if_neg (by decide)]
      exact hi2
theorem c_addSaying {r s less L0 : Nat} (hR : Rp a A) (hr : r < 2) (hs : s < 72) (hless : less ≤ 1) (hL : L0 ≤ 12) (h49 : A 49 r = nI L0) (hQ : Q none (GH (adS a A r s less L0 (a 35 s)) P dy) nx) : XC d m_X8_addSaying [.ref 32, .int (nI r), .int (nI s), .int (nI less)] (GH A P dy) nx Q := by
  show X d m_X8_addSaying 0 [some (.ref 32), some (.int (nI r)), some (.int (nI s)), some (.int (nI less)), none, none, none] [] (GH A P dy) nx 0 0 Q
  have e0 : A = adS a A r s less L0 0 := by
    funext k
    simp only [adS, pt_0, vu_if]
    by_cases h9 : k = 49
    · subst h9
      rw [if_pos rfl, vu_self (by rw [h49]; rfl)]
    · by_cases h8 : k = 48
      · simp [h8]
      · by_cases h7 : k = 47
        · simp [h7]
        · simp [h7, h8, h9]
  rw [i_X8_addSaying_0, i_X8_addSaying_1]
  have hh := l_addSaying (d := d) (bc := 0) (bs := 0) (P := P) (dy := dy) hR hr hs hless hL h49 hQ (a 35 s) 0 none none (by omega)
  rw [← e0] at hh
  exact hh
/-- the last of the vowels with the greatest stress, of the first n -/
def bt (f g : Nat → Nat) : Nat → Option Nat
  | 0 => none
  | n + 1 => match bt f g n with
    | none => if f n < 10 then some n else none
    | some b => if f n < 10 ∧ g b ≤ g n then some n else some b
theorem bt_lt {f g : Nat → Nat} : ∀ {n b : Nat}, bt f g n = some b → b < n
  | 0, b, h => by simp [bt] at h
  | n + 1, b, h => by
    unfold bt at h
    split at h
    · split at h
      · cases h; omega
      · cases h
    · rename_i b' hb
      have := bt_lt hb
      split at h
      · cases h; omega
      · cases h; omega
theorem nI_m1 {n : Nat} (h : n < 2147483648) : (nI n = -1) = False := by
  simp only [eq_iff_iff, iff_false]
  intro q
  have := congrArg Int32.toInt q
  rw [nI_toInt h] at this
  have e : (-1 : Int32).toInt = -1 := by decide
  omega
/-- a number or NONE -/
def oI (r : Option Nat) : Int32 := match r with
  | none => -1
  | some n => nI n
theorem l_findTail {r n : Nat} {f g : Nat → Nat} (hr : r < 2) (hn : n ≤ 24) (h49 : A 49 r = nI n) (hf : ∀ i, i < n → A 47 (24 * r + i) = nI (f i)) (hg : ∀ i, i < n → A 48 (24 * r + i) = nI (g i)) (bf : ∀ i, f i < 40) (bg : ∀ i, g i ≤ 2) (hQ : Q none (GH (va_up A 50 (va_up (A 50) r (oI (bt f g n)))) P dy) nx) : ∀ (m i : Nat), i + m = n → X (d + 1) m_X8_findTail 4 [some (.ref 32), some (.int (nI r)), some (.int (oI (bt f g i))), some (.int (nI i))] [] (GH A P dy) nx bc bs Q := by
  intro m
  induction m with
  | zero =>
    intro i hi
    have hi' : i = n := by omega
    subst hi'
    simp (disch := omega) only [i_X8_findTail_0, i_X8_findTail_1, i_X8_findTail_2, i_X8_findTail_3, i_X8_findTail_4, i_X8_findTail_5, i_X8_findTail_6, i_X8_findTail_9, i_X8_findTail_10, i_X8_findTail_11, i_X8_findTail_14, i_X8_findTail_15, i_X8_findTail_18, i_X8_findTail_20, i_X8_findTail_21, i_X8_findTail_22, i_X8_findTail_23, i_X8_findTail_24, i_X8_findTail_25, i_X8_findTail_28, i_X8_findTail_31, i_X8_findTail_32, i_X8_findTail_33, i_X8_findTail_36, i_X8_findTail_37, i_X8_findTail_40, i_X8_findTail_42, i_X8_findTail_43, i_X8_findTail_44, i_X8_findTail_45, i_X8_findTail_46, i_X8_findTail_47, i_X8_findTail_48, i_X8_findTail_51, i_X8_findTail_53, i_X8_findTail_54, i_X8_findTail_55, i_X8_findTail_56, i_X8_findTail_57, i_X8_findTail_58, i_X8_findTail_61, i_X8_findTail_62, i_X8_findTail_63, i_X8_findTail_66, i_X8_findTail_69, i_X8_findTail_70, i_X8_findTail_73, i_X8_findTail_74, i_X8_findTail_75, i_X8_findTail_76, gh_o32, gh_r49, gh_r50, gh_w50, gf_32_23, gf_32_24, z_o_i, z_ai_i, z_si_i, z_ab_b, z_ab_z, z_sb_b, z_sb_z, z_al_i, z_al_b, z_pu_s, z_pu_n, nI_toN, z_inN, true_and, and_true, nI_add, pk_mul, vu_eq, vu_ne, h49, nI_leI, Nat.le_refl, if_true]
    exact hQ
  | succ m ih =>
    intro i hi
    have hnle : ¬ n ≤ i := by omega
    have f1 := hf i (by omega)
    have g1 := hg i (by omega)
    have bf1 := bf i
    have hi2 := ih (i + 1) (by omega)
    rw [i_X8_findTail_4]
    cases hb : bt f g i with
    | none =>
      by_cases hv : f i < 10
      · simp only [bt, hb, hv, if_true] at hi2
        simp (disch := omega) only [i_X8_findTail_0, i_X8_findTail_1, i_X8_findTail_2, i_X8_findTail_3, i_X8_findTail_5, i_X8_findTail_6, i_X8_findTail_9, i_X8_findTail_10, i_X8_findTail_11, i_X8_findTail_14, i_X8_findTail_15, i_X8_findTail_18, i_X8_findTail_20, i_X8_findTail_21, i_X8_findTail_22, i_X8_findTail_23, i_X8_findTail_24, i_X8_findTail_25, i_X8_findTail_28, i_X8_findTail_31, i_X8_findTail_32, i_X8_findTail_33, i_X8_findTail_36, i_X8_findTail_37, i_X8_findTail_40, i_X8_findTail_42, i_X8_findTail_43, i_X8_findTail_44, i_X8_findTail_45, i_X8_findTail_46, i_X8_findTail_47, i_X8_findTail_48, i_X8_findTail_51, i_X8_findTail_53, i_X8_findTail_54, i_X8_findTail_55, i_X8_findTail_56, i_X8_findTail_57, i_X8_findTail_58, i_X8_findTail_61, i_X8_findTail_62, i_X8_findTail_63, i_X8_findTail_66, i_X8_findTail_69, i_X8_findTail_70, i_X8_findTail_73, i_X8_findTail_74, i_X8_findTail_75, i_X8_findTail_76, gh_o32, gh_r47, gh_r48, gh_r49, gf_32_21, gf_32_22, gf_32_23, z_o_i, z_ai_i, z_si_i, z_ab_b, z_ab_z, z_sb_b, z_sb_z, z_al_i, z_al_b, z_pu_s, z_pu_n, nI_toN, z_inN, true_and, and_true, nI_add, pk_mul, vu_eq, vu_ne, h49, f1, g1, c_isVowel, bI_eq0, nI_leI, nI_ltI, hnle, if_false, hv, not_true_eq_false, oI, if_true]
        exact hi2
      · simp only [bt, hb, hv, if_false] at hi2
        simp (disch := omega) only [i_X8_findTail_0, i_X8_findTail_1, i_X8_findTail_2, i_X8_findTail_3, i_X8_findTail_5, i_X8_findTail_6, i_X8_findTail_9, i_X8_findTail_10, i_X8_findTail_11, i_X8_findTail_14, i_X8_findTail_15, i_X8_findTail_18, i_X8_findTail_20, i_X8_findTail_21, i_X8_findTail_22, i_X8_findTail_23, i_X8_findTail_24, i_X8_findTail_25, i_X8_findTail_28, i_X8_findTail_31, i_X8_findTail_32, i_X8_findTail_33, i_X8_findTail_36, i_X8_findTail_37, i_X8_findTail_40, i_X8_findTail_42, i_X8_findTail_43, i_X8_findTail_44, i_X8_findTail_45, i_X8_findTail_46, i_X8_findTail_47, i_X8_findTail_48, i_X8_findTail_51, i_X8_findTail_53, i_X8_findTail_54, i_X8_findTail_55, i_X8_findTail_56, i_X8_findTail_57, i_X8_findTail_58, i_X8_findTail_61, i_X8_findTail_62, i_X8_findTail_63, i_X8_findTail_66, i_X8_findTail_69, i_X8_findTail_70, i_X8_findTail_73, i_X8_findTail_74, i_X8_findTail_75, i_X8_findTail_76, gh_o32, gh_r47, gh_r48, gh_r49, gf_32_21, gf_32_22, gf_32_23, z_o_i, z_ai_i, z_si_i, z_ab_b, z_ab_z, z_sb_b, z_sb_z, z_al_i, z_al_b, z_pu_s, z_pu_n, nI_toN, z_inN, true_and, and_true, nI_add, pk_mul, vu_eq, vu_ne, h49, f1, g1, c_isVowel, bI_eq0, nI_leI, nI_ltI, hnle, if_false, hv, not_false_eq_true, if_true]
        exact hi2
    | some b =>
      have hbi := bt_lt hb
      have g2 := hg b (by omega)
      have bg1 := bg b
      have bg2 := bg i
      by_cases hv : f i < 10
      · by_cases hle : g b ≤ g i
        · have hnl : ¬ g i < g b := by omega
          simp only [bt, hb, hv, hle, and_self, if_true] at hi2
          simp (disch := omega) only [i_X8_findTail_0, i_X8_findTail_1, i_X8_findTail_2, i_X8_findTail_3, i_X8_findTail_5, i_X8_findTail_6, i_X8_findTail_9, i_X8_findTail_10, i_X8_findTail_11, i_X8_findTail_14, i_X8_findTail_15, i_X8_findTail_18, i_X8_findTail_20, i_X8_findTail_21, i_X8_findTail_22, i_X8_findTail_23, i_X8_findTail_24, i_X8_findTail_25, i_X8_findTail_28, i_X8_findTail_31, i_X8_findTail_32, i_X8_findTail_33, i_X8_findTail_36, i_X8_findTail_37, i_X8_findTail_40, i_X8_findTail_42, i_X8_findTail_43, i_X8_findTail_44, i_X8_findTail_45, i_X8_findTail_46, i_X8_findTail_47, i_X8_findTail_48, i_X8_findTail_51, i_X8_findTail_53, i_X8_findTail_54, i_X8_findTail_55, i_X8_findTail_56, i_X8_findTail_57, i_X8_findTail_58, i_X8_findTail_61, i_X8_findTail_62, i_X8_findTail_63, i_X8_findTail_66, i_X8_findTail_69, i_X8_findTail_70, i_X8_findTail_73, i_X8_findTail_74, i_X8_findTail_75, i_X8_findTail_76, gh_o32, gh_r47, gh_r48, gh_r49, gf_32_21, gf_32_22, gf_32_23, z_o_i, z_ai_i, z_si_i, z_ab_b, z_ab_z, z_sb_b, z_sb_z, z_al_i, z_al_b, z_pu_s, z_pu_n, nI_toN, z_inN, true_and, and_true, nI_add, pk_mul, vu_eq, vu_ne, h49, f1, g1, g2, c_isVowel, bI_eq0, nI_leI, nI_ltI, hnle, if_false, hv, not_true_eq_false, oI, nI_m1, hnl]
          exact hi2
        · have hnl : g i < g b := by omega
          simp only [bt, hb, hv, hle, and_false, if_false] at hi2
          simp (disch := omega) only [i_X8_findTail_0, i_X8_findTail_1, i_X8_findTail_2, i_X8_findTail_3, i_X8_findTail_5, i_X8_findTail_6, i_X8_findTail_9, i_X8_findTail_10, i_X8_findTail_11, i_X8_findTail_14, i_X8_findTail_15, i_X8_findTail_18, i_X8_findTail_20, i_X8_findTail_21, i_X8_findTail_22, i_X8_findTail_23, i_X8_findTail_24, i_X8_findTail_25, i_X8_findTail_28, i_X8_findTail_31, i_X8_findTail_32, i_X8_findTail_33, i_X8_findTail_36, i_X8_findTail_37, i_X8_findTail_40, i_X8_findTail_42, i_X8_findTail_43, i_X8_findTail_44, i_X8_findTail_45, i_X8_findTail_46, i_X8_findTail_47, i_X8_findTail_48, i_X8_findTail_51, i_X8_findTail_53, i_X8_findTail_54, i_X8_findTail_55, i_X8_findTail_56, i_X8_findTail_57, i_X8_findTail_58, i_X8_findTail_61, i_X8_findTail_62, i_X8_findTail_63, i_X8_findTail_66, i_X8_findTail_69, i_X8_findTail_70, i_X8_findTail_73, i_X8_findTail_74, i_X8_findTail_75, i_X8_findTail_76, gh_o32, gh_r47, gh_r48, gh_r49, gf_32_21, gf_32_22, gf_32_23, z_o_i, z_ai_i, z_si_i, z_ab_b, z_ab_z, z_sb_b, z_sb_z, z_al_i, z_al_b, z_pu_s, z_pu_n, nI_toN, z_inN, true_and, and_true, nI_add, pk_mul, vu_eq, vu_ne, h49, f1, g1, g2, c_isVowel, bI_eq0, nI_leI, nI_ltI, hnle, if_false, hv, not_true_eq_false, oI, nI_m1, hnl, if_true]
          exact hi2
      · simp only [bt, hb, hv, false_and, if_false] at hi2
        simp (disch := omega) only [i_X8_findTail_0, i_X8_findTail_1, i_X8_findTail_2, i_X8_findTail_3, i_X8_findTail_5, i_X8_findTail_6, i_X8_findTail_9, i_X8_findTail_10, i_X8_findTail_11, i_X8_findTail_14, i_X8_findTail_15, i_X8_findTail_18, i_X8_findTail_20, i_X8_findTail_21, i_X8_findTail_22, i_X8_findTail_23, i_X8_findTail_24, i_X8_findTail_25, i_X8_findTail_28, i_X8_findTail_31, i_X8_findTail_32, i_X8_findTail_33, i_X8_findTail_36, i_X8_findTail_37, i_X8_findTail_40, i_X8_findTail_42, i_X8_findTail_43, i_X8_findTail_44, i_X8_findTail_45, i_X8_findTail_46, i_X8_findTail_47, i_X8_findTail_48, i_X8_findTail_51, i_X8_findTail_53, i_X8_findTail_54, i_X8_findTail_55, i_X8_findTail_56, i_X8_findTail_57, i_X8_findTail_58, i_X8_findTail_61, i_X8_findTail_62, i_X8_findTail_63, i_X8_findTail_66, i_X8_findTail_69, i_X8_findTail_70, i_X8_findTail_73, i_X8_findTail_74, i_X8_findTail_75, i_X8_findTail_76, gh_o32, gh_r47, gh_r48, gh_r49, gf_32_21, gf_32_22, gf_32_23, z_o_i, z_ai_i, z_si_i, z_ab_b, z_ab_z, z_sb_b, z_sb_z, z_al_i, z_al_b, z_pu_s, z_pu_n, nI_toN, z_inN, true_and, and_true, nI_add, pk_mul, vu_eq, vu_ne, h49, f1, g1, c_isVowel, bI_eq0, nI_leI, nI_ltI, hnle, if_false, hv, not_false_eq_true, if_true]
        exact hi2
theorem c_findTail {r n : Nat} {f g : Nat → Nat} (hr : r < 2) (hn : n ≤ 24) (h49 : A 49 r = nI n) (hf : ∀ i, i < n → A 47 (24 * r + i) = nI (f i)) (hg : ∀ i, i < n → A 48 (24 * r + i) = nI (g i)) (bf : ∀ i, f i < 40) (bg : ∀ i, g i ≤ 2) (hQ : Q none (GH (va_up A 50 (va_up (A 50) r (oI (bt f g n)))) P dy) nx) : XC (d + 1) m_X8_findTail [.ref 32, .int (nI r)] (GH A P dy) nx Q := by
  show X (d + 1) m_X8_findTail 0 [some (.ref 32), some (.int (nI r)), none, none] [] (GH A P dy) nx 0 0 Q
  rw [i_X8_findTail_0, i_X8_findTail_1, i_X8_findTail_2, i_X8_findTail_3]
  exact l_findTail hr hn h49 hf hg bf bg hQ n 0 (by omega)
/-- the sounds of a saying as they sound, its stresses -/
def hs (a : Nat → Nat → Nat) (s : Nat) : Nat → Nat := fun i => a 40 (a 36 (12 * s + i))
def ss (a : Nat → Nat → Nat) (s : Nat) : Nat → Nat := fun i => a 37 (12 * s + i)
/-- row r has the saying s at hand -/
def Row (a : Nat → Nat → Nat) (A : Nat → Nat → Int32) (r s : Nat) : Prop := A 49 r = nI (a 35 s) ∧ (∀ i, i < a 35 s → A 47 (24 * r + i) = nI (hs a s i)) ∧ (∀ i, i < a 35 s → A 48 (24 * r + i) = nI (ss a s i)) ∧ A 50 r = oI (bt (hs a s) (ss a s) (a 35 s))
/-- only the rows at hand have changed, and those of the other number not -/
def Lay (r : Nat) (A B : Nat → Nat → Int32) : Prop := (∀ k, k ≠ 47 → k ≠ 48 → k ≠ 49 → k ≠ 50 → B k = A k) ∧ (∀ i, i < 24 → B 47 (24 * (1 - r) + i) = A 47 (24 * (1 - r) + i)) ∧ (∀ i, i < 24 → B 48 (24 * (1 - r) + i) = A 48 (24 * (1 - r) + i)) ∧ B 49 (1 - r) = A 49 (1 - r) ∧ B 50 (1 - r) = A 50 (1 - r)
theorem pt_in {α : Type} {f g : Nat → α} {b n k : Nat} (h1 : b ≤ k) (h2 : k < b + n) : pt f g b n k = g (k - b) := if_pos ⟨h1, h2⟩
theorem pt_out {α : Type} {f g : Nat → α} {b n k : Nat} (h : k < b ∨ b + n ≤ k) : pt f g b n k = f k := if_neg (by omega)
theorem c_lay {r s : Nat} (hR : Rp a A) (hr : r < 2) (hs72 : s < 72) (hQ : ∀ B, Rp a B → Row a B r s → Lay r A B → Q none (GH B P dy) nx) : XC (d + 2) m_X8_lay [.ref 32, .int (nI r), .int (nI s)] (GH A P dy) nx Q := by
  show X (d + 2) m_X8_lay 0 [some (.ref 32), some (.int (nI r)), some (.int (nI s))] [] (GH A P dy) nx 0 0 Q
  have b35 := (hR.2.2.1 s).2.2.1
  simp (disch := omega) only [i_X8_lay_0, i_X8_lay_1, i_X8_lay_4, i_X8_lay_5, i_X8_lay_6, i_X8_lay_7, i_X8_lay_8, i_X8_lay_9, i_X8_lay_10, i_X8_lay_11, i_X8_lay_14, i_X8_lay_15, i_X8_lay_16, i_X8_lay_19, gh_o32, gh_r49, gh_w49, gf_32_23, z_o_i, z_ai_i, z_si_i, z_ab_b, z_ab_z, z_sb_b, z_sb_z, z_al_i, z_al_b, z_pu_s, z_pu_n, nI_toN, z_inN, true_and, and_true, nI_add, pk_mul, vu_eq, vu_ne]
  have hR1 : Rp a (va_up A 49 (va_up (A 49) r (nI 0))) := hR.of (fun k hk => ⟨fun e j h0 hj => by subst e; rfl, fun e => vu_ne (by omega)⟩)
  refine c_addSaying (L0 := 0) hR1 hr hs72 (by omega) (by omega) (by rw [vu_eq, vu_eq]) ?_
  simp (disch := omega) only [i_X8_lay_0, i_X8_lay_1, i_X8_lay_4, i_X8_lay_5, i_X8_lay_6, i_X8_lay_7, i_X8_lay_8, i_X8_lay_9, i_X8_lay_10, i_X8_lay_11, i_X8_lay_14, i_X8_lay_15, i_X8_lay_16, i_X8_lay_19, gh_o32, z_o_i, z_ai_i, z_si_i, z_ab_b, z_ab_z, z_sb_b, z_sb_z, z_al_i, z_al_b, z_pu_s, z_pu_n, nI_toN, z_inN, true_and, and_true, nI_add, pk_mul, vu_eq, vu_ne]
  refine c_findTail (n := a 35 s) (f := hs a s) (g := ss a s) hr (by omega) ?_ ?_ ?_ (fun i => (hR.2.2.1 _).2.2.2.2.2.1) (fun i => (hR.2.2.1 _).2.2.2.2.1) ?_
  · rw [adS_49, vu_eq, Nat.zero_add]
  · intro i hi
    rw [adS_47, pt_in (by omega) (by omega)]
    simp only [hs]
    congr 5
    omega
  · intro i hi
    rw [adS_48, pt_in (by omega) (by omega)]
    rw [show 24 * r + i - (24 * r + 0) = i by omega]
    rfl
  · simp (disch := omega) only [i_X8_lay_0, i_X8_lay_1, i_X8_lay_4, i_X8_lay_5, i_X8_lay_6, i_X8_lay_7, i_X8_lay_8, i_X8_lay_9, i_X8_lay_10, i_X8_lay_11, i_X8_lay_14, i_X8_lay_15, i_X8_lay_16, i_X8_lay_19, z_o_i, z_ai_i, z_si_i, z_ab_b, z_ab_z, z_sb_b, z_sb_z, z_al_i, z_al_b, z_pu_s, z_pu_n, nI_toN, z_inN, true_and, and_true, nI_add, pk_mul, vu_eq, vu_ne]
    refine hQ _ ?_ ?_ ?_
    · exact hR.of (fun k hk => ⟨fun e j h0 hj => by subst e; rfl, fun e => by rw [vu_ne (by omega), adS_ne (by omega), vu_ne (by omega)]⟩)
    · refine ⟨?_, fun i hi => ?_, fun i hi => ?_, ?_⟩
      · rw [vu_ne (by omega), adS_49, vu_eq, Nat.zero_add]
      · rw [vu_ne (by omega), adS_47, pt_in (by omega) (by omega)]
        simp only [hs]
        congr 5
        omega
      · rw [vu_ne (by omega), adS_48, pt_in (by omega) (by omega)]
        rw [show 24 * r + i - (24 * r + 0) = i by omega]
        rfl
      · rw [vu_eq, vu_eq]
    · refine ⟨fun k h7 h8 h9 h0 => ?_, fun i hi => ?_, fun i hi => ?_, ?_, ?_⟩
      · rw [vu_ne h0, adS_ne ⟨h7, h8, h9⟩, vu_ne h9]
      · rw [vu_ne (by omega), adS_47, pt_out (by omega), vu_ne (by omega)]
      · rw [vu_ne (by omega), adS_48, pt_out (by omega), vu_ne (by omega)]
      · rw [vu_ne (by omega), adS_49, vu_ne (by omega), vu_eq, vu_ne (by omega)]
      · rw [vu_eq, vu_ne (by omega), adS_ne (by omega), vu_ne (by omega)]
end MRow
