/-! THE SMALL MACHINE's RULES: fuel and ends are monotone; one equation an instruction. -/
theorem Ex_mono : ∀ (k d M pc : Nat) (L : z_L) (st : List Value) (h : z_H) (nx bc bs : Nat) (Q Q' : z_Q), (∀ r h n, Q r h n → Q' r h n) → Ex k d M pc L st h nx bc bs Q → Ex k d M pc L st h nx bc bs Q' := by
  intro k
  induction k with
  | zero => intro d M pc L st h nx bc bs Q Q' _ hE; exact hE
  | succ k ih =>
    intro d M pc L st h nx bc bs Q Q' hQ hE
    simp only [Ex] at hE ⊢
    cases hd : decode (z_by M) pc with
    | error e => simp only [hd] at hE
    | ok q =>
      obtain ⟨ins, len⟩ := q
      simp only [hd] at hE ⊢
      cases hA : z_A M ins len pc L st with
      | some t => simp only [hA] at hE ⊢; exact ih _ _ _ _ _ _ _ _ _ _ _ hQ hE
      | none =>
        simp only [hA] at hE ⊢
        cases hB : z_B d M ins len pc st h nx bc bs with
        | some t => simp only [hB] at hE ⊢; exact ih _ _ _ _ _ _ _ _ _ _ _ hQ hE
        | none =>
          simp only [hB] at hE ⊢
          cases hR : z_R M ins len st with
          | some t => simp only [hR] at hE ⊢; exact hQ _ _ _ hE
          | none =>
            simp only [hR] at hE ⊢
            cases hD : z_D M ins len st h with
            | none => simp only [hD] at hE
            | some t =>
              simp only [hD] at hE ⊢
              cases d with
              | zero => exact hE
              | succ d => exact ⟨hE.1, ih _ _ _ _ _ _ _ _ _ _ _ (fun r h n => ih _ _ _ _ _ _ _ _ _ _ _ hQ) hE.2⟩
theorem Ex_up : ∀ (k d M pc : Nat) (L : z_L) (st : List Value) (h : z_H) (nx bc bs : Nat) (Q : z_Q), Ex k d M pc L st h nx bc bs Q → Ex (k + 1) d M pc L st h nx bc bs Q := by
  intro k
  induction k with
  | zero => intro d M pc L st h nx bc bs Q hE; exact hE.elim
  | succ k ih =>
    intro d M pc L st h nx bc bs Q hE
    rw [Ex] at hE ⊢
    cases hd : decode (z_by M) pc with
    | error e => simp only [hd] at hE
    | ok q =>
      obtain ⟨ins, len⟩ := q
      simp only [hd] at hE ⊢
      cases hA : z_A M ins len pc L st with
      | some t => simp only [hA] at hE ⊢; exact ih _ _ _ _ _ _ _ _ _ _ hE
      | none =>
        simp only [hA] at hE ⊢
        cases hB : z_B d M ins len pc st h nx bc bs with
        | some t => simp only [hB] at hE ⊢; exact ih _ _ _ _ _ _ _ _ _ _ hE
        | none =>
          simp only [hB] at hE ⊢
          cases hR : z_R M ins len st with
          | some t => simp only [hR] at hE ⊢; exact hE
          | none =>
            simp only [hR] at hE ⊢
            cases hD : z_D M ins len st h with
            | none => simp only [hD] at hE
            | some t =>
              simp only [hD] at hE ⊢
              cases d with
              | zero => exact hE
              | succ d => exact ⟨hE.1, Ex_mono _ _ _ _ _ _ _ _ _ _ _ _ (fun r h n => ih _ _ _ _ _ _ _ _ _ _) (ih _ _ _ _ _ _ _ _ _ _ hE.2)⟩
theorem Ex_le {k k' : Nat} (hk : k ≤ k') {d M pc : Nat} {L : z_L} {st : List Value} {h : z_H} {nx bc bs : Nat} {Q : z_Q} (hE : Ex k d M pc L st h nx bc bs Q) : Ex k' d M pc L st h nx bc bs Q := by
  induction hk with
  | refl => exact hE
  | step _ ih => exact Ex_up _ _ _ _ _ _ _ _ _ _ _ ih
theorem Ex_ex : ∀ (k d M pc : Nat) (L : z_L) (st : List Value) (h : z_H) (nx bc bs : Nat) (P : Nat → z_Q), Ex k d M pc L st h nx bc bs (fun r h n => ∃ j, P j r h n) → ∃ j, Ex k d M pc L st h nx bc bs (P j) := by
  intro k
  induction k with
  | zero => intro d M pc L st h nx bc bs P hE; exact hE.elim
  | succ k ih =>
    intro d M pc L st h nx bc bs P hE
    simp only [Ex] at hE ⊢
    cases hd : decode (z_by M) pc with
    | error e => simp only [hd] at hE
    | ok q =>
      obtain ⟨ins, len⟩ := q
      simp only [hd] at hE ⊢
      cases hA : z_A M ins len pc L st with
      | some t => simp only [hA] at hE ⊢; exact ih _ _ _ _ _ _ _ _ _ _ hE
      | none =>
        simp only [hA] at hE ⊢
        cases hB : z_B d M ins len pc st h nx bc bs with
        | some t => simp only [hB] at hE ⊢; exact ih _ _ _ _ _ _ _ _ _ _ hE
        | none =>
          simp only [hB] at hE ⊢
          cases hR : z_R M ins len st with
          | some t => simp only [hR] at hE ⊢; exact hE
          | none =>
            simp only [hR] at hE ⊢
            cases hD : z_D M ins len st h with
            | none => simp only [hD] at hE
            | some t =>
              simp only [hD] at hE ⊢
              cases d with
              | zero => exact hE.elim
              | succ d =>
                obtain ⟨hb, hE⟩ := hE
                obtain ⟨j, hj⟩ := ih _ _ _ _ _ _ _ _ _ (fun j r h' nx' => Ex k (d + 1) M (pc + 3) L (z_pu r t.2.2) h' nx' (bc - z_mc t.1) (bs - z_ms t.1) (P j)) (Ex_mono _ _ _ _ _ _ _ _ _ _ _ _ (fun r h n => ih _ _ _ _ _ _ _ _ _ _) hE)
                exact ⟨j, hb, hj⟩
section Rules
variable {d M pc : Nat} {L : z_L} {st : List Value} {h : z_H} {nx bc bs : Nat} {Q : z_Q} {ins : Instr} {len : Nat}
theorem X.mono {Q' : z_Q} (hX : X d M pc L st h nx bc bs Q) (hQ : ∀ r h n, Q r h n → Q' r h n) : X d M pc L st h nx bc bs Q' := by
  obtain ⟨k, hk⟩ := hX
  exact ⟨k, Ex_mono _ _ _ _ _ _ _ _ _ _ _ _ hQ hk⟩
theorem XC.mono {args : List Value} {Q' : z_Q} (hX : XC d M args h nx Q) (hQ : ∀ r h n, Q r h n → Q' r h n) : XC d M args h nx Q' := X.mono hX hQ
theorem X_A {pc' : Nat} {L' : z_L} {st' : List Value} (hd : decode (z_by M) pc = .ok (ins, len)) (hA : z_A M ins len pc L st = some (pc', L', st')) : X d M pc L st h nx bc bs Q = X d M pc' L' st' h nx bc bs Q := by
  apply propext
  constructor
  · rintro ⟨k, hk⟩
    cases k with
    | zero => exact hk.elim
    | succ k => simp only [Ex, hd, hA] at hk; exact ⟨k, hk⟩
  · rintro ⟨k, hk⟩
    refine ⟨k + 1, ?_⟩
    simp only [Ex, hd, hA]
    exact hk
theorem X_B {pc' : Nat} {st' : List Value} {h' : z_H} {nx' bc' bs' : Nat} (hd : decode (z_by M) pc = .ok (ins, len)) (hA : z_A M ins len pc L st = none) (hB : z_B d M ins len pc st h nx bc bs = some (pc', st', h', nx', bc', bs')) : X d M pc L st h nx bc bs Q = X d M pc' L st' h' nx' bc' bs' Q := by
  apply propext
  constructor
  · rintro ⟨k, hk⟩
    cases k with
    | zero => exact hk.elim
    | succ k => simp only [Ex, hd, hA, hB] at hk; exact ⟨k, hk⟩
  · rintro ⟨k, hk⟩
    refine ⟨k + 1, ?_⟩
    simp only [Ex, hd, hA, hB]
    exact hk
theorem X_R {r : Option Value} (hd : decode (z_by M) pc = .ok (ins, len)) (hA : z_A M ins len pc L st = none) (hB : z_B d M ins len pc st h nx bc bs = none) (hR : z_R M ins len st = some r) : X d M pc L st h nx bc bs Q = Q r h nx := by
  apply propext
  constructor
  · rintro ⟨k, hk⟩
    cases k with
    | zero => exact hk.elim
    | succ k => simp only [Ex, hd, hA, hB, hR] at hk; exact hk
  · intro hk
    refine ⟨1, ?_⟩
    simp only [Ex, hd, hA, hB, hR]
    exact hk
theorem X_N (hd : decode (z_by M) pc = .ok (ins, len)) (hA : z_A M ins len pc L st = none) (hB : z_B d M ins len pc st h nx bc bs = none) (hR : z_R M ins len st = none) (hD : z_D M ins len st h = none) : X d M pc L st h nx bc bs Q = False := by
  apply propext
  constructor
  · rintro ⟨k, hk⟩
    cases k with
    | zero => exact hk.elim
    | succ k => simp only [Ex, hd, hA, hB, hR, hD] at hk
  · exact False.elim
theorem X_D {M' : Nat} {args st' : List Value} (hd : decode (z_by M) pc = .ok (ins, len)) (hA : z_A M ins len pc L st = none) (hB : z_B (d + 1) M ins len pc st h nx bc bs = none) (hR : z_R M ins len st = none) (hD : z_D M ins len st h = some (M', args, st')) :
    X (d + 1) M pc L st h nx bc bs Q = ((z_mc M' ≤ bc ∧ z_ms M' ≤ bs) ∧ XC d M' args h nx (fun r h' nx' => X (d + 1) M (pc + 3) L (z_pu r st') h' nx' (bc - z_mc M') (bs - z_ms M') Q)) := by
  apply propext
  constructor
  · rintro ⟨k, hk⟩
    cases k with
    | zero => exact hk.elim
    | succ k =>
      simp only [Ex, hd, hA, hB, hR, hD] at hk
      exact ⟨hk.1, k, Ex_mono _ _ _ _ _ _ _ _ _ _ _ _ (fun r h n hh => ⟨k, hh⟩) hk.2⟩
  · rintro ⟨hb, k, hk⟩
    obtain ⟨j, hj⟩ := Ex_ex _ _ _ _ _ _ _ _ _ _ (fun j r h' nx' => Ex j (d + 1) M (pc + 3) L (z_pu r st') h' nx' (bc - z_mc M') (bs - z_ms M') Q) hk
    refine ⟨(k + j) + 1, ?_⟩
    simp only [Ex, hd, hA, hB, hR, hD]
    exact ⟨hb, Ex_le (Nat.le_add_right k j) (Ex_mono _ _ _ _ _ _ _ _ _ _ _ _ (fun r h n hh => Ex_le (Nat.le_add_left j k) hh) hj)⟩
theorem X_br {b : Prop} {i : Decidable b} {t f : Nat} {L' : z_L} {st' : List Value} (hd : decode (z_by M) pc = .ok (ins, len)) (hA : z_A M ins len pc L st = some (if b then t else f, L', st')) : X d M pc L st h nx bc bs Q = if b then X d M t L' st' h nx bc bs Q else X d M f L' st' h nx bc bs Q := by
  rw [X_A hd hA]
  by_cases hb : b
  · rw [if_pos hb, if_pos hb]
  · rw [if_neg hb, if_neg hb]
end Rules
/-- an object of a class -/
def z_o (c : z_C) (ci : Nat) (K : (Nat → Value) → Prop) : Prop := match c with
  | .inr (.inl (ci', fs)) => ci' = ci ∧ K fs
  | _ => False
/-- a row of ints (or the script) read at i -/
def z_ai (c : z_C) (i : Int32) (K : Int32 → Prop) : Prop := match c with
  | .inl (k, n, f) => ((k = 0 ∨ k = 3) ∧ z_in i n = true) ∧ K (f i.toNatClampNeg)
  | _ => False
/-- a row of bytes or booleans read at i -/
def z_ab (c : z_C) (i : Int32) (K : Int32 → Prop) : Prop := match c with
  | .inl (k, n, f) => ((k = 1 ∨ k = 2) ∧ z_in i n = true) ∧ K (f i.toNatClampNeg)
  | _ => False
def z_aq (c : z_C) (i : Int32) (K : Option Nat → Prop) : Prop := match c with
  | .inr (.inr (n, f)) => z_in i n = true ∧ K (f i.toNatClampNeg)
  | _ => False
def z_si (c : z_C) (i : Int32) (K : Nat → (Nat → Int32) → Prop) : Prop := match c with
  | .inl (k, n, f) => (k = 0 ∧ z_in i n = true) ∧ K n f
  | _ => False
def z_sb (c : z_C) (i x : Int32) (K : z_C → Prop) : Prop := match c with
  | .inl (k, n, f) => if k = 1 ∧ z_in i n = true then K (.inl (1, n, va_up f i.toNatClampNeg (vp_nar .byte x))) else if k = 2 ∧ z_in i n = true then K (.inl (2, n, va_up f i.toNatClampNeg (vp_nar .boolean x))) else False
  | _ => False
def z_sq (c cv : z_C) (i : Int32) (K : Nat → (Nat → Option Nat) → Prop) : Prop := match c, cv with
  | .inr (.inr (n, f)), .inr (.inl (ci, _)) => (ci < 9 ∧ z_in i n = true) ∧ K n f
  | _, _ => False
def z_al (c : z_C) (K : Int32 → Prop) : Prop := match c with
  | .inl (_, n, _) => K (nI n)
  | .inr (.inr (n, _)) => K (nI n)
  | _ => False
section Rows
variable {d M pc : Nat} {L : z_L} {st : List Value} {h : z_H} {nx bc bs : Nat} {Q : z_Q} {cp a ci j t : Nat} {fin : Bool}
theorem X_getf (hd : decode (z_by M) pc = .ok (.getfield cp, 3)) (hf : z_f M cp = some (ci, j, t, fin)) : X d M pc L (.ref a :: st) h nx bc bs Q = z_o (h a) ci (fun fs => X d M (pc + 3) L (fs j :: st) h nx bc bs Q) := by
  cases hc : h a with
  | inl q => rw [X_N hd rfl (by simp [z_B, z_B1, z_B2, hf, hc]) rfl rfl]; rfl
  | inr q =>
    cases q with
    | inr q => rw [X_N hd rfl (by simp [z_B, z_B1, z_B2, hf, hc]) rfl rfl]; rfl
    | inl q =>
      obtain ⟨c', fs⟩ := q
      by_cases e : c' = ci
      · rw [X_B (h' := h) (nx' := nx) (bc' := bc) (bs' := bs) (pc' := pc + 3) (st' := fs j :: st) hd rfl (by simp [z_B, z_B1, z_B2, hf, hc, e])]
        simp [z_o, e]
      · rw [X_N hd rfl (by simp [z_B, z_B1, z_B2, hf, hc, e]) rfl rfl]
        simp [z_o, e]
theorem X_putf {v : Value} (hd : decode (z_by M) pc = .ok (.putfield cp, 3)) (hf : z_f M cp = some (ci, j, t, fin)) (hi : fin = true → z_isI M = true ∧ ci = z_ow M) : X d M pc L (v :: .ref a :: st) h nx bc bs Q = (z_fit t v = true ∧ z_o (h a) ci (fun fs => X d M (pc + 3) L st (va_up h a (.inr (.inl (ci, va_up fs j v)))) nx bc bs Q)) := by
  by_cases hv : z_fit t v = true
  · cases hc : h a with
    | inl q => rw [X_N hd rfl (by simp [z_B, z_B1, z_B2, hf, hc]) rfl rfl]; simp [z_o]
    | inr q =>
      cases q with
      | inr q => rw [X_N hd rfl (by simp [z_B, z_B1, z_B2, hf, hc]) rfl rfl]; simp [z_o]
      | inl q =>
        obtain ⟨c', fs⟩ := q
        by_cases e : c' = ci
        · rw [X_B (h' := va_up h a (.inr (.inl (ci, va_up fs j v)))) (nx' := nx) (bc' := bc) (bs' := bs) (pc' := pc + 3) (st' := st) hd rfl (by simp [z_B, z_B1, z_B2, hf, hc, e, hv]; exact hi)]
          simp [z_o, e, hv]
        · rw [X_N hd rfl (by simp [z_B, z_B1, z_B2, hf, hc, e]) rfl rfl]
          simp [z_o, e]
  · rw [X_N hd rfl (by simp [z_B, z_B1, z_B2, hf, hv]) rfl rfl]
    simp [hv]
theorem X_iald {i : Int32} (hd : decode (z_by M) pc = .ok (.iaload, 1)) : X d M pc L (.int i :: .ref a :: st) h nx bc bs Q = z_ai (h a) i (fun x => X d M (pc + 1) L (.int x :: st) h nx bc bs Q) := by
  cases hc : h a with
  | inr q => rw [X_N hd rfl (by simp [z_B, z_B1, z_B2, hc]) rfl rfl]; simp [z_ai]
  | inl q =>
    obtain ⟨k, n, f⟩ := q
    by_cases e : (k = 0 ∨ k = 3) ∧ z_in i n = true
    · rw [X_B (h' := h) (nx' := nx) (bc' := bc) (bs' := bs) (pc' := pc + 1) (st' := .int (f i.toNatClampNeg) :: st) hd rfl (by simp [z_B, z_B1, z_B2, hc, e])]
      simp [z_ai, e]
    · rw [X_N hd rfl (by simp [z_B, z_B1, z_B2, hc, e]) rfl rfl]
      simp [z_ai, e]
theorem X_bald {i : Int32} (hd : decode (z_by M) pc = .ok (.baload, 1)) : X d M pc L (.int i :: .ref a :: st) h nx bc bs Q = z_ab (h a) i (fun x => X d M (pc + 1) L (.int x :: st) h nx bc bs Q) := by
  cases hc : h a with
  | inr q => rw [X_N hd rfl (by simp [z_B, z_B1, z_B2, hc]) rfl rfl]; simp [z_ab]
  | inl q =>
    obtain ⟨k, n, f⟩ := q
    by_cases e : (k = 1 ∨ k = 2) ∧ z_in i n = true
    · rw [X_B (h' := h) (nx' := nx) (bc' := bc) (bs' := bs) (pc' := pc + 1) (st' := .int (f i.toNatClampNeg) :: st) hd rfl (by simp [z_B, z_B1, z_B2, hc, e])]
      simp [z_ab, e]
    · rw [X_N hd rfl (by simp [z_B, z_B1, z_B2, hc, e]) rfl rfl]
      simp [z_ab, e]
theorem X_aald {i : Int32} (hd : decode (z_by M) pc = .ok (.aaload, 1)) : X d M pc L (.int i :: .ref a :: st) h nx bc bs Q = z_aq (h a) i (fun x => X d M (pc + 1) L (z_rf x :: st) h nx bc bs Q) := by
  cases hc : h a with
  | inl q => rw [X_N hd rfl (by simp [z_B, z_B1, z_B2, hc]) rfl rfl]; simp [z_aq]
  | inr q =>
    cases q with
    | inl q => rw [X_N hd rfl (by simp [z_B, z_B1, z_B2, hc]) rfl rfl]; simp [z_aq]
    | inr q =>
      obtain ⟨n, f⟩ := q
      by_cases e : z_in i n = true
      · rw [X_B (h' := h) (nx' := nx) (bc' := bc) (bs' := bs) (pc' := pc + 1) (st' := z_rf (f i.toNatClampNeg) :: st) hd rfl (by simp [z_B, z_B1, z_B2, hc, e])]
        simp [z_aq, e]
      · rw [X_N hd rfl (by simp [z_B, z_B1, z_B2, hc, e]) rfl rfl]
        simp [z_aq, e]
theorem X_iast {i x : Int32} (hd : decode (z_by M) pc = .ok (.iastore, 1)) : X d M pc L (.int x :: .int i :: .ref a :: st) h nx bc bs Q = z_si (h a) i (fun n f => X d M (pc + 1) L st (va_up h a (.inl (0, n, va_up f i.toNatClampNeg x))) nx bc bs Q) := by
  cases hc : h a with
  | inr q => rw [X_N hd rfl (by simp [z_B, z_B1, z_B2, hc]) rfl rfl]; simp [z_si]
  | inl q =>
    obtain ⟨k, n, f⟩ := q
    by_cases e : k = 0 ∧ z_in i n = true
    · rw [X_B (h' := va_up h a (.inl (0, n, va_up f i.toNatClampNeg x))) (nx' := nx) (bc' := bc) (bs' := bs) (pc' := pc + 1) (st' := st) hd rfl (by simp [z_B, z_B1, z_B2, hc, e])]
      simp [z_si, e]
    · rw [X_N hd rfl (by simp [z_B, z_B1, z_B2, hc, e]) rfl rfl]
      simp [z_si, e]
theorem X_bast {i x : Int32} (hd : decode (z_by M) pc = .ok (.bastore, 1)) : X d M pc L (.int x :: .int i :: .ref a :: st) h nx bc bs Q = z_sb (h a) i x (fun c => X d M (pc + 1) L st (va_up h a c) nx bc bs Q) := by
  cases hc : h a with
  | inr q => rw [X_N hd rfl (by simp [z_B, z_B1, z_B2, hc]) rfl rfl]; simp [z_sb]
  | inl q =>
    obtain ⟨k, n, f⟩ := q
    by_cases e : k = 1 ∧ z_in i n = true
    · rw [X_B (h' := va_up h a (.inl (1, n, va_up f i.toNatClampNeg (vp_nar .byte x)))) (nx' := nx) (bc' := bc) (bs' := bs) (pc' := pc + 1) (st' := st) hd rfl (by simp [z_B, z_B1, z_B2, hc, e])]
      simp [z_sb, e]
    · by_cases e2 : k = 2 ∧ z_in i n = true
      · rw [X_B (h' := va_up h a (.inl (2, n, va_up f i.toNatClampNeg (vp_nar .boolean x)))) (nx' := nx) (bc' := bc) (bs' := bs) (pc' := pc + 1) (st' := st) hd rfl (by simp [z_B, z_B1, z_B2, hc, e2])]
        simp [z_sb, e2]
      · rw [X_N hd rfl (by simp [z_B, z_B1, z_B2, hc, e, e2]) rfl rfl]
        simp [z_sb, e, e2]
theorem X_aast {i : Int32} {v : Nat} (hd : decode (z_by M) pc = .ok (.aastore, 1)) : X d M pc L (.ref v :: .int i :: .ref a :: st) h nx bc bs Q = z_sq (h a) (h v) i (fun n f => X d M (pc + 1) L st (va_up h a (.inr (.inr (n, va_up f i.toNatClampNeg (some v))))) nx bc bs Q) := by
  rcases hc : h a with q | q | ⟨n, f⟩
  · rw [X_N hd rfl (by simp [z_B, z_B1, z_B2, hc]) rfl rfl]; simp [z_sq]
  · rw [X_N hd rfl (by simp [z_B, z_B1, z_B2, hc]) rfl rfl]; simp [z_sq]
  · rcases hv : h v with q | ⟨c', fs⟩ | q
    · rw [X_N hd rfl (by simp [z_B, z_B1, z_B2, hc, hv]) rfl rfl]; simp [z_sq]
    · by_cases e : c' < 9 ∧ z_in i n = true
      · rw [X_B (h' := va_up h a (.inr (.inr (n, va_up f i.toNatClampNeg (some v))))) (nx' := nx) (bc' := bc) (bs' := bs) (pc' := pc + 1) (st' := st) hd rfl (by simp [z_B, z_B1, z_B2, hc, hv, e])]
        simp [z_sq, e]
      · rw [X_N hd rfl (by simp [z_B, z_B1, z_B2, hc, hv, e]) rfl rfl]
        simp [z_sq, e]
    · rw [X_N hd rfl (by simp [z_B, z_B1, z_B2, hc, hv]) rfl rfl]; simp [z_sq]
theorem X_alen (hd : decode (z_by M) pc = .ok (.arraylength, 1)) : X d M pc L (.ref a :: st) h nx bc bs Q = z_al (h a) (fun x => X d M (pc + 1) L (.int x :: st) h nx bc bs Q) := by
  rcases hc : h a with ⟨k, n, f⟩ | q | ⟨n, f⟩
  · rw [X_B (h' := h) (nx' := nx) (bc' := bc) (bs' := bs) (pc' := pc + 1) (st' := .int (nI n) :: st) hd rfl (by simp [z_B, z_B1, z_B2, hc, nI])]
    rfl
  · rw [X_N hd rfl (by simp [z_B, z_B1, z_B2, hc]) rfl rfl]; rfl
  · rw [X_B (h' := h) (nx' := nx) (bc' := bc) (bs' := bs) (pc' := pc + 1) (st' := .int (nI n) :: st) hd rfl (by simp [z_B, z_B1, z_B2, hc, nI])]
    rfl
theorem X_new (hd : decode (z_by M) pc = .ok (.new cp, 3)) (hk : z_k M cp = some ci) (hci : ci < 10) : X d M pc L st h nx bc bs Q = ((1 ≤ bc ∧ z_nf ci ≤ bs) ∧ X d M (pc + 3) L (.ref nx :: st) (va_up h nx (.inr (.inl (ci, z_df ci)))) (nx + 1) (bc - 1) (bs - z_nf ci) Q) := by
  by_cases e : 1 ≤ bc ∧ z_nf ci ≤ bs
  · rw [X_B (h' := va_up h nx (.inr (.inl (ci, z_df ci)))) (nx' := nx + 1) (bc' := bc - 1) (bs' := bs - z_nf ci) (pc' := pc + 3) (st' := .ref nx :: st) hd rfl (by simp [z_B, z_B1, z_B2, hk, hci, e])]
    simp [e]
  · rw [X_N hd rfl (by simp [z_B, z_B1, z_B2, hk, hci]; omega) rfl rfl]
    simp [e]
theorem X_cast (hd : decode (z_by M) pc = .ok (.checkcast cp, 3)) (hk : z_k M cp = some ci) : X d M pc L (.ref a :: st) h nx bc bs Q = z_o (h a) ci (fun _ => X d M (pc + 3) L (.ref a :: st) h nx bc bs Q) := by
  rcases hc : h a with q | ⟨c', fs⟩ | q
  · rw [X_N hd rfl (by simp [z_B, z_B1, z_B2, hk, hc]) rfl rfl]; rfl
  · by_cases e : c' = ci
    · rw [X_B (h' := h) (nx' := nx) (bc' := bc) (bs' := bs) (pc' := pc + 3) (st' := .ref a :: st) hd rfl (by simp [z_B, z_B1, z_B2, hk, hc, e])]
      simp [z_o, e]
    · rw [X_N hd rfl (by simp [z_B, z_B1, z_B2, hk, hc, e]) rfl rfl]
      simp [z_o, e]
  · rw [X_N hd rfl (by simp [z_B, z_B1, z_B2, hk, hc]) rfl rfl]; rfl
theorem X_newa {t : ArrayType} {n : Int32} {k : Nat} (hd : decode (z_by M) pc = .ok (.newarray t, 2)) (hk : z_ak t = some k) : X d M pc L (.int n :: st) h nx bc bs Q = ((¬ n < 0 ∧ n.toNatClampNeg ≤ 1000 ∧ 1 ≤ bc ∧ n.toNatClampNeg ≤ bs) ∧ X d M (pc + 2) L (.ref nx :: st) (va_up h nx (.inl (k, n.toNatClampNeg, fun _ => 0))) (nx + 1) (bc - 1) (bs - n.toNatClampNeg) Q) := by
  by_cases e : ¬ n < 0 ∧ n.toNatClampNeg ≤ 1000 ∧ 1 ≤ bc ∧ n.toNatClampNeg ≤ bs
  · rw [X_B (h' := va_up h nx (.inl (k, n.toNatClampNeg, fun _ => 0))) (nx' := nx + 1) (bc' := bc - 1) (bs' := bs - n.toNatClampNeg) (pc' := pc + 2) (st' := .ref nx :: st) hd rfl (by simp only [z_B, z_B1, z_B2, Option.none_or, hk, if_true]; exact if_pos e)]
    simp [e]
  · rw [X_N hd rfl (by simp only [z_B, z_B1, z_B2, Option.none_or, hk, if_true]; exact if_neg e) rfl rfl]
    exact propext ⟨False.elim, fun q => (e q.1).elim⟩
theorem X_anew {n : Int32} (hd : decode (z_by M) pc = .ok (.anewarray cp, 3)) (hk : z_ao M cp = true) : X d M pc L (.int n :: st) h nx bc bs Q = ((¬ n < 0 ∧ n.toNatClampNeg ≤ 1000 ∧ 1 ≤ bc ∧ n.toNatClampNeg ≤ bs) ∧ X d M (pc + 3) L (.ref nx :: st) (va_up h nx (.inr (.inr (n.toNatClampNeg, fun _ => none)))) (nx + 1) (bc - 1) (bs - n.toNatClampNeg) Q) := by
  by_cases e : ¬ n < 0 ∧ n.toNatClampNeg ≤ 1000 ∧ 1 ≤ bc ∧ n.toNatClampNeg ≤ bs
  · rw [X_B (h' := va_up h nx (.inr (.inr (n.toNatClampNeg, fun _ => none)))) (nx' := nx + 1) (bc' := bc - 1) (bs' := bs - n.toNatClampNeg) (pc' := pc + 3) (st' := .ref nx :: st) hd rfl (by simp only [z_B, z_B1, z_B2, Option.none_or, hk, and_self, if_true]; exact if_pos e)]
    simp [e]
  · rw [X_N hd rfl (by simp only [z_B, z_B1, z_B2, Option.none_or, hk, and_self, if_true]; exact if_neg e) rfl rfl]
    exact propext ⟨False.elim, fun q => (e q.1).elim⟩
theorem X_gets (hd : decode (z_by M) pc = .ok (.getstatic cp, 3)) (hk : z_gs M cp = true) : X d M pc L st h nx bc bs Q = X d M (pc + 3) L (.ref 1 :: st) h nx bc bs Q :=
  X_B hd rfl (by simp [z_B, z_B1, z_B2, hk])
theorem X_ldcM (hd : decode (z_by M) pc = .ok (.ldc cp, 2)) (hc : z_ci M cp = none) (hk : z_lm M cp = true) : X d M pc L st h nx bc bs Q = X d M (pc + 2) L (.ref 2 :: st) h nx bc bs Q :=
  X_B hd (by simp [z_A, z_A1, z_A2, z_A3, hc]) (by simp [z_B, z_B1, z_B2, hk])
theorem X_oini (hd : decode (z_by M) pc = .ok (.invokespecial cp, 3)) (hk : z_oi M cp = true) (hl : st.length ≤ 4) : X (d + 1) M pc L (.ref a :: st) h nx bc bs Q = X (d + 1) M (pc + 3) L st h nx bc bs Q :=
  X_B hd rfl (by simp [z_B, z_B1, z_B2, hk, hl])
theorem X_getc (hd : decode (z_by M) pc = .ok (.invokevirtual cp, 3)) (hk : z_gc M cp = true) {n : Nat} {f : Nat → Option Nat} (hc : h a = .inr (.inr (n, f))) (ha : a ≠ 1) (hl : st.length ≤ 4) : X (d + 1) M pc L (.ref a :: st) h nx bc bs Q = X (d + 1) M (pc + 3) L (.ref 2 :: st) h nx bc bs Q :=
  X_B hd rfl (by simp [z_B, z_B1, z_B2, hk, hl, hc, ha])
theorem X_mmax {x y : Int32} (hd : decode (z_by M) pc = .ok (.invokestatic cp, 3)) (hk : z_mX M cp = true) (hl : st.length ≤ 4) : X (d + 1) M pc L (.int y :: .int x :: st) h nx bc bs Q = X (d + 1) M (pc + 3) L (.int (if x < y then y else x) :: st) h nx bc bs Q :=
  X_B hd rfl (by simp [z_B, z_B1, z_B2, hk, hl])
theorem X_mmin {x y : Int32} (hd : decode (z_by M) pc = .ok (.invokestatic cp, 3)) (hX : z_mX M cp = false) (hk : z_mN M cp = true) (hl : st.length ≤ 4) : X (d + 1) M pc L (.int y :: .int x :: st) h nx bc bs Q = X (d + 1) M (pc + 3) L (.int (if y < x then y else x) :: st) h nx bc bs Q :=
  X_B hd rfl (by simp [z_B, z_B1, z_B2, hk, hX, hl])
/-- System.arraycopy of rows of ints (k = 0) or bytes (k = 1) -/
theorem X_copyi {n dp sp : Int32} {a0 k n0 n1 : Nat} {f g : Nat → Int32} (hd : decode (z_by M) pc = .ok (.invokestatic cp, 3)) (hX : z_mX M cp = false) (hN : z_mN M cp = false) (hk : z_ac M cp = true) (hl : st.length ≤ 4) (h0 : h a0 = .inl (k, n0, f)) (h1 : h a = .inl (k, n1, g)) (hq : k = 0 ∨ (k = 1 ∧ ∀ i, i < n.toNatClampNeg → fits .byte (.int (f (sp.toNatClampNeg + i))) = true)) (hn : ¬ n < 0) (hdp : ¬ dp < 0) (hsp : ¬ sp < 0) (b0 : sp.toNatClampNeg + n.toNatClampNeg ≤ n0) (b1 : dp.toNatClampNeg + n.toNatClampNeg ≤ n1) :
    X (d + 1) M pc L (.int n :: .int dp :: .ref a :: .int sp :: .ref a0 :: st) h nx bc bs Q = X (d + 1) M (pc + 3) L st (va_up h a (.inl (k, n1, va_cpy f g sp.toNatClampNeg dp.toNatClampNeg n.toNatClampNeg))) nx bc bs Q := by
  have hq' : k = 0 ∨ (k = 1 ∧ ((List.range n.toNatClampNeg).all fun i => fits .byte (.int (f (sp.toNatClampNeg + i)))) = true) := by
    rcases hq with q | ⟨q, q2⟩
    · exact Or.inl q
    · exact Or.inr ⟨q, List.all_eq_true.mpr (fun i hi => q2 i (List.mem_range.mp hi))⟩
  refine X_B hd rfl ?_
  simp only [z_B, z_B1, z_B2, Option.none_or, hX, hN, hk, Bool.false_eq_true, and_true, true_and, false_and, and_false, if_false, if_true, h0, h1, hl, hn, hdp, hsp, not_false_eq_true, b0, b1, Nat.le_add_left, hq']
theorem X_copyq {n dp sp : Int32} {a0 n0 n1 c0 : Nat} {f g : Nat → Option Nat} (hd : decode (z_by M) pc = .ok (.invokestatic cp, 3)) (hX : z_mX M cp = false) (hN : z_mN M cp = false) (hk : z_ac M cp = true) (hl : st.length ≤ 4) (h0 : h a0 = .inr (.inr (n0, f))) (h1 : h a = .inr (.inr (n1, g))) (ha0 : a0 ≠ 1) (ha : a ≠ 1) (hc0 : c0 = 6 ∨ c0 = 2 ∨ c0 = 3) (hq : z_cq h f sp.toNatClampNeg n.toNatClampNeg c0 = true) (hn : ¬ n < 0) (hdp : ¬ dp < 0) (hsp : ¬ sp < 0) (b0 : sp.toNatClampNeg + n.toNatClampNeg ≤ n0) (b1 : dp.toNatClampNeg + n.toNatClampNeg ≤ n1) :
    X (d + 1) M pc L (.int n :: .int dp :: .ref a :: .int sp :: .ref a0 :: st) h nx bc bs Q = X (d + 1) M (pc + 3) L st (va_up h a (.inr (.inr (n1, va_cpy f g sp.toNatClampNeg dp.toNatClampNeg n.toNatClampNeg)))) nx bc bs Q := by
  have hq' : z_cq h f sp.toNatClampNeg n.toNatClampNeg 6 = true ∨ z_cq h f sp.toNatClampNeg n.toNatClampNeg 2 = true ∨ z_cq h f sp.toNatClampNeg n.toNatClampNeg 3 = true := by
    rcases hc0 with rfl | rfl | rfl
    · exact Or.inl hq
    · exact Or.inr (Or.inl hq)
    · exact Or.inr (Or.inr hq)
  refine X_B hd rfl ?_
  simp only [z_B, z_B1, z_B2, Option.none_or, hX, hN, hk, Bool.false_eq_true, and_true, true_and, false_and, and_false, if_false, if_true, h0, h1, hl, hn, hdp, hsp, not_false_eq_true, b0, b1, Nat.le_add_left, hq', ne_eq, ha, ha0]
/-- a call of an object's method: Ar is what lies on the stack above the object, as it lies there -/
theorem X_virt {M' n b : Nat} {Ar rest : List Value} (hd : decode (z_by M) pc = .ok (.invokevirtual cp, 3)) (hg : z_gc M cp = false) (hk : z_c M cp = some (M', 0, n)) (hn : Ar.length = n) (hl : rest.length ≤ 4) (hag : z_ag M' (.ref b :: Ar.reverse) = true) :
    X (d + 1) M pc L (Ar ++ .ref b :: rest) h nx bc bs Q = z_o (h b) (z_ow M') (fun _ => (z_mc M' ≤ bc ∧ z_ms M' ≤ bs) ∧ XC d M' (.ref b :: Ar.reverse) h nx (fun r h' nx' => X (d + 1) M (pc + 3) L (z_pu r rest) h' nx' (bc - z_mc M') (bs - z_ms M') Q)) := by
  subst hn
  have e1 : (Ar ++ Value.ref b :: rest).drop Ar.length = .ref b :: rest := by simp
  have e2 : (Ar ++ Value.ref b :: rest).take Ar.length = Ar := by simp
  rcases hc : h b with q | ⟨c', fs⟩ | q
  · rw [X_N hd rfl (by simp [z_B, z_B1, z_B2, hg]) rfl (by simp [z_D, hk, e1, hc])]; rfl
  · by_cases e : c' = z_ow M'
    · rw [X_D (M' := M') (args := .ref b :: Ar.reverse) (st' := rest) hd rfl (by simp [z_B, z_B1, z_B2, hg]) rfl (by simp [z_D, hk, e1, e2, hc, e, hl, hag])]
      simp [z_o, e]
    · rw [X_N hd rfl (by simp [z_B, z_B1, z_B2, hg]) rfl (by simp [z_D, hk, e1, hc, e])]
      simp [z_o, e]
  · rw [X_N hd rfl (by simp [z_B, z_B1, z_B2, hg]) rfl (by simp [z_D, hk, e1, hc])]; rfl
theorem X_spec {M' n b : Nat} {Ar rest : List Value} (hd : decode (z_by M) pc = .ok (.invokespecial cp, 3)) (hg : z_oi M cp = false) (hk : z_c M cp = some (M', 2, n)) (hn : Ar.length = n) (hl : rest.length ≤ 4) (hag : z_ag M' (.ref b :: Ar.reverse) = true) :
    X (d + 1) M pc L (Ar ++ .ref b :: rest) h nx bc bs Q = ((z_mc M' ≤ bc ∧ z_ms M' ≤ bs) ∧ XC d M' (.ref b :: Ar.reverse) h nx (fun r h' nx' => X (d + 1) M (pc + 3) L (z_pu r rest) h' nx' (bc - z_mc M') (bs - z_ms M') Q)) := by
  subst hn
  have e1 : (Ar ++ Value.ref b :: rest).drop Ar.length = .ref b :: rest := by simp
  have e2 : (Ar ++ Value.ref b :: rest).take Ar.length = Ar := by simp
  exact X_D (M' := M') (args := .ref b :: Ar.reverse) (st' := rest) hd rfl (by simp [z_B, z_B1, z_B2, hg]) rfl (by simp [z_D, hk, e1, e2, hl, hag])
theorem X_stat {M' n kd : Nat} {Ar rest : List Value} (hd : decode (z_by M) pc = .ok (.invokestatic cp, 3)) (hg : z_ac M cp = false) (hgX : z_mX M cp = false) (hgN : z_mN M cp = false) (hk : z_c M cp = some (M', kd, n)) (hkd : kd = 1 ∨ kd = 3) (hn : Ar.length = n) (hl : rest.length ≤ 4) (hag : z_ag M' Ar.reverse = true) :
    X (d + 1) M pc L (Ar ++ rest) h nx bc bs Q = ((z_mc M' ≤ bc ∧ z_ms M' ≤ bs) ∧ XC d M' Ar.reverse h nx (fun r h' nx' => X (d + 1) M (pc + 3) L (z_pu r rest) h' nx' (bc - z_mc M') (bs - z_ms M') Q)) := by
  subst hn
  have e1 : (Ar ++ rest).drop Ar.length = rest := by simp
  have e2 : (Ar ++ rest).take Ar.length = Ar := by simp
  rcases hkd with rfl | rfl
  · exact X_D (M' := M') (args := Ar.reverse) (st' := rest) hd rfl (by simp [z_B, z_B1, z_B2, hg, hgX, hgN]) rfl (by simp [z_D, hk, e1, e2, hl, hag])
  · exact X_D (M' := M') (args := Ar.reverse) (st' := rest) hd rfl (by simp [z_B, z_B1, z_B2, hg, hgX, hgN]) rfl (by simp [z_D, hk, e1, e2, hl, hag])
end Rows
