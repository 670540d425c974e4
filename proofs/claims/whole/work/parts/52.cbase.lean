/-! THE CLASS: its objects from 63 on, and what they stand for -/
def wdF (hp : Int32) (l b : Nat) (len : Int32) : Nat → Value := fun j => match j with
  | 0 => .int hp
  | 1 => .ref l
  | 2 => .ref b
  | 3 => .int len
  | _ => .null
def lnF (n : Int32) (q : Nat) : Nat → Value := fun j => match j with
  | 0 => .int n
  | 1 => .ref q
  | _ => .null
def sgF (n so sy vo st lv tp tl ts tb tlb : Nat) : Nat → Value := fun j => match j with
  | 0 => .int (nI n)
  | 1 => .ref so
  | 2 => .int (nI sy)
  | 3 => .ref vo
  | 4 => .ref st
  | 5 => .int (nI lv)
  | 6 => .int (nI tp)
  | 7 => .int (nI tl)
  | 8 => .int (nI ts)
  | 9 => .int (nI tb)
  | 10 => .int (nI tlb)
  | _ => .null
section Fs
variable {hp len : Int32} {l b : Nat} {n so sy vo st lv tp tl ts tb tlb : Nat} {m : Int32} {q : Nat}
theorem wdF_0 : wdF hp l b len 0 = .int hp := rfl
theorem wdF_1 : wdF hp l b len 1 = .ref l := rfl
theorem wdF_2 : wdF hp l b len 2 = .ref b := rfl
theorem wdF_3 : wdF hp l b len 3 = .int len := rfl
theorem wdU_3 : va_up (wdF hp l b len) 3 (.int m) = wdF hp l b m := by
  funext i; by_cases q : i = 3
  · subst q; rfl
  · rw [vu_ne q]; unfold wdF; split <;> first | rfl | exact absurd rfl q
theorem lnF_0 : lnF m q 0 = .int m := rfl
theorem lnF_1 : lnF m q 1 = .ref q := rfl
theorem sgF_0 : sgF n so sy vo st lv tp tl ts tb tlb 0 = .int (nI n) := rfl
theorem sgF_1 : sgF n so sy vo st lv tp tl ts tb tlb 1 = .ref so := rfl
theorem sgF_2 : sgF n so sy vo st lv tp tl ts tb tlb 2 = .int (nI sy) := rfl
theorem sgF_3 : sgF n so sy vo st lv tp tl ts tb tlb 3 = .ref vo := rfl
theorem sgF_4 : sgF n so sy vo st lv tp tl ts tb tlb 4 = .ref st := rfl
theorem sgF_5 : sgF n so sy vo st lv tp tl ts tb tlb 5 = .int (nI lv) := rfl
theorem sgF_6 : sgF n so sy vo st lv tp tl ts tb tlb 6 = .int (nI tp) := rfl
theorem sgF_7 : sgF n so sy vo st lv tp tl ts tb tlb 7 = .int (nI tl) := rfl
theorem sgF_8 : sgF n so sy vo st lv tp tl ts tb tlb 8 = .int (nI ts) := rfl
theorem sgF_9 : sgF n so sy vo st lv tp tl ts tb tlb 9 = .int (nI tb) := rfl
theorem sgF_10 : sgF n so sy vo st lv tp tl ts tb tlb 10 = .int (nI tlb) := rfl
end Fs
/-- a row of what h has where f has vowels -/
def vr (f h : Nat → Nat) : Nat → Nat → Int32
  | 0 => fun _ => 0
  | i + 1 => if f i < 10 then va_up (vr f h i) (cv f i) (nI (h i)) else vr f h i
theorem cv_mono {f : Nat → Nat} {i : Nat} : ∀ (n : Nat), i ≤ n → cv f i ≤ cv f n := by
  intro n
  induction n with
  | zero => intro h; rw [show i = 0 by omega]; exact Nat.le_refl _
  | succ n ih =>
    intro h
    by_cases e : i = n + 1
    · rw [e]; exact Nat.le_refl _
    · have := ih (by omega)
      show cv f i ≤ cv f n + if f n < 10 then 1 else 0
      omega
theorem cv_lt {f : Nat → Nat} {i n : Nat} (h : i < n) (hv : f i < 10) : cv f i < cv f n := by
  have := cv_mono (f := f) (i := i + 1) n h
  rw [cv, if_pos hv] at this
  omega
theorem vr_at {f h : Nat → Nat} {i : Nat} (hv : f i < 10) : ∀ (n : Nat), i < n → vr f h n (cv f i) = nI (h i) := by
  intro n
  induction n with
  | zero => intro hi; omega
  | succ n ih =>
    intro hi
    rw [vr]
    by_cases e : i = n
    · subst e
      rw [if_pos hv, vu_eq]
    · have := ih (by omega)
      by_cases c : f n < 10
      · rw [if_pos c, vu_ne (Nat.ne_of_lt (cv_lt (by omega) hv))]
        exact this
      · rw [if_neg c]; exact this
def tlR (f g : Nat → Nat) (n : Nat) : Nat := (bt f g n).getD 0
/-- the sounds of a saying as they are told -/
def rs (a : Nat → Nat → Nat) (t : Nat) : Nat → Nat := fun i => a 36 (12 * t + i)
/-- a saying of the class -/
def Sg (dy : z_H) (nx : Nat) (ρ : Nat → Nat) (p n : Nat) (f g : Nat → Nat) : Prop :=
  ∃ (so vo st : Nat) (F : Nat → Int32), (63 ≤ p ∧ p < nx ∧ 63 ≤ so ∧ so < nx ∧ 63 ≤ vo ∧ vo < nx ∧ 63 ≤ st ∧ st < nx) ∧ (ρ p = 0 ∧ ρ so = 0 ∧ ρ vo = 0 ∧ ρ st = 0) ∧
    dy p = .inr (.inl (3, sgF n so (cv f n) vo st (lvw f n) (g (tlR f g n)) (tlR f g n) (cv f (tlR f g n)) (if g (tlR f g n) = 2 then 1 else 0) (if g (tlR f g n) = 2 then tlR f g n else lvw f n))) ∧
    dy so = .inl (0, n, F) ∧ (∀ i, i < n → F i = nI (f i)) ∧ dy vo = .inl (0, n, vr f f n) ∧ dy st = .inl (0, n, vr f g n)
/-- a word of the class -/
def Dw (s : z_S) (dy : z_H) (nx : Nat) (ρ : Nat → Nat) (w p : Nat) : Prop :=
  ∃ (l b e c : Nat) (m : Int32) (g : Nat → Option Nat) (K : Nat → Int32),
    (63 ≤ p ∧ p < nx ∧ 63 ≤ l ∧ l < nx ∧ 63 ≤ b ∧ b < nx) ∧ (ρ p = 8 * w + 4 ∧ ρ l = 8 * w + 5 ∧ ρ b = 8 * w + 6) ∧ ((e = 1 ∧ c = 0) ∨ (63 ≤ e ∧ e < nx ∧ ρ e = 8 * w + 7 ∧ c = 10)) ∧
    (dy p = .inr (.inl (6, wdF (nI (s.1 33 w)) l b (nI (s.1 38 w) - nI 1))) ∧ dy l = .inr (.inl (9, lsF m e (nI (s.1 34 w)))) ∧ dy e = .inr (.inr (c, g)) ∧ dy b = .inl (1, 8, K)) ∧
    ((∀ i, -128 ≤ (K i).toInt ∧ (K i).toInt ≤ 127) ∧ (¬ s.1 38 w = 0 → ∀ i, i < 8 → K i = s.2 (8 * w + i))) ∧ s.1 34 w ≤ c ∧
    ∀ k, k < s.1 34 w → ∃ q, g k = some q ∧ Sg dy nx ρ q (s.1 35 (3 * w + k)) (rs s.1 (3 * w + k)) (ss s.1 (3 * w + k))
/-- a line of the class -/
def Dl (s : z_S) (dy : z_H) (nx : Nat) (ρ : Nat → Nat) (l p : Nat) : Prop :=
  ∃ (q : Nat) (F : Nat → Int32), (63 ≤ p ∧ p < nx ∧ 63 ≤ q ∧ q < nx) ∧ (ρ p = 0 ∧ ρ q = 0) ∧ dy p = .inr (.inl (2, lnF (nI (s.1 42 l)) q)) ∧ dy q = .inl (0, s.1 42 l, F) ∧ ∀ i, i < s.1 42 l → F i = nI (s.1 43 (8 * l + i))
/-- the row of a list -/
def La (dy : z_H) (nx : Nat) (ρ : Nat → Nat) (e c n : Nat) (wd : Nat → Nat) (ro : Nat) : Prop :=
  ∃ g : Nat → Option Nat, ((e = 1 ∧ c = 0) ∨ (63 ≤ e ∧ e < nx ∧ ρ e = ro ∧ (c = 10 ∨ c = 15 ∨ c = 22 ∨ c = 33))) ∧ n ≤ c ∧ dy e = .inr (.inr (c, g)) ∧ ∀ i, i < n → g i = some (wd i)
/-- what was made stands for the state -/
def Rd (s : z_S) (A : Nat → Nat → Int32) (P : Nat → Nat → Nat) (dy : z_H) (nx : Nat) (wd ln : Nat → Nat) : Prop :=
  ∃ (ρ : Nat → Nat) (c4 c5 : Nat), (63 ≤ nx ∧ dy 1 = .inr (.inr (0, fun _ => none))) ∧ (A 4 2 = nI (s.1 32 1) ∧ A 5 2 = nI (s.1 32 13)) ∧ La dy nx ρ (P 4 1) c4 (s.1 32 1) wd 1 ∧ La dy nx ρ (P 5 1) c5 (s.1 32 13) ln 2 ∧ (∀ w, w < s.1 32 1 → Dw s dy nx ρ w (wd w)) ∧ ∀ l, l < s.1 32 13 → Dl s dy nx ρ l (ln l)
/-- the class's numbers and rows stand for the state -/
def Rc (s : z_S) (A : Nat → Nat → Int32) (P : Nat → Nat → Nat) : Prop :=
  ((∀ i, i < 40 → A 7 i = nI (s.1 40 i)) ∧ A 6 1 = nI (s.1 32 10) ∧ A 10 0 = nI (s.1 32 11) ∧ (∀ i, i < 12 → A 11 i = nI (s.1 41 i))) ∧
  (A 24 0 = nI (s.1 32 16) ∧ A 24 1 = nI (s.1 32 19) ∧ (∀ i, i < 14 → A 25 i = nI (s.1 44 i)) ∧ (∀ i, i < 14 → A 26 i = nI (s.1 45 i) - nI 1) ∧ ∀ i, i < 14 → A 27 i = nI (s.1 46 i) - nI 1) ∧
  ((P 6 2 = 8 ∨ P 6 2 = 9) ∧ (P 6 3 = 8 ∨ P 6 3 = 9) ∧ P 6 2 ≠ P 6 3) ∧
  ((P 10 3 = 12 ∨ P 10 3 = 15 ∨ P 10 3 = 18 ∨ P 10 3 = 21) ∧ (P 10 4 = 12 ∨ P 10 4 = 15 ∨ P 10 4 = 18 ∨ P 10 4 = 21) ∧ (P 10 5 = 12 ∨ P 10 5 = 15 ∨ P 10 5 = 18 ∨ P 10 5 = 21) ∧ (P 10 6 = 12 ∨ P 10 6 = 15 ∨ P 10 6 = 18 ∨ P 10 6 = 21)) ∧
  (P 10 3 ≠ P 10 4 ∧ P 10 3 ≠ P 10 5 ∧ P 10 3 ≠ P 10 6 ∧ P 10 4 ≠ P 10 5 ∧ P 10 4 ≠ P 10 6 ∧ P 10 5 ≠ P 10 6)
theorem o4_ls {a : Nat → Int32} {p : Nat → Nat} : oF4 a p = lsF (a 0) (p 1) (a 2) := by
  funext j
  match j with
  | 0 => rfl
  | 1 => rfl
  | 2 => rfl
  | (k + 3) => rfl
theorem o5_ls {a : Nat → Int32} {p : Nat → Nat} : oF5 a p = lsF (a 0) (p 1) (a 2) := by
  funext j
  match j with
  | 0 => rfl
  | 1 => rfl
  | 2 => rfl
  | (k + 3) => rfl
theorem gh_l4 {A : Nat → Nat → Int32} {P : Nat → Nat → Nat} {dy : z_H} : GH A P dy 4 = .inr (.inl (9, lsF (A 4 0) (P 4 1) (A 4 2))) := by rw [gh_o4, o4_ls]
theorem gh_l5 {A : Nat → Nat → Int32} {P : Nat → Nat → Nat} {dy : z_H} : GH A P dy 5 = .inr (.inl (9, lsF (A 5 0) (P 5 1) (A 5 2))) := by rw [gh_o5, o5_ls]
theorem gh_1 {A : Nat → Nat → Int32} {P : Nat → Nat → Nat} {dy : z_H} : GH A P dy 1 = dy 1 := rfl
/-- what was made stays, whatever the class's rows do -/
theorem Rd.of {s : z_S} {A B : Nat → Nat → Int32} {P R : Nat → Nat → Nat} {dy : z_H} {nx : Nat} {wd ln : Nat → Nat} (h : Rd s A P dy nx wd ln) (h4 : B 4 2 = A 4 2) (h5 : B 5 2 = A 5 2) (p4 : R 4 1 = P 4 1) (p5 : R 5 1 = P 5 1) : Rd s B R dy nx wd ln := by
  obtain ⟨ρ, c4, c5, h1, h2, h3⟩ := h
  refine ⟨ρ, c4, c5, h1, ?_, ?_⟩
  · rw [h4, h5]; exact h2
  · rw [p4, p5]; exact h3
/-! speech keeps vowels -/
section Sp
variable {f h g : Nat → Nat}
theorem bt_cg (e : ∀ i, (f i < 10) = (h i < 10)) : ∀ n, bt f g n = bt h g n := by
  intro n
  induction n with
  | zero => rfl
  | succ n ih => simp only [bt, ih, e n]
theorem lvw_cg (e : ∀ i, (f i < 10) = (h i < 10)) : ∀ n, lvw f n = lvw h n := by
  intro n
  induction n with
  | zero => rfl
  | succ n ih => simp only [lvw, ih, e n]
theorem cv_cg (e : ∀ i, (f i < 10) = (h i < 10)) : ∀ n, cv f n = cv h n := by
  intro n
  induction n with
  | zero => rfl
  | succ n ih => simp only [cv, ih, e n]
end Sp
theorem hs_v {a : Nat → Nat → Nat} {t : Nat} (hp : Sp a) (hb : ∀ i, a 36 i < 40) : ∀ i, (hs a t i < 10) = (rs a t i < 10) := fun i => propext (hp _ (hb _))
theorem tl_R {a : Nat → Nat → Nat} {t : Nat} (hp : Sp a) (hb : ∀ i, a 36 i < 40) : tlR (rs a t) (ss a t) (a 35 t) = tl a t := by
  unfold tlR tl
  rw [bt_cg (hs_v hp hb)]
theorem lv_R {a : Nat → Nat → Nat} {t : Nat} (hp : Sp a) (hb : ∀ i, a 36 i < 40) (n : Nat) : lvw (rs a t) n = lvw (hs a t) n := (lvw_cg (hs_v hp hb) n).symm
theorem cv_R {a : Nat → Nat → Nat} {t : Nat} (hp : Sp a) (hb : ∀ i, a 36 i < 40) (n : Nat) : cv (rs a t) n = cv (hs a t) n := (cv_cg (hs_v hp hb) n).symm
section CBase
variable {s : z_S} {A : Nat → Nat → Int32} {P : Nat → Nat → Nat} {dy : z_H} {d nx nz bc bs : Nat} {Q : z_Q} {wd ln : Nat → Nat}
theorem La.at {e c n ro : Nat} {ρ : Nat → Nat} (h : La dy nz ρ e c n wd ro) : ∃ g : Nat → Option Nat, GH A P dy e = .inr (.inr (c, g)) ∧ n ≤ c ∧ c < 100 ∧ ∀ i, i < n → g i = some (wd i) := by
  obtain ⟨g, h1, h2, h3, h4⟩ := h
  refine ⟨g, ?_, h2, by omega, h4⟩
  rcases h1 with ⟨h1, _⟩ | ⟨h1, _⟩
  · rw [h1, gh_1, ← h1]; exact h3
  · rw [gh_dy h1]; exact h3
theorem k_wordAt {w : Nat} (hD : Rd s A P dy nz wd ln) (hw : w < s.1 32 1) : XC (d + 3) m_X7_wordAt [.ref 3, .int (nI w)] (GH A P dy) nx Q = Q (some (.ref (wd w))) (GH A P dy) nx := by
  show X (d + 3) m_X7_wordAt 0 [some (.ref 3), some (.int (nI w))] [] (GH A P dy) nx 0 0 Q = _
  obtain ⟨ρ, c4, c5, h1, h2, h3, h4, h5, h6⟩ := hD
  obtain ⟨g, g1, g2, g3, g4⟩ := h3.at (A := A) (P := P)
  obtain ⟨l, b, e, c, m, gg, K, ⟨p1, _⟩, _, _, ⟨q1, _⟩, _⟩ := h5 w hw
  have le : ¬ s.1 32 1 ≤ w := by omega
  have hr : GH A P dy 4 = .inr (.inl (9, lsF (A 4 0) (P 4 1) (nI (s.1 32 1)))) := by rw [gh_l4, h2.1]
  have hp : GH A P dy (wd w) = .inr (.inl (6, wdF (nI (s.1 33 w)) l b (nI (s.1 38 w) - nI 1))) := by rw [gh_dy p1]; exact q1
  have cs : ∀ {d nx : Nat} {Q : z_Q}, XC d m_Jx4a65c_size_8abf5 [.ref 4] (GH A P dy) nx Q = Q (some (.int (nI (s.1 32 1)))) (GH A P dy) nx := c_size hr
  have cg : ∀ {d nx : Nat} {Q : z_Q}, XC (d + 2) m_Jx4a65c_get_915e3 [.ref 4, .int (nI w)] (GH A P dy) nx Q = Q (some (.ref (wd w))) (GH A P dy) nx := c_get hr g1 hw g2 (by omega) (g4 w hw)
  simp (disch := omega) only [i_X7_wordAt_0, i_X7_wordAt_1, i_X7_wordAt_4, i_X7_wordAt_5, i_X7_wordAt_5n, i_X7_wordAt_6, i_X7_wordAt_9, i_X7_wordAt_12, i_X7_wordAt_15, i_X7_wordAt_15n, i_X7_wordAt_16, i_X7_wordAt_19, i_X7_wordAt_20, i_X7_wordAt_23, i_X7_wordAt_26, i_X7_wordAt_29, i_X7_wordAt_30, i_X7_wordAt_30n, gh_o3, gh_l4, gh_l5, gf_3_0, gf_3_1, lsF_0, lsF_1, lsF_2, z_o_i, z_ai_i, z_si_i, z_ab_b, z_ab_z, z_sb_b, z_sb_z, z_al_i, z_al_b, z_pu_s, z_pu_n, nI_toN, z_inN, true_and, and_true, nI_add, pk_mul, vu_eq, vu_ne, nI_leI, nI_ltI, if_true, if_false, nI_lt0, nI_ge0, cs, cg, hp, le]
theorem k_wordAtN {x : Int32} (hD : Rd s A P dy nz wd ln) (hb : s.1 32 1 ≤ 24) (hx : ¬ iw x (s.1 32 1) = true) : XC (d + 3) m_X7_wordAt [.ref 3, .int x] (GH A P dy) nx Q = Q (some .null) (GH A P dy) nx := by
  show X (d + 3) m_X7_wordAt 0 [some (.ref 3), some (.int x)] [] (GH A P dy) nx 0 0 Q = _
  obtain ⟨ρ, c4, c5, h1, h2, _⟩ := hD
  have hr : GH A P dy 4 = .inr (.inl (9, lsF (A 4 0) (P 4 1) (nI (s.1 32 1)))) := by rw [gh_l4, h2.1]
  have cs : ∀ {d nx : Nat} {Q : z_Q}, XC d m_Jx4a65c_size_8abf5 [.ref 4] (GH A P dy) nx Q = Q (some (.int (nI (s.1 32 1)))) (GH A P dy) nx := c_size hr
  by_cases x0 : x < 0
  · simp (disch := omega) only [i_X7_wordAt_0, i_X7_wordAt_1, i_X7_wordAt_29, i_X7_wordAt_30, i_X7_wordAt_30n, i_X7_wordAt_30n, gh_o3, gh_l4, gh_l5, gf_3_0, gf_3_1, lsF_0, lsF_1, lsF_2, z_o_i, z_ai_i, z_si_i, z_ab_b, z_ab_z, z_sb_b, z_sb_z, z_al_i, z_al_b, z_pu_s, z_pu_n, nI_toN, z_inN, true_and, and_true, nI_add, pk_mul, vu_eq, vu_ne, nI_leI, nI_ltI, if_true, if_false, nI_lt0, nI_ge0, x0]
  · have x1 : nI (s.1 32 1) ≤ x := (iw_lt (by simpa using hx) (by omega)).resolve_left x0
    simp (disch := omega) only [i_X7_wordAt_0, i_X7_wordAt_1, i_X7_wordAt_4, i_X7_wordAt_5, i_X7_wordAt_5n, i_X7_wordAt_6, i_X7_wordAt_9, i_X7_wordAt_12, i_X7_wordAt_29, i_X7_wordAt_30, i_X7_wordAt_30n, i_X7_wordAt_30n, gh_o3, gh_l4, gh_l5, gf_3_0, gf_3_1, lsF_0, lsF_1, lsF_2, z_o_i, z_ai_i, z_si_i, z_ab_b, z_ab_z, z_sb_b, z_sb_z, z_al_i, z_al_b, z_pu_s, z_pu_n, nI_toN, z_inN, true_and, and_true, nI_add, pk_mul, vu_eq, vu_ne, nI_leI, nI_ltI, if_true, if_false, nI_lt0, nI_ge0, cs, x0, x1]
theorem k_lineAt {w : Nat} (hD : Rd s A P dy nz wd ln) (hw : w < s.1 32 13) : XC (d + 3) m_X7_lineAt [.ref 3, .int (nI w)] (GH A P dy) nx Q = Q (some (.ref (ln w))) (GH A P dy) nx := by
  show X (d + 3) m_X7_lineAt 0 [some (.ref 3), some (.int (nI w))] [] (GH A P dy) nx 0 0 Q = _
  obtain ⟨ρ, c4, c5, h1, h2, h3, h4, h5, h6⟩ := hD
  obtain ⟨g, g1, g2, g3, g4⟩ := h4.at (A := A) (P := P)
  obtain ⟨q, F, ⟨p1, _⟩, _, q1, _⟩ := h6 w hw
  have le : ¬ s.1 32 13 ≤ w := by omega
  have hr : GH A P dy 5 = .inr (.inl (9, lsF (A 5 0) (P 5 1) (nI (s.1 32 13)))) := by rw [gh_l5, h2.2]
  have hp : GH A P dy (ln w) = .inr (.inl (2, lnF (nI (s.1 42 w)) q)) := by rw [gh_dy p1]; exact q1
  have cs : ∀ {d nx : Nat} {Q : z_Q}, XC d m_Jx4a65c_size_8abf5 [.ref 5] (GH A P dy) nx Q = Q (some (.int (nI (s.1 32 13)))) (GH A P dy) nx := c_size hr
  have cg : ∀ {d nx : Nat} {Q : z_Q}, XC (d + 2) m_Jx4a65c_get_915e3 [.ref 5, .int (nI w)] (GH A P dy) nx Q = Q (some (.ref (ln w))) (GH A P dy) nx := c_get hr g1 hw g2 (by omega) (g4 w hw)
  simp (disch := omega) only [i_X7_lineAt_0, i_X7_lineAt_1, i_X7_lineAt_4, i_X7_lineAt_5, i_X7_lineAt_5n, i_X7_lineAt_6, i_X7_lineAt_9, i_X7_lineAt_12, i_X7_lineAt_15, i_X7_lineAt_15n, i_X7_lineAt_16, i_X7_lineAt_19, i_X7_lineAt_20, i_X7_lineAt_23, i_X7_lineAt_26, i_X7_lineAt_29, i_X7_lineAt_30, i_X7_lineAt_30n, gh_o3, gh_l4, gh_l5, gf_3_0, gf_3_1, lsF_0, lsF_1, lsF_2, z_o_i, z_ai_i, z_si_i, z_ab_b, z_ab_z, z_sb_b, z_sb_z, z_al_i, z_al_b, z_pu_s, z_pu_n, nI_toN, z_inN, true_and, and_true, nI_add, pk_mul, vu_eq, vu_ne, nI_leI, nI_ltI, if_true, if_false, nI_lt0, nI_ge0, cs, cg, hp, le]
theorem k_lineAtN {x : Int32} (hD : Rd s A P dy nz wd ln) (hb : s.1 32 13 ≤ 16) (hx : ¬ iw x (s.1 32 13) = true) : XC (d + 3) m_X7_lineAt [.ref 3, .int x] (GH A P dy) nx Q = Q (some .null) (GH A P dy) nx := by
  show X (d + 3) m_X7_lineAt 0 [some (.ref 3), some (.int x)] [] (GH A P dy) nx 0 0 Q = _
  obtain ⟨ρ, c4, c5, h1, h2, _⟩ := hD
  have hr : GH A P dy 5 = .inr (.inl (9, lsF (A 5 0) (P 5 1) (nI (s.1 32 13)))) := by rw [gh_l5, h2.2]
  have cs : ∀ {d nx : Nat} {Q : z_Q}, XC d m_Jx4a65c_size_8abf5 [.ref 5] (GH A P dy) nx Q = Q (some (.int (nI (s.1 32 13)))) (GH A P dy) nx := c_size hr
  by_cases x0 : x < 0
  · simp (disch := omega) only [i_X7_lineAt_0, i_X7_lineAt_1, i_X7_lineAt_29, i_X7_lineAt_30, i_X7_lineAt_30n, i_X7_lineAt_30n, gh_o3, gh_l4, gh_l5, gf_3_0, gf_3_1, lsF_0, lsF_1, lsF_2, z_o_i, z_ai_i, z_si_i, z_ab_b, z_ab_z, z_sb_b, z_sb_z, z_al_i, z_al_b, z_pu_s, z_pu_n, nI_toN, z_inN, true_and, and_true, nI_add, pk_mul, vu_eq, vu_ne, nI_leI, nI_ltI, if_true, if_false, nI_lt0, nI_ge0, x0]
  · have x1 : nI (s.1 32 13) ≤ x := (iw_lt (by simpa using hx) (by omega)).resolve_left x0
    simp (disch := omega) only [i_X7_lineAt_0, i_X7_lineAt_1, i_X7_lineAt_4, i_X7_lineAt_5, i_X7_lineAt_5n, i_X7_lineAt_6, i_X7_lineAt_9, i_X7_lineAt_12, i_X7_lineAt_29, i_X7_lineAt_30, i_X7_lineAt_30n, i_X7_lineAt_30n, gh_o3, gh_l4, gh_l5, gf_3_0, gf_3_1, lsF_0, lsF_1, lsF_2, z_o_i, z_ai_i, z_si_i, z_ab_b, z_ab_z, z_sb_b, z_sb_z, z_al_i, z_al_b, z_pu_s, z_pu_n, nI_toN, z_inN, true_and, and_true, nI_add, pk_mul, vu_eq, vu_ne, nI_leI, nI_ltI, if_true, if_false, nI_lt0, nI_ge0, cs, x0, x1]
end CBase
