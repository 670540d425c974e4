/-! THE CLASS: the ear (heardAt, areAlikeFrom, areTailsAlike, areAlikeAhead, areVowelsAlike) -/
/-- a saying, as it lies in the heap -/
def Sq (h : z_H) (p n : Nat) (f g : Nat → Nat) : Prop :=
  ∃ (so vo st : Nat) (F : Nat → Int32), h p = .inr (.inl (3, sgF n so (cv f n) vo st (lvw f n) (g (tlR f g n)) (tlR f g n) (cv f (tlR f g n)) (if g (tlR f g n) = 2 then 1 else 0) (if g (tlR f g n) = 2 then tlR f g n else lvw f n))) ∧
    h so = .inl (0, n, F) ∧ (∀ i, i < n → F i = nI (f i)) ∧ h vo = .inl (0, n, vr f f n) ∧ h st = .inl (0, n, vr f g n)
theorem Sg.q {A : Nat → Nat → Int32} {P : Nat → Nat → Nat} {dy : z_H} {nx : Nat} {ρ : Nat → Nat} {p n : Nat} {f g : Nat → Nat} (h : Sg dy nx ρ p n f g) : Sq (GH A P dy) p n f g := by
  obtain ⟨so, vo, st, F, ⟨b1, _, b2, _, b3, _, b4, _⟩, _, h1, h2, h3, h4, h5⟩ := h
  exact ⟨so, vo, st, F, by rw [gh_dy b1]; exact h1, by rw [gh_dy b2]; exact h2, h3, by rw [gh_dy b3]; exact h4, by rw [gh_dy b4]; exact h5⟩
/-- numbers of a row of vowels -/
def vrN (f h : Nat → Nat) : Nat → Nat → Nat
  | 0 => fun _ => 0
  | i + 1 => if f i < 10 then va_up (vrN f h i) (cv f i) (h i) else vrN f h i
theorem vr_N {f h : Nat → Nat} : ∀ (n j : Nat), vr f h n j = nI (vrN f h n j) := by
  intro n
  induction n with
  | zero => intro j; rfl
  | succ n ih =>
    intro j
    rw [vr, vrN]
    by_cases c : f n < 10
    · rw [if_pos c, if_pos c, vu_if, vu_if]
      by_cases e : j = cv f n
      · rw [if_pos e, if_pos e]
      · rw [if_neg e, if_neg e]; exact ih j
    · rw [if_neg c, if_neg c]; exact ih j
theorem vrN_at {f h : Nat → Nat} {i : Nat} (hv : f i < 10) : ∀ (n : Nat), i < n → vrN f h n (cv f i) = h i := by
  intro n
  induction n with
  | zero => intro hi; omega
  | succ n ih =>
    intro hi
    rw [vrN]
    by_cases e : i = n
    · subst e
      rw [if_pos hv, vu_eq]
    · have := ih (by omega)
      by_cases c : f n < 10
      · rw [if_pos c, vu_ne (Nat.ne_of_lt (cv_lt (by omega) hv))]
        exact this
      · rw [if_neg c]; exact this
theorem vrN_lt {f h : Nat → Nat} {N : Nat} (hN : 0 < N) (hb : ∀ i, h i < N) : ∀ (n j : Nat), vrN f h n j < N := by
  intro n
  induction n with
  | zero => intro j; exact hN
  | succ n ih =>
    intro j
    rw [vrN]
    by_cases c : f n < 10
    · rw [if_pos c, vu_if]
      by_cases e : j = cv f n
      · rw [if_pos e]; exact hb n
      · rw [if_neg e]; exact ih j
    · rw [if_neg c]; exact ih j
/-- every syllable has its place -/
theorem cv_pos {f : Nat → Nat} : ∀ (n j : Nat), j < cv f n → ∃ i, i < n ∧ f i < 10 ∧ cv f i = j := by
  intro n
  induction n with
  | zero => intro j h; exact absurd h (Nat.not_lt_zero j)
  | succ n ih =>
    intro j h
    by_cases c : f n < 10
    · rw [cv, if_pos c] at h
      by_cases e : j = cv f n
      · exact ⟨n, by omega, c, e.symm⟩
      · obtain ⟨i, h1, h2, h3⟩ := ih j (by omega)
        exact ⟨i, by omega, h2, h3⟩
    · rw [cv, if_neg c] at h
      obtain ⟨i, h1, h2, h3⟩ := ih j (by omega)
      exact ⟨i, by omega, h2, h3⟩
theorem vrN_map {f φ : Nat → Nat} {n j : Nat} (h : j < cv f n) : φ (vrN f f n j) = vrN f (fun i => φ (f i)) n j := by
  obtain ⟨i, h1, h2, h3⟩ := cv_pos n j h
  subst h3
  rw [vrN_at h2 n h1, vrN_at h2 n h1]
theorem vl_vr {f hh : Nat → Nat} (e : ∀ i, (hh i < 10) = (f i < 10)) {n : Nat} : ∀ (m i : Nat), i + m = n → vl hh m i = (List.range (cv f n - cv f i)).map (fun k => vrN f hh n (cv f i + k)) := by
  intro m
  induction m with
  | zero =>
    intro i hi
    have : i = n := by omega
    subst this
    rw [Nat.sub_self]
    rfl
  | succ m ih =>
    intro i hi
    have q := ih (i + 1) (by omega)
    rw [vl]
    by_cases c : f i < 10
    · have c' : hh i < 10 := by rw [e i]; exact c
      rw [if_pos c', q]
      have c1 : cv f (i + 1) = cv f i + 1 := by rw [cv, if_pos c]
      have lt := cv_lt (f := f) (i := i) (n := n) (by omega) c
      obtain ⟨L, hL⟩ : ∃ L, cv f n - cv f i = L + 1 := ⟨cv f n - cv f i - 1, by omega⟩
      rw [hL, List.range_succ_eq_map, List.map_cons, show cv f i + 0 = cv f i from rfl, vrN_at c n (by omega), c1, show cv f n - (cv f i + 1) = L by omega, List.map_map]
      congr 1
      apply List.map_congr_left
      intro k _
      simp only [Function.comp]
      congr 1
      omega
    · have c' : ¬ hh i < 10 := by rw [e i]; exact c
      rw [if_neg c', q]
      have c1 : cv f (i + 1) = cv f i := by rw [cv, if_neg c, Nat.add_zero]
      rw [c1]
theorem map_eq {F G : Nat → Nat} {m n : Nat} : (List.range m).map F = (List.range n).map G ↔ m = n ∧ ∀ k, k < m → F k = G k := by
  constructor
  · intro h
    have l := congrArg List.length h
    rw [List.length_map, List.length_map, List.length_range, List.length_range] at l
    subst l
    refine ⟨rfl, fun k hk => ?_⟩
    have := List.map_inj_left.mp h
    exact this k (List.mem_range.mpr hk)
  · rintro ⟨rfl, h⟩
    apply List.map_congr_left
    intro k hk
    exact h k (List.mem_range.mp hk)
theorem nI_ahead {k fa fb : Nat} (h : fa ≤ k) : nI k + (nI fb - nI fa) = nI (k - fa + fb) := by
  have e : nI k = nI (k - fa) + nI fa := by rw [nI_add]; congr 1; omega
  rw [e, Int32.add_assoc, Int32.add_comm (nI fa), Int32.sub_add_cancel, nI_add]
section CEar
variable {A : Nat → Nat → Int32} {P : Nat → Nat → Nat} {dy : z_H} {d nx bc bs : Nat} {Q : z_Q} {φ : Nat → Nat} {p0 n0 p1 n1 : Nat} {f0 g0 f1 g1 : Nat → Nat}
theorem k_heardAt {i : Nat} (hA : ∀ i, i < 40 → A 7 i = nI (φ i)) (hS : Sq (GH A P dy) p0 n0 f0 g0) (hn : n0 ≤ 12) (hf : ∀ i, f0 i < 40) (hi : i < n0) : XC d m_X0_heardAt [.ref 6, .ref p0, .int (nI i)] (GH A P dy) nx Q = Q (some (.int (nI (φ (f0 i))))) (GH A P dy) nx := by
  show X d m_X0_heardAt 0 [some (.ref 6), some (.ref p0), some (.int (nI i))] [] (GH A P dy) nx 0 0 Q = _
  obtain ⟨so, vo, st, F, h1, h2, h3, h4, h5⟩ := hS
  have le : ¬ n0 ≤ i := by omega
  have fi := h3 i hi
  have bf := hf i
  have ai := hA (f0 i) bf
  simp (disch := omega) only [i_X0_heardAt_0, i_X0_heardAt_1, i_X0_heardAt_4, i_X0_heardAt_5, i_X0_heardAt_6, i_X0_heardAt_9, i_X0_heardAt_12, i_X0_heardAt_13, i_X0_heardAt_16, i_X0_heardAt_17, i_X0_heardAt_20, i_X0_heardAt_21, i_X0_heardAt_22, i_X0_heardAt_23, i_X0_heardAt_26, i_X0_heardAt_27, gh_o6, gh_r7, gf_6_0, gf_6_1, sgF_0, sgF_1, sgF_2, sgF_3, sgF_4, sgF_5, sgF_6, sgF_7, sgF_8, sgF_9, sgF_10, z_o_i, z_ai_i, z_si_i, z_ab_b, z_ab_z, z_sb_b, z_sb_z, z_al_i, z_al_b, z_pu_s, z_pu_n, nI_toN, z_inN, true_and, and_true, nI_add, pk_mul, vu_eq, vu_ne, nI_leI, nI_ltI, nI_eqI, nI_eq0, ↓ok_0, ↓ok_1, ↓bI_ok, if_true, if_false, nI_lt0, nI_ge0, ne_eq, not_true_eq_false, not_false_eq_true, bI_eq0, bI_ne0, bI_T, bI_F, Bool.false_eq_true, h1, h2, le, fi, ai]
theorem k_heardN (hS : Sq (GH A P dy) p0 n0 f0 g0) : XC d m_X0_heardAt [.ref 6, .ref p0, .int (-1)] (GH A P dy) nx Q = Q (some (.int (-1))) (GH A P dy) nx := by
  show X d m_X0_heardAt 0 [some (.ref 6), some (.ref p0), some (.int (-1))] [] (GH A P dy) nx 0 0 Q = _
  simp (disch := omega) only [i_X0_heardAt_0, i_X0_heardAt_1, i_X0_heardAt_26, i_X0_heardAt_27, gh_o6, gh_r7, gf_6_0, gf_6_1, sgF_0, sgF_1, sgF_2, sgF_3, sgF_4, sgF_5, sgF_6, sgF_7, sgF_8, sgF_9, sgF_10, z_o_i, z_ai_i, z_si_i, z_ab_b, z_ab_z, z_sb_b, z_sb_z, z_al_i, z_al_b, z_pu_s, z_pu_n, nI_toN, z_inN, true_and, and_true, nI_add, pk_mul, vu_eq, vu_ne, nI_leI, nI_ltI, nI_eqI, nI_eq0, ↓ok_0, ↓ok_1, ↓bI_ok, if_true, if_false, nI_lt0, nI_ge0, ne_eq, not_true_eq_false, not_false_eq_true, bI_eq0, bI_ne0, bI_T, bI_F, Bool.false_eq_true, nm_lt]
theorem l_alike {fa fb : Nat} (hA : ∀ i, i < 40 → A 7 i = nI (φ i)) (hφ : ∀ i, φ i < 40) (hS : Sq (GH A P dy) p0 n0 f0 g0) (hT : Sq (GH A P dy) p1 n1 f1 g1) (hn : n0 ≤ 12) (hm : n1 ≤ 12) (hf : ∀ i, f0 i < 40) (hg : ∀ i, f1 i < 40) (ha : fa ≤ n0) (hb : fb ≤ n1) (he : n0 - fa = n1 - fb) : ∀ (m k : Nat), k + m = n0 → fa ≤ k → (∀ i, i < k - fa → φ (f0 (fa + i)) = φ (f1 (fb + i))) → X d m_X0_areAlikeFrom 36 [some (.ref 6), some (.ref p0), some (.int (nI fa)), some (.ref p1), some (.int (nI fb)), some (.int (nI fb - nI fa)), some (.int (nI k))] [] (GH A P dy) nx bc bs Q = Q (some (.int (bI (taq n0 fa (fun i => φ (f0 i)) n1 fb (fun i => φ (f1 i)) = true)))) (GH A P dy) nx := by
  obtain ⟨so, vo, st, F, h1, h2, h3, h4, h5⟩ := hS
  obtain ⟨so', vo', st', F', h1', h2', h3', h4', h5'⟩ := hT
  intro m
  induction m with
  | zero =>
    intro k hk hl hq
    have e : k = n0 := by omega
    subst e
    rw [bI_t (taq_iff.mpr ⟨he, hq⟩)]
    simp (disch := omega) only [i_X0_areAlikeFrom_36, i_X0_areAlikeFrom_38, i_X0_areAlikeFrom_39, i_X0_areAlikeFrom_42, i_X0_areAlikeFrom_83, i_X0_areAlikeFrom_84, gh_o6, gh_r7, gf_6_0, gf_6_1, sgF_0, sgF_1, sgF_2, sgF_3, sgF_4, sgF_5, sgF_6, sgF_7, sgF_8, sgF_9, sgF_10, z_o_i, z_ai_i, z_si_i, z_ab_b, z_ab_z, z_sb_b, z_sb_z, z_al_i, z_al_b, z_pu_s, z_pu_n, nI_toN, z_inN, true_and, and_true, nI_add, pk_mul, vu_eq, vu_ne, nI_leI, nI_ltI, nI_eqI, nI_eq0, ↓ok_0, ↓ok_1, ↓bI_ok, if_true, if_false, nI_lt0, nI_ge0, ne_eq, not_true_eq_false, not_false_eq_true, bI_eq0, bI_ne0, bI_T, bI_F, Bool.false_eq_true, h1, Nat.le_refl]
  | succ m ih =>
    intro k hk hl hq
    have le : ¬ n0 ≤ k := by omega
    have q1 := h3 k (by omega)
    have q2 := h3' (k - fa + fb) (by omega)
    have b1 := hf k
    have b2 := hg (k - fa + fb)
    have a1 := hA (f0 k) b1
    have a2 := hA (f1 (k - fa + fb)) b2
    have c1 := hφ (f0 k)
    have c2 := hφ (f1 (k - fa + fb))
    have na : nI k + (nI fb - nI fa) = nI (k - fa + fb) := nI_ahead hl
    rw [i_X0_areAlikeFrom_36]
    by_cases c : φ (f0 k) = φ (f1 (k - fa + fb))
    · simp (disch := omega) only [i_X0_areAlikeFrom_38, i_X0_areAlikeFrom_39, i_X0_areAlikeFrom_42, i_X0_areAlikeFrom_45, i_X0_areAlikeFrom_46, i_X0_areAlikeFrom_49, i_X0_areAlikeFrom_50, i_X0_areAlikeFrom_53, i_X0_areAlikeFrom_55, i_X0_areAlikeFrom_56, i_X0_areAlikeFrom_57, i_X0_areAlikeFrom_58, i_X0_areAlikeFrom_61, i_X0_areAlikeFrom_62, i_X0_areAlikeFrom_65, i_X0_areAlikeFrom_67, i_X0_areAlikeFrom_69, i_X0_areAlikeFrom_70, i_X0_areAlikeFrom_71, i_X0_areAlikeFrom_72, i_X0_areAlikeFrom_77, i_X0_areAlikeFrom_80, gh_o6, gh_r7, gf_6_0, gf_6_1, sgF_0, sgF_1, sgF_2, sgF_3, sgF_4, sgF_5, sgF_6, sgF_7, sgF_8, sgF_9, sgF_10, z_o_i, z_ai_i, z_si_i, z_ab_b, z_ab_z, z_sb_b, z_sb_z, z_al_i, z_al_b, z_pu_s, z_pu_n, nI_toN, z_inN, true_and, and_true, nI_add, pk_mul, vu_eq, vu_ne, nI_leI, nI_ltI, nI_eqI, nI_eq0, ↓ok_0, ↓ok_1, ↓bI_ok, if_true, if_false, nI_lt0, nI_ge0, ne_eq, not_true_eq_false, not_false_eq_true, bI_eq0, bI_ne0, bI_T, bI_F, Bool.false_eq_true, h1, h2, h1', h2', le, q1, q2, a1, a2, na, c]
      exact ih (k + 1) (by omega) (by omega) (fun i hi => by
        by_cases e : i = k - fa
        · subst e
          rw [show fa + (k - fa) = k by omega, show fb + (k - fa) = k - fa + fb by omega]
          exact c
        · exact hq i (by omega))
    · rw [bI_f (c := taq n0 fa (fun i => φ (f0 i)) n1 fb (fun i => φ (f1 i)) = true) (fun z => c (by
        have := (taq_iff.mp z).2 (k - fa) (by omega)
        rw [show fa + (k - fa) = k by omega, show fb + (k - fa) = k - fa + fb by omega] at this
        exact this))]
      simp (disch := omega) only [i_X0_areAlikeFrom_38, i_X0_areAlikeFrom_39, i_X0_areAlikeFrom_42, i_X0_areAlikeFrom_45, i_X0_areAlikeFrom_46, i_X0_areAlikeFrom_49, i_X0_areAlikeFrom_50, i_X0_areAlikeFrom_53, i_X0_areAlikeFrom_55, i_X0_areAlikeFrom_56, i_X0_areAlikeFrom_57, i_X0_areAlikeFrom_58, i_X0_areAlikeFrom_61, i_X0_areAlikeFrom_62, i_X0_areAlikeFrom_65, i_X0_areAlikeFrom_67, i_X0_areAlikeFrom_69, i_X0_areAlikeFrom_70, i_X0_areAlikeFrom_71, i_X0_areAlikeFrom_72, i_X0_areAlikeFrom_75, i_X0_areAlikeFrom_76, gh_o6, gh_r7, gf_6_0, gf_6_1, sgF_0, sgF_1, sgF_2, sgF_3, sgF_4, sgF_5, sgF_6, sgF_7, sgF_8, sgF_9, sgF_10, z_o_i, z_ai_i, z_si_i, z_ab_b, z_ab_z, z_sb_b, z_sb_z, z_al_i, z_al_b, z_pu_s, z_pu_n, nI_toN, z_inN, true_and, and_true, nI_add, pk_mul, vu_eq, vu_ne, nI_leI, nI_ltI, nI_eqI, nI_eq0, ↓ok_0, ↓ok_1, ↓bI_ok, if_true, if_false, nI_lt0, nI_ge0, ne_eq, not_true_eq_false, not_false_eq_true, bI_eq0, bI_ne0, bI_T, bI_F, Bool.false_eq_true, h1, h2, h1', h2', le, q1, q2, a1, a2, na, c]
theorem k_alike {fa fb : Nat} (hA : ∀ i, i < 40 → A 7 i = nI (φ i)) (hφ : ∀ i, φ i < 40) (hS : Sq (GH A P dy) p0 n0 f0 g0) (hT : Sq (GH A P dy) p1 n1 f1 g1) (hn : n0 ≤ 12) (hm : n1 ≤ 12) (hf : ∀ i, f0 i < 40) (hg : ∀ i, f1 i < 40) (ha : fa ≤ n0) (hb : fb ≤ n1) : XC d m_X0_areAlikeFrom [.ref 6, .ref p0, .int (nI fa), .ref p1, .int (nI fb)] (GH A P dy) nx Q = Q (some (.int (bI (taq n0 fa (fun i => φ (f0 i)) n1 fb (fun i => φ (f1 i)) = true)))) (GH A P dy) nx := by
  show X d m_X0_areAlikeFrom 0 [some (.ref 6), some (.ref p0), some (.int (nI fa)), some (.ref p1), some (.int (nI fb)), none, none] [] (GH A P dy) nx 0 0 Q = _
  obtain ⟨so, vo, st, F, h1, r1⟩ := hS
  obtain ⟨so', vo', st', F', h1', r1'⟩ := hT
  have s1 : (nI n0 - nI fa : Int32) = nI (n0 - fa) := pk_sub ha
  have s2 : (nI n1 - nI fb : Int32) = nI (n1 - fb) := pk_sub hb
  by_cases he : n0 - fa = n1 - fb
  · simp (disch := omega) only [i_X0_areAlikeFrom_0, i_X0_areAlikeFrom_1, i_X0_areAlikeFrom_4, i_X0_areAlikeFrom_5, i_X0_areAlikeFrom_6, i_X0_areAlikeFrom_7, i_X0_areAlikeFrom_10, i_X0_areAlikeFrom_12, i_X0_areAlikeFrom_13, i_X0_areAlikeFrom_16, i_X0_areAlikeFrom_17, i_X0_areAlikeFrom_20, i_X0_areAlikeFrom_22, i_X0_areAlikeFrom_27, i_X0_areAlikeFrom_29, i_X0_areAlikeFrom_30, i_X0_areAlikeFrom_31, i_X0_areAlikeFrom_33, i_X0_areAlikeFrom_34, gh_o6, gh_r7, gf_6_0, gf_6_1, sgF_0, sgF_1, sgF_2, sgF_3, sgF_4, sgF_5, sgF_6, sgF_7, sgF_8, sgF_9, sgF_10, z_o_i, z_ai_i, z_si_i, z_ab_b, z_ab_z, z_sb_b, z_sb_z, z_al_i, z_al_b, z_pu_s, z_pu_n, nI_toN, z_inN, true_and, and_true, nI_add, pk_mul, vu_eq, vu_ne, nI_leI, nI_ltI, nI_eqI, nI_eq0, ↓ok_0, ↓ok_1, ↓bI_ok, if_true, if_false, nI_lt0, nI_ge0, ne_eq, not_true_eq_false, not_false_eq_true, bI_eq0, bI_ne0, bI_T, bI_F, Bool.false_eq_true, h1, h1', s1, s2, he]
    exact l_alike hA hφ ⟨so, vo, st, F, h1, r1⟩ ⟨so', vo', st', F', h1', r1'⟩ hn hm hf hg ha hb he (n0 - fa) fa (by omega) (Nat.le_refl _) (fun i hi => by omega)
  · rw [bI_f (c := taq n0 fa (fun i => φ (f0 i)) n1 fb (fun i => φ (f1 i)) = true) (fun z => he (taq_iff.mp z).1)]
    simp (disch := omega) only [i_X0_areAlikeFrom_0, i_X0_areAlikeFrom_1, i_X0_areAlikeFrom_4, i_X0_areAlikeFrom_5, i_X0_areAlikeFrom_6, i_X0_areAlikeFrom_7, i_X0_areAlikeFrom_10, i_X0_areAlikeFrom_12, i_X0_areAlikeFrom_13, i_X0_areAlikeFrom_25, i_X0_areAlikeFrom_26, gh_o6, gh_r7, gf_6_0, gf_6_1, sgF_0, sgF_1, sgF_2, sgF_3, sgF_4, sgF_5, sgF_6, sgF_7, sgF_8, sgF_9, sgF_10, z_o_i, z_ai_i, z_si_i, z_ab_b, z_ab_z, z_sb_b, z_sb_z, z_al_i, z_al_b, z_pu_s, z_pu_n, nI_toN, z_inN, true_and, and_true, nI_add, pk_mul, vu_eq, vu_ne, nI_leI, nI_ltI, nI_eqI, nI_eq0, ↓ok_0, ↓ok_1, ↓bI_ok, if_true, if_false, nI_lt0, nI_ge0, ne_eq, not_true_eq_false, not_false_eq_true, bI_eq0, bI_ne0, bI_T, bI_F, Bool.false_eq_true, h1, h1', s1, s2, he]
theorem k_tails (hA : ∀ i, i < 40 → A 7 i = nI (φ i)) (hφ : ∀ i, φ i < 40) (hS : Sq (GH A P dy) p0 n0 f0 g0) (hT : Sq (GH A P dy) p1 n1 f1 g1) (hn : n0 ≤ 12) (hm : n1 ≤ 12) (hf : ∀ i, f0 i < 40) (hg : ∀ i, f1 i < 40) (ha : tlR f0 g0 n0 ≤ n0) (hb : tlR f1 g1 n1 ≤ n1) : XC (d + 1) m_X0_areTailsAlike [.ref 6, .ref p0, .ref p1] (GH A P dy) nx Q = Q (some (.int (bI (taq n0 (tlR f0 g0 n0) (fun i => φ (f0 i)) n1 (tlR f1 g1 n1) (fun i => φ (f1 i)) = true)))) (GH A P dy) nx := by
  show X (d + 1) m_X0_areTailsAlike 0 [some (.ref 6), some (.ref p0), some (.ref p1)] [] (GH A P dy) nx 0 0 Q = _
  have kA : ∀ {d nx : Nat} {Q : z_Q}, XC d m_X0_areAlikeFrom [.ref 6, .ref p0, .int (nI (tlR f0 g0 n0)), .ref p1, .int (nI (tlR f1 g1 n1))] (GH A P dy) nx Q = _ := k_alike hA hφ hS hT hn hm hf hg ha hb
  obtain ⟨so, vo, st, F, h1, r1⟩ := hS
  obtain ⟨so', vo', st', F', h1', r1'⟩ := hT
  simp (disch := omega) only [i_X0_areTailsAlike_0, i_X0_areTailsAlike_1, i_X0_areTailsAlike_2, i_X0_areTailsAlike_3, i_X0_areTailsAlike_6, i_X0_areTailsAlike_7, i_X0_areTailsAlike_8, i_X0_areTailsAlike_11, i_X0_areTailsAlike_14, gh_o6, gh_r7, gf_6_0, gf_6_1, sgF_0, sgF_1, sgF_2, sgF_3, sgF_4, sgF_5, sgF_6, sgF_7, sgF_8, sgF_9, sgF_10, z_o_i, z_ai_i, z_si_i, z_ab_b, z_ab_z, z_sb_b, z_sb_z, z_al_i, z_al_b, z_pu_s, z_pu_n, nI_toN, z_inN, true_and, and_true, nI_add, pk_mul, vu_eq, vu_ne, nI_leI, nI_ltI, nI_eqI, nI_eq0, ↓ok_0, ↓ok_1, ↓bI_ok, if_true, if_false, nI_lt0, nI_ge0, ne_eq, not_true_eq_false, not_false_eq_true, bI_eq0, bI_ne0, bI_T, bI_F, Bool.false_eq_true, h1, h1', kA]
theorem k_ahead (hA : ∀ i, i < 40 → A 7 i = nI (φ i)) (hφ : ∀ i, φ i < 40) (hS : Sq (GH A P dy) p0 n0 f0 g0) (hT : Sq (GH A P dy) p1 n1 f1 g1) (hn : n0 ≤ 12) (hm : n1 ≤ 12) (hf : ∀ i, f0 i < 40) (hg : ∀ i, f1 i < 40) (ha : tlR f0 g0 n0 < n0) (hb : tlR f1 g1 n1 < n1) : XC (d + 1) m_X0_areAlikeAhead [.ref 6, .ref p0, .ref p1] (GH A P dy) nx Q = Q (some (.int (bI (ahq (tlR f0 g0 n0) (fun i => φ (f0 i)) (tlR f1 g1 n1) (fun i => φ (f1 i)) = true)))) (GH A P dy) nx := by
  show X (d + 1) m_X0_areAlikeAhead 0 [some (.ref 6), some (.ref p0), some (.ref p1)] [] (GH A P dy) nx 0 0 Q = _
  have kh : ∀ {d nx : Nat} {Q : z_Q} {i : Nat}, i < n0 → XC d m_X0_heardAt [.ref 6, .ref p0, .int (nI i)] (GH A P dy) nx Q = Q (some (.int (nI (φ (f0 i))))) (GH A P dy) nx := fun h => k_heardAt hA hS hn hf h
  have kh' : ∀ {d nx : Nat} {Q : z_Q} {i : Nat}, i < n1 → XC d m_X0_heardAt [.ref 6, .ref p1, .int (nI i)] (GH A P dy) nx Q = Q (some (.int (nI (φ (f1 i))))) (GH A P dy) nx := fun h => k_heardAt hA hT hm hg h
  have kn : ∀ {d nx : Nat} {Q : z_Q}, XC d m_X0_heardAt [.ref 6, .ref p0, .int (-1)] (GH A P dy) nx Q = Q (some (.int (-1))) (GH A P dy) nx := k_heardN hS
  have kn' : ∀ {d nx : Nat} {Q : z_Q}, XC d m_X0_heardAt [.ref 6, .ref p1, .int (-1)] (GH A P dy) nx Q = Q (some (.int (-1))) (GH A P dy) nx := k_heardN hT
  obtain ⟨so, vo, st, F, h1, r1⟩ := hS
  obtain ⟨so', vo', st', F', h1', r1'⟩ := hT
  generalize tlR f0 g0 n0 = t0 at ha h1 ⊢
  generalize tlR f1 g1 n1 = t1 at hb h1' ⊢
  have m0 : (nI 0 - nI 1 : Int32) = -1 := by decide
  have me : ((-1 : Int32) = -1) = True := by simp
  have c1 := hφ (f0 (t0 - 1))
  have c2 := hφ (f1 (t1 - 1))
  have mr : ∀ {n : Nat}, n < 2147483648 → ((-1 : Int32) = nI n) = False := fun {n} h => by
    rw [← nI_m1 h]; exact propext ⟨Eq.symm, Eq.symm⟩
  by_cases z0 : t0 = 0
  · subst z0
    by_cases z1 : t1 = 0
    · subst z1
      rw [bI_t (c := ahq 0 (fun i => φ (f0 i)) 0 (fun i => φ (f1 i)) = true) (by simp [ahq])]
      simp (disch := omega) only [i_X0_areAlikeAhead_0, i_X0_areAlikeAhead_1, i_X0_areAlikeAhead_2, i_X0_areAlikeAhead_3, i_X0_areAlikeAhead_6, i_X0_areAlikeAhead_7, i_X0_areAlikeAhead_8, i_X0_areAlikeAhead_11, i_X0_areAlikeAhead_12, i_X0_areAlikeAhead_13, i_X0_areAlikeAhead_14, i_X0_areAlikeAhead_17, i_X0_areAlikeAhead_18, i_X0_areAlikeAhead_19, i_X0_areAlikeAhead_22, i_X0_areAlikeAhead_25, i_X0_areAlikeAhead_26, i_X0_areAlikeAhead_29, i_X0_areAlikeAhead_30, gh_o6, gh_r7, gf_6_0, gf_6_1, sgF_0, sgF_1, sgF_2, sgF_3, sgF_4, sgF_5, sgF_6, sgF_7, sgF_8, sgF_9, sgF_10, z_o_i, z_ai_i, z_si_i, z_ab_b, z_ab_z, z_sb_b, z_sb_z, z_al_i, z_al_b, z_pu_s, z_pu_n, nI_toN, z_inN, true_and, and_true, nI_add, pk_mul, vu_eq, vu_ne, nI_leI, nI_ltI, nI_eqI, nI_eq0, ↓ok_0, ↓ok_1, ↓bI_ok, if_true, if_false, nI_lt0, nI_ge0, ne_eq, not_true_eq_false, not_false_eq_true, bI_eq0, bI_ne0, bI_T, bI_F, Bool.false_eq_true, h1, h1', m0, kn, kn', me]
    · rw [bI_f (c := ahq 0 (fun i => φ (f0 i)) t1 (fun i => φ (f1 i)) = true) (by simp [ahq]; omega)]
      have s1 : (nI t1 - nI 1 : Int32) = nI (t1 - 1) := pk_sub (by omega)
      simp (disch := omega) only [i_X0_areAlikeAhead_0, i_X0_areAlikeAhead_1, i_X0_areAlikeAhead_2, i_X0_areAlikeAhead_3, i_X0_areAlikeAhead_6, i_X0_areAlikeAhead_7, i_X0_areAlikeAhead_8, i_X0_areAlikeAhead_11, i_X0_areAlikeAhead_12, i_X0_areAlikeAhead_13, i_X0_areAlikeAhead_14, i_X0_areAlikeAhead_17, i_X0_areAlikeAhead_18, i_X0_areAlikeAhead_19, i_X0_areAlikeAhead_22, i_X0_areAlikeAhead_25, i_X0_areAlikeAhead_26, i_X0_areAlikeAhead_29, i_X0_areAlikeAhead_30, gh_o6, gh_r7, gf_6_0, gf_6_1, sgF_0, sgF_1, sgF_2, sgF_3, sgF_4, sgF_5, sgF_6, sgF_7, sgF_8, sgF_9, sgF_10, z_o_i, z_ai_i, z_si_i, z_ab_b, z_ab_z, z_sb_b, z_sb_z, z_al_i, z_al_b, z_pu_s, z_pu_n, nI_toN, z_inN, true_and, and_true, nI_add, pk_mul, vu_eq, vu_ne, nI_leI, nI_ltI, nI_eqI, nI_eq0, ↓ok_0, ↓ok_1, ↓bI_ok, if_true, if_false, nI_lt0, nI_ge0, ne_eq, not_true_eq_false, not_false_eq_true, bI_eq0, bI_ne0, bI_T, bI_F, Bool.false_eq_true, h1, h1', m0, s1, kn, kh', mr]
  · have s0 : (nI t0 - nI 1 : Int32) = nI (t0 - 1) := pk_sub (by omega)
    by_cases z1 : t1 = 0
    · subst z1
      rw [bI_f (c := ahq t0 (fun i => φ (f0 i)) 0 (fun i => φ (f1 i)) = true) (by simp [ahq]; omega)]
      simp (disch := omega) only [i_X0_areAlikeAhead_0, i_X0_areAlikeAhead_1, i_X0_areAlikeAhead_2, i_X0_areAlikeAhead_3, i_X0_areAlikeAhead_6, i_X0_areAlikeAhead_7, i_X0_areAlikeAhead_8, i_X0_areAlikeAhead_11, i_X0_areAlikeAhead_12, i_X0_areAlikeAhead_13, i_X0_areAlikeAhead_14, i_X0_areAlikeAhead_17, i_X0_areAlikeAhead_18, i_X0_areAlikeAhead_19, i_X0_areAlikeAhead_22, i_X0_areAlikeAhead_25, i_X0_areAlikeAhead_26, i_X0_areAlikeAhead_29, i_X0_areAlikeAhead_30, gh_o6, gh_r7, gf_6_0, gf_6_1, sgF_0, sgF_1, sgF_2, sgF_3, sgF_4, sgF_5, sgF_6, sgF_7, sgF_8, sgF_9, sgF_10, z_o_i, z_ai_i, z_si_i, z_ab_b, z_ab_z, z_sb_b, z_sb_z, z_al_i, z_al_b, z_pu_s, z_pu_n, nI_toN, z_inN, true_and, and_true, nI_add, pk_mul, vu_eq, vu_ne, nI_leI, nI_ltI, nI_eqI, nI_eq0, ↓ok_0, ↓ok_1, ↓bI_ok, if_true, if_false, nI_lt0, nI_ge0, ne_eq, not_true_eq_false, not_false_eq_true, bI_eq0, bI_ne0, bI_T, bI_F, Bool.false_eq_true, h1, h1', m0, s0, kh, kn', nI_m1]
    · have s1 : (nI t1 - nI 1 : Int32) = nI (t1 - 1) := pk_sub (by omega)
      by_cases c : φ (f0 (t0 - 1)) = φ (f1 (t1 - 1))
      · rw [bI_t (c := ahq t0 (fun i => φ (f0 i)) t1 (fun i => φ (f1 i)) = true) (by simp [ahq, z0, z1, c])]
        simp (disch := omega) only [i_X0_areAlikeAhead_0, i_X0_areAlikeAhead_1, i_X0_areAlikeAhead_2, i_X0_areAlikeAhead_3, i_X0_areAlikeAhead_6, i_X0_areAlikeAhead_7, i_X0_areAlikeAhead_8, i_X0_areAlikeAhead_11, i_X0_areAlikeAhead_12, i_X0_areAlikeAhead_13, i_X0_areAlikeAhead_14, i_X0_areAlikeAhead_17, i_X0_areAlikeAhead_18, i_X0_areAlikeAhead_19, i_X0_areAlikeAhead_22, i_X0_areAlikeAhead_25, i_X0_areAlikeAhead_26, i_X0_areAlikeAhead_29, i_X0_areAlikeAhead_30, gh_o6, gh_r7, gf_6_0, gf_6_1, sgF_0, sgF_1, sgF_2, sgF_3, sgF_4, sgF_5, sgF_6, sgF_7, sgF_8, sgF_9, sgF_10, z_o_i, z_ai_i, z_si_i, z_ab_b, z_ab_z, z_sb_b, z_sb_z, z_al_i, z_al_b, z_pu_s, z_pu_n, nI_toN, z_inN, true_and, and_true, nI_add, pk_mul, vu_eq, vu_ne, nI_leI, nI_ltI, nI_eqI, nI_eq0, ↓ok_0, ↓ok_1, ↓bI_ok, if_true, if_false, nI_lt0, nI_ge0, ne_eq, not_true_eq_false, not_false_eq_true, bI_eq0, bI_ne0, bI_T, bI_F, Bool.false_eq_true, h1, h1', s0, s1, kh, kh', c]
      · rw [bI_f (c := ahq t0 (fun i => φ (f0 i)) t1 (fun i => φ (f1 i)) = true) (by simp [ahq, z0, z1, c])]
        simp (disch := omega) only [i_X0_areAlikeAhead_0, i_X0_areAlikeAhead_1, i_X0_areAlikeAhead_2, i_X0_areAlikeAhead_3, i_X0_areAlikeAhead_6, i_X0_areAlikeAhead_7, i_X0_areAlikeAhead_8, i_X0_areAlikeAhead_11, i_X0_areAlikeAhead_12, i_X0_areAlikeAhead_13, i_X0_areAlikeAhead_14, i_X0_areAlikeAhead_17, i_X0_areAlikeAhead_18, i_X0_areAlikeAhead_19, i_X0_areAlikeAhead_22, i_X0_areAlikeAhead_25, i_X0_areAlikeAhead_26, i_X0_areAlikeAhead_29, i_X0_areAlikeAhead_30, gh_o6, gh_r7, gf_6_0, gf_6_1, sgF_0, sgF_1, sgF_2, sgF_3, sgF_4, sgF_5, sgF_6, sgF_7, sgF_8, sgF_9, sgF_10, z_o_i, z_ai_i, z_si_i, z_ab_b, z_ab_z, z_sb_b, z_sb_z, z_al_i, z_al_b, z_pu_s, z_pu_n, nI_toN, z_inN, true_and, and_true, nI_add, pk_mul, vu_eq, vu_ne, nI_leI, nI_ltI, nI_eqI, nI_eq0, ↓ok_0, ↓ok_1, ↓bI_ok, if_true, if_false, nI_lt0, nI_ge0, ne_eq, not_true_eq_false, not_false_eq_true, bI_eq0, bI_ne0, bI_T, bI_F, Bool.false_eq_true, h1, h1', s0, s1, kh, kh', c]
theorem l_vow {ts0 ts1 sy0 sy1 : Nat} (hA : ∀ i, i < 40 → A 7 i = nI (φ i)) (hφ : ∀ i, φ i < 40) {so vo st so' vo' st' lv0 tp0 tl0 tb0 tlb0 lv1 tp1 tl1 tb1 tlb1 : Nat} (h1 : GH A P dy p0 = .inr (.inl (3, sgF n0 so sy0 vo st lv0 tp0 tl0 ts0 tb0 tlb0))) (h1' : GH A P dy p1 = .inr (.inl (3, sgF n1 so' sy1 vo' st' lv1 tp1 tl1 ts1 tb1 tlb1))) {V0 V1 : Nat → Nat} {W0 W1 : Nat → Int32} (hv : GH A P dy vo = .inl (0, n0, W0)) (hv' : GH A P dy vo' = .inl (0, n1, W1)) (w0 : ∀ j, W0 j = nI (V0 j)) (w1 : ∀ j, W1 j = nI (V1 j)) (vb0 : ∀ j, V0 j < 40) (vb1 : ∀ j, V1 j < 40) (hn : n0 ≤ 12) (hm : n1 ≤ 12) (l0 : ts0 ≤ sy0) (l1 : ts1 ≤ sy1) (s0 : sy0 ≤ n0) (s1 : sy1 ≤ n1) (he : sy0 - ts0 = sy1 - ts1) (R : Bool) (hR : R = true ↔ ∀ k, k < sy0 - ts0 → φ (V0 (ts0 + k)) = φ (V1 (ts1 + k))) : ∀ (m k : Nat), k + m = sy0 → ts0 ≤ k → (∀ i, i < k - ts0 → φ (V0 (ts0 + i)) = φ (V1 (ts1 + i))) → X d m_X0_areVowelsAlike 39 [some (.ref 6), some (.ref p0), some (.ref p1), some (.int (nI ts1 - nI ts0)), some (.int (nI k))] [] (GH A P dy) nx bc bs Q = Q (some (.int (bI (R = true)))) (GH A P dy) nx := by
  intro m
  induction m with
  | zero =>
    intro k hk hl hq
    have e : k = sy0 := by omega
    subst e
    rw [bI_t (hR.mpr hq)]
    simp (disch := omega) only [i_X0_areVowelsAlike_39, i_X0_areVowelsAlike_41, i_X0_areVowelsAlike_42, i_X0_areVowelsAlike_45, i_X0_areVowelsAlike_85, i_X0_areVowelsAlike_86, gh_o6, gh_r7, gf_6_0, gf_6_1, sgF_0, sgF_1, sgF_2, sgF_3, sgF_4, sgF_5, sgF_6, sgF_7, sgF_8, sgF_9, sgF_10, z_o_i, z_ai_i, z_si_i, z_ab_b, z_ab_z, z_sb_b, z_sb_z, z_al_i, z_al_b, z_pu_s, z_pu_n, nI_toN, z_inN, true_and, and_true, nI_add, pk_mul, vu_eq, vu_ne, nI_leI, nI_ltI, nI_eqI, nI_eq0, ↓ok_0, ↓ok_1, ↓bI_ok, if_true, if_false, nI_lt0, nI_ge0, ne_eq, not_true_eq_false, not_false_eq_true, bI_eq0, bI_ne0, bI_T, bI_F, Bool.false_eq_true, h1, Nat.le_refl]
  | succ m ih =>
    intro k hk hl hq
    have le : ¬ sy0 ≤ k := by omega
    have q1 := w0 k
    have q2 := w1 (k - ts0 + ts1)
    have b1 := vb0 k
    have b2 := vb1 (k - ts0 + ts1)
    have a1 := hA (V0 k) b1
    have a2 := hA (V1 (k - ts0 + ts1)) b2
    have c1 := hφ (V0 k)
    have c2 := hφ (V1 (k - ts0 + ts1))
    have na : nI k + (nI ts1 - nI ts0) = nI (k - ts0 + ts1) := nI_ahead hl
    rw [i_X0_areVowelsAlike_39]
    by_cases c : φ (V0 k) = φ (V1 (k - ts0 + ts1))
    · simp (disch := omega) only [i_X0_areVowelsAlike_41, i_X0_areVowelsAlike_42, i_X0_areVowelsAlike_45, i_X0_areVowelsAlike_48, i_X0_areVowelsAlike_49, i_X0_areVowelsAlike_52, i_X0_areVowelsAlike_53, i_X0_areVowelsAlike_56, i_X0_areVowelsAlike_58, i_X0_areVowelsAlike_59, i_X0_areVowelsAlike_60, i_X0_areVowelsAlike_61, i_X0_areVowelsAlike_64, i_X0_areVowelsAlike_65, i_X0_areVowelsAlike_68, i_X0_areVowelsAlike_70, i_X0_areVowelsAlike_71, i_X0_areVowelsAlike_72, i_X0_areVowelsAlike_73, i_X0_areVowelsAlike_74, i_X0_areVowelsAlike_79, i_X0_areVowelsAlike_82, gh_o6, gh_r7, gf_6_0, gf_6_1, sgF_0, sgF_1, sgF_2, sgF_3, sgF_4, sgF_5, sgF_6, sgF_7, sgF_8, sgF_9, sgF_10, z_o_i, z_ai_i, z_si_i, z_ab_b, z_ab_z, z_sb_b, z_sb_z, z_al_i, z_al_b, z_pu_s, z_pu_n, nI_toN, z_inN, true_and, and_true, nI_add, pk_mul, vu_eq, vu_ne, nI_leI, nI_ltI, nI_eqI, nI_eq0, ↓ok_0, ↓ok_1, ↓bI_ok, if_true, if_false, nI_lt0, nI_ge0, ne_eq, not_true_eq_false, not_false_eq_true, bI_eq0, bI_ne0, bI_T, bI_F, Bool.false_eq_true, h1, h1', hv, hv', le, q1, q2, a1, a2, na, c]
      exact ih (k + 1) (by omega) (by omega) (fun i hi => by
        by_cases e : i = k - ts0
        · subst e
          rw [show ts0 + (k - ts0) = k by omega, show ts1 + (k - ts0) = k - ts0 + ts1 by omega]
          exact c
        · exact hq i (by omega))
    · rw [bI_f (c := R = true) (fun z => c (by
        have := (hR.mp z) (k - ts0) (by omega)
        rw [show ts0 + (k - ts0) = k by omega, show ts1 + (k - ts0) = k - ts0 + ts1 by omega] at this
        exact this))]
      simp (disch := omega) only [i_X0_areVowelsAlike_41, i_X0_areVowelsAlike_42, i_X0_areVowelsAlike_45, i_X0_areVowelsAlike_48, i_X0_areVowelsAlike_49, i_X0_areVowelsAlike_52, i_X0_areVowelsAlike_53, i_X0_areVowelsAlike_56, i_X0_areVowelsAlike_58, i_X0_areVowelsAlike_59, i_X0_areVowelsAlike_60, i_X0_areVowelsAlike_61, i_X0_areVowelsAlike_64, i_X0_areVowelsAlike_65, i_X0_areVowelsAlike_68, i_X0_areVowelsAlike_70, i_X0_areVowelsAlike_71, i_X0_areVowelsAlike_72, i_X0_areVowelsAlike_73, i_X0_areVowelsAlike_74, i_X0_areVowelsAlike_77, i_X0_areVowelsAlike_78, gh_o6, gh_r7, gf_6_0, gf_6_1, sgF_0, sgF_1, sgF_2, sgF_3, sgF_4, sgF_5, sgF_6, sgF_7, sgF_8, sgF_9, sgF_10, z_o_i, z_ai_i, z_si_i, z_ab_b, z_ab_z, z_sb_b, z_sb_z, z_al_i, z_al_b, z_pu_s, z_pu_n, nI_toN, z_inN, true_and, and_true, nI_add, pk_mul, vu_eq, vu_ne, nI_leI, nI_ltI, nI_eqI, nI_eq0, ↓ok_0, ↓ok_1, ↓bI_ok, if_true, if_false, nI_lt0, nI_ge0, ne_eq, not_true_eq_false, not_false_eq_true, bI_eq0, bI_ne0, bI_T, bI_F, Bool.false_eq_true, h1, h1', hv, hv', le, q1, q2, a1, a2, na, c]
theorem k_vow (hA : ∀ i, i < 40 → A 7 i = nI (φ i)) (hφ : ∀ i, φ i < 40) (hv : ∀ i, i < 40 → (φ i < 10 ↔ i < 10)) (hS : Sq (GH A P dy) p0 n0 f0 g0) (hT : Sq (GH A P dy) p1 n1 f1 g1) (hn : n0 ≤ 12) (hm : n1 ≤ 12) (hf : ∀ i, f0 i < 40) (hg : ∀ i, f1 i < 40) (ha : tlR f0 g0 n0 ≤ n0) (hb : tlR f1 g1 n1 ≤ n1) : XC d m_X0_areVowelsAlike [.ref 6, .ref p0, .ref p1] (GH A P dy) nx Q = Q (some (.int (bI (decide (vl (fun i => φ (f0 i)) (n0 - tlR f0 g0 n0) (tlR f0 g0 n0) = vl (fun i => φ (f1 i)) (n1 - tlR f1 g1 n1) (tlR f1 g1 n1)) = true)))) (GH A P dy) nx := by
  show X d m_X0_areVowelsAlike 0 [some (.ref 6), some (.ref p0), some (.ref p1), none, none] [] (GH A P dy) nx 0 0 Q = _
  obtain ⟨so, vo, st, F, h1, h2, h3, h4, h5⟩ := hS
  obtain ⟨so', vo', st', F', h1', h2', h3', h4', h5'⟩ := hT
  generalize tlR f0 g0 n0 = t0 at ha h1 ⊢
  generalize tlR f1 g1 n1 = t1 at hb h1' ⊢
  have e0 : ∀ i, (φ (f0 i) < 10) = (f0 i < 10) := fun i => propext (hv _ (hf i))
  have e1 : ∀ i, (φ (f1 i) < 10) = (f1 i < 10) := fun i => propext (hv _ (hg i))
  rw [vl_vr (f := f0) (n := n0) e0 (n0 - t0) t0 (by omega), vl_vr (f := f1) (n := n1) e1 (n1 - t1) t1 (by omega)]
  have m0 := cv_mono (f := f0) n0 ha
  have m1 := cv_mono (f := f1) n1 hb
  have l0 := cv_le (f := f0) n0
  have l1 := cv_le (f := f1) n1
  have s0 : (nI (cv f0 n0) - nI (cv f0 t0) : Int32) = nI (cv f0 n0 - cv f0 t0) := pk_sub m0
  have s1 : (nI (cv f1 n1) - nI (cv f1 t1) : Int32) = nI (cv f1 n1 - cv f1 t1) := pk_sub m1
  obtain ⟨R, hR⟩ : ∃ R, decide ((List.range (cv f0 n0 - cv f0 t0)).map (fun k => vrN f0 (fun i => φ (f0 i)) n0 (cv f0 t0 + k)) = (List.range (cv f1 n1 - cv f1 t1)).map (fun k => vrN f1 (fun i => φ (f1 i)) n1 (cv f1 t1 + k))) = R := ⟨_, rfl⟩
  rw [hR]
  have hR' : R = true ↔ cv f0 n0 - cv f0 t0 = cv f1 n1 - cv f1 t1 ∧ ∀ k, k < cv f0 n0 - cv f0 t0 → φ (vrN f0 f0 n0 (cv f0 t0 + k)) = φ (vrN f1 f1 n1 (cv f1 t1 + k)) := by
    rw [← hR, decide_eq_true_eq, map_eq]
    constructor
    · rintro ⟨h, g⟩
      refine ⟨h, fun k hk => ?_⟩
      rw [vrN_map (f := f0) (φ := φ) (by omega), vrN_map (f := f1) (φ := φ) (by omega)]
      exact g k hk
    · rintro ⟨h, g⟩
      refine ⟨h, fun k hk => ?_⟩
      have := g k hk
      rw [vrN_map (f := f0) (φ := φ) (by omega), vrN_map (f := f1) (φ := φ) (by omega)] at this
      exact this
  by_cases he : cv f0 n0 - cv f0 t0 = cv f1 n1 - cv f1 t1
  · simp (disch := omega) only [i_X0_areVowelsAlike_0, i_X0_areVowelsAlike_1, i_X0_areVowelsAlike_4, i_X0_areVowelsAlike_5, i_X0_areVowelsAlike_8, i_X0_areVowelsAlike_9, i_X0_areVowelsAlike_10, i_X0_areVowelsAlike_13, i_X0_areVowelsAlike_14, i_X0_areVowelsAlike_17, i_X0_areVowelsAlike_18, i_X0_areVowelsAlike_23, i_X0_areVowelsAlike_24, i_X0_areVowelsAlike_27, i_X0_areVowelsAlike_28, i_X0_areVowelsAlike_31, i_X0_areVowelsAlike_32, i_X0_areVowelsAlike_33, i_X0_areVowelsAlike_34, i_X0_areVowelsAlike_37, gh_o6, gh_r7, gf_6_0, gf_6_1, sgF_0, sgF_1, sgF_2, sgF_3, sgF_4, sgF_5, sgF_6, sgF_7, sgF_8, sgF_9, sgF_10, z_o_i, z_ai_i, z_si_i, z_ab_b, z_ab_z, z_sb_b, z_sb_z, z_al_i, z_al_b, z_pu_s, z_pu_n, nI_toN, z_inN, true_and, and_true, nI_add, pk_mul, vu_eq, vu_ne, nI_leI, nI_ltI, nI_eqI, nI_eq0, ↓ok_0, ↓ok_1, ↓bI_ok, if_true, if_false, nI_lt0, nI_ge0, ne_eq, not_true_eq_false, not_false_eq_true, bI_eq0, bI_ne0, bI_T, bI_F, Bool.false_eq_true, h1, h1', s0, s1, he]
    exact l_vow (V0 := vrN f0 f0 n0) (V1 := vrN f1 f1 n1) hA hφ h1 h1' h4 h4' (vr_N n0) (vr_N n1) (vrN_lt (by omega) hf n0) (vrN_lt (by omega) hg n1) hn hm m0 m1 l0 l1 he R ⟨fun z => (hR'.mp z).2, fun z => hR'.mpr ⟨he, z⟩⟩ (cv f0 n0 - cv f0 t0) (cv f0 t0) (by omega) (Nat.le_refl _) (fun i hi => by omega)
  · rw [bI_f (c := R = true) (fun z => he (hR'.mp z).1)]
    simp (disch := omega) only [i_X0_areVowelsAlike_0, i_X0_areVowelsAlike_1, i_X0_areVowelsAlike_4, i_X0_areVowelsAlike_5, i_X0_areVowelsAlike_8, i_X0_areVowelsAlike_9, i_X0_areVowelsAlike_10, i_X0_areVowelsAlike_13, i_X0_areVowelsAlike_14, i_X0_areVowelsAlike_17, i_X0_areVowelsAlike_18, i_X0_areVowelsAlike_21, i_X0_areVowelsAlike_22, gh_o6, gh_r7, gf_6_0, gf_6_1, sgF_0, sgF_1, sgF_2, sgF_3, sgF_4, sgF_5, sgF_6, sgF_7, sgF_8, sgF_9, sgF_10, z_o_i, z_ai_i, z_si_i, z_ab_b, z_ab_z, z_sb_b, z_sb_z, z_al_i, z_al_b, z_pu_s, z_pu_n, nI_toN, z_inN, true_and, and_true, nI_add, pk_mul, vu_eq, vu_ne, nI_leI, nI_ltI, nI_eqI, nI_eq0, ↓ok_0, ↓ok_1, ↓bI_ok, if_true, if_false, nI_lt0, nI_ge0, ne_eq, not_true_eq_false, not_false_eq_true, bI_eq0, bI_ne0, bI_T, bI_F, Bool.false_eq_true, h1, h1', s0, s1, he]
end CEar
