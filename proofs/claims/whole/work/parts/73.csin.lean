/-! THE CLASS: a saying is made -/
section CSin
variable {s : z_S} {A : Nat → Nat → Int32} {P : Nat → Nat → Nat} {dy : z_H} {d nx nz bc bs : Nat} {Q : z_Q} {wd ln : Nat → Nat}
def fS (f g : Int64) : Nat → Nat := fun i => bN f g i % 40
def gS (f g : Int64) : Nat → Nat := fun i => bN f g i / 40
/-- a saying under way -/
def Sw (dy dz : z_H) (p n : Nat) (f g : Int64) (k : Nat) : Prop :=
  dz p = .inr (.inl (3, sgF n (p + 1) 0 (p + 2) (p + 3) 0 0 0 0 0 0)) ∧ dz (p + 1) = .inl (0, n, pt (fun _ => 0) (fun i => nI (fS f g i)) 0 k) ∧ dz (p + 2) = .inl (0, n, vr (fS f g) (fS f g) k) ∧ dz (p + 3) = .inl (0, n, vr (fS f g) (gS f g) k) ∧ ∀ x, x ≠ p → x ≠ p + 1 → x ≠ p + 2 → x ≠ p + 3 → dz x = dy x
theorem l_sin {p n : Nat} {f g : Int64} (h63 : 63 ≤ p) (hn : n ≤ 12) (hQ : ∀ dz x11, Sw dy dz p n f g n → X (d + 1) m_X3_init 153 [some (.ref p), some (.int (nI n)), some (.long f), none, some (.long g), none, some (.int (nI (cv (fS f g) n))), some (.int (nI (cv (fS f g) (tlR (fS f g) (gS f g) n)))), some (.int (nI (tlR (fS f g) (gS f g) n))), some (.int (nI (lvw (fS f g) n))), some (.int (nI n)), x11] [] (GH A P dz) nx bc bs Q) : ∀ (m k : Nat) (dz : z_H) (x11 : Option Value), k + m = n → Sw dy dz p n f g k → X (d + 1) m_X3_init 45 [some (.ref p), some (.int (nI n)), some (.long f), none, some (.long g), none, some (.int (nI (cv (fS f g) k))), some (.int (nI (cv (fS f g) (tlR (fS f g) (gS f g) k)))), some (.int (nI (tlR (fS f g) (gS f g) k))), some (.int (nI (lvw (fS f g) k))), some (.int (nI k)), x11] [] (GH A P dz) nx bc bs Q := by
  intro m
  induction m with
  | zero =>
    intro k dz x11 hk hS
    have e : k = n := by omega
    subst e
    simp (disch := omega) only [i_X3_init_45, i_X3_init_47, i_X3_init_48, gh_dy, gh_dyup, lsF_0, lsF_1, lsF_2, wdF_1, sgF_0, sgF_1, sgF_2, sgF_3, sgF_4, sgF_5, sgF_6, sgF_7, z_o_i, z_ai_i, z_si_i, z_ab_b, z_ab_z, z_sb_b, z_sb_z, z_al_i, z_al_b, z_pu_s, z_pu_n, nI_toN, z_inN, true_and, and_true, nI_add, pk_mul, vu_eq, vu_ne, nI_leI, nI_ltI, nI_eqI, nI_eq0, nI_le0, ↓ok_0, ↓ok_1, ↓bI_ok, if_true, if_false, nI_lt0, nI_ge0, ne_eq, not_true_eq_false, not_false_eq_true, nI_m1, nI_1ne, nI_0eq, bI_eq0, bI_ne0, Bool.false_eq_true, bI_T, bI_F, Nat.one_ne_zero, Nat.zero_ne_one, pk_div, pk_sub, md_40, z_40, k_isV, k_tb, Nat.le_refl]
    exact hQ dz x11 hS
  | succ m ih =>
    intro k dz x11 hk hS
    have le : ¬ n ≤ k := by omega
    have kn : k < n := by omega
    have bb := byw_b f g k
    have z40 : ¬ (40 : Nat) = 0 := by omega
    obtain ⟨d0, d1, d2, d3, dx⟩ := hS
    have cn : cv (fS f g) k ≤ k := cv_le k
    have p1 := pt_succ (fun _ => (0 : Int32)) (fun i => nI (fS f g i)) 0 k (v := nI (bN f g k % 40)) rfl
    rw [Nat.zero_add] at p1
    rw [i_X3_init_45]
    by_cases c : bN f g k % 40 < 10
    · have eV : ∀ h, vr (fS f g) h (k + 1) = va_up (vr (fS f g) h k) (cv (fS f g) k) (nI (h k)) := fun h => by rw [vr, if_pos]; exact c
      have eC : cv (fS f g) (k + 1) = cv (fS f g) k + 1 := by rw [cv, if_pos]; exact c
      have eL : lvw (fS f g) (k + 1) = k := by rw [lvw, if_pos]; exact c
      have c' : fS f g k < 10 := c
      have k0 : Sw dy (va_up (va_up (va_up dz (p + 1) (.inl (0, n, va_up (pt (fun _ => 0) (fun i => nI (fS f g i)) 0 k) k (nI (bN f g k % 40))))) (p + 2) (.inl (0, n, va_up (vr (fS f g) (fS f g) k) (cv (fS f g) k) (nI (bN f g k % 40))))) (p + 3) (.inl (0, n, va_up (vr (fS f g) (gS f g) k) (cv (fS f g) k) (nI (bN f g k / 40))))) p n f g (k + 1) := by
        refine ⟨?_, ?_, ?_, ?_, fun x x0 x1 x2 x3 => ?_⟩
        · rw [vu_ne (by omega), vu_ne (by omega), vu_ne (by omega)]; exact d0
        · rw [vu_ne (by omega), vu_ne (by omega), vu_eq, p1]
        · rw [vu_ne (by omega), vu_eq, eV]; rfl
        · rw [vu_eq, eV]; rfl
        · rw [vu_ne x3, vu_ne x2, vu_ne x1]; exact dx x x0 x1 x2 x3
      have q := ih (k + 1) _ (some (.int (nI (bN f g k)))) (by omega) k0
      have cl : cv (fS f g) k < n := by omega
      cases hb : bt (fS f g) (gS f g) k with
      | none =>
        have c0 := bt_none hb
        have eT : tlR (fS f g) (gS f g) (k + 1) = k := by
          unfold tlR; rw [bt, hb]; simp only [c', if_true]; rfl
        have eT0 : tlR (fS f g) (gS f g) k = 0 := by unfold tlR; rw [hb]; rfl
        have cz : cv (fS f g) 0 = 0 := rfl
        have n0 : 0 < n := by omega
        have lr : ¬ bN f g k / 40 < bN f g k / 40 := by omega
        rw [eC, eL, eT] at q
        rw [c0] at q ⊢
        rw [eT0, cz]
        simp (disch := omega) only [i_X3_init_47, i_X3_init_48, i_X3_init_51, i_X3_init_52, i_X3_init_54, i_X3_init_56, i_X3_init_59, i_X3_init_61, i_X3_init_62, i_X3_init_65, i_X3_init_67, i_X3_init_69, i_X3_init_71, i_X3_init_72, i_X3_init_73, i_X3_init_74, i_X3_init_77, i_X3_init_79, i_X3_init_80, i_X3_init_83, i_X3_init_89, i_X3_init_90, i_X3_init_93, i_X3_init_95, i_X3_init_96, i_X3_init_99, i_X3_init_101, i_X3_init_102, i_X3_init_103, i_X3_init_104, i_X3_init_107, i_X3_init_109, i_X3_init_111, i_X3_init_113, i_X3_init_114, i_X3_init_115, i_X3_init_116, i_X3_init_119, i_X3_init_121, i_X3_init_122, i_X3_init_123, i_X3_init_126, i_X3_init_128, i_X3_init_129, i_X3_init_132, i_X3_init_134, i_X3_init_136, i_X3_init_138, i_X3_init_140, i_X3_init_142, i_X3_init_144, i_X3_init_147, i_X3_init_150, gh_dy, gh_dyup, lsF_0, lsF_1, lsF_2, wdF_1, sgF_0, sgF_1, sgF_2, sgF_3, sgF_4, sgF_5, sgF_6, sgF_7, z_o_i, z_ai_i, z_si_i, z_ab_b, z_ab_z, z_sb_b, z_sb_z, z_al_i, z_al_b, z_pu_s, z_pu_n, nI_toN, z_inN, true_and, and_true, nI_add, pk_mul, vu_eq, vu_ne, nI_leI, nI_ltI, nI_eqI, nI_eq0, nI_le0, ↓ok_0, ↓ok_1, ↓bI_ok, if_true, if_false, nI_lt0, nI_ge0, ne_eq, not_true_eq_false, not_false_eq_true, nI_m1, nI_1ne, nI_0eq, bI_eq0, bI_ne0, Bool.false_eq_true, bI_T, bI_F, Nat.one_ne_zero, Nat.zero_ne_one, pk_div, pk_sub, md_40, z_40, k_isV, k_tb, le, kn, n0, lr, d0, d1, d2, d3, z40, c]
        exact q
      | some b =>
        have bl := bt_lt hb
        have bv := bt_v k b hb
        have eT0 : tlR (fS f g) (gS f g) k = b := by unfold tlR; rw [hb]; rfl
        have lt := cv_lt bl bv
        have cb : cv (fS f g) b < n := by omega
        have va := vr_at (h := gS f g) bv k bl
        have gb : gS f g b < 256 := Nat.lt_of_le_of_lt (Nat.div_le_self _ _) (byw_b f g b)
        by_cases cc : bN f g k / 40 < gS f g b
        · have eT : tlR (fS f g) (gS f g) (k + 1) = b := by
            unfold tlR; rw [bt, hb]
            have : ¬ (fS f g k < 10 ∧ gS f g b ≤ gS f g k) := fun z => Nat.not_le.mpr cc z.2
            simp only [this, if_false]; rfl
          rw [eC, eL, eT] at q
          rw [eT0]
          simp (disch := omega) only [i_X3_init_47, i_X3_init_48, i_X3_init_51, i_X3_init_52, i_X3_init_54, i_X3_init_56, i_X3_init_59, i_X3_init_61, i_X3_init_62, i_X3_init_65, i_X3_init_67, i_X3_init_69, i_X3_init_71, i_X3_init_72, i_X3_init_73, i_X3_init_74, i_X3_init_77, i_X3_init_79, i_X3_init_80, i_X3_init_83, i_X3_init_89, i_X3_init_90, i_X3_init_93, i_X3_init_95, i_X3_init_96, i_X3_init_99, i_X3_init_101, i_X3_init_102, i_X3_init_103, i_X3_init_104, i_X3_init_107, i_X3_init_109, i_X3_init_111, i_X3_init_113, i_X3_init_114, i_X3_init_115, i_X3_init_116, i_X3_init_119, i_X3_init_121, i_X3_init_122, i_X3_init_123, i_X3_init_126, i_X3_init_128, i_X3_init_129, i_X3_init_140, i_X3_init_142, i_X3_init_144, i_X3_init_147, i_X3_init_150, gh_dy, gh_dyup, lsF_0, lsF_1, lsF_2, wdF_1, sgF_0, sgF_1, sgF_2, sgF_3, sgF_4, sgF_5, sgF_6, sgF_7, z_o_i, z_ai_i, z_si_i, z_ab_b, z_ab_z, z_sb_b, z_sb_z, z_al_i, z_al_b, z_pu_s, z_pu_n, nI_toN, z_inN, true_and, and_true, nI_add, pk_mul, vu_eq, vu_ne, nI_leI, nI_ltI, nI_eqI, nI_eq0, nI_le0, ↓ok_0, ↓ok_1, ↓bI_ok, if_true, if_false, nI_lt0, nI_ge0, ne_eq, not_true_eq_false, not_false_eq_true, nI_m1, nI_1ne, nI_0eq, bI_eq0, bI_ne0, Bool.false_eq_true, bI_T, bI_F, Nat.one_ne_zero, Nat.zero_ne_one, pk_div, pk_sub, md_40, z_40, k_isV, k_tb, le, kn, cl, cb, cc, va, d0, d1, d2, d3, z40, c]
          exact q
        · have eT : tlR (fS f g) (gS f g) (k + 1) = k := by
            unfold tlR; rw [bt, hb]
            have : (fS f g k < 10 ∧ gS f g b ≤ gS f g k) := ⟨c', Nat.not_lt.mp cc⟩
            simp only [this, and_self, if_true]; rfl
          rw [eC, eL, eT] at q
          rw [eT0]
          simp (disch := omega) only [i_X3_init_47, i_X3_init_48, i_X3_init_51, i_X3_init_52, i_X3_init_54, i_X3_init_56, i_X3_init_59, i_X3_init_61, i_X3_init_62, i_X3_init_65, i_X3_init_67, i_X3_init_69, i_X3_init_71, i_X3_init_72, i_X3_init_73, i_X3_init_74, i_X3_init_77, i_X3_init_79, i_X3_init_80, i_X3_init_83, i_X3_init_89, i_X3_init_90, i_X3_init_93, i_X3_init_95, i_X3_init_96, i_X3_init_99, i_X3_init_101, i_X3_init_102, i_X3_init_103, i_X3_init_104, i_X3_init_107, i_X3_init_109, i_X3_init_111, i_X3_init_113, i_X3_init_114, i_X3_init_115, i_X3_init_116, i_X3_init_119, i_X3_init_121, i_X3_init_122, i_X3_init_123, i_X3_init_126, i_X3_init_128, i_X3_init_129, i_X3_init_132, i_X3_init_134, i_X3_init_136, i_X3_init_138, i_X3_init_140, i_X3_init_142, i_X3_init_144, i_X3_init_147, i_X3_init_150, gh_dy, gh_dyup, lsF_0, lsF_1, lsF_2, wdF_1, sgF_0, sgF_1, sgF_2, sgF_3, sgF_4, sgF_5, sgF_6, sgF_7, z_o_i, z_ai_i, z_si_i, z_ab_b, z_ab_z, z_sb_b, z_sb_z, z_al_i, z_al_b, z_pu_s, z_pu_n, nI_toN, z_inN, true_and, and_true, nI_add, pk_mul, vu_eq, vu_ne, nI_leI, nI_ltI, nI_eqI, nI_eq0, nI_le0, ↓ok_0, ↓ok_1, ↓bI_ok, if_true, if_false, nI_lt0, nI_ge0, ne_eq, not_true_eq_false, not_false_eq_true, nI_m1, nI_1ne, nI_0eq, bI_eq0, bI_ne0, Bool.false_eq_true, bI_T, bI_F, Nat.one_ne_zero, Nat.zero_ne_one, pk_div, pk_sub, md_40, z_40, k_isV, k_tb, le, kn, cl, cb, cc, va, d0, d1, d2, d3, z40, c]
          exact q
    · have eV : ∀ h, vr (fS f g) h (k + 1) = vr (fS f g) h k := fun h => by rw [vr, if_neg]; exact c
      have eC : cv (fS f g) (k + 1) = cv (fS f g) k := by rw [cv, if_neg]; rfl; exact c
      have eL : lvw (fS f g) (k + 1) = lvw (fS f g) k := by rw [lvw, if_neg]; exact c
      have eT : tlR (fS f g) (gS f g) (k + 1) = tlR (fS f g) (gS f g) k := by
        unfold tlR
        rw [bt]
        have c' : ¬ fS f g k < 10 := c
        cases hb : bt (fS f g) (gS f g) k with
        | none => simp only [c', if_false]
        | some b => simp only [c', false_and, if_false]
      simp (disch := omega) only [i_X3_init_47, i_X3_init_48, i_X3_init_51, i_X3_init_52, i_X3_init_54, i_X3_init_56, i_X3_init_59, i_X3_init_61, i_X3_init_62, i_X3_init_65, i_X3_init_67, i_X3_init_69, i_X3_init_71, i_X3_init_72, i_X3_init_73, i_X3_init_74, i_X3_init_77, i_X3_init_79, i_X3_init_80, i_X3_init_83, i_X3_init_86, i_X3_init_147, i_X3_init_150, gh_dy, gh_dyup, lsF_0, lsF_1, lsF_2, wdF_1, sgF_0, sgF_1, sgF_2, sgF_3, sgF_4, sgF_5, sgF_6, sgF_7, z_o_i, z_ai_i, z_si_i, z_ab_b, z_ab_z, z_sb_b, z_sb_z, z_al_i, z_al_b, z_pu_s, z_pu_n, nI_toN, z_inN, true_and, and_true, nI_add, pk_mul, vu_eq, vu_ne, nI_leI, nI_ltI, nI_eqI, nI_eq0, nI_le0, ↓ok_0, ↓ok_1, ↓bI_ok, if_true, if_false, nI_lt0, nI_ge0, ne_eq, not_true_eq_false, not_false_eq_true, nI_m1, nI_1ne, nI_0eq, bI_eq0, bI_ne0, Bool.false_eq_true, bI_T, bI_F, Nat.one_ne_zero, Nat.zero_ne_one, pk_div, pk_sub, md_40, z_40, k_isV, k_tb, le, kn, d0, d1, z40, c]
      have q := ih (k + 1) (va_up dz (p + 1) (.inl (0, n, pt (fun _ => 0) (fun i => nI (fS f g i)) 0 (k + 1)))) (some (.int (nI (bN f g k)))) (by omega) ⟨by rw [vu_ne (by omega)]; exact d0, by rw [vu_eq], by rw [vu_ne (by omega), eV]; exact d2, by rw [vu_ne (by omega), eV]; exact d3, fun x x0 x1 x2 x3 => by rw [vu_ne x1]; exact dx x x0 x1 x2 x3⟩
      rw [eC, eL, eT] at q
      rw [p1]
      exact q
def sgE (p n : Nat) (f g : Nat → Nat) : Nat → Value := sgF n (p + 1) (cv f n) (p + 2) (p + 3) (lvw f n) (g (tlR f g n)) (tlR f g n) (cv f (tlR f g n)) (if g (tlR f g n) = 2 then 1 else 0) (if g (tlR f g n) = 2 then tlR f g n else lvw f n)
theorem sg_up {n a b c v5 v6 v7 v8 v9 v10 v2 : Nat} : va_up (va_up (va_up (va_up (va_up (va_up (va_up (sgF n a 0 b c 0 0 0 0 0 0) 2 (.int (nI v2))) 5 (.int (nI v5))) 6 (.int (nI v6))) 7 (.int (nI v7))) 8 (.int (nI v8))) 9 (.int (nI v9))) 10 (.int (nI v10)) = sgF n a v2 b c v5 v6 v7 v8 v9 v10 := by
  funext j
  match j with
  | 0 => rfl
  | 1 => rfl
  | 2 => rfl
  | 3 => rfl
  | 4 => rfl
  | 5 => rfl
  | 6 => rfl
  | 7 => rfl
  | 8 => rfl
  | 9 => rfl
  | 10 => rfl
  | (k + 11) =>
    rw [vu_ne (by omega), vu_ne (by omega), vu_ne (by omega), vu_ne (by omega), vu_ne (by omega), vu_ne (by omega), vu_ne (by omega)]
    rfl
theorem k_sin {p n : Nat} {f g : Int64} (h63 : 63 ≤ p) (h1 : 1 ≤ n) (hn : n ≤ 12) (hV : aV f g n = true) (hd : dy p = .inr (.inl (3, z_df 3))) (hQ : ∀ dz, dz p = .inr (.inl (3, sgE p n (fS f g) (gS f g))) → dz (p + 1) = .inl (0, n, pt (fun _ => 0) (fun i => nI (fS f g i)) 0 n) → dz (p + 2) = .inl (0, n, vr (fS f g) (fS f g) n) → dz (p + 3) = .inl (0, n, vr (fS f g) (gS f g) n) → (∀ x, x ≠ p → x ≠ p + 1 → x ≠ p + 2 → x ≠ p + 3 → dz x = dy x) → Q none (GH A P dz) (p + 4)) : XC (d + 2) m_X3_init [.ref p, .int (nI n), .long f, .long g] (GH A P dy) (p + 1) Q := by
  show X (d + 2) m_X3_init 0 [some (.ref p), some (.int (nI n)), some (.long f), none, some (.long g), none, none, none, none, none, none, none] [] (GH A P dy) (p + 1) 3 36 Q
  have eN : (nI n : Int32).toNatClampNeg = n := nI_toN (by omega)
  have nn : ¬ (nI n : Int32) < 0 := by rw [nI_lt0 (n := n) (by omega)]; exact id
  simp (disch := omega) only [i_X3_init_0, i_X3_init_1, i_X3_init_4, i_X3_init_5, i_X3_init_6, i_X3_init_9, i_X3_init_10, gh_dy, gh_dyup, lsF_0, lsF_1, lsF_2, wdF_1, sgF_0, sgF_1, sgF_2, sgF_3, sgF_4, sgF_5, sgF_6, sgF_7, z_o_i, z_ai_i, z_si_i, z_ab_b, z_ab_z, z_sb_b, z_sb_z, z_al_i, z_al_b, z_pu_s, z_pu_n, nI_toN, z_inN, true_and, and_true, nI_add, pk_mul, vu_eq, vu_ne, nI_leI, nI_ltI, nI_eqI, nI_eq0, nI_le0, ↓ok_0, ↓ok_1, ↓bI_ok, if_true, if_false, nI_lt0, nI_ge0, ne_eq, not_true_eq_false, not_false_eq_true, nI_m1, nI_1ne, nI_0eq, bI_eq0, bI_ne0, Bool.false_eq_true, bI_T, bI_F, Nat.one_ne_zero, Nat.zero_ne_one, pk_div, pk_sub, md_40, z_40, k_isV, k_tb, hd]
  rw [i_X3_init_11, eN]
  refine ⟨⟨nn, by omega, by omega, by omega⟩, ?_⟩
  simp (disch := omega) only [i_X3_init_13, i_X3_init_16, i_X3_init_17, gh_dy, gh_dyup, lsF_0, lsF_1, lsF_2, wdF_1, sgF_0, sgF_1, sgF_2, sgF_3, sgF_4, sgF_5, sgF_6, sgF_7, z_o_i, z_ai_i, z_si_i, z_ab_b, z_ab_z, z_sb_b, z_sb_z, z_al_i, z_al_b, z_pu_s, z_pu_n, nI_toN, z_inN, true_and, and_true, nI_add, pk_mul, vu_eq, vu_ne, nI_leI, nI_ltI, nI_eqI, nI_eq0, nI_le0, ↓ok_0, ↓ok_1, ↓bI_ok, if_true, if_false, nI_lt0, nI_ge0, ne_eq, not_true_eq_false, not_false_eq_true, nI_m1, nI_1ne, nI_0eq, bI_eq0, bI_ne0, Bool.false_eq_true, bI_T, bI_F, Nat.one_ne_zero, Nat.zero_ne_one, pk_div, pk_sub, md_40, z_40, k_isV, k_tb]
  rw [i_X3_init_18, eN]
  refine ⟨⟨nn, by omega, by omega, by omega⟩, ?_⟩
  simp (disch := omega) only [i_X3_init_20, i_X3_init_23, i_X3_init_24, gh_dy, gh_dyup, lsF_0, lsF_1, lsF_2, wdF_1, sgF_0, sgF_1, sgF_2, sgF_3, sgF_4, sgF_5, sgF_6, sgF_7, z_o_i, z_ai_i, z_si_i, z_ab_b, z_ab_z, z_sb_b, z_sb_z, z_al_i, z_al_b, z_pu_s, z_pu_n, nI_toN, z_inN, true_and, and_true, nI_add, pk_mul, vu_eq, vu_ne, nI_leI, nI_ltI, nI_eqI, nI_eq0, nI_le0, ↓ok_0, ↓ok_1, ↓bI_ok, if_true, if_false, nI_lt0, nI_ge0, ne_eq, not_true_eq_false, not_false_eq_true, nI_m1, nI_1ne, nI_0eq, bI_eq0, bI_ne0, Bool.false_eq_true, bI_T, bI_F, Nat.one_ne_zero, Nat.zero_ne_one, pk_div, pk_sub, md_40, z_40, k_isV, k_tb]
  rw [i_X3_init_25, eN]
  refine ⟨⟨nn, by omega, by omega, by omega⟩, ?_⟩
  simp (disch := omega) only [i_X3_init_27, i_X3_init_30, i_X3_init_31, i_X3_init_33, i_X3_init_34, i_X3_init_36, i_X3_init_37, i_X3_init_39, i_X3_init_40, i_X3_init_42, i_X3_init_43, gh_dy, gh_dyup, lsF_0, lsF_1, lsF_2, wdF_1, sgF_0, sgF_1, sgF_2, sgF_3, sgF_4, sgF_5, sgF_6, sgF_7, z_o_i, z_ai_i, z_si_i, z_ab_b, z_ab_z, z_sb_b, z_sb_z, z_al_i, z_al_b, z_pu_s, z_pu_n, nI_toN, z_inN, true_and, and_true, nI_add, pk_mul, vu_eq, vu_ne, nI_leI, nI_ltI, nI_eqI, nI_eq0, nI_le0, ↓ok_0, ↓ok_1, ↓bI_ok, if_true, if_false, nI_lt0, nI_ge0, ne_eq, not_true_eq_false, not_false_eq_true, nI_m1, nI_1ne, nI_0eq, bI_eq0, bI_ne0, Bool.false_eq_true, bI_T, bI_F, Nat.one_ne_zero, Nat.zero_ne_one, pk_div, pk_sub, md_40, z_40, k_isV, k_tb]
  rw [sg_mk]
  refine l_sin (dy := dy) (d := d + 1) h63 hn (fun dz x11 hS => ?_) n 0 _ none (by omega) ?_
  · obtain ⟨d0, d1, d2, d3, dx⟩ := hS
    obtain ⟨i, i1, i2⟩ := aV_ex n hV
    obtain ⟨b, hb⟩ := bt_some (f := fS f g) (g := gS f g) n ⟨i, i1, i2⟩
    have bl := bt_lt hb
    have bv := bt_v n b hb
    have eT0 : tlR (fS f g) (gS f g) n = b := by unfold tlR; rw [hb]; rfl
    have lt := cv_lt bl bv
    have cn := cv_le (f := fS f g) n
    have va := vr_at (h := gS f g) bv n bl
    have cb : cv (fS f g) b < n := by omega
    have gb : gS f g b < 256 := Nat.lt_of_le_of_lt (Nat.div_le_self _ _) (byw_b f g b)
    have ln : lvw (fS f g) n ≤ n := Nat.le_of_lt (lvw_sp n ⟨i, i1, i2⟩).1
    rw [eT0]
    by_cases t2 : gS f g b = 2
    · have fin := hQ (va_up dz p (.inr (.inl (3, sgE p n (fS f g) (gS f g))))) vu_eq (by rw [vu_ne (by omega)]; exact d1) (by rw [vu_ne (by omega)]; exact d2) (by rw [vu_ne (by omega)]; exact d3) (fun x x0 x1 x2 x3 => by rw [vu_ne x0]; exact dx x x0 x1 x2 x3)
      unfold sgE at fin
      rw [eT0, if_pos t2, if_pos t2, t2, ← sg_up] at fin
      simp (disch := omega) only [i_X3_init_153, i_X3_init_154, i_X3_init_156, i_X3_init_159, i_X3_init_160, i_X3_init_162, i_X3_init_165, i_X3_init_166, i_X3_init_167, i_X3_init_170, i_X3_init_172, i_X3_init_173, i_X3_init_176, i_X3_init_177, i_X3_init_179, i_X3_init_182, i_X3_init_183, i_X3_init_185, i_X3_init_188, i_X3_init_189, i_X3_init_190, i_X3_init_193, i_X3_init_194, i_X3_init_197, i_X3_init_198, i_X3_init_202, i_X3_init_205, i_X3_init_206, i_X3_init_207, i_X3_init_210, i_X3_init_211, i_X3_init_214, i_X3_init_216, i_X3_init_221, i_X3_init_224, gh_dy, gh_dyup, lsF_0, lsF_1, lsF_2, wdF_1, sgF_0, sgF_1, sgF_2, sgF_3, sgF_4, sgF_5, sgF_6, sgF_7, z_o_i, z_ai_i, z_si_i, z_ab_b, z_ab_z, z_sb_b, z_sb_z, z_al_i, z_al_b, z_pu_s, z_pu_n, nI_toN, z_inN, true_and, and_true, nI_add, pk_mul, vu_eq, vu_ne, nI_leI, nI_ltI, nI_eqI, nI_eq0, nI_le0, ↓ok_0, ↓ok_1, ↓bI_ok, if_true, if_false, nI_lt0, nI_ge0, ne_eq, not_true_eq_false, not_false_eq_true, nI_m1, nI_1ne, nI_0eq, bI_eq0, bI_ne0, Bool.false_eq_true, bI_T, bI_F, Nat.one_ne_zero, Nat.zero_ne_one, pk_div, pk_sub, md_40, z_40, k_isV, k_tb, cb, va, d0, d3, t2]
      simp only [vu_vu]
      exact fin
    · have fin := hQ (va_up dz p (.inr (.inl (3, sgE p n (fS f g) (gS f g))))) vu_eq (by rw [vu_ne (by omega)]; exact d1) (by rw [vu_ne (by omega)]; exact d2) (by rw [vu_ne (by omega)]; exact d3) (fun x x0 x1 x2 x3 => by rw [vu_ne x0]; exact dx x x0 x1 x2 x3)
      unfold sgE at fin
      rw [eT0, if_neg t2, if_neg t2, ← sg_up] at fin
      simp (disch := omega) only [i_X3_init_153, i_X3_init_154, i_X3_init_156, i_X3_init_159, i_X3_init_160, i_X3_init_162, i_X3_init_165, i_X3_init_166, i_X3_init_167, i_X3_init_170, i_X3_init_172, i_X3_init_173, i_X3_init_176, i_X3_init_177, i_X3_init_179, i_X3_init_182, i_X3_init_183, i_X3_init_185, i_X3_init_188, i_X3_init_189, i_X3_init_190, i_X3_init_193, i_X3_init_194, i_X3_init_201, i_X3_init_202, i_X3_init_205, i_X3_init_206, i_X3_init_207, i_X3_init_210, i_X3_init_211, i_X3_init_219, i_X3_init_221, i_X3_init_224, gh_dy, gh_dyup, lsF_0, lsF_1, lsF_2, wdF_1, sgF_0, sgF_1, sgF_2, sgF_3, sgF_4, sgF_5, sgF_6, sgF_7, z_o_i, z_ai_i, z_si_i, z_ab_b, z_ab_z, z_sb_b, z_sb_z, z_al_i, z_al_b, z_pu_s, z_pu_n, nI_toN, z_inN, true_and, and_true, nI_add, pk_mul, vu_eq, vu_ne, nI_leI, nI_ltI, nI_eqI, nI_eq0, nI_le0, ↓ok_0, ↓ok_1, ↓bI_ok, if_true, if_false, nI_lt0, nI_ge0, ne_eq, not_true_eq_false, not_false_eq_true, nI_m1, nI_1ne, nI_0eq, bI_eq0, bI_ne0, Bool.false_eq_true, bI_T, bI_F, Nat.one_ne_zero, Nat.zero_ne_one, pk_div, pk_sub, md_40, z_40, k_isV, k_tb, cb, va, d0, d3, t2]
      simp only [vu_vu]
      exact fin
  · have e0 : pt (fun _ => (0 : Int32)) (fun i => nI (fS f g i)) 0 0 = fun _ => 0 := pt_0 _ _ _
    refine ⟨?_, ?_, ?_, ?_, fun x x0 x1 x2 x3 => ?_⟩
    · rw [vu_eq]
    · rw [e0, vu_ne (by omega), vu_ne (by omega), vu_ne (by omega), vu_ne (by omega), vu_ne (by omega), vu_eq]
    · rw [vu_ne (by omega), vu_ne (by omega), vu_ne (by omega), vu_eq]; rfl
    · rw [vu_ne (by omega), vu_eq]; rfl
    · rw [vu_ne x0, vu_ne x3, vu_ne x0, vu_ne x2, vu_ne x0, vu_ne x1, vu_ne x0]
end CSin
