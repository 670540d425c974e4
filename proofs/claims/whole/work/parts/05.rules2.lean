/-! MORE RULES OF THE SMALL MACHINE: branches, divisions, calls that make nothing. -/
section Rules2
variable {d M pc : Nat} {L : z_L} {st : List Value} {h : z_H} {nx bc bs : Nat} {Q : z_Q} {off : Int} {t cp : Nat}
theorem X_icmp_eq {a b : Int32} (hd : decode (z_by M) pc = .ok (.if_icmp .eq off, 3)) (ht : z_tg pc off = some t) : X d M pc L (.int b :: .int a :: st) h nx bc bs Q = if a = b then X d M t L st h nx bc bs Q else X d M (pc + 3) L st h nx bc bs Q := by
  rw [X_A (pc' := if decide (a = b) then t else pc + 3) (L' := L) (st' := st) hd (by simp [z_A, z_A1, z_A2, z_A3, z_br, ht])]
  by_cases q : a = b <;> simp [q]
theorem X_icmp_ne {a b : Int32} (hd : decode (z_by M) pc = .ok (.if_icmp .ne off, 3)) (ht : z_tg pc off = some t) : X d M pc L (.int b :: .int a :: st) h nx bc bs Q = if a ≠ b then X d M t L st h nx bc bs Q else X d M (pc + 3) L st h nx bc bs Q := by
  rw [X_A (pc' := if decide (a ≠ b) then t else pc + 3) (L' := L) (st' := st) hd (by simp [z_A, z_A1, z_A2, z_A3, z_br, ht])]
  by_cases q : a = b <;> simp [q]
theorem X_icmp_lt {a b : Int32} (hd : decode (z_by M) pc = .ok (.if_icmp .lt off, 3)) (ht : z_tg pc off = some t) : X d M pc L (.int b :: .int a :: st) h nx bc bs Q = if a < b then X d M t L st h nx bc bs Q else X d M (pc + 3) L st h nx bc bs Q := by
  rw [X_A (pc' := if decide (a < b) then t else pc + 3) (L' := L) (st' := st) hd (by simp [z_A, z_A1, z_A2, z_A3, z_br, ht])]
  by_cases q : a < b <;> simp [q]
theorem X_icmp_ge {a b : Int32} (hd : decode (z_by M) pc = .ok (.if_icmp .ge off, 3)) (ht : z_tg pc off = some t) : X d M pc L (.int b :: .int a :: st) h nx bc bs Q = if b ≤ a then X d M t L st h nx bc bs Q else X d M (pc + 3) L st h nx bc bs Q := by
  rw [X_A (pc' := if decide (b ≤ a) then t else pc + 3) (L' := L) (st' := st) hd (by simp [z_A, z_A1, z_A2, z_A3, z_br, ht])]
  by_cases q : b ≤ a <;> simp only [decide_eq_true_eq, q, if_true, if_false]
theorem X_icmp_gt {a b : Int32} (hd : decode (z_by M) pc = .ok (.if_icmp .gt off, 3)) (ht : z_tg pc off = some t) : X d M pc L (.int b :: .int a :: st) h nx bc bs Q = if b < a then X d M t L st h nx bc bs Q else X d M (pc + 3) L st h nx bc bs Q := by
  rw [X_A (pc' := if decide (b < a) then t else pc + 3) (L' := L) (st' := st) hd (by simp [z_A, z_A1, z_A2, z_A3, z_br, ht])]
  by_cases q : b < a <;> simp only [decide_eq_true_eq, q, if_true, if_false]
theorem X_icmp_le {a b : Int32} (hd : decode (z_by M) pc = .ok (.if_icmp .le off, 3)) (ht : z_tg pc off = some t) : X d M pc L (.int b :: .int a :: st) h nx bc bs Q = if a ≤ b then X d M t L st h nx bc bs Q else X d M (pc + 3) L st h nx bc bs Q := by
  rw [X_A (pc' := if decide (a ≤ b) then t else pc + 3) (L' := L) (st' := st) hd (by simp [z_A, z_A1, z_A2, z_A3, z_br, ht])]
  by_cases q : a ≤ b <;> simp only [decide_eq_true_eq, q, if_true, if_false]
theorem X_if_eq {a : Int32} (hd : decode (z_by M) pc = .ok (.ifCond .eq off, 3)) (ht : z_tg pc off = some t) : X d M pc L (.int a :: st) h nx bc bs Q = if a = 0 then X d M t L st h nx bc bs Q else X d M (pc + 3) L st h nx bc bs Q := by
  rw [X_A (pc' := if decide (a = 0) then t else pc + 3) (L' := L) (st' := st) hd (by simp [z_A, z_A1, z_A2, z_A3, z_br, ht])]
  by_cases q : a = 0 <;> simp [q]
theorem X_if_ne {a : Int32} (hd : decode (z_by M) pc = .ok (.ifCond .ne off, 3)) (ht : z_tg pc off = some t) : X d M pc L (.int a :: st) h nx bc bs Q = if a ≠ 0 then X d M t L st h nx bc bs Q else X d M (pc + 3) L st h nx bc bs Q := by
  rw [X_A (pc' := if decide (a ≠ 0) then t else pc + 3) (L' := L) (st' := st) hd (by simp [z_A, z_A1, z_A2, z_A3, z_br, ht])]
  by_cases q : a = 0 <;> simp [q]
theorem X_if_lt {a : Int32} (hd : decode (z_by M) pc = .ok (.ifCond .lt off, 3)) (ht : z_tg pc off = some t) : X d M pc L (.int a :: st) h nx bc bs Q = if a < 0 then X d M t L st h nx bc bs Q else X d M (pc + 3) L st h nx bc bs Q := by
  rw [X_A (pc' := if decide (a < 0) then t else pc + 3) (L' := L) (st' := st) hd (by simp [z_A, z_A1, z_A2, z_A3, z_br, ht])]
  by_cases q : a < 0 <;> simp only [decide_eq_true_eq, q, if_true, if_false]
theorem X_if_ge {a : Int32} (hd : decode (z_by M) pc = .ok (.ifCond .ge off, 3)) (ht : z_tg pc off = some t) : X d M pc L (.int a :: st) h nx bc bs Q = if 0 ≤ a then X d M t L st h nx bc bs Q else X d M (pc + 3) L st h nx bc bs Q := by
  rw [X_A (pc' := if decide (0 ≤ a) then t else pc + 3) (L' := L) (st' := st) hd (by simp [z_A, z_A1, z_A2, z_A3, z_br, ht])]
  by_cases q : 0 ≤ a <;> simp only [decide_eq_true_eq, q, if_true, if_false]
theorem X_if_gt {a : Int32} (hd : decode (z_by M) pc = .ok (.ifCond .gt off, 3)) (ht : z_tg pc off = some t) : X d M pc L (.int a :: st) h nx bc bs Q = if 0 < a then X d M t L st h nx bc bs Q else X d M (pc + 3) L st h nx bc bs Q := by
  rw [X_A (pc' := if decide (0 < a) then t else pc + 3) (L' := L) (st' := st) hd (by simp [z_A, z_A1, z_A2, z_A3, z_br, ht])]
  by_cases q : 0 < a <;> simp only [decide_eq_true_eq, q, if_true, if_false]
theorem X_if_le {a : Int32} (hd : decode (z_by M) pc = .ok (.ifCond .le off, 3)) (ht : z_tg pc off = some t) : X d M pc L (.int a :: st) h nx bc bs Q = if a ≤ 0 then X d M t L st h nx bc bs Q else X d M (pc + 3) L st h nx bc bs Q := by
  rw [X_A (pc' := if decide (a ≤ 0) then t else pc + 3) (L' := L) (st' := st) hd (by simp [z_A, z_A1, z_A2, z_A3, z_br, ht])]
  by_cases q : a ≤ 0 <;> simp only [decide_eq_true_eq, q, if_true, if_false]
theorem X_acmp_eq {a : Nat} (hd : decode (z_by M) pc = .ok (.if_acmp .eq off, 3)) (ht : z_tg pc off = some t) : X d M pc L (.ref a :: .ref a :: st) h nx bc bs Q = X d M t L st h nx bc bs Q :=
  X_A hd (by simp [z_A, z_A1, z_A2, z_A3, z_br, ht])
theorem X_acmp_ne {a : Nat} (hd : decode (z_by M) pc = .ok (.if_acmp .ne off, 3)) (ht : z_tg pc off = some t) : X d M pc L (.ref a :: .ref a :: st) h nx bc bs Q = X d M (pc + 3) L st h nx bc bs Q :=
  X_A hd (by simp [z_A, z_A1, z_A2, z_A3, z_br, ht])
theorem X_tabo {a : Int32} {df lo hi : Int} {offs : Array Int} {len : Nat} (hd : decode (z_by M) pc = .ok (.tableswitch df lo hi offs, len)) (ht : z_tg pc df = some t) (ha : a.toInt < lo ∨ hi < a.toInt) : X d M pc L (.int a :: st) h nx bc bs Q = X d M t L st h nx bc bs Q :=
  X_A hd (by simp [z_A, z_A1, z_A2, z_A3, z_br, ht, ha])
theorem X_idiv {a b : Int32} (hd : decode (z_by M) pc = .ok (.idiv, 1)) : X d M pc L (.int b :: .int a :: st) h nx bc bs Q = (b ≠ 0 ∧ X d M (pc + 1) L (.int (a / b) :: st) h nx bc bs Q) := by
  by_cases q : b = 0
  · rw [X_N hd (by simp [z_A, z_A1, z_A2, z_A3, q]) rfl rfl rfl]; simp [q]
  · rw [X_A (pc' := pc + 1) (L' := L) (st' := .int (a / b) :: st) hd (by simp [z_A, z_A1, z_A2, z_A3, q])]; simp [q]
theorem X_irem {a b : Int32} (hd : decode (z_by M) pc = .ok (.irem, 1)) : X d M pc L (.int b :: .int a :: st) h nx bc bs Q = (b ≠ 0 ∧ X d M (pc + 1) L (.int (a - a / b * b) :: st) h nx bc bs Q) := by
  by_cases q : b = 0
  · rw [X_N hd (by simp [z_A, z_A1, z_A2, z_A3, q]) rfl rfl rfl]; simp [q]
  · rw [X_A (pc' := pc + 1) (L' := L) (st' := .int (a - a / b * b) :: st) hd (by simp [z_A, z_A1, z_A2, z_A3, q])]; simp [q]
theorem X_ldiv {a b : Int64} (hd : decode (z_by M) pc = .ok (.ldiv, 1)) : X d M pc L (.long b :: .long a :: st) h nx bc bs Q = (b ≠ 0 ∧ X d M (pc + 1) L (.long (a / b) :: st) h nx bc bs Q) := by
  by_cases q : b = 0
  · rw [X_N hd (by simp [z_A, z_A1, z_A2, z_A3, q]) rfl rfl rfl]; simp [q]
  · rw [X_A (pc' := pc + 1) (L' := L) (st' := .long (a / b) :: st) hd (by simp [z_A, z_A1, z_A2, z_A3, q])]; simp [q]
theorem X_lrem {a b : Int64} (hd : decode (z_by M) pc = .ok (.lrem, 1)) : X d M pc L (.long b :: .long a :: st) h nx bc bs Q = (b ≠ 0 ∧ X d M (pc + 1) L (.long (a - a / b * b) :: st) h nx bc bs Q) := by
  by_cases q : b = 0
  · rw [X_N hd (by simp [z_A, z_A1, z_A2, z_A3, q]) rfl rfl rfl]; simp [q]
  · rw [X_A (pc' := pc + 1) (L' := L) (st' := .long (a - a / b * b) :: st) hd (by simp [z_A, z_A1, z_A2, z_A3, q])]; simp [q]
theorem X_putf1 {v : Value} {a ci j t : Nat} {fin : Bool} (hd : decode (z_by M) pc = .ok (.putfield cp, 3)) (hf : z_f M cp = some (ci, j, t, fin)) (hi : fin = true → z_isI M = true ∧ ci = z_ow M) (hv : z_fit t v = true) : X d M pc L (v :: .ref a :: st) h nx bc bs Q = z_o (h a) ci (fun fs => X d M (pc + 3) L st (va_up h a (.inr (.inl (ci, va_up fs j v)))) nx bc bs Q) := by
  rw [X_putf hd hf hi]
  simp [hv]
theorem X_zret {v : Int32} (hd : decode (z_by M) pc = .ok (.ireturn, 1)) (hr : z_rt M = some .boolean) : X d M pc L [.int v] h nx bc bs Q = ((v = 0 ∨ v = 1) ∧ Q (some (.int v)) h nx) := by
  by_cases q : v = 0 ∨ v = 1
  · rw [X_R (r := some (.int v)) hd rfl rfl (by simp only [z_R, hr, if_true]; exact if_pos q)]; simp [q]
  · rw [X_N hd rfl rfl (by simp only [z_R, hr, if_true]; exact if_neg q) rfl]; simp [q]
theorem X_virt0 {M' n b : Nat} {Ar rest : List Value} (hd : decode (z_by M) pc = .ok (.invokevirtual cp, 3)) (hg : z_gc M cp = false) (hk : z_c M cp = some (M', 0, n)) (hn : Ar.length = n) (hl : rest.length ≤ 4) (hag : z_ag M' (.ref b :: Ar.reverse) = true) (h1 : z_mc M' = 0) (h2 : z_ms M' = 0) :
    X (d + 1) M pc L (Ar ++ .ref b :: rest) h nx bc bs Q = z_o (h b) (z_ow M') (fun _ => XC d M' (.ref b :: Ar.reverse) h nx (fun r h' nx' => X (d + 1) M (pc + 3) L (z_pu r rest) h' nx' bc bs Q)) := by
  rw [X_virt hd hg hk hn hl hag, h1, h2]
  simp only [Nat.zero_le, and_self, true_and, Nat.sub_zero]
theorem X_spec0 {M' n b : Nat} {Ar rest : List Value} (hd : decode (z_by M) pc = .ok (.invokespecial cp, 3)) (hg : z_oi M cp = false) (hk : z_c M cp = some (M', 2, n)) (hn : Ar.length = n) (hl : rest.length ≤ 4) (hag : z_ag M' (.ref b :: Ar.reverse) = true) (h1 : z_mc M' = 0) (h2 : z_ms M' = 0) :
    X (d + 1) M pc L (Ar ++ .ref b :: rest) h nx bc bs Q = XC d M' (.ref b :: Ar.reverse) h nx (fun r h' nx' => X (d + 1) M (pc + 3) L (z_pu r rest) h' nx' bc bs Q) := by
  rw [X_spec hd hg hk hn hl hag, h1, h2]
  simp only [Nat.zero_le, and_self, true_and, Nat.sub_zero]
theorem X_stat0 {M' n kd : Nat} {Ar rest : List Value} (hd : decode (z_by M) pc = .ok (.invokestatic cp, 3)) (hg : z_ac M cp = false) (hgX : z_mX M cp = false) (hgN : z_mN M cp = false) (hk : z_c M cp = some (M', kd, n)) (hkd : kd = 1 ∨ kd = 3) (hn : Ar.length = n) (hl : rest.length ≤ 4) (hag : z_ag M' Ar.reverse = true) (h1 : z_mc M' = 0) (h2 : z_ms M' = 0) :
    X (d + 1) M pc L (Ar ++ rest) h nx bc bs Q = XC d M' Ar.reverse h nx (fun r h' nx' => X (d + 1) M (pc + 3) L (z_pu r rest) h' nx' bc bs Q) := by
  rw [X_stat hd hg hgX hgN hk hkd hn hl hag, h1, h2]
  simp only [Nat.zero_le, and_self, true_and, Nat.sub_zero]
end Rules2
