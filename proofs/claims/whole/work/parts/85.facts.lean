/-! WHAT THE TABLES SAY of each entry that the small machine looks up: by program, a row an entry. -/
/-- the words that hold on: those of lw_tbl that are good -/
def s_tb : List Cond := lw_tbl.filter goodWord
theorem s_mem {w : Cond} (i : Nat) (h : lw_tbl[i]? = some w) (hg : goodWord w = true) : w ∈ s_tb := List.mem_filter.mpr ⟨List.mem_of_getElem? h, hg⟩
theorem s_lookup {β : Type} {a : Nat} {b : β} : ∀ {l : List (Nat × β)}, l.lookup a = some b → (a, b) ∈ l
  | [], h => by simp at h
  | (k, v) :: l, h => by
    rw [List.lookup_cons] at h
    cases hk : a == k with
    | true =>
      rw [hk] at h
      simp at h
      have e : a = k := by simpa using hk
      subst e; subst h
      exact List.mem_cons_self
    | false =>
      rw [hk] at h
      exact List.mem_cons_of_mem _ (s_lookup h)
def s_cq (ci : Nat) : vw_C := z_cl.getD ci ("", fun _ => ("", "", "", false), 0)
def s_nm (own : Nat) : String := z_cn.getD own ""
def s_tk (t : Nat) (ty : FieldType) : Bool := match t, ty with
  | 0, .int => true
  | 1, .boolean => true
  | 2, .object _ => true
  | 2, .array _ => true
  | _, _ => false
def s_fok (own : Nat) (e : Nat × Nat × Nat × Nat × Bool) : Prop := e.2.1 < 10 ∧ e.2.2.1 < (s_cq e.2.1).2.2 ∧ ((s_cq e.2.1).2.1 e.2.2.1).2.2.2 = e.2.2.2.2 ∧ (e.2.2.2.2 = true → e.2.1 = own → ((s_cq e.2.1).2.1 e.2.2.1).1 = s_nm own) ∧ s_tk e.2.2.2.1 (z_ty e.2.1 e.2.2.1) = true ∧
  ∃ ref, Cond.fieldLink (s_nm own) e.1 ref ((s_cq e.2.1).2.1 e.2.2.1).2.1 ((s_cq e.2.1).2.1 e.2.2.1).2.2.1 ∈ s_tb ∧ (ref = ((s_cq e.2.1).2.1 e.2.2.1).1 ∨ Cond.sameField ref ((s_cq e.2.1).2.1 e.2.2.1).1 ((s_cq e.2.1).2.1 e.2.2.1).2.1 ((s_cq e.2.1).2.1 e.2.2.1).2.2.1 ∈ s_tb)
def s_cok (own : Nat) (e : Nat × Nat × Nat × Nat) : Prop := e.2.1 < 169 ∧ (parseMethodDescriptor (z_my e.2.1).desc).map (fun d => d.parameters.length) = some e.2.2.2 ∧ (match e.2.2.1 with
  | 0 => Cond.methodLink (s_nm own) e.1 (z_my e.2.1) ∈ s_tb ∧ Cond.instanceMethod (z_my e.2.1) ∈ s_tb ∧ Cond.selects (z_my e.2.1).cls (z_my e.2.1) (z_my e.2.1) ∈ s_tb
  | 1 => Cond.methodLink (s_nm own) e.1 (z_my e.2.1) ∈ s_tb ∧ Cond.static (z_my e.2.1) ∈ s_tb
  | 2 => Cond.methodLink (s_nm own) e.1 (z_my e.2.1) ∈ s_tb ∧ Cond.instanceMethod (z_my e.2.1) ∈ s_tb ∧ (z_my e.2.1).name = "<init>" ∧ z_rt e.2.1 = none
  | _ => Cond.methodLinkNest (s_nm own) e.1 (z_my e.2.1) "VerseBench" ∈ lw_tbl ∧ Cond.static (z_my e.2.1) ∈ s_tb)
def s_math (M : Nat) : Bool := (z_my M).cls == "java/lang/Math"
def s_mok (M : Nat) : Prop := Cond.code (z_my M) (z_by M) (z_mx M) (z_rt M) ∈ s_tb ∧ Cond.initialized (z_my M).cls ∈ s_tb ∧ (s_math M = false → plainName (z_my M).cls = true) ∧ (z_my M).cls ≠ "java/lang/invoke/MethodHandle" ∧ (z_my M).cls ≠ "java/lang/invoke/VarHandle" ∧ s_nm (z_ow M) = (z_my M).cls
def s_kok (ci : Nat) : Prop := (∀ w ∈ u_ws (s_cq ci).1 (s_cq ci).2.1 (s_cq ci).2.2, w ∈ s_tb) ∧ (∀ k, k < (s_cq ci).2.2 → parseFieldDescriptor ((s_cq ci).2.1 k).2.2.1 = some (z_ty ci k)) ∧ (∀ a, a < (s_cq ci).2.2 → ∀ b, b < (s_cq ci).2.2 → a ≠ b → ((s_cq ci).2.1 a).2.1 ≠ ((s_cq ci).2.1 b).2.1) ∧ Cond.instantiable (s_cq ci).1 (s_cq ci).2.2 ∈ s_tb ∧ Cond.initialized (s_cq ci).1 ∈ s_tb ∧ Cond.castable (s_cq ci).1 "java/lang/Object" ∈ lw_tbl ∧ s_nm ci = (s_cq ci).1
theorem s_f0_9 : s_fok 0 (9, 0, 0, 2, true) := ⟨by decide, by decide, rfl, (fun _ _ => rfl), rfl, "VerseBench$Ear", s_mem 117 (by decide +kernel) rfl, Or.inl rfl⟩
theorem s_f0_15 : s_fok 0 (15, 0, 1, 0, false) := ⟨by decide, by decide, rfl, (fun h => by cases h), rfl, "VerseBench$Ear", s_mem 119 (by decide +kernel) rfl, Or.inl rfl⟩
theorem s_f0_19 : s_fok 0 (19, 0, 2, 2, false) := ⟨by decide, by decide, rfl, (fun h => by cases h), rfl, "VerseBench$Ear", s_mem 121 (by decide +kernel) rfl, Or.inl rfl⟩
theorem s_f0_22 : s_fok 0 (22, 0, 3, 2, false) := ⟨by decide, by decide, rfl, (fun h => by cases h), rfl, "VerseBench$Ear", s_mem 122 (by decide +kernel) rfl, Or.inl rfl⟩
theorem s_f0_25 : s_fok 0 (25, 3, 0, 0, true) := ⟨by decide, by decide, rfl, (fun _ h => by revert h; decide), rfl, "VerseBench$Saying", s_mem 369 (by decide +kernel) rfl, Or.inl rfl⟩
theorem s_f0_30 : s_fok 0 (30, 3, 1, 2, true) := ⟨by decide, by decide, rfl, (fun _ h => by revert h; decide), rfl, "VerseBench$Saying", s_mem 372 (by decide +kernel) rfl, Or.inl rfl⟩
theorem s_f0_33 : s_fok 0 (33, 6, 1, 2, true) := ⟨by decide, by decide, rfl, (fun _ h => by revert h; decide), rfl, "VerseBench$Word", s_mem 255 (by decide +kernel) rfl, Or.inl rfl⟩
theorem s_f0_62 : s_fok 0 (62, 3, 5, 0, true) := ⟨by decide, by decide, rfl, (fun _ h => by revert h; decide), rfl, "VerseBench$Saying", s_mem 382 (by decide +kernel) rfl, Or.inl rfl⟩
theorem s_f0_73 : s_fok 0 (73, 3, 7, 0, true) := ⟨by decide, by decide, rfl, (fun _ h => by revert h; decide), rfl, "VerseBench$Saying", s_mem 387 (by decide +kernel) rfl, Or.inl rfl⟩
theorem s_f0_80 : s_fok 0 (80, 3, 2, 0, true) := ⟨by decide, by decide, rfl, (fun _ h => by revert h; decide), rfl, "VerseBench$Saying", s_mem 375 (by decide +kernel) rfl, Or.inl rfl⟩
theorem s_f0_83 : s_fok 0 (83, 3, 8, 0, true) := ⟨by decide, by decide, rfl, (fun _ h => by revert h; decide), rfl, "VerseBench$Saying", s_mem 390 (by decide +kernel) rfl, Or.inl rfl⟩
theorem s_f0_86 : s_fok 0 (86, 3, 3, 2, true) := ⟨by decide, by decide, rfl, (fun _ h => by revert h; decide), rfl, "VerseBench$Saying", s_mem 378 (by decide +kernel) rfl, Or.inl rfl⟩
theorem s_f0_110 : s_fok 0 (110, 3, 9, 0, true) := ⟨by decide, by decide, rfl, (fun _ h => by revert h; decide), rfl, "VerseBench$Saying", s_mem 392 (by decide +kernel) rfl, Or.inl rfl⟩
theorem s_f0_113 : s_fok 0 (113, 3, 6, 0, true) := ⟨by decide, by decide, rfl, (fun _ h => by revert h; decide), rfl, "VerseBench$Saying", s_mem 385 (by decide +kernel) rfl, Or.inl rfl⟩
theorem s_f0_116 : s_fok 0 (116, 3, 10, 0, true) := ⟨by decide, by decide, rfl, (fun _ h => by revert h; decide), rfl, "VerseBench$Saying", s_mem 394 (by decide +kernel) rfl, Or.inl rfl⟩
theorem s_fo0 : ∀ e ∈ z_ft.getD 0 [], s_fok 0 e := List.forall_mem_cons.mpr ⟨s_f0_9, List.forall_mem_cons.mpr ⟨s_f0_15, List.forall_mem_cons.mpr ⟨s_f0_19, List.forall_mem_cons.mpr ⟨s_f0_22, List.forall_mem_cons.mpr ⟨s_f0_25, List.forall_mem_cons.mpr ⟨s_f0_30, List.forall_mem_cons.mpr ⟨s_f0_33, List.forall_mem_cons.mpr ⟨s_f0_62, List.forall_mem_cons.mpr ⟨s_f0_73, List.forall_mem_cons.mpr ⟨s_f0_80, List.forall_mem_cons.mpr ⟨s_f0_83, List.forall_mem_cons.mpr ⟨s_f0_86, List.forall_mem_cons.mpr ⟨s_f0_110, List.forall_mem_cons.mpr ⟨s_f0_113, List.forall_mem_cons.mpr ⟨s_f0_116, fun _ h => absurd h List.not_mem_nil⟩⟩⟩⟩⟩⟩⟩⟩⟩⟩⟩⟩⟩⟩⟩
theorem s_f1_9 : s_fok 1 (9, 1, 2, 2, true) := ⟨by decide, by decide, rfl, (fun _ _ => rfl), rfl, "VerseBench$Form", s_mem 187 (by decide +kernel) rfl, Or.inl rfl⟩
theorem s_f1_15 : s_fok 1 (15, 1, 3, 2, true) := ⟨by decide, by decide, rfl, (fun _ _ => rfl), rfl, "VerseBench$Form", s_mem 189 (by decide +kernel) rfl, Or.inl rfl⟩
theorem s_f1_18 : s_fok 1 (18, 1, 4, 2, true) := ⟨by decide, by decide, rfl, (fun _ _ => rfl), rfl, "VerseBench$Form", s_mem 191 (by decide +kernel) rfl, Or.inl rfl⟩
theorem s_f1_21 : s_fok 1 (21, 1, 5, 2, true) := ⟨by decide, by decide, rfl, (fun _ _ => rfl), rfl, "VerseBench$Form", s_mem 193 (by decide +kernel) rfl, Or.inl rfl⟩
theorem s_f1_24 : s_fok 1 (24, 1, 0, 0, false) := ⟨by decide, by decide, rfl, (fun h => by cases h), rfl, "VerseBench$Form", s_mem 183 (by decide +kernel) rfl, Or.inl rfl⟩
theorem s_f1_28 : s_fok 1 (28, 1, 1, 0, false) := ⟨by decide, by decide, rfl, (fun h => by cases h), rfl, "VerseBench$Form", s_mem 185 (by decide +kernel) rfl, Or.inl rfl⟩
theorem s_fo1 : ∀ e ∈ z_ft.getD 1 [], s_fok 1 e := List.forall_mem_cons.mpr ⟨s_f1_9, List.forall_mem_cons.mpr ⟨s_f1_15, List.forall_mem_cons.mpr ⟨s_f1_18, List.forall_mem_cons.mpr ⟨s_f1_21, List.forall_mem_cons.mpr ⟨s_f1_24, List.forall_mem_cons.mpr ⟨s_f1_28, fun _ h => absurd h List.not_mem_nil⟩⟩⟩⟩⟩⟩
theorem s_f2_9 : s_fok 2 (9, 2, 0, 0, true) := ⟨by decide, by decide, rfl, (fun _ _ => rfl), rfl, "VerseBench$Line", s_mem 576 (by decide +kernel) rfl, Or.inl rfl⟩
theorem s_f2_15 : s_fok 2 (15, 2, 1, 2, true) := ⟨by decide, by decide, rfl, (fun _ _ => rfl), rfl, "VerseBench$Line", s_mem 578 (by decide +kernel) rfl, Or.inl rfl⟩
theorem s_fo2 : ∀ e ∈ z_ft.getD 2 [], s_fok 2 e := List.forall_mem_cons.mpr ⟨s_f2_9, List.forall_mem_cons.mpr ⟨s_f2_15, fun _ h => absurd h List.not_mem_nil⟩⟩
theorem s_f3_9 : s_fok 3 (9, 3, 0, 0, true) := ⟨by decide, by decide, rfl, (fun _ _ => rfl), rfl, "VerseBench$Saying", s_mem 368 (by decide +kernel) rfl, Or.inl rfl⟩
theorem s_f3_15 : s_fok 3 (15, 3, 1, 2, true) := ⟨by decide, by decide, rfl, (fun _ _ => rfl), rfl, "VerseBench$Saying", s_mem 371 (by decide +kernel) rfl, Or.inl rfl⟩
theorem s_f3_19 : s_fok 3 (19, 3, 3, 2, true) := ⟨by decide, by decide, rfl, (fun _ _ => rfl), rfl, "VerseBench$Saying", s_mem 377 (by decide +kernel) rfl, Or.inl rfl⟩
theorem s_f3_22 : s_fok 3 (22, 3, 4, 2, true) := ⟨by decide, by decide, rfl, (fun _ _ => rfl), rfl, "VerseBench$Saying", s_mem 379 (by decide +kernel) rfl, Or.inl rfl⟩
theorem s_f3_33 : s_fok 3 (33, 3, 2, 0, true) := ⟨by decide, by decide, rfl, (fun _ _ => rfl), rfl, "VerseBench$Saying", s_mem 373 (by decide +kernel) rfl, Or.inl rfl⟩
theorem s_f3_36 : s_fok 3 (36, 3, 5, 0, true) := ⟨by decide, by decide, rfl, (fun _ _ => rfl), rfl, "VerseBench$Saying", s_mem 381 (by decide +kernel) rfl, Or.inl rfl⟩
theorem s_f3_39 : s_fok 3 (39, 3, 6, 0, true) := ⟨by decide, by decide, rfl, (fun _ _ => rfl), rfl, "VerseBench$Saying", s_mem 383 (by decide +kernel) rfl, Or.inl rfl⟩
theorem s_f3_42 : s_fok 3 (42, 3, 7, 0, true) := ⟨by decide, by decide, rfl, (fun _ _ => rfl), rfl, "VerseBench$Saying", s_mem 386 (by decide +kernel) rfl, Or.inl rfl⟩
theorem s_f3_45 : s_fok 3 (45, 3, 8, 0, true) := ⟨by decide, by decide, rfl, (fun _ _ => rfl), rfl, "VerseBench$Saying", s_mem 389 (by decide +kernel) rfl, Or.inl rfl⟩
theorem s_f3_48 : s_fok 3 (48, 3, 9, 0, true) := ⟨by decide, by decide, rfl, (fun _ _ => rfl), rfl, "VerseBench$Saying", s_mem 391 (by decide +kernel) rfl, Or.inl rfl⟩
theorem s_f3_51 : s_fok 3 (51, 3, 10, 0, true) := ⟨by decide, by decide, rfl, (fun _ _ => rfl), rfl, "VerseBench$Saying", s_mem 393 (by decide +kernel) rfl, Or.inl rfl⟩
theorem s_fo3 : ∀ e ∈ z_ft.getD 3 [], s_fok 3 e := List.forall_mem_cons.mpr ⟨s_f3_9, List.forall_mem_cons.mpr ⟨s_f3_15, List.forall_mem_cons.mpr ⟨s_f3_19, List.forall_mem_cons.mpr ⟨s_f3_22, List.forall_mem_cons.mpr ⟨s_f3_33, List.forall_mem_cons.mpr ⟨s_f3_36, List.forall_mem_cons.mpr ⟨s_f3_39, List.forall_mem_cons.mpr ⟨s_f3_42, List.forall_mem_cons.mpr ⟨s_f3_45, List.forall_mem_cons.mpr ⟨s_f3_48, List.forall_mem_cons.mpr ⟨s_f3_51, fun _ h => absurd h List.not_mem_nil⟩⟩⟩⟩⟩⟩⟩⟩⟩⟩⟩
theorem s_f4_9 : s_fok 4 (9, 4, 1, 2, true) := ⟨by decide, by decide, rfl, (fun _ _ => rfl), rfl, "VerseBench$Scansion", s_mem 156 (by decide +kernel) rfl, Or.inl rfl⟩
theorem s_f4_15 : s_fok 4 (15, 4, 0, 0, false) := ⟨by decide, by decide, rfl, (fun h => by cases h), rfl, "VerseBench$Scansion", s_mem 154 (by decide +kernel) rfl, Or.inl rfl⟩
theorem s_f4_19 : s_fok 4 (19, 4, 2, 1, false) := ⟨by decide, by decide, rfl, (fun h => by cases h), rfl, "VerseBench$Scansion", s_mem 157 (by decide +kernel) rfl, Or.inl rfl⟩
theorem s_f4_26 : s_fok 4 (26, 4, 3, 2, false) := ⟨by decide, by decide, rfl, (fun h => by cases h), rfl, "VerseBench$Scansion", s_mem 158 (by decide +kernel) rfl, Or.inl rfl⟩
theorem s_f4_30 : s_fok 4 (30, 4, 4, 2, false) := ⟨by decide, by decide, rfl, (fun h => by cases h), rfl, "VerseBench$Scansion", s_mem 159 (by decide +kernel) rfl, Or.inl rfl⟩
theorem s_f4_33 : s_fok 4 (33, 4, 5, 2, false) := ⟨by decide, by decide, rfl, (fun h => by cases h), rfl, "VerseBench$Scansion", s_mem 160 (by decide +kernel) rfl, Or.inl rfl⟩
theorem s_f4_36 : s_fok 4 (36, 4, 6, 2, false) := ⟨by decide, by decide, rfl, (fun h => by cases h), rfl, "VerseBench$Scansion", s_mem 161 (by decide +kernel) rfl, Or.inl rfl⟩
theorem s_f4_55 : s_fok 4 (55, 6, 1, 2, true) := ⟨by decide, by decide, rfl, (fun _ h => by revert h; decide), rfl, "VerseBench$Word", s_mem 257 (by decide +kernel) rfl, Or.inl rfl⟩
theorem s_f4_76 : s_fok 4 (76, 3, 2, 0, true) := ⟨by decide, by decide, rfl, (fun _ h => by revert h; decide), rfl, "VerseBench$Saying", s_mem 374 (by decide +kernel) rfl, Or.inl rfl⟩
theorem s_f4_79 : s_fok 4 (79, 3, 4, 2, true) := ⟨by decide, by decide, rfl, (fun _ h => by revert h; decide), rfl, "VerseBench$Saying", s_mem 380 (by decide +kernel) rfl, Or.inl rfl⟩
theorem s_f4_89 : s_fok 4 (89, 5, 0, 2, true) := ⟨by decide, by decide, rfl, (fun _ h => by revert h; decide), rfl, "VerseBench$Stage", s_mem 146 (by decide +kernel) rfl, Or.inl rfl⟩
theorem s_f4_96 : s_fok 4 (96, 5, 1, 2, true) := ⟨by decide, by decide, rfl, (fun _ h => by revert h; decide), rfl, "VerseBench$Stage", s_mem 148 (by decide +kernel) rfl, Or.inl rfl⟩
theorem s_fo4 : ∀ e ∈ z_ft.getD 4 [], s_fok 4 e := List.forall_mem_cons.mpr ⟨s_f4_9, List.forall_mem_cons.mpr ⟨s_f4_15, List.forall_mem_cons.mpr ⟨s_f4_19, List.forall_mem_cons.mpr ⟨s_f4_26, List.forall_mem_cons.mpr ⟨s_f4_30, List.forall_mem_cons.mpr ⟨s_f4_33, List.forall_mem_cons.mpr ⟨s_f4_36, List.forall_mem_cons.mpr ⟨s_f4_55, List.forall_mem_cons.mpr ⟨s_f4_76, List.forall_mem_cons.mpr ⟨s_f4_79, List.forall_mem_cons.mpr ⟨s_f4_89, List.forall_mem_cons.mpr ⟨s_f4_96, fun _ h => absurd h List.not_mem_nil⟩⟩⟩⟩⟩⟩⟩⟩⟩⟩⟩⟩
theorem s_f5_11 : s_fok 5 (11, 5, 0, 2, true) := ⟨by decide, by decide, rfl, (fun _ _ => rfl), rfl, "VerseBench$Stage", s_mem 145 (by decide +kernel) rfl, Or.inl rfl⟩
theorem s_f5_15 : s_fok 5 (15, 5, 1, 2, true) := ⟨by decide, by decide, rfl, (fun _ _ => rfl), rfl, "VerseBench$Stage", s_mem 147 (by decide +kernel) rfl, Or.inl rfl⟩
theorem s_fo5 : ∀ e ∈ z_ft.getD 5 [], s_fok 5 e := List.forall_mem_cons.mpr ⟨s_f5_11, List.forall_mem_cons.mpr ⟨s_f5_15, fun _ h => absurd h List.not_mem_nil⟩⟩
theorem s_f6_9 : s_fok 6 (9, 6, 0, 0, true) := ⟨by decide, by decide, rfl, (fun _ _ => rfl), rfl, "VerseBench$Word", s_mem 252 (by decide +kernel) rfl, Or.inl rfl⟩
theorem s_f6_18 : s_fok 6 (18, 6, 1, 2, true) := ⟨by decide, by decide, rfl, (fun _ _ => rfl), rfl, "VerseBench$Word", s_mem 254 (by decide +kernel) rfl, Or.inl rfl⟩
theorem s_f6_22 : s_fok 6 (22, 6, 2, 2, true) := ⟨by decide, by decide, rfl, (fun _ _ => rfl), rfl, "VerseBench$Word", s_mem 258 (by decide +kernel) rfl, Or.inl rfl⟩
theorem s_f6_26 : s_fok 6 (26, 6, 3, 0, false) := ⟨by decide, by decide, rfl, (fun h => by cases h), rfl, "VerseBench$Word", s_mem 260 (by decide +kernel) rfl, Or.inl rfl⟩
theorem s_fo6 : ∀ e ∈ z_ft.getD 6 [], s_fok 6 e := List.forall_mem_cons.mpr ⟨s_f6_9, List.forall_mem_cons.mpr ⟨s_f6_18, List.forall_mem_cons.mpr ⟨s_f6_22, List.forall_mem_cons.mpr ⟨s_f6_26, fun _ h => absurd h List.not_mem_nil⟩⟩⟩⟩
theorem s_f7_10 : s_fok 7 (10, 7, 0, 2, true) := ⟨by decide, by decide, rfl, (fun _ _ => rfl), rfl, "VerseBench", s_mem 208 (by decide +kernel) rfl, Or.inl rfl⟩
theorem s_f7_16 : s_fok 7 (16, 7, 1, 2, true) := ⟨by decide, by decide, rfl, (fun _ _ => rfl), rfl, "VerseBench", s_mem 209 (by decide +kernel) rfl, Or.inl rfl⟩
theorem s_f7_22 : s_fok 7 (22, 7, 2, 2, true) := ⟨by decide, by decide, rfl, (fun _ _ => rfl), rfl, "VerseBench", s_mem 210 (by decide +kernel) rfl, Or.inl rfl⟩
theorem s_f7_29 : s_fok 7 (29, 7, 3, 2, true) := ⟨by decide, by decide, rfl, (fun _ _ => rfl), rfl, "VerseBench", s_mem 211 (by decide +kernel) rfl, Or.inl rfl⟩
theorem s_f7_36 : s_fok 7 (36, 7, 4, 2, true) := ⟨by decide, by decide, rfl, (fun _ _ => rfl), rfl, "VerseBench", s_mem 212 (by decide +kernel) rfl, Or.inl rfl⟩
theorem s_f7_40 : s_fok 7 (40, 7, 5, 2, true) := ⟨by decide, by decide, rfl, (fun _ _ => rfl), rfl, "VerseBench", s_mem 213 (by decide +kernel) rfl, Or.inl rfl⟩
theorem s_f7_44 : s_fok 7 (44, 7, 6, 2, true) := ⟨by decide, by decide, rfl, (fun _ _ => rfl), rfl, "VerseBench", s_mem 214 (by decide +kernel) rfl, Or.inl rfl⟩
theorem s_f7_47 : s_fok 7 (47, 7, 7, 2, true) := ⟨by decide, by decide, rfl, (fun _ _ => rfl), rfl, "VerseBench", s_mem 215 (by decide +kernel) rfl, Or.inl rfl⟩
theorem s_f7_50 : s_fok 7 (50, 7, 8, 0, false) := ⟨by decide, by decide, rfl, (fun h => by cases h), rfl, "VerseBench", s_mem 216 (by decide +kernel) rfl, Or.inl rfl⟩
theorem s_f7_75 : s_fok 7 (75, 6, 1, 2, true) := ⟨by decide, by decide, rfl, (fun _ h => by revert h; decide), rfl, "VerseBench$Word", s_mem 256 (by decide +kernel) rfl, Or.inl rfl⟩
theorem s_f7_83 : s_fok 7 (83, 6, 2, 2, true) := ⟨by decide, by decide, rfl, (fun _ h => by revert h; decide), rfl, "VerseBench$Word", s_mem 259 (by decide +kernel) rfl, Or.inl rfl⟩
theorem s_f7_93 : s_fok 7 (93, 6, 3, 0, false) := ⟨by decide, by decide, rfl, (fun h => by cases h), rfl, "VerseBench$Word", s_mem 261 (by decide +kernel) rfl, Or.inl rfl⟩
theorem s_f7_106 : s_fok 7 (106, 0, 0, 2, true) := ⟨by decide, by decide, rfl, (fun _ h => by revert h; decide), rfl, "VerseBench$Ear", s_mem 118 (by decide +kernel) rfl, Or.inl rfl⟩
theorem s_f7_113 : s_fok 7 (113, 3, 0, 0, true) := ⟨by decide, by decide, rfl, (fun _ h => by revert h; decide), rfl, "VerseBench$Saying", s_mem 370 (by decide +kernel) rfl, Or.inl rfl⟩
theorem s_f7_115 : s_fok 7 (115, 3, 2, 0, true) := ⟨by decide, by decide, rfl, (fun _ h => by revert h; decide), rfl, "VerseBench$Saying", s_mem 376 (by decide +kernel) rfl, Or.inl rfl⟩
theorem s_f7_118 : s_fok 7 (118, 3, 7, 0, true) := ⟨by decide, by decide, rfl, (fun _ h => by revert h; decide), rfl, "VerseBench$Saying", s_mem 388 (by decide +kernel) rfl, Or.inl rfl⟩
theorem s_f7_121 : s_fok 7 (121, 3, 6, 0, true) := ⟨by decide, by decide, rfl, (fun _ h => by revert h; decide), rfl, "VerseBench$Saying", s_mem 384 (by decide +kernel) rfl, Or.inl rfl⟩
theorem s_f7_128 : s_fok 7 (128, 0, 1, 0, false) := ⟨by decide, by decide, rfl, (fun h => by cases h), rfl, "VerseBench$Ear", s_mem 120 (by decide +kernel) rfl, Or.inl rfl⟩
theorem s_f7_171 : s_fok 7 (171, 2, 0, 0, true) := ⟨by decide, by decide, rfl, (fun _ h => by revert h; decide), rfl, "VerseBench$Line", s_mem 577 (by decide +kernel) rfl, Or.inl rfl⟩
theorem s_f7_172 : s_fok 7 (172, 2, 1, 2, true) := ⟨by decide, by decide, rfl, (fun _ h => by revert h; decide), rfl, "VerseBench$Line", s_mem 579 (by decide +kernel) rfl, Or.inl rfl⟩
theorem s_f7_183 : s_fok 7 (183, 6, 0, 0, true) := ⟨by decide, by decide, rfl, (fun _ h => by revert h; decide), rfl, "VerseBench$Word", s_mem 253 (by decide +kernel) rfl, Or.inl rfl⟩
theorem s_f7_192 : s_fok 7 (192, 1, 2, 2, true) := ⟨by decide, by decide, rfl, (fun _ h => by revert h; decide), rfl, "VerseBench$Form", s_mem 188 (by decide +kernel) rfl, Or.inl rfl⟩
theorem s_f7_195 : s_fok 7 (195, 1, 3, 2, true) := ⟨by decide, by decide, rfl, (fun _ h => by revert h; decide), rfl, "VerseBench$Form", s_mem 190 (by decide +kernel) rfl, Or.inl rfl⟩
theorem s_f7_198 : s_fok 7 (198, 1, 1, 0, false) := ⟨by decide, by decide, rfl, (fun h => by cases h), rfl, "VerseBench$Form", s_mem 186 (by decide +kernel) rfl, Or.inl rfl⟩
theorem s_f7_201 : s_fok 7 (201, 1, 4, 2, true) := ⟨by decide, by decide, rfl, (fun _ h => by revert h; decide), rfl, "VerseBench$Form", s_mem 192 (by decide +kernel) rfl, Or.inl rfl⟩
theorem s_f7_207 : s_fok 7 (207, 1, 0, 0, false) := ⟨by decide, by decide, rfl, (fun h => by cases h), rfl, "VerseBench$Form", s_mem 184 (by decide +kernel) rfl, Or.inl rfl⟩
theorem s_f7_216 : s_fok 7 (216, 1, 5, 2, true) := ⟨by decide, by decide, rfl, (fun _ h => by revert h; decide), rfl, "VerseBench$Form", s_mem 194 (by decide +kernel) rfl, Or.inl rfl⟩
theorem s_f7_222 : s_fok 7 (222, 4, 0, 0, false) := ⟨by decide, by decide, rfl, (fun h => by cases h), rfl, "VerseBench$Scansion", s_mem 155 (by decide +kernel) rfl, Or.inl rfl⟩
theorem s_fo7 : ∀ e ∈ z_ft.getD 7 [], s_fok 7 e := List.forall_mem_cons.mpr ⟨s_f7_10, List.forall_mem_cons.mpr ⟨s_f7_16, List.forall_mem_cons.mpr ⟨s_f7_22, List.forall_mem_cons.mpr ⟨s_f7_29, List.forall_mem_cons.mpr ⟨s_f7_36, List.forall_mem_cons.mpr ⟨s_f7_40, List.forall_mem_cons.mpr ⟨s_f7_44, List.forall_mem_cons.mpr ⟨s_f7_47, List.forall_mem_cons.mpr ⟨s_f7_50, List.forall_mem_cons.mpr ⟨s_f7_75, List.forall_mem_cons.mpr ⟨s_f7_83, List.forall_mem_cons.mpr ⟨s_f7_93, List.forall_mem_cons.mpr ⟨s_f7_106, List.forall_mem_cons.mpr ⟨s_f7_113, List.forall_mem_cons.mpr ⟨s_f7_115, List.forall_mem_cons.mpr ⟨s_f7_118, List.forall_mem_cons.mpr ⟨s_f7_121, List.forall_mem_cons.mpr ⟨s_f7_128, List.forall_mem_cons.mpr ⟨s_f7_171, List.forall_mem_cons.mpr ⟨s_f7_172, List.forall_mem_cons.mpr ⟨s_f7_183, List.forall_mem_cons.mpr ⟨s_f7_192, List.forall_mem_cons.mpr ⟨s_f7_195, List.forall_mem_cons.mpr ⟨s_f7_198, List.forall_mem_cons.mpr ⟨s_f7_201, List.forall_mem_cons.mpr ⟨s_f7_207, List.forall_mem_cons.mpr ⟨s_f7_216, List.forall_mem_cons.mpr ⟨s_f7_222, fun _ h => absurd h List.not_mem_nil⟩⟩⟩⟩⟩⟩⟩⟩⟩⟩⟩⟩⟩⟩⟩⟩⟩⟩⟩⟩⟩⟩⟩⟩⟩⟩⟩⟩
theorem s_f8_7 : s_fok 8 (7, 8, 2, 2, true) := ⟨by decide, by decide, rfl, (fun _ _ => rfl), rfl, "VerseBenchModel", s_mem 758 (by decide +kernel) rfl, Or.inl rfl⟩
theorem s_f8_13 : s_fok 8 (13, 8, 3, 2, true) := ⟨by decide, by decide, rfl, (fun _ _ => rfl), rfl, "VerseBenchModel", s_mem 759 (by decide +kernel) rfl, Or.inl rfl⟩
theorem s_f8_16 : s_fok 8 (16, 8, 4, 2, true) := ⟨by decide, by decide, rfl, (fun _ _ => rfl), rfl, "VerseBenchModel", s_mem 760 (by decide +kernel) rfl, Or.inl rfl⟩
theorem s_f8_19 : s_fok 8 (19, 8, 5, 2, true) := ⟨by decide, by decide, rfl, (fun _ _ => rfl), rfl, "VerseBenchModel", s_mem 761 (by decide +kernel) rfl, Or.inl rfl⟩
theorem s_f8_22 : s_fok 8 (22, 8, 6, 2, true) := ⟨by decide, by decide, rfl, (fun _ _ => rfl), rfl, "VerseBenchModel", s_mem 762 (by decide +kernel) rfl, Or.inl rfl⟩
theorem s_f8_25 : s_fok 8 (25, 8, 7, 2, true) := ⟨by decide, by decide, rfl, (fun _ _ => rfl), rfl, "VerseBenchModel", s_mem 763 (by decide +kernel) rfl, Or.inl rfl⟩
theorem s_f8_28 : s_fok 8 (28, 8, 8, 2, true) := ⟨by decide, by decide, rfl, (fun _ _ => rfl), rfl, "VerseBenchModel", s_mem 764 (by decide +kernel) rfl, Or.inl rfl⟩
theorem s_f8_31 : s_fok 8 (31, 8, 9, 2, true) := ⟨by decide, by decide, rfl, (fun _ _ => rfl), rfl, "VerseBenchModel", s_mem 765 (by decide +kernel) rfl, Or.inl rfl⟩
theorem s_f8_34 : s_fok 8 (34, 8, 10, 0, false) := ⟨by decide, by decide, rfl, (fun h => by cases h), rfl, "VerseBenchModel", s_mem 766 (by decide +kernel) rfl, Or.inl rfl⟩
theorem s_f8_38 : s_fok 8 (38, 8, 11, 0, false) := ⟨by decide, by decide, rfl, (fun h => by cases h), rfl, "VerseBenchModel", s_mem 767 (by decide +kernel) rfl, Or.inl rfl⟩
theorem s_f8_41 : s_fok 8 (41, 8, 12, 2, true) := ⟨by decide, by decide, rfl, (fun _ _ => rfl), rfl, "VerseBenchModel", s_mem 768 (by decide +kernel) rfl, Or.inl rfl⟩
theorem s_f8_44 : s_fok 8 (44, 8, 14, 2, true) := ⟨by decide, by decide, rfl, (fun _ _ => rfl), rfl, "VerseBenchModel", s_mem 770 (by decide +kernel) rfl, Or.inl rfl⟩
theorem s_f8_47 : s_fok 8 (47, 8, 15, 2, true) := ⟨by decide, by decide, rfl, (fun _ _ => rfl), rfl, "VerseBenchModel", s_mem 771 (by decide +kernel) rfl, Or.inl rfl⟩
theorem s_f8_50 : s_fok 8 (50, 8, 17, 2, true) := ⟨by decide, by decide, rfl, (fun _ _ => rfl), rfl, "VerseBenchModel", s_mem 773 (by decide +kernel) rfl, Or.inl rfl⟩
theorem s_f8_53 : s_fok 8 (53, 8, 18, 2, true) := ⟨by decide, by decide, rfl, (fun _ _ => rfl), rfl, "VerseBenchModel", s_mem 774 (by decide +kernel) rfl, Or.inl rfl⟩
theorem s_f8_56 : s_fok 8 (56, 8, 20, 2, true) := ⟨by decide, by decide, rfl, (fun _ _ => rfl), rfl, "VerseBenchModel", s_mem 776 (by decide +kernel) rfl, Or.inl rfl⟩
theorem s_f8_59 : s_fok 8 (59, 8, 21, 2, true) := ⟨by decide, by decide, rfl, (fun _ _ => rfl), rfl, "VerseBenchModel", s_mem 777 (by decide +kernel) rfl, Or.inl rfl⟩
theorem s_f8_62 : s_fok 8 (62, 8, 22, 2, true) := ⟨by decide, by decide, rfl, (fun _ _ => rfl), rfl, "VerseBenchModel", s_mem 778 (by decide +kernel) rfl, Or.inl rfl⟩
theorem s_f8_65 : s_fok 8 (65, 8, 23, 2, true) := ⟨by decide, by decide, rfl, (fun _ _ => rfl), rfl, "VerseBenchModel", s_mem 779 (by decide +kernel) rfl, Or.inl rfl⟩
theorem s_f8_68 : s_fok 8 (68, 8, 24, 2, true) := ⟨by decide, by decide, rfl, (fun _ _ => rfl), rfl, "VerseBenchModel", s_mem 780 (by decide +kernel) rfl, Or.inl rfl⟩
theorem s_f8_71 : s_fok 8 (71, 8, 25, 2, true) := ⟨by decide, by decide, rfl, (fun _ _ => rfl), rfl, "VerseBenchModel", s_mem 781 (by decide +kernel) rfl, Or.inl rfl⟩
theorem s_f8_74 : s_fok 8 (74, 8, 26, 2, true) := ⟨by decide, by decide, rfl, (fun _ _ => rfl), rfl, "VerseBenchModel", s_mem 782 (by decide +kernel) rfl, Or.inl rfl⟩
theorem s_f8_77 : s_fok 8 (77, 8, 27, 2, true) := ⟨by decide, by decide, rfl, (fun _ _ => rfl), rfl, "VerseBenchModel", s_mem 783 (by decide +kernel) rfl, Or.inl rfl⟩
theorem s_f8_80 : s_fok 8 (80, 8, 28, 2, true) := ⟨by decide, by decide, rfl, (fun _ _ => rfl), rfl, "VerseBenchModel", s_mem 784 (by decide +kernel) rfl, Or.inl rfl⟩
theorem s_f8_83 : s_fok 8 (83, 8, 29, 2, true) := ⟨by decide, by decide, rfl, (fun _ _ => rfl), rfl, "VerseBenchModel", s_mem 785 (by decide +kernel) rfl, Or.inl rfl⟩
theorem s_f8_86 : s_fok 8 (86, 8, 30, 2, true) := ⟨by decide, by decide, rfl, (fun _ _ => rfl), rfl, "VerseBenchModel", s_mem 786 (by decide +kernel) rfl, Or.inl rfl⟩
theorem s_f8_89 : s_fok 8 (89, 8, 31, 2, true) := ⟨by decide, by decide, rfl, (fun _ _ => rfl), rfl, "VerseBenchModel", s_mem 787 (by decide +kernel) rfl, Or.inl rfl⟩
theorem s_f8_92 : s_fok 8 (92, 8, 32, 2, true) := ⟨by decide, by decide, rfl, (fun _ _ => rfl), rfl, "VerseBenchModel", s_mem 788 (by decide +kernel) rfl, Or.inl rfl⟩
theorem s_f8_95 : s_fok 8 (95, 8, 33, 2, true) := ⟨by decide, by decide, rfl, (fun _ _ => rfl), rfl, "VerseBenchModel", s_mem 789 (by decide +kernel) rfl, Or.inl rfl⟩
theorem s_f8_98 : s_fok 8 (98, 8, 34, 2, true) := ⟨by decide, by decide, rfl, (fun _ _ => rfl), rfl, "VerseBenchModel", s_mem 790 (by decide +kernel) rfl, Or.inl rfl⟩
theorem s_f8_101 : s_fok 8 (101, 8, 35, 2, true) := ⟨by decide, by decide, rfl, (fun _ _ => rfl), rfl, "VerseBenchModel", s_mem 791 (by decide +kernel) rfl, Or.inl rfl⟩
theorem s_f8_104 : s_fok 8 (104, 8, 38, 2, true) := ⟨by decide, by decide, rfl, (fun _ _ => rfl), rfl, "VerseBenchModel", s_mem 794 (by decide +kernel) rfl, Or.inl rfl⟩
theorem s_f8_108 : s_fok 8 (108, 8, 0, 0, false) := ⟨by decide, by decide, rfl, (fun h => by cases h), rfl, "VerseBenchModel", s_mem 756 (by decide +kernel) rfl, Or.inl rfl⟩
theorem s_f8_111 : s_fok 8 (111, 8, 1, 0, false) := ⟨by decide, by decide, rfl, (fun h => by cases h), rfl, "VerseBenchModel", s_mem 757 (by decide +kernel) rfl, Or.inl rfl⟩
theorem s_f8_214 : s_fok 8 (214, 8, 13, 0, false) := ⟨by decide, by decide, rfl, (fun h => by cases h), rfl, "VerseBenchModel", s_mem 769 (by decide +kernel) rfl, Or.inl rfl⟩
theorem s_f8_233 : s_fok 8 (233, 8, 36, 0, false) := ⟨by decide, by decide, rfl, (fun h => by cases h), rfl, "VerseBenchModel", s_mem 792 (by decide +kernel) rfl, Or.inl rfl⟩
theorem s_f8_236 : s_fok 8 (236, 8, 37, 0, false) := ⟨by decide, by decide, rfl, (fun h => by cases h), rfl, "VerseBenchModel", s_mem 793 (by decide +kernel) rfl, Or.inl rfl⟩
theorem s_f8_244 : s_fok 8 (244, 8, 16, 0, false) := ⟨by decide, by decide, rfl, (fun h => by cases h), rfl, "VerseBenchModel", s_mem 772 (by decide +kernel) rfl, Or.inl rfl⟩
theorem s_f8_247 : s_fok 8 (247, 8, 19, 1, false) := ⟨by decide, by decide, rfl, (fun h => by cases h), rfl, "VerseBenchModel", s_mem 775 (by decide +kernel) rfl, Or.inl rfl⟩
theorem s_f8_273 : s_fok 8 (273, 8, 40, 1, false) := ⟨by decide, by decide, rfl, (fun h => by cases h), rfl, "VerseBenchModel", s_mem 796 (by decide +kernel) rfl, Or.inl rfl⟩
theorem s_f8_276 : s_fok 8 (276, 8, 39, 0, false) := ⟨by decide, by decide, rfl, (fun h => by cases h), rfl, "VerseBenchModel", s_mem 795 (by decide +kernel) rfl, Or.inl rfl⟩
theorem s_fo8 : ∀ e ∈ z_ft.getD 8 [], s_fok 8 e := List.forall_mem_cons.mpr ⟨s_f8_7, List.forall_mem_cons.mpr ⟨s_f8_13, List.forall_mem_cons.mpr ⟨s_f8_16, List.forall_mem_cons.mpr ⟨s_f8_19, List.forall_mem_cons.mpr ⟨s_f8_22, List.forall_mem_cons.mpr ⟨s_f8_25, List.forall_mem_cons.mpr ⟨s_f8_28, List.forall_mem_cons.mpr ⟨s_f8_31, List.forall_mem_cons.mpr ⟨s_f8_34, List.forall_mem_cons.mpr ⟨s_f8_38, List.forall_mem_cons.mpr ⟨s_f8_41, List.forall_mem_cons.mpr ⟨s_f8_44, List.forall_mem_cons.mpr ⟨s_f8_47, List.forall_mem_cons.mpr ⟨s_f8_50, List.forall_mem_cons.mpr ⟨s_f8_53, List.forall_mem_cons.mpr ⟨s_f8_56, List.forall_mem_cons.mpr ⟨s_f8_59, List.forall_mem_cons.mpr ⟨s_f8_62, List.forall_mem_cons.mpr ⟨s_f8_65, List.forall_mem_cons.mpr ⟨s_f8_68, List.forall_mem_cons.mpr ⟨s_f8_71, List.forall_mem_cons.mpr ⟨s_f8_74, List.forall_mem_cons.mpr ⟨s_f8_77, List.forall_mem_cons.mpr ⟨s_f8_80, List.forall_mem_cons.mpr ⟨s_f8_83, List.forall_mem_cons.mpr ⟨s_f8_86, List.forall_mem_cons.mpr ⟨s_f8_89, List.forall_mem_cons.mpr ⟨s_f8_92, List.forall_mem_cons.mpr ⟨s_f8_95, List.forall_mem_cons.mpr ⟨s_f8_98, List.forall_mem_cons.mpr ⟨s_f8_101, List.forall_mem_cons.mpr ⟨s_f8_104, List.forall_mem_cons.mpr ⟨s_f8_108, List.forall_mem_cons.mpr ⟨s_f8_111, List.forall_mem_cons.mpr ⟨s_f8_214, List.forall_mem_cons.mpr ⟨s_f8_233, List.forall_mem_cons.mpr ⟨s_f8_236, List.forall_mem_cons.mpr ⟨s_f8_244, List.forall_mem_cons.mpr ⟨s_f8_247, List.forall_mem_cons.mpr ⟨s_f8_273, List.forall_mem_cons.mpr ⟨s_f8_276, fun _ h => absurd h List.not_mem_nil⟩⟩⟩⟩⟩⟩⟩⟩⟩⟩⟩⟩⟩⟩⟩⟩⟩⟩⟩⟩⟩⟩⟩⟩⟩⟩⟩⟩⟩⟩⟩⟩⟩⟩⟩⟩⟩⟩⟩⟩⟩
theorem s_f9_9 : s_fok 9 (9, 9, 1, 2, false) := ⟨by decide, by decide, rfl, (fun h => by cases h), rfl, "java/util/ArrayList", s_mem 99 (by decide +kernel) rfl, Or.inl rfl⟩
theorem s_f9_48 : s_fok 9 (48, 9, 2, 0, false) := ⟨by decide, by decide, rfl, (fun h => by cases h), rfl, "java/util/ArrayList", s_mem 100 (by decide +kernel) rfl, Or.inl rfl⟩
theorem s_f9_63 : s_fok 9 (63, 9, 0, 0, false) := ⟨by decide, by decide, rfl, (fun h => by cases h), rfl, "java/util/ArrayList", s_mem 102 (by decide +kernel) rfl, Or.inr (s_mem 103 (by decide +kernel) rfl)⟩
theorem s_fo9 : ∀ e ∈ z_ft.getD 9 [], s_fok 9 e := List.forall_mem_cons.mpr ⟨s_f9_9, List.forall_mem_cons.mpr ⟨s_f9_48, List.forall_mem_cons.mpr ⟨s_f9_63, fun _ h => absurd h List.not_mem_nil⟩⟩⟩
theorem s_fo10 : ∀ e ∈ z_ft.getD 10 [], s_fok 10 e := fun _ h => absurd h List.not_mem_nil
theorem s_fo11 : ∀ e ∈ z_ft.getD 11 [], s_fok 11 e := fun _ h => absurd h List.not_mem_nil
theorem s_fo12 : ∀ e ∈ z_ft.getD 12 [], s_fok 12 e := fun _ h => absurd h List.not_mem_nil
theorem s_fo13 : ∀ e ∈ z_ft.getD 13 [], s_fok 13 e := fun _ h => absurd h List.not_mem_nil
theorem s_fo14 : ∀ e ∈ z_ft.getD 14 [], s_fok 14 e := fun _ h => absurd h List.not_mem_nil
theorem s_fo15 : ∀ e ∈ z_ft.getD 15 [], s_fok 15 e := fun _ h => absurd h List.not_mem_nil
theorem s_f16_7 : s_fok 16 (7, 9, 0, 0, false) := ⟨by decide, by decide, rfl, (fun h => by cases h), rfl, "java/util/AbstractList", s_mem 101 (by decide +kernel) rfl, Or.inl rfl⟩
theorem s_fo16 : ∀ e ∈ z_ft.getD 16 [], s_fok 16 e := List.forall_mem_cons.mpr ⟨s_f16_7, fun _ h => absurd h List.not_mem_nil⟩
theorem s_fo17 : ∀ e ∈ z_ft.getD 17 [], s_fok 17 e := fun _ h => absurd h List.not_mem_nil
theorem s_fo18 : ∀ e ∈ z_ft.getD 18 [], s_fok 18 e := fun _ h => absurd h List.not_mem_nil
theorem s_c0_39 : s_cok 0 (39, 156, 0, 0) := ⟨by decide, by decide +kernel, s_mem 470 (by decide +kernel) rfl, s_mem 241 (by decide +kernel) rfl, s_mem 242 (by decide +kernel) rfl⟩
theorem s_c0_44 : s_cok 0 (44, 158, 0, 1) := ⟨by decide, by decide +kernel, s_mem 471 (by decide +kernel) rfl, s_mem 338 (by decide +kernel) rfl, s_mem 339 (by decide +kernel) rfl⟩
theorem s_c0_48 : s_cok 0 (48, 3, 0, 3) := ⟨by decide, by decide +kernel, s_mem 473 (by decide +kernel) rfl, s_mem 475 (by decide +kernel) rfl, s_mem 6 (by decide +kernel) rfl⟩
theorem s_c0_52 : s_cok 0 (52, 4, 0, 2) := ⟨by decide, by decide +kernel, s_mem 477 (by decide +kernel) rfl, s_mem 479 (by decide +kernel) rfl, s_mem 7 (by decide +kernel) rfl⟩
theorem s_c0_56 : s_cok 0 (56, 5, 0, 2) := ⟨by decide, by decide +kernel, s_mem 485 (by decide +kernel) rfl, s_mem 487 (by decide +kernel) rfl, s_mem 9 (by decide +kernel) rfl⟩
theorem s_c0_59 : s_cok 0 (59, 7, 0, 2) := ⟨by decide, by decide +kernel, s_mem 490 (by decide +kernel) rfl, s_mem 492 (by decide +kernel) rfl, s_mem 10 (by decide +kernel) rfl⟩
theorem s_c0_65 : s_cok 0 (65, 6, 0, 4) := ⟨by decide, by decide +kernel, s_mem 481 (by decide +kernel) rfl, s_mem 483 (by decide +kernel) rfl, s_mem 8 (by decide +kernel) rfl⟩
theorem s_c0_69 : s_cok 0 (69, 9, 0, 2) := ⟨by decide, by decide +kernel, s_mem 494 (by decide +kernel) rfl, s_mem 496 (by decide +kernel) rfl, s_mem 11 (by decide +kernel) rfl⟩
theorem s_c0_76 : s_cok 0 (76, 1, 0, 2) := ⟨by decide, by decide +kernel, s_mem 489 (by decide +kernel) rfl, s_mem 443 (by decide +kernel) rfl, s_mem 444 (by decide +kernel) rfl⟩
theorem s_c0_89 : s_cok 0 (89, 10, 1, 1) := ⟨by decide, by decide +kernel, s_mem 498 (by decide +kernel) rfl, s_mem 499 (by decide +kernel) rfl⟩
theorem s_c0_99 : s_cok 0 (99, 68, 3, 1) := ⟨by decide, by decide +kernel, List.mem_of_getElem? (i := 502) (by decide +kernel), s_mem 358 (by decide +kernel) rfl⟩
theorem s_c0_103 : s_cok 0 (103, 11, 1, 2) := ⟨by decide, by decide +kernel, s_mem 503 (by decide +kernel) rfl, s_mem 504 (by decide +kernel) rfl⟩
theorem s_c0_106 : s_cok 0 (106, 13, 0, 3) := ⟨by decide, by decide +kernel, s_mem 546 (by decide +kernel) rfl, s_mem 548 (by decide +kernel) rfl, s_mem 16 (by decide +kernel) rfl⟩
theorem s_co0 : ∀ e ∈ z_ct.getD 0 [], s_cok 0 e := List.forall_mem_cons.mpr ⟨s_c0_39, List.forall_mem_cons.mpr ⟨s_c0_44, List.forall_mem_cons.mpr ⟨s_c0_48, List.forall_mem_cons.mpr ⟨s_c0_52, List.forall_mem_cons.mpr ⟨s_c0_56, List.forall_mem_cons.mpr ⟨s_c0_59, List.forall_mem_cons.mpr ⟨s_c0_65, List.forall_mem_cons.mpr ⟨s_c0_69, List.forall_mem_cons.mpr ⟨s_c0_76, List.forall_mem_cons.mpr ⟨s_c0_89, List.forall_mem_cons.mpr ⟨s_c0_99, List.forall_mem_cons.mpr ⟨s_c0_103, List.forall_mem_cons.mpr ⟨s_c0_106, fun _ h => absurd h List.not_mem_nil⟩⟩⟩⟩⟩⟩⟩⟩⟩⟩⟩⟩⟩
theorem s_c1_40 : s_cok 1 (40, 161, 1, 2) := ⟨by decide, by decide +kernel, s_mem 670 (by decide +kernel) rfl, s_mem 671 (by decide +kernel) rfl⟩
theorem s_c1_46 : s_cok 1 (46, 16, 0, 1) := ⟨by decide, by decide +kernel, s_mem 729 (by decide +kernel) rfl, s_mem 678 (by decide +kernel) rfl, s_mem 679 (by decide +kernel) rfl⟩
theorem s_co1 : ∀ e ∈ z_ct.getD 1 [], s_cok 1 e := List.forall_mem_cons.mpr ⟨s_c1_40, List.forall_mem_cons.mpr ⟨s_c1_46, fun _ h => absurd h List.not_mem_nil⟩⟩
theorem s_co2 : ∀ e ∈ z_ct.getD 2 [], s_cok 2 e := fun _ h => absurd h List.not_mem_nil
theorem s_c3_25 : s_cok 3 (25, 69, 3, 3) := ⟨by decide, by decide +kernel, List.mem_of_getElem? (i := 366) (by decide +kernel), s_mem 355 (by decide +kernel) rfl⟩
theorem s_c3_29 : s_cok 3 (29, 68, 3, 1) := ⟨by decide, by decide +kernel, List.mem_of_getElem? (i := 367) (by decide +kernel), s_mem 358 (by decide +kernel) rfl⟩
theorem s_co3 : ∀ e ∈ z_ct.getD 3 [], s_cok 3 e := List.forall_mem_cons.mpr ⟨s_c3_25, List.forall_mem_cons.mpr ⟨s_c3_29, fun _ h => absurd h List.not_mem_nil⟩⟩
theorem s_c4_25 : s_cok 4 (25, 30, 2, 0) := ⟨by decide, by decide +kernel, s_mem 141 (by decide +kernel) rfl, s_mem 142 (by decide +kernel) rfl, rfl, rfl⟩
theorem s_c4_48 : s_cok 4 (48, 31, 0, 0) := ⟨by decide, by decide +kernel, s_mem 605 (by decide +kernel) rfl, s_mem 606 (by decide +kernel) rfl, s_mem 607 (by decide +kernel) rfl⟩
theorem s_c4_51 : s_cok 4 (51, 33, 0, 3) := ⟨by decide, by decide +kernel, s_mem 610 (by decide +kernel) rfl, s_mem 611 (by decide +kernel) rfl, s_mem 612 (by decide +kernel) rfl⟩
theorem s_c4_61 : s_cok 4 (61, 156, 0, 0) := ⟨by decide, by decide +kernel, s_mem 618 (by decide +kernel) rfl, s_mem 241 (by decide +kernel) rfl, s_mem 242 (by decide +kernel) rfl⟩
theorem s_c4_66 : s_cok 4 (66, 158, 0, 1) := ⟨by decide, by decide +kernel, s_mem 619 (by decide +kernel) rfl, s_mem 338 (by decide +kernel) rfl, s_mem 339 (by decide +kernel) rfl⟩
theorem s_c4_72 : s_cok 4 (72, 32, 0, 1) := ⟨by decide, by decide +kernel, s_mem 621 (by decide +kernel) rfl, s_mem 622 (by decide +kernel) rfl, s_mem 623 (by decide +kernel) rfl⟩
theorem s_c4_82 : s_cok 4 (82, 27, 0, 2) := ⟨by decide, by decide +kernel, s_mem 626 (by decide +kernel) rfl, s_mem 628 (by decide +kernel) rfl, s_mem 20 (by decide +kernel) rfl⟩
theorem s_c4_86 : s_cok 4 (86, 34, 0, 1) := ⟨by decide, by decide +kernel, s_mem 637 (by decide +kernel) rfl, s_mem 638 (by decide +kernel) rfl, s_mem 639 (by decide +kernel) rfl⟩
theorem s_c4_93 : s_cok 4 (93, 25, 0, 0) := ⟨by decide, by decide +kernel, s_mem 655 (by decide +kernel) rfl, s_mem 643 (by decide +kernel) rfl, s_mem 644 (by decide +kernel) rfl⟩
theorem s_c4_99 : s_cok 4 (99, 29, 1, 2) := ⟨by decide, by decide +kernel, s_mem 630 (by decide +kernel) rfl, s_mem 631 (by decide +kernel) rfl⟩
theorem s_c4_103 : s_cok 4 (103, 28, 0, 1) := ⟨by decide, by decide +kernel, s_mem 633 (by decide +kernel) rfl, s_mem 635 (by decide +kernel) rfl, s_mem 21 (by decide +kernel) rfl⟩
theorem s_co4 : ∀ e ∈ z_ct.getD 4 [], s_cok 4 e := List.forall_mem_cons.mpr ⟨s_c4_25, List.forall_mem_cons.mpr ⟨s_c4_48, List.forall_mem_cons.mpr ⟨s_c4_51, List.forall_mem_cons.mpr ⟨s_c4_61, List.forall_mem_cons.mpr ⟨s_c4_66, List.forall_mem_cons.mpr ⟨s_c4_72, List.forall_mem_cons.mpr ⟨s_c4_82, List.forall_mem_cons.mpr ⟨s_c4_86, List.forall_mem_cons.mpr ⟨s_c4_93, List.forall_mem_cons.mpr ⟨s_c4_99, List.forall_mem_cons.mpr ⟨s_c4_103, fun _ h => absurd h List.not_mem_nil⟩⟩⟩⟩⟩⟩⟩⟩⟩⟩⟩
theorem s_c5_25 : s_cok 5 (25, 33, 0, 3) := ⟨by decide, by decide +kernel, s_mem 641 (by decide +kernel) rfl, s_mem 611 (by decide +kernel) rfl, s_mem 612 (by decide +kernel) rfl⟩
theorem s_co5 : ∀ e ∈ z_ct.getD 5 [], s_cok 5 e := List.forall_mem_cons.mpr ⟨s_c5_25, fun _ h => absurd h List.not_mem_nil⟩
theorem s_c6_17 : s_cok 6 (17, 153, 2, 0) := ⟨by decide, by decide +kernel, s_mem 251 (by decide +kernel) rfl, s_mem 88 (by decide +kernel) rfl, rfl, rfl⟩
theorem s_co6 : ∀ e ∈ z_ct.getD 6 [], s_cok 6 e := List.forall_mem_cons.mpr ⟨s_c6_17, fun _ h => absurd h List.not_mem_nil⟩
theorem s_c7_9 : s_cok 7 (9, 153, 2, 0) := ⟨by decide, by decide +kernel, s_mem 87 (by decide +kernel) rfl, s_mem 88 (by decide +kernel) rfl, rfl, rfl⟩
theorem s_c7_21 : s_cok 7 (21, 0, 2, 0) := ⟨by decide, by decide +kernel, s_mem 113 (by decide +kernel) rfl, s_mem 114 (by decide +kernel) rfl, rfl, rfl⟩
theorem s_c7_28 : s_cok 7 (28, 21, 2, 0) := ⟨by decide, by decide +kernel, s_mem 135 (by decide +kernel) rfl, s_mem 136 (by decide +kernel) rfl, rfl, rfl⟩
theorem s_c7_35 : s_cok 7 (35, 14, 2, 0) := ⟨by decide, by decide +kernel, s_mem 179 (by decide +kernel) rfl, s_mem 180 (by decide +kernel) rfl, rfl, rfl⟩
theorem s_c7_54 : s_cok 7 (54, 156, 0, 0) := ⟨by decide, by decide +kernel, s_mem 240 (by decide +kernel) rfl, s_mem 241 (by decide +kernel) rfl, s_mem 242 (by decide +kernel) rfl⟩
theorem s_c7_60 : s_cok 7 (60, 35, 2, 1) := ⟨by decide, by decide +kernel, s_mem 246 (by decide +kernel) rfl, s_mem 247 (by decide +kernel) rfl, rfl, rfl⟩
theorem s_c7_63 : s_cok 7 (63, 160, 0, 1) := ⟨by decide, by decide +kernel, s_mem 272 (by decide +kernel) rfl, s_mem 273 (by decide +kernel) rfl, s_mem 274 (by decide +kernel) rfl⟩
theorem s_c7_67 : s_cok 7 (67, 65, 0, 1) := ⟨by decide, by decide +kernel, s_mem 333 (by decide +kernel) rfl, s_mem 335 (by decide +kernel) rfl, s_mem 3 (by decide +kernel) rfl⟩
theorem s_c7_71 : s_cok 7 (71, 70, 1, 3) := ⟨by decide, by decide +kernel, s_mem 351 (by decide +kernel) rfl, s_mem 352 (by decide +kernel) rfl⟩
theorem s_c7_80 : s_cok 7 (80, 20, 2, 3) := ⟨by decide, by decide +kernel, s_mem 362 (by decide +kernel) rfl, s_mem 363 (by decide +kernel) rfl, rfl, rfl⟩
theorem s_c7_87 : s_cok 7 (87, 162, 1, 2) := ⟨by decide, by decide +kernel, s_mem 422 (by decide +kernel) rfl, s_mem 423 (by decide +kernel) rfl⟩
theorem s_c7_102 : s_cok 7 (102, 68, 1, 1) := ⟨by decide, by decide +kernel, s_mem 357 (by decide +kernel) rfl, s_mem 358 (by decide +kernel) rfl⟩
theorem s_c7_109 : s_cok 7 (109, 158, 0, 1) := ⟨by decide, by decide +kernel, s_mem 337 (by decide +kernel) rfl, s_mem 338 (by decide +kernel) rfl, s_mem 339 (by decide +kernel) rfl⟩
theorem s_c7_124 : s_cok 7 (124, 1, 0, 2) := ⟨by decide, by decide +kernel, s_mem 442 (by decide +kernel) rfl, s_mem 443 (by decide +kernel) rfl, s_mem 444 (by decide +kernel) rfl⟩
theorem s_c7_131 : s_cok 7 (131, 71, 0, 3) := ⟨by decide, by decide +kernel, s_mem 454 (by decide +kernel) rfl, s_mem 456 (by decide +kernel) rfl, s_mem 4 (by decide +kernel) rfl⟩
theorem s_c7_135 : s_cok 7 (135, 72, 0, 3) := ⟨by decide, by decide +kernel, s_mem 458 (by decide +kernel) rfl, s_mem 460 (by decide +kernel) rfl, s_mem 5 (by decide +kernel) rfl⟩
theorem s_c7_139 : s_cok 7 (139, 8, 0, 2) := ⟨by decide, by decide +kernel, s_mem 514 (by decide +kernel) rfl, s_mem 515 (by decide +kernel) rfl, s_mem 516 (by decide +kernel) rfl⟩
theorem s_c7_143 : s_cok 7 (143, 74, 0, 2) := ⟨by decide, by decide +kernel, s_mem 522 (by decide +kernel) rfl, s_mem 524 (by decide +kernel) rfl, s_mem 12 (by decide +kernel) rfl⟩
theorem s_c7_147 : s_cok 7 (147, 73, 0, 3) := ⟨by decide, by decide +kernel, s_mem 534 (by decide +kernel) rfl, s_mem 536 (by decide +kernel) rfl, s_mem 15 (by decide +kernel) rfl⟩
theorem s_c7_150 : s_cok 7 (150, 12, 0, 3) := ⟨by decide, by decide +kernel, s_mem 542 (by decide +kernel) rfl, s_mem 543 (by decide +kernel) rfl, s_mem 544 (by decide +kernel) rfl⟩
theorem s_c7_154 : s_cok 7 (154, 22, 0, 2) := ⟨by decide, by decide +kernel, s_mem 554 (by decide +kernel) rfl, s_mem 555 (by decide +kernel) rfl, s_mem 556 (by decide +kernel) rfl⟩
theorem s_c7_158 : s_cok 7 (158, 78, 0, 2) := ⟨by decide, by decide +kernel, s_mem 564 (by decide +kernel) rfl, s_mem 566 (by decide +kernel) rfl, s_mem 17 (by decide +kernel) rfl⟩
theorem s_c7_164 : s_cok 7 (164, 19, 2, 2) := ⟨by decide, by decide +kernel, s_mem 571 (by decide +kernel) rfl, s_mem 572 (by decide +kernel) rfl, rfl, rfl⟩
theorem s_c7_167 : s_cok 7 (167, 77, 0, 1) := ⟨by decide, by decide +kernel, s_mem 589 (by decide +kernel) rfl, s_mem 591 (by decide +kernel) rfl, s_mem 18 (by decide +kernel) rfl⟩
theorem s_c7_174 : s_cok 7 (174, 79, 0, 3) := ⟨by decide, by decide +kernel, s_mem 597 (by decide +kernel) rfl, s_mem 599 (by decide +kernel) rfl, s_mem 19 (by decide +kernel) rfl⟩
theorem s_c7_178 : s_cok 7 (178, 25, 0, 0) := ⟨by decide, by decide +kernel, s_mem 642 (by decide +kernel) rfl, s_mem 643 (by decide +kernel) rfl, s_mem 644 (by decide +kernel) rfl⟩
theorem s_c7_181 : s_cok 7 (181, 26, 0, 0) := ⟨by decide, by decide +kernel, s_mem 651 (by decide +kernel) rfl, s_mem 652 (by decide +kernel) rfl, s_mem 653 (by decide +kernel) rfl⟩
theorem s_c7_186 : s_cok 7 (186, 15, 0, 1) := ⟨by decide, by decide +kernel, s_mem 664 (by decide +kernel) rfl, s_mem 665 (by decide +kernel) rfl, s_mem 666 (by decide +kernel) rfl⟩
theorem s_c7_189 : s_cok 7 (189, 16, 0, 1) := ⟨by decide, by decide +kernel, s_mem 677 (by decide +kernel) rfl, s_mem 678 (by decide +kernel) rfl, s_mem 679 (by decide +kernel) rfl⟩
theorem s_c7_204 : s_cok 7 (204, 80, 0, 0) := ⟨by decide, by decide +kernel, s_mem 693 (by decide +kernel) rfl, s_mem 695 (by decide +kernel) rfl, s_mem 22 (by decide +kernel) rfl⟩
theorem s_c7_208 : s_cok 7 (208, 81, 0, 3) := ⟨by decide, by decide +kernel, s_mem 698 (by decide +kernel) rfl, s_mem 700 (by decide +kernel) rfl, s_mem 23 (by decide +kernel) rfl⟩
theorem s_c7_212 : s_cok 7 (212, 86, 1, 3) := ⟨by decide, by decide +kernel, s_mem 722 (by decide +kernel) rfl, s_mem 723 (by decide +kernel) rfl⟩
theorem s_c7_219 : s_cok 7 (219, 66, 0, 0) := ⟨by decide, by decide +kernel, s_mem 738 (by decide +kernel) rfl, s_mem 740 (by decide +kernel) rfl, s_mem 28 (by decide +kernel) rfl⟩
theorem s_c7_223 : s_cok 7 (223, 17, 0, 0) := ⟨by decide, by decide +kernel, s_mem 742 (by decide +kernel) rfl, s_mem 743 (by decide +kernel) rfl, s_mem 744 (by decide +kernel) rfl⟩
theorem s_c7_226 : s_cok 7 (226, 67, 0, 0) := ⟨by decide, by decide +kernel, s_mem 746 (by decide +kernel) rfl, s_mem 748 (by decide +kernel) rfl, s_mem 29 (by decide +kernel) rfl⟩
theorem s_c7_229 : s_cok 7 (229, 69, 1, 3) := ⟨by decide, by decide +kernel, s_mem 354 (by decide +kernel) rfl, s_mem 355 (by decide +kernel) rfl⟩
theorem s_c7_233 : s_cok 7 (233, 36, 0, 1) := ⟨by decide, by decide +kernel, s_mem 462 (by decide +kernel) rfl, s_mem 463 (by decide +kernel) rfl, s_mem 464 (by decide +kernel) rfl⟩
theorem s_c7_237 : s_cok 7 (237, 2, 0, 3) := ⟨by decide, by decide +kernel, s_mem 466 (by decide +kernel) rfl, s_mem 467 (by decide +kernel) rfl, s_mem 468 (by decide +kernel) rfl⟩
theorem s_c7_240 : s_cok 7 (240, 75, 0, 2) := ⟨by decide, by decide +kernel, s_mem 526 (by decide +kernel) rfl, s_mem 528 (by decide +kernel) rfl, s_mem 13 (by decide +kernel) rfl⟩
theorem s_c7_243 : s_cok 7 (243, 76, 0, 1) := ⟨by decide, by decide +kernel, s_mem 530 (by decide +kernel) rfl, s_mem 532 (by decide +kernel) rfl, s_mem 14 (by decide +kernel) rfl⟩
theorem s_c7_249 : s_cok 7 (249, 23, 0, 0) := ⟨by decide, by decide +kernel, s_mem 601 (by decide +kernel) rfl, s_mem 602 (by decide +kernel) rfl, s_mem 603 (by decide +kernel) rfl⟩
theorem s_c7_252 : s_cok 7 (252, 24, 0, 1) := ⟨by decide, by decide +kernel, s_mem 614 (by decide +kernel) rfl, s_mem 615 (by decide +kernel) rfl, s_mem 616 (by decide +kernel) rfl⟩
theorem s_c7_256 : s_cok 7 (256, 161, 1, 2) := ⟨by decide, by decide +kernel, s_mem 697 (by decide +kernel) rfl, s_mem 671 (by decide +kernel) rfl⟩
theorem s_c7_259 : s_cok 7 (259, 83, 0, 1) := ⟨by decide, by decide +kernel, s_mem 702 (by decide +kernel) rfl, s_mem 704 (by decide +kernel) rfl, s_mem 24 (by decide +kernel) rfl⟩
theorem s_c7_262 : s_cok 7 (262, 82, 0, 2) := ⟨by decide, by decide +kernel, s_mem 706 (by decide +kernel) rfl, s_mem 708 (by decide +kernel) rfl, s_mem 25 (by decide +kernel) rfl⟩
theorem s_c7_266 : s_cok 7 (266, 84, 0, 2) := ⟨by decide, by decide +kernel, s_mem 710 (by decide +kernel) rfl, s_mem 712 (by decide +kernel) rfl, s_mem 26 (by decide +kernel) rfl⟩
theorem s_c7_270 : s_cok 7 (270, 85, 0, 1) := ⟨by decide, by decide +kernel, s_mem 714 (by decide +kernel) rfl, s_mem 716 (by decide +kernel) rfl, s_mem 27 (by decide +kernel) rfl⟩
theorem s_c7_273 : s_cok 7 (273, 18, 0, 1) := ⟨by decide, by decide +kernel, s_mem 725 (by decide +kernel) rfl, s_mem 726 (by decide +kernel) rfl, s_mem 727 (by decide +kernel) rfl⟩
theorem s_co7 : ∀ e ∈ z_ct.getD 7 [], s_cok 7 e := List.forall_mem_cons.mpr ⟨s_c7_9, List.forall_mem_cons.mpr ⟨s_c7_21, List.forall_mem_cons.mpr ⟨s_c7_28, List.forall_mem_cons.mpr ⟨s_c7_35, List.forall_mem_cons.mpr ⟨s_c7_54, List.forall_mem_cons.mpr ⟨s_c7_60, List.forall_mem_cons.mpr ⟨s_c7_63, List.forall_mem_cons.mpr ⟨s_c7_67, List.forall_mem_cons.mpr ⟨s_c7_71, List.forall_mem_cons.mpr ⟨s_c7_80, List.forall_mem_cons.mpr ⟨s_c7_87, List.forall_mem_cons.mpr ⟨s_c7_102, List.forall_mem_cons.mpr ⟨s_c7_109, List.forall_mem_cons.mpr ⟨s_c7_124, List.forall_mem_cons.mpr ⟨s_c7_131, List.forall_mem_cons.mpr ⟨s_c7_135, List.forall_mem_cons.mpr ⟨s_c7_139, List.forall_mem_cons.mpr ⟨s_c7_143, List.forall_mem_cons.mpr ⟨s_c7_147, List.forall_mem_cons.mpr ⟨s_c7_150, List.forall_mem_cons.mpr ⟨s_c7_154, List.forall_mem_cons.mpr ⟨s_c7_158, List.forall_mem_cons.mpr ⟨s_c7_164, List.forall_mem_cons.mpr ⟨s_c7_167, List.forall_mem_cons.mpr ⟨s_c7_174, List.forall_mem_cons.mpr ⟨s_c7_178, List.forall_mem_cons.mpr ⟨s_c7_181, List.forall_mem_cons.mpr ⟨s_c7_186, List.forall_mem_cons.mpr ⟨s_c7_189, List.forall_mem_cons.mpr ⟨s_c7_204, List.forall_mem_cons.mpr ⟨s_c7_208, List.forall_mem_cons.mpr ⟨s_c7_212, List.forall_mem_cons.mpr ⟨s_c7_219, List.forall_mem_cons.mpr ⟨s_c7_223, List.forall_mem_cons.mpr ⟨s_c7_226, List.forall_mem_cons.mpr ⟨s_c7_229, List.forall_mem_cons.mpr ⟨s_c7_233, List.forall_mem_cons.mpr ⟨s_c7_237, List.forall_mem_cons.mpr ⟨s_c7_240, List.forall_mem_cons.mpr ⟨s_c7_243, List.forall_mem_cons.mpr ⟨s_c7_249, List.forall_mem_cons.mpr ⟨s_c7_252, List.forall_mem_cons.mpr ⟨s_c7_256, List.forall_mem_cons.mpr ⟨s_c7_259, List.forall_mem_cons.mpr ⟨s_c7_262, List.forall_mem_cons.mpr ⟨s_c7_266, List.forall_mem_cons.mpr ⟨s_c7_270, List.forall_mem_cons.mpr ⟨s_c7_273, fun _ h => absurd h List.not_mem_nil⟩⟩⟩⟩⟩⟩⟩⟩⟩⟩⟩⟩⟩⟩⟩⟩⟩⟩⟩⟩⟩⟩⟩⟩⟩⟩⟩⟩⟩⟩⟩⟩⟩⟩⟩⟩⟩⟩⟩⟩⟩⟩⟩⟩⟩⟩⟩⟩
theorem s_c8_114 : s_cok 8 (114, 88, 1, 3) := ⟨by decide, by decide +kernel, s_mem 886 (by decide +kernel) rfl, s_mem 887 (by decide +kernel) rfl⟩
theorem s_c8_120 : s_cok 8 (120, 89, 0, 1) := ⟨by decide, by decide +kernel, s_mem 893 (by decide +kernel) rfl, s_mem 895 (by decide +kernel) rfl, s_mem 30 (by decide +kernel) rfl⟩
theorem s_c8_126 : s_cok 8 (126, 92, 1, 3) := ⟨by decide, by decide +kernel, s_mem 898 (by decide +kernel) rfl, s_mem 899 (by decide +kernel) rfl⟩
theorem s_c8_130 : s_cok 8 (130, 93, 1, 1) := ⟨by decide, by decide +kernel, s_mem 901 (by decide +kernel) rfl, s_mem 902 (by decide +kernel) rfl⟩
theorem s_c8_133 : s_cok 8 (133, 90, 1, 1) := ⟨by decide, by decide +kernel, s_mem 904 (by decide +kernel) rfl, s_mem 905 (by decide +kernel) rfl⟩
theorem s_c8_142 : s_cok 8 (142, 99, 0, 3) := ⟨by decide, by decide +kernel, s_mem 935 (by decide +kernel) rfl, s_mem 937 (by decide +kernel) rfl, s_mem 32 (by decide +kernel) rfl⟩
theorem s_c8_146 : s_cok 8 (146, 100, 0, 1) := ⟨by decide, by decide +kernel, s_mem 939 (by decide +kernel) rfl, s_mem 941 (by decide +kernel) rfl, s_mem 33 (by decide +kernel) rfl⟩
theorem s_c8_152 : s_cok 8 (152, 101, 0, 2) := ⟨by decide, by decide +kernel, s_mem 931 (by decide +kernel) rfl, s_mem 933 (by decide +kernel) rfl, s_mem 31 (by decide +kernel) rfl⟩
theorem s_c8_156 : s_cok 8 (156, 105, 0, 2) := ⟨by decide, by decide +kernel, s_mem 981 (by decide +kernel) rfl, s_mem 983 (by decide +kernel) rfl, s_mem 41 (by decide +kernel) rfl⟩
theorem s_c8_161 : s_cok 8 (161, 108, 1, 1) := ⟨by decide, by decide +kernel, s_mem 994 (by decide +kernel) rfl, s_mem 995 (by decide +kernel) rfl⟩
theorem s_c8_165 : s_cok 8 (165, 109, 1, 2) := ⟨by decide, by decide +kernel, s_mem 997 (by decide +kernel) rfl, s_mem 998 (by decide +kernel) rfl⟩
theorem s_c8_168 : s_cok 8 (168, 103, 0, 0) := ⟨by decide, by decide +kernel, s_mem 969 (by decide +kernel) rfl, s_mem 971 (by decide +kernel) rfl, s_mem 38 (by decide +kernel) rfl⟩
theorem s_c8_172 : s_cok 8 (172, 104, 0, 0) := ⟨by decide, by decide +kernel, s_mem 973 (by decide +kernel) rfl, s_mem 975 (by decide +kernel) rfl, s_mem 39 (by decide +kernel) rfl⟩
theorem s_c8_175 : s_cok 8 (175, 106, 0, 0) := ⟨by decide, by decide +kernel, s_mem 977 (by decide +kernel) rfl, s_mem 979 (by decide +kernel) rfl, s_mem 40 (by decide +kernel) rfl⟩
theorem s_c8_178 : s_cok 8 (178, 107, 0, 0) := ⟨by decide, by decide +kernel, s_mem 985 (by decide +kernel) rfl, s_mem 987 (by decide +kernel) rfl, s_mem 42 (by decide +kernel) rfl⟩
theorem s_c8_181 : s_cok 8 (181, 110, 0, 0) := ⟨by decide, by decide +kernel, s_mem 989 (by decide +kernel) rfl, s_mem 991 (by decide +kernel) rfl, s_mem 43 (by decide +kernel) rfl⟩
theorem s_c8_185 : s_cok 8 (185, 112, 0, 2) := ⟨by decide, by decide +kernel, s_mem 961 (by decide +kernel) rfl, s_mem 963 (by decide +kernel) rfl, s_mem 36 (by decide +kernel) rfl⟩
theorem s_c8_189 : s_cok 8 (189, 111, 0, 1) := ⟨by decide, by decide +kernel, s_mem 965 (by decide +kernel) rfl, s_mem 967 (by decide +kernel) rfl, s_mem 37 (by decide +kernel) rfl⟩
theorem s_c8_196 : s_cok 8 (196, 115, 0, 3) := ⟨by decide, by decide +kernel, s_mem 952 (by decide +kernel) rfl, s_mem 954 (by decide +kernel) rfl, s_mem 34 (by decide +kernel) rfl⟩
theorem s_c8_200 : s_cok 8 (200, 113, 0, 3) := ⟨by decide, by decide +kernel, s_mem 957 (by decide +kernel) rfl, s_mem 959 (by decide +kernel) rfl, s_mem 35 (by decide +kernel) rfl⟩
theorem s_c8_204 : s_cok 8 (204, 118, 0, 2) := ⟨by decide, by decide +kernel, s_mem 1008 (by decide +kernel) rfl, s_mem 1010 (by decide +kernel) rfl, s_mem 44 (by decide +kernel) rfl⟩
theorem s_c8_207 : s_cok 8 (207, 121, 0, 3) := ⟨by decide, by decide +kernel, s_mem 1020 (by decide +kernel) rfl, s_mem 1022 (by decide +kernel) rfl, s_mem 45 (by decide +kernel) rfl⟩
theorem s_c8_217 : s_cok 8 (217, 125, 0, 1) := ⟨by decide, by decide +kernel, s_mem 1038 (by decide +kernel) rfl, s_mem 1040 (by decide +kernel) rfl, s_mem 46 (by decide +kernel) rfl⟩
theorem s_c8_221 : s_cok 8 (221, 129, 0, 2) := ⟨by decide, by decide +kernel, s_mem 1058 (by decide +kernel) rfl, s_mem 1060 (by decide +kernel) rfl, s_mem 50 (by decide +kernel) rfl⟩
theorem s_c8_224 : s_cok 8 (224, 127, 0, 3) := ⟨by decide, by decide +kernel, s_mem 1062 (by decide +kernel) rfl, s_mem 1064 (by decide +kernel) rfl, s_mem 51 (by decide +kernel) rfl⟩
theorem s_c8_227 : s_cok 8 (227, 128, 0, 1) := ⟨by decide, by decide +kernel, s_mem 1054 (by decide +kernel) rfl, s_mem 1056 (by decide +kernel) rfl, s_mem 49 (by decide +kernel) rfl⟩
theorem s_c8_230 : s_cok 8 (230, 130, 0, 1) := ⟨by decide, by decide +kernel, s_mem 1050 (by decide +kernel) rfl, s_mem 1052 (by decide +kernel) rfl, s_mem 48 (by decide +kernel) rfl⟩
theorem s_c8_239 : s_cok 8 (239, 131, 0, 3) := ⟨by decide, by decide +kernel, s_mem 1046 (by decide +kernel) rfl, s_mem 1048 (by decide +kernel) rfl, s_mem 47 (by decide +kernel) rfl⟩
theorem s_c8_251 : s_cok 8 (251, 136, 0, 1) := ⟨by decide, by decide +kernel, s_mem 1084 (by decide +kernel) rfl, s_mem 1086 (by decide +kernel) rfl, s_mem 52 (by decide +kernel) rfl⟩
theorem s_c8_258 : s_cok 8 (258, 140, 0, 1) := ⟨by decide, by decide +kernel, s_mem 1114 (by decide +kernel) rfl, s_mem 1116 (by decide +kernel) rfl, s_mem 56 (by decide +kernel) rfl⟩
theorem s_c8_261 : s_cok 8 (261, 141, 0, 2) := ⟨by decide, by decide +kernel, s_mem 1110 (by decide +kernel) rfl, s_mem 1112 (by decide +kernel) rfl, s_mem 55 (by decide +kernel) rfl⟩
theorem s_c8_264 : s_cok 8 (264, 142, 0, 0) := ⟨by decide, by decide +kernel, s_mem 1102 (by decide +kernel) rfl, s_mem 1104 (by decide +kernel) rfl, s_mem 53 (by decide +kernel) rfl⟩
theorem s_c8_267 : s_cok 8 (267, 143, 0, 1) := ⟨by decide, by decide +kernel, s_mem 1106 (by decide +kernel) rfl, s_mem 1108 (by decide +kernel) rfl, s_mem 54 (by decide +kernel) rfl⟩
theorem s_c8_270 : s_cok 8 (270, 145, 0, 1) := ⟨by decide, by decide +kernel, s_mem 1123 (by decide +kernel) rfl, s_mem 1125 (by decide +kernel) rfl, s_mem 57 (by decide +kernel) rfl⟩
theorem s_co8 : ∀ e ∈ z_ct.getD 8 [], s_cok 8 e := List.forall_mem_cons.mpr ⟨s_c8_114, List.forall_mem_cons.mpr ⟨s_c8_120, List.forall_mem_cons.mpr ⟨s_c8_126, List.forall_mem_cons.mpr ⟨s_c8_130, List.forall_mem_cons.mpr ⟨s_c8_133, List.forall_mem_cons.mpr ⟨s_c8_142, List.forall_mem_cons.mpr ⟨s_c8_146, List.forall_mem_cons.mpr ⟨s_c8_152, List.forall_mem_cons.mpr ⟨s_c8_156, List.forall_mem_cons.mpr ⟨s_c8_161, List.forall_mem_cons.mpr ⟨s_c8_165, List.forall_mem_cons.mpr ⟨s_c8_168, List.forall_mem_cons.mpr ⟨s_c8_172, List.forall_mem_cons.mpr ⟨s_c8_175, List.forall_mem_cons.mpr ⟨s_c8_178, List.forall_mem_cons.mpr ⟨s_c8_181, List.forall_mem_cons.mpr ⟨s_c8_185, List.forall_mem_cons.mpr ⟨s_c8_189, List.forall_mem_cons.mpr ⟨s_c8_196, List.forall_mem_cons.mpr ⟨s_c8_200, List.forall_mem_cons.mpr ⟨s_c8_204, List.forall_mem_cons.mpr ⟨s_c8_207, List.forall_mem_cons.mpr ⟨s_c8_217, List.forall_mem_cons.mpr ⟨s_c8_221, List.forall_mem_cons.mpr ⟨s_c8_224, List.forall_mem_cons.mpr ⟨s_c8_227, List.forall_mem_cons.mpr ⟨s_c8_230, List.forall_mem_cons.mpr ⟨s_c8_239, List.forall_mem_cons.mpr ⟨s_c8_251, List.forall_mem_cons.mpr ⟨s_c8_258, List.forall_mem_cons.mpr ⟨s_c8_261, List.forall_mem_cons.mpr ⟨s_c8_264, List.forall_mem_cons.mpr ⟨s_c8_267, List.forall_mem_cons.mpr ⟨s_c8_270, fun _ h => absurd h List.not_mem_nil⟩⟩⟩⟩⟩⟩⟩⟩⟩⟩⟩⟩⟩⟩⟩⟩⟩⟩⟩⟩⟩⟩⟩⟩⟩⟩⟩⟩⟩⟩⟩⟩⟩⟩
theorem s_c9_1 : s_cok 9 (1, 152, 2, 0) := ⟨by decide, by decide +kernel, s_mem 90 (by decide +kernel) rfl, s_mem 91 (by decide +kernel) rfl, rfl, rfl⟩
theorem s_c9_66 : s_cok 9 (66, 163, 1, 2) := ⟨by decide, by decide +kernel, s_mem 298 (by decide +kernel) rfl, s_mem 299 (by decide +kernel) rfl⟩
theorem s_c9_69 : s_cok 9 (69, 154, 0, 1) := ⟨by decide, by decide +kernel, s_mem 284 (by decide +kernel) rfl, s_mem 286 (by decide +kernel) rfl, s_mem 2 (by decide +kernel) rfl⟩
theorem s_c9_73 : s_cok 9 (73, 166, 1, 3) := ⟨by decide, by decide +kernel, s_mem 288 (by decide +kernel) rfl, s_mem 289 (by decide +kernel) rfl⟩
theorem s_c9_118 : s_cok 9 (118, 165, 1, 2) := ⟨by decide, by decide +kernel, s_mem 341 (by decide +kernel) rfl, s_mem 342 (by decide +kernel) rfl⟩
theorem s_c9_123 : s_cok 9 (123, 157, 0, 1) := ⟨by decide, by decide +kernel, s_mem 347 (by decide +kernel) rfl, s_mem 348 (by decide +kernel) rfl, s_mem 349 (by decide +kernel) rfl⟩
theorem s_c9_129 : s_cok 9 (129, 155, 0, 0) := ⟨by decide, by decide +kernel, s_mem 280 (by decide +kernel) rfl, s_mem 282 (by decide +kernel) rfl, s_mem 1 (by decide +kernel) rfl⟩
theorem s_c9_131 : s_cok 9 (131, 159, 0, 3) := ⟨by decide, by decide +kernel, s_mem 276 (by decide +kernel) rfl, s_mem 278 (by decide +kernel) rfl, s_mem 0 (by decide +kernel) rfl⟩
theorem s_co9 : ∀ e ∈ z_ct.getD 9 [], s_cok 9 e := List.forall_mem_cons.mpr ⟨s_c9_1, List.forall_mem_cons.mpr ⟨s_c9_66, List.forall_mem_cons.mpr ⟨s_c9_69, List.forall_mem_cons.mpr ⟨s_c9_73, List.forall_mem_cons.mpr ⟨s_c9_118, List.forall_mem_cons.mpr ⟨s_c9_123, List.forall_mem_cons.mpr ⟨s_c9_129, List.forall_mem_cons.mpr ⟨s_c9_131, fun _ h => absurd h List.not_mem_nil⟩⟩⟩⟩⟩⟩⟩⟩
theorem s_co10 : ∀ e ∈ z_ct.getD 10 [], s_cok 10 e := fun _ h => absurd h List.not_mem_nil
theorem s_c11_300 : s_cok 11 (300, 164, 1, 3) := ⟨by decide, by decide +kernel, s_mem 315 (by decide +kernel) rfl, s_mem 316 (by decide +kernel) rfl⟩
theorem s_co11 : ∀ e ∈ z_ct.getD 11 [], s_cok 11 e := List.forall_mem_cons.mpr ⟨s_c11_300, fun _ h => absurd h List.not_mem_nil⟩
theorem s_c12_105 : s_cok 12 (105, 168, 1, 3) := ⟨by decide, by decide +kernel, s_mem 344 (by decide +kernel) rfl, s_mem 345 (by decide +kernel) rfl⟩
theorem s_co12 : ∀ e ∈ z_ct.getD 12 [], s_cok 12 e := List.forall_mem_cons.mpr ⟨s_c12_105, fun _ h => absurd h List.not_mem_nil⟩
theorem s_c13_201 : s_cok 13 (201, 167, 1, 2) := ⟨by decide, by decide +kernel, s_mem 295 (by decide +kernel) rfl, s_mem 296 (by decide +kernel) rfl⟩
theorem s_co13 : ∀ e ∈ z_ct.getD 13 [], s_cok 13 e := List.forall_mem_cons.mpr ⟨s_c13_201, fun _ h => absurd h List.not_mem_nil⟩
theorem s_co14 : ∀ e ∈ z_ct.getD 14 [], s_cok 14 e := fun _ h => absurd h List.not_mem_nil
theorem s_co15 : ∀ e ∈ z_ct.getD 15 [], s_cok 15 e := fun _ h => absurd h List.not_mem_nil
theorem s_c16_1 : s_cok 16 (1, 151, 2, 0) := ⟨by decide, by decide +kernel, s_mem 93 (by decide +kernel) rfl, s_mem 94 (by decide +kernel) rfl, rfl, rfl⟩
theorem s_co16 : ∀ e ∈ z_ct.getD 16 [], s_cok 16 e := List.forall_mem_cons.mpr ⟨s_c16_1, fun _ h => absurd h List.not_mem_nil⟩
theorem s_c17_9 : s_cok 17 (9, 37, 2, 0) := ⟨by decide, by decide +kernel, s_mem 79 (by decide +kernel) rfl, s_mem 80 (by decide +kernel) rfl, rfl, rfl⟩
theorem s_c17_12 : s_cok 17 (12, 87, 2, 0) := ⟨by decide, by decide +kernel, s_mem 752 (by decide +kernel) rfl, s_mem 753 (by decide +kernel) rfl, rfl, rfl⟩
theorem s_c17_13 : s_cok 17 (13, 38, 0, 1) := ⟨by decide, by decide +kernel, s_mem 236 (by decide +kernel) rfl, s_mem 237 (by decide +kernel) rfl, s_mem 238 (by decide +kernel) rfl⟩
theorem s_c17_17 : s_cok 17 (17, 91, 0, 1) := ⟨by decide, by decide +kernel, s_mem 881 (by decide +kernel) rfl, s_mem 882 (by decide +kernel) rfl, s_mem 883 (by decide +kernel) rfl⟩
theorem s_c17_20 : s_cok 17 (20, 39, 0, 4) := ⟨by decide, by decide +kernel, s_mem 329 (by decide +kernel) rfl, s_mem 330 (by decide +kernel) rfl, s_mem 331 (by decide +kernel) rfl⟩
theorem s_c17_24 : s_cok 17 (24, 94, 0, 4) := ⟨by decide, by decide +kernel, s_mem 889 (by decide +kernel) rfl, s_mem 890 (by decide +kernel) rfl, s_mem 891 (by decide +kernel) rfl⟩
theorem s_c17_25 : s_cok 17 (25, 40, 0, 2) := ⟨by decide, by decide +kernel, s_mem 418 (by decide +kernel) rfl, s_mem 419 (by decide +kernel) rfl, s_mem 420 (by decide +kernel) rfl⟩
theorem s_c17_29 : s_cok 17 (29, 95, 0, 2) := ⟨by decide, by decide +kernel, s_mem 907 (by decide +kernel) rfl, s_mem 908 (by decide +kernel) rfl, s_mem 909 (by decide +kernel) rfl⟩
theorem s_c17_30 : s_cok 17 (30, 41, 0, 3) := ⟨by decide, by decide +kernel, s_mem 425 (by decide +kernel) rfl, s_mem 426 (by decide +kernel) rfl, s_mem 427 (by decide +kernel) rfl⟩
theorem s_c17_34 : s_cok 17 (34, 96, 0, 3) := ⟨by decide, by decide +kernel, s_mem 911 (by decide +kernel) rfl, s_mem 912 (by decide +kernel) rfl, s_mem 913 (by decide +kernel) rfl⟩
theorem s_c17_35 : s_cok 17 (35, 42, 0, 4) := ⟨by decide, by decide +kernel, s_mem 429 (by decide +kernel) rfl, s_mem 430 (by decide +kernel) rfl, s_mem 431 (by decide +kernel) rfl⟩
theorem s_c17_39 : s_cok 17 (39, 97, 0, 4) := ⟨by decide, by decide +kernel, s_mem 917 (by decide +kernel) rfl, s_mem 918 (by decide +kernel) rfl, s_mem 919 (by decide +kernel) rfl⟩
theorem s_c17_40 : s_cok 17 (40, 43, 0, 2) := ⟨by decide, by decide +kernel, s_mem 434 (by decide +kernel) rfl, s_mem 435 (by decide +kernel) rfl, s_mem 436 (by decide +kernel) rfl⟩
theorem s_c17_43 : s_cok 17 (43, 98, 0, 2) := ⟨by decide, by decide +kernel, s_mem 921 (by decide +kernel) rfl, s_mem 922 (by decide +kernel) rfl, s_mem 923 (by decide +kernel) rfl⟩
theorem s_c17_44 : s_cok 17 (44, 44, 0, 3) := ⟨by decide, by decide +kernel, s_mem 438 (by decide +kernel) rfl, s_mem 439 (by decide +kernel) rfl, s_mem 440 (by decide +kernel) rfl⟩
theorem s_c17_47 : s_cok 17 (47, 102, 0, 3) := ⟨by decide, by decide +kernel, s_mem 926 (by decide +kernel) rfl, s_mem 927 (by decide +kernel) rfl, s_mem 928 (by decide +kernel) rfl⟩
theorem s_c17_48 : s_cok 17 (48, 45, 0, 1) := ⟨by decide, by decide +kernel, s_mem 446 (by decide +kernel) rfl, s_mem 447 (by decide +kernel) rfl, s_mem 448 (by decide +kernel) rfl⟩
theorem s_c17_51 : s_cok 17 (51, 114, 0, 1) := ⟨by decide, by decide +kernel, s_mem 943 (by decide +kernel) rfl, s_mem 944 (by decide +kernel) rfl, s_mem 945 (by decide +kernel) rfl⟩
theorem s_c17_52 : s_cok 17 (52, 46, 0, 3) := ⟨by decide, by decide +kernel, s_mem 450 (by decide +kernel) rfl, s_mem 451 (by decide +kernel) rfl, s_mem 452 (by decide +kernel) rfl⟩
theorem s_c17_55 : s_cok 17 (55, 116, 0, 3) := ⟨by decide, by decide +kernel, s_mem 948 (by decide +kernel) rfl, s_mem 949 (by decide +kernel) rfl, s_mem 950 (by decide +kernel) rfl⟩
theorem s_c17_56 : s_cok 17 (56, 47, 0, 3) := ⟨by decide, by decide +kernel, s_mem 506 (by decide +kernel) rfl, s_mem 507 (by decide +kernel) rfl, s_mem 508 (by decide +kernel) rfl⟩
theorem s_c17_59 : s_cok 17 (59, 117, 0, 3) := ⟨by decide, by decide +kernel, s_mem 1000 (by decide +kernel) rfl, s_mem 1001 (by decide +kernel) rfl, s_mem 1002 (by decide +kernel) rfl⟩
theorem s_c17_60 : s_cok 17 (60, 48, 0, 2) := ⟨by decide, by decide +kernel, s_mem 510 (by decide +kernel) rfl, s_mem 511 (by decide +kernel) rfl, s_mem 512 (by decide +kernel) rfl⟩
theorem s_c17_63 : s_cok 17 (63, 119, 0, 2) := ⟨by decide, by decide +kernel, s_mem 1004 (by decide +kernel) rfl, s_mem 1005 (by decide +kernel) rfl, s_mem 1006 (by decide +kernel) rfl⟩
theorem s_c17_64 : s_cok 17 (64, 49, 0, 3) := ⟨by decide, by decide +kernel, s_mem 518 (by decide +kernel) rfl, s_mem 519 (by decide +kernel) rfl, s_mem 520 (by decide +kernel) rfl⟩
theorem s_c17_67 : s_cok 17 (67, 120, 0, 3) := ⟨by decide, by decide +kernel, s_mem 1012 (by decide +kernel) rfl, s_mem 1013 (by decide +kernel) rfl, s_mem 1014 (by decide +kernel) rfl⟩
theorem s_c17_68 : s_cok 17 (68, 50, 0, 2) := ⟨by decide, by decide +kernel, s_mem 538 (by decide +kernel) rfl, s_mem 539 (by decide +kernel) rfl, s_mem 540 (by decide +kernel) rfl⟩
theorem s_c17_71 : s_cok 17 (71, 122, 0, 2) := ⟨by decide, by decide +kernel, s_mem 1016 (by decide +kernel) rfl, s_mem 1017 (by decide +kernel) rfl, s_mem 1018 (by decide +kernel) rfl⟩
theorem s_c17_72 : s_cok 17 (72, 51, 0, 2) := ⟨by decide, by decide +kernel, s_mem 550 (by decide +kernel) rfl, s_mem 551 (by decide +kernel) rfl, s_mem 552 (by decide +kernel) rfl⟩
theorem s_c17_75 : s_cok 17 (75, 123, 0, 2) := ⟨by decide, by decide +kernel, s_mem 1024 (by decide +kernel) rfl, s_mem 1025 (by decide +kernel) rfl, s_mem 1026 (by decide +kernel) rfl⟩
theorem s_c17_76 : s_cok 17 (76, 52, 0, 2) := ⟨by decide, by decide +kernel, s_mem 560 (by decide +kernel) rfl, s_mem 561 (by decide +kernel) rfl, s_mem 562 (by decide +kernel) rfl⟩
theorem s_c17_80 : s_cok 17 (80, 124, 0, 2) := ⟨by decide, by decide +kernel, s_mem 1028 (by decide +kernel) rfl, s_mem 1029 (by decide +kernel) rfl, s_mem 1030 (by decide +kernel) rfl⟩
theorem s_c17_81 : s_cok 17 (81, 53, 0, 2) := ⟨by decide, by decide +kernel, s_mem 585 (by decide +kernel) rfl, s_mem 586 (by decide +kernel) rfl, s_mem 587 (by decide +kernel) rfl⟩
theorem s_c17_84 : s_cok 17 (84, 126, 0, 2) := ⟨by decide, by decide +kernel, s_mem 1034 (by decide +kernel) rfl, s_mem 1035 (by decide +kernel) rfl, s_mem 1036 (by decide +kernel) rfl⟩
theorem s_c17_85 : s_cok 17 (85, 54, 0, 1) := ⟨by decide, by decide +kernel, s_mem 593 (by decide +kernel) rfl, s_mem 594 (by decide +kernel) rfl, s_mem 595 (by decide +kernel) rfl⟩
theorem s_c17_88 : s_cok 17 (88, 132, 0, 1) := ⟨by decide, by decide +kernel, s_mem 1042 (by decide +kernel) rfl, s_mem 1043 (by decide +kernel) rfl, s_mem 1044 (by decide +kernel) rfl⟩
theorem s_c17_89 : s_cok 17 (89, 55, 0, 1) := ⟨by decide, by decide +kernel, s_mem 647 (by decide +kernel) rfl, s_mem 648 (by decide +kernel) rfl, s_mem 649 (by decide +kernel) rfl⟩
theorem s_c17_92 : s_cok 17 (92, 133, 0, 1) := ⟨by decide, by decide +kernel, s_mem 1067 (by decide +kernel) rfl, s_mem 1068 (by decide +kernel) rfl, s_mem 1069 (by decide +kernel) rfl⟩
theorem s_c17_93 : s_cok 17 (93, 56, 0, 4) := ⟨by decide, by decide +kernel, s_mem 656 (by decide +kernel) rfl, s_mem 657 (by decide +kernel) rfl, s_mem 658 (by decide +kernel) rfl⟩
theorem s_c17_96 : s_cok 17 (96, 134, 0, 4) := ⟨by decide, by decide +kernel, s_mem 1071 (by decide +kernel) rfl, s_mem 1072 (by decide +kernel) rfl, s_mem 1073 (by decide +kernel) rfl⟩
theorem s_c17_97 : s_cok 17 (97, 57, 0, 1) := ⟨by decide, by decide +kernel, s_mem 660 (by decide +kernel) rfl, s_mem 661 (by decide +kernel) rfl, s_mem 662 (by decide +kernel) rfl⟩
theorem s_c17_100 : s_cok 17 (100, 135, 0, 1) := ⟨by decide, by decide +kernel, s_mem 1075 (by decide +kernel) rfl, s_mem 1076 (by decide +kernel) rfl, s_mem 1077 (by decide +kernel) rfl⟩
theorem s_c17_101 : s_cok 17 (101, 58, 0, 3) := ⟨by decide, by decide +kernel, s_mem 673 (by decide +kernel) rfl, s_mem 674 (by decide +kernel) rfl, s_mem 675 (by decide +kernel) rfl⟩
theorem s_c17_104 : s_cok 17 (104, 137, 0, 3) := ⟨by decide, by decide +kernel, s_mem 1080 (by decide +kernel) rfl, s_mem 1081 (by decide +kernel) rfl, s_mem 1082 (by decide +kernel) rfl⟩
theorem s_c17_105 : s_cok 17 (105, 59, 0, 1) := ⟨by decide, by decide +kernel, s_mem 681 (by decide +kernel) rfl, s_mem 682 (by decide +kernel) rfl, s_mem 683 (by decide +kernel) rfl⟩
theorem s_c17_108 : s_cok 17 (108, 138, 0, 1) := ⟨by decide, by decide +kernel, s_mem 1090 (by decide +kernel) rfl, s_mem 1091 (by decide +kernel) rfl, s_mem 1092 (by decide +kernel) rfl⟩
theorem s_c17_109 : s_cok 17 (109, 60, 0, 2) := ⟨by decide, by decide +kernel, s_mem 685 (by decide +kernel) rfl, s_mem 686 (by decide +kernel) rfl, s_mem 687 (by decide +kernel) rfl⟩
theorem s_c17_112 : s_cok 17 (112, 139, 0, 2) := ⟨by decide, by decide +kernel, s_mem 1094 (by decide +kernel) rfl, s_mem 1095 (by decide +kernel) rfl, s_mem 1096 (by decide +kernel) rfl⟩
theorem s_c17_113 : s_cok 17 (113, 61, 0, 0) := ⟨by decide, by decide +kernel, s_mem 689 (by decide +kernel) rfl, s_mem 690 (by decide +kernel) rfl, s_mem 691 (by decide +kernel) rfl⟩
theorem s_c17_117 : s_cok 17 (117, 144, 0, 0) := ⟨by decide, by decide +kernel, s_mem 1098 (by decide +kernel) rfl, s_mem 1099 (by decide +kernel) rfl, s_mem 1100 (by decide +kernel) rfl⟩
theorem s_c17_118 : s_cok 17 (118, 62, 0, 1) := ⟨by decide, by decide +kernel, s_mem 718 (by decide +kernel) rfl, s_mem 719 (by decide +kernel) rfl, s_mem 720 (by decide +kernel) rfl⟩
theorem s_c17_121 : s_cok 17 (121, 146, 0, 1) := ⟨by decide, by decide +kernel, s_mem 1118 (by decide +kernel) rfl, s_mem 1119 (by decide +kernel) rfl, s_mem 1120 (by decide +kernel) rfl⟩
theorem s_c17_122 : s_cok 17 (122, 63, 0, 1) := ⟨by decide, by decide +kernel, s_mem 730 (by decide +kernel) rfl, s_mem 731 (by decide +kernel) rfl, s_mem 732 (by decide +kernel) rfl⟩
theorem s_c17_125 : s_cok 17 (125, 147, 0, 1) := ⟨by decide, by decide +kernel, s_mem 1127 (by decide +kernel) rfl, s_mem 1128 (by decide +kernel) rfl, s_mem 1129 (by decide +kernel) rfl⟩
theorem s_c17_126 : s_cok 17 (126, 64, 0, 1) := ⟨by decide, by decide +kernel, s_mem 734 (by decide +kernel) rfl, s_mem 735 (by decide +kernel) rfl, s_mem 736 (by decide +kernel) rfl⟩
theorem s_c17_129 : s_cok 17 (129, 148, 0, 1) := ⟨by decide, by decide +kernel, s_mem 1131 (by decide +kernel) rfl, s_mem 1132 (by decide +kernel) rfl, s_mem 1133 (by decide +kernel) rfl⟩
theorem s_co17 : ∀ e ∈ z_ct.getD 17 [], s_cok 17 e := List.forall_mem_cons.mpr ⟨s_c17_9, List.forall_mem_cons.mpr ⟨s_c17_12, List.forall_mem_cons.mpr ⟨s_c17_13, List.forall_mem_cons.mpr ⟨s_c17_17, List.forall_mem_cons.mpr ⟨s_c17_20, List.forall_mem_cons.mpr ⟨s_c17_24, List.forall_mem_cons.mpr ⟨s_c17_25, List.forall_mem_cons.mpr ⟨s_c17_29, List.forall_mem_cons.mpr ⟨s_c17_30, List.forall_mem_cons.mpr ⟨s_c17_34, List.forall_mem_cons.mpr ⟨s_c17_35, List.forall_mem_cons.mpr ⟨s_c17_39, List.forall_mem_cons.mpr ⟨s_c17_40, List.forall_mem_cons.mpr ⟨s_c17_43, List.forall_mem_cons.mpr ⟨s_c17_44, List.forall_mem_cons.mpr ⟨s_c17_47, List.forall_mem_cons.mpr ⟨s_c17_48, List.forall_mem_cons.mpr ⟨s_c17_51, List.forall_mem_cons.mpr ⟨s_c17_52, List.forall_mem_cons.mpr ⟨s_c17_55, List.forall_mem_cons.mpr ⟨s_c17_56, List.forall_mem_cons.mpr ⟨s_c17_59, List.forall_mem_cons.mpr ⟨s_c17_60, List.forall_mem_cons.mpr ⟨s_c17_63, List.forall_mem_cons.mpr ⟨s_c17_64, List.forall_mem_cons.mpr ⟨s_c17_67, List.forall_mem_cons.mpr ⟨s_c17_68, List.forall_mem_cons.mpr ⟨s_c17_71, List.forall_mem_cons.mpr ⟨s_c17_72, List.forall_mem_cons.mpr ⟨s_c17_75, List.forall_mem_cons.mpr ⟨s_c17_76, List.forall_mem_cons.mpr ⟨s_c17_80, List.forall_mem_cons.mpr ⟨s_c17_81, List.forall_mem_cons.mpr ⟨s_c17_84, List.forall_mem_cons.mpr ⟨s_c17_85, List.forall_mem_cons.mpr ⟨s_c17_88, List.forall_mem_cons.mpr ⟨s_c17_89, List.forall_mem_cons.mpr ⟨s_c17_92, List.forall_mem_cons.mpr ⟨s_c17_93, List.forall_mem_cons.mpr ⟨s_c17_96, List.forall_mem_cons.mpr ⟨s_c17_97, List.forall_mem_cons.mpr ⟨s_c17_100, List.forall_mem_cons.mpr ⟨s_c17_101, List.forall_mem_cons.mpr ⟨s_c17_104, List.forall_mem_cons.mpr ⟨s_c17_105, List.forall_mem_cons.mpr ⟨s_c17_108, List.forall_mem_cons.mpr ⟨s_c17_109, List.forall_mem_cons.mpr ⟨s_c17_112, List.forall_mem_cons.mpr ⟨s_c17_113, List.forall_mem_cons.mpr ⟨s_c17_117, List.forall_mem_cons.mpr ⟨s_c17_118, List.forall_mem_cons.mpr ⟨s_c17_121, List.forall_mem_cons.mpr ⟨s_c17_122, List.forall_mem_cons.mpr ⟨s_c17_125, List.forall_mem_cons.mpr ⟨s_c17_126, List.forall_mem_cons.mpr ⟨s_c17_129, fun _ h => absurd h List.not_mem_nil⟩⟩⟩⟩⟩⟩⟩⟩⟩⟩⟩⟩⟩⟩⟩⟩⟩⟩⟩⟩⟩⟩⟩⟩⟩⟩⟩⟩⟩⟩⟩⟩⟩⟩⟩⟩⟩⟩⟩⟩⟩⟩⟩⟩⟩⟩⟩⟩⟩⟩⟩⟩⟩⟩⟩⟩
theorem s_co18 : ∀ e ∈ z_ct.getD 18 [], s_cok 18 e := fun _ h => absurd h List.not_mem_nil
theorem s_m0 : s_mok 0 := ⟨s_mem 115 (by decide +kernel) rfl, s_mem 63 (by decide +kernel) rfl, (by decide +kernel), by decide +kernel, by decide +kernel, by decide +kernel⟩
theorem s_m1 : s_mok 1 := ⟨s_mem 445 (by decide +kernel) rfl, s_mem 63 (by decide +kernel) rfl, (by decide +kernel), by decide +kernel, by decide +kernel, by decide +kernel⟩
theorem s_m2 : s_mok 2 := ⟨s_mem 469 (by decide +kernel) rfl, s_mem 63 (by decide +kernel) rfl, (by decide +kernel), by decide +kernel, by decide +kernel, by decide +kernel⟩
theorem s_m3 : s_mok 3 := ⟨s_mem 476 (by decide +kernel) rfl, s_mem 63 (by decide +kernel) rfl, (by decide +kernel), by decide +kernel, by decide +kernel, by decide +kernel⟩
theorem s_m4 : s_mok 4 := ⟨s_mem 480 (by decide +kernel) rfl, s_mem 63 (by decide +kernel) rfl, (by decide +kernel), by decide +kernel, by decide +kernel, by decide +kernel⟩
theorem s_m5 : s_mok 5 := ⟨s_mem 488 (by decide +kernel) rfl, s_mem 63 (by decide +kernel) rfl, (by decide +kernel), by decide +kernel, by decide +kernel, by decide +kernel⟩
theorem s_m6 : s_mok 6 := ⟨s_mem 484 (by decide +kernel) rfl, s_mem 63 (by decide +kernel) rfl, (by decide +kernel), by decide +kernel, by decide +kernel, by decide +kernel⟩
theorem s_m7 : s_mok 7 := ⟨s_mem 493 (by decide +kernel) rfl, s_mem 63 (by decide +kernel) rfl, (by decide +kernel), by decide +kernel, by decide +kernel, by decide +kernel⟩
theorem s_m8 : s_mok 8 := ⟨s_mem 517 (by decide +kernel) rfl, s_mem 63 (by decide +kernel) rfl, (by decide +kernel), by decide +kernel, by decide +kernel, by decide +kernel⟩
theorem s_m9 : s_mok 9 := ⟨s_mem 497 (by decide +kernel) rfl, s_mem 63 (by decide +kernel) rfl, (by decide +kernel), by decide +kernel, by decide +kernel, by decide +kernel⟩
theorem s_m10 : s_mok 10 := ⟨s_mem 500 (by decide +kernel) rfl, s_mem 63 (by decide +kernel) rfl, (by decide +kernel), by decide +kernel, by decide +kernel, by decide +kernel⟩
theorem s_m11 : s_mok 11 := ⟨s_mem 505 (by decide +kernel) rfl, s_mem 63 (by decide +kernel) rfl, (by decide +kernel), by decide +kernel, by decide +kernel, by decide +kernel⟩
theorem s_m12 : s_mok 12 := ⟨s_mem 545 (by decide +kernel) rfl, s_mem 63 (by decide +kernel) rfl, (by decide +kernel), by decide +kernel, by decide +kernel, by decide +kernel⟩
theorem s_m13 : s_mok 13 := ⟨s_mem 549 (by decide +kernel) rfl, s_mem 63 (by decide +kernel) rfl, (by decide +kernel), by decide +kernel, by decide +kernel, by decide +kernel⟩
theorem s_m14 : s_mok 14 := ⟨s_mem 181 (by decide +kernel) rfl, s_mem 66 (by decide +kernel) rfl, (by decide +kernel), by decide +kernel, by decide +kernel, by decide +kernel⟩
theorem s_m15 : s_mok 15 := ⟨s_mem 667 (by decide +kernel) rfl, s_mem 66 (by decide +kernel) rfl, (by decide +kernel), by decide +kernel, by decide +kernel, by decide +kernel⟩
theorem s_m16 : s_mok 16 := ⟨s_mem 680 (by decide +kernel) rfl, s_mem 66 (by decide +kernel) rfl, (by decide +kernel), by decide +kernel, by decide +kernel, by decide +kernel⟩
theorem s_m17 : s_mok 17 := ⟨s_mem 745 (by decide +kernel) rfl, s_mem 66 (by decide +kernel) rfl, (by decide +kernel), by decide +kernel, by decide +kernel, by decide +kernel⟩
theorem s_m18 : s_mok 18 := ⟨s_mem 728 (by decide +kernel) rfl, s_mem 66 (by decide +kernel) rfl, (by decide +kernel), by decide +kernel, by decide +kernel, by decide +kernel⟩
theorem s_m19 : s_mok 19 := ⟨s_mem 573 (by decide +kernel) rfl, s_mem 76 (by decide +kernel) rfl, (by decide +kernel), by decide +kernel, by decide +kernel, by decide +kernel⟩
theorem s_m20 : s_mok 20 := ⟨s_mem 364 (by decide +kernel) rfl, s_mem 75 (by decide +kernel) rfl, (by decide +kernel), by decide +kernel, by decide +kernel, by decide +kernel⟩
theorem s_m21 : s_mok 21 := ⟨s_mem 137 (by decide +kernel) rfl, s_mem 64 (by decide +kernel) rfl, (by decide +kernel), by decide +kernel, by decide +kernel, by decide +kernel⟩
theorem s_m22 : s_mok 22 := ⟨s_mem 557 (by decide +kernel) rfl, s_mem 64 (by decide +kernel) rfl, (by decide +kernel), by decide +kernel, by decide +kernel, by decide +kernel⟩
theorem s_m23 : s_mok 23 := ⟨s_mem 604 (by decide +kernel) rfl, s_mem 64 (by decide +kernel) rfl, (by decide +kernel), by decide +kernel, by decide +kernel, by decide +kernel⟩
theorem s_m24 : s_mok 24 := ⟨s_mem 617 (by decide +kernel) rfl, s_mem 64 (by decide +kernel) rfl, (by decide +kernel), by decide +kernel, by decide +kernel, by decide +kernel⟩
theorem s_m25 : s_mok 25 := ⟨s_mem 645 (by decide +kernel) rfl, s_mem 64 (by decide +kernel) rfl, (by decide +kernel), by decide +kernel, by decide +kernel, by decide +kernel⟩
theorem s_m26 : s_mok 26 := ⟨s_mem 654 (by decide +kernel) rfl, s_mem 64 (by decide +kernel) rfl, (by decide +kernel), by decide +kernel, by decide +kernel, by decide +kernel⟩
theorem s_m27 : s_mok 27 := ⟨s_mem 629 (by decide +kernel) rfl, s_mem 64 (by decide +kernel) rfl, (by decide +kernel), by decide +kernel, by decide +kernel, by decide +kernel⟩
theorem s_m28 : s_mok 28 := ⟨s_mem 636 (by decide +kernel) rfl, s_mem 64 (by decide +kernel) rfl, (by decide +kernel), by decide +kernel, by decide +kernel, by decide +kernel⟩
theorem s_m29 : s_mok 29 := ⟨s_mem 632 (by decide +kernel) rfl, s_mem 64 (by decide +kernel) rfl, (by decide +kernel), by decide +kernel, by decide +kernel, by decide +kernel⟩
theorem s_m30 : s_mok 30 := ⟨s_mem 143 (by decide +kernel) rfl, s_mem 65 (by decide +kernel) rfl, (by decide +kernel), by decide +kernel, by decide +kernel, by decide +kernel⟩
theorem s_m31 : s_mok 31 := ⟨s_mem 608 (by decide +kernel) rfl, s_mem 65 (by decide +kernel) rfl, (by decide +kernel), by decide +kernel, by decide +kernel, by decide +kernel⟩
theorem s_m32 : s_mok 32 := ⟨s_mem 624 (by decide +kernel) rfl, s_mem 65 (by decide +kernel) rfl, (by decide +kernel), by decide +kernel, by decide +kernel, by decide +kernel⟩
theorem s_m33 : s_mok 33 := ⟨s_mem 613 (by decide +kernel) rfl, s_mem 65 (by decide +kernel) rfl, (by decide +kernel), by decide +kernel, by decide +kernel, by decide +kernel⟩
theorem s_m34 : s_mok 34 := ⟨s_mem 640 (by decide +kernel) rfl, s_mem 65 (by decide +kernel) rfl, (by decide +kernel), by decide +kernel, by decide +kernel, by decide +kernel⟩
theorem s_m35 : s_mok 35 := ⟨s_mem 248 (by decide +kernel) rfl, s_mem 68 (by decide +kernel) rfl, (by decide +kernel), by decide +kernel, by decide +kernel, by decide +kernel⟩
theorem s_m36 : s_mok 36 := ⟨s_mem 465 (by decide +kernel) rfl, s_mem 68 (by decide +kernel) rfl, (by decide +kernel), by decide +kernel, by decide +kernel, by decide +kernel⟩
theorem s_m37 : s_mok 37 := ⟨s_mem 81 (by decide +kernel) rfl, s_mem 59 (by decide +kernel) rfl, (by decide +kernel), by decide +kernel, by decide +kernel, by decide +kernel⟩
theorem s_m38 : s_mok 38 := ⟨s_mem 239 (by decide +kernel) rfl, s_mem 59 (by decide +kernel) rfl, (by decide +kernel), by decide +kernel, by decide +kernel, by decide +kernel⟩
theorem s_m39 : s_mok 39 := ⟨s_mem 332 (by decide +kernel) rfl, s_mem 59 (by decide +kernel) rfl, (by decide +kernel), by decide +kernel, by decide +kernel, by decide +kernel⟩
theorem s_m40 : s_mok 40 := ⟨s_mem 421 (by decide +kernel) rfl, s_mem 59 (by decide +kernel) rfl, (by decide +kernel), by decide +kernel, by decide +kernel, by decide +kernel⟩
theorem s_m41 : s_mok 41 := ⟨s_mem 428 (by decide +kernel) rfl, s_mem 59 (by decide +kernel) rfl, (by decide +kernel), by decide +kernel, by decide +kernel, by decide +kernel⟩
theorem s_m42 : s_mok 42 := ⟨s_mem 432 (by decide +kernel) rfl, s_mem 59 (by decide +kernel) rfl, (by decide +kernel), by decide +kernel, by decide +kernel, by decide +kernel⟩
theorem s_m43 : s_mok 43 := ⟨s_mem 437 (by decide +kernel) rfl, s_mem 59 (by decide +kernel) rfl, (by decide +kernel), by decide +kernel, by decide +kernel, by decide +kernel⟩
theorem s_m44 : s_mok 44 := ⟨s_mem 441 (by decide +kernel) rfl, s_mem 59 (by decide +kernel) rfl, (by decide +kernel), by decide +kernel, by decide +kernel, by decide +kernel⟩
theorem s_m45 : s_mok 45 := ⟨s_mem 449 (by decide +kernel) rfl, s_mem 59 (by decide +kernel) rfl, (by decide +kernel), by decide +kernel, by decide +kernel, by decide +kernel⟩
theorem s_m46 : s_mok 46 := ⟨s_mem 453 (by decide +kernel) rfl, s_mem 59 (by decide +kernel) rfl, (by decide +kernel), by decide +kernel, by decide +kernel, by decide +kernel⟩
theorem s_m47 : s_mok 47 := ⟨s_mem 509 (by decide +kernel) rfl, s_mem 59 (by decide +kernel) rfl, (by decide +kernel), by decide +kernel, by decide +kernel, by decide +kernel⟩
theorem s_m48 : s_mok 48 := ⟨s_mem 513 (by decide +kernel) rfl, s_mem 59 (by decide +kernel) rfl, (by decide +kernel), by decide +kernel, by decide +kernel, by decide +kernel⟩
theorem s_m49 : s_mok 49 := ⟨s_mem 521 (by decide +kernel) rfl, s_mem 59 (by decide +kernel) rfl, (by decide +kernel), by decide +kernel, by decide +kernel, by decide +kernel⟩
theorem s_m50 : s_mok 50 := ⟨s_mem 541 (by decide +kernel) rfl, s_mem 59 (by decide +kernel) rfl, (by decide +kernel), by decide +kernel, by decide +kernel, by decide +kernel⟩
theorem s_m51 : s_mok 51 := ⟨s_mem 553 (by decide +kernel) rfl, s_mem 59 (by decide +kernel) rfl, (by decide +kernel), by decide +kernel, by decide +kernel, by decide +kernel⟩
theorem s_m52 : s_mok 52 := ⟨s_mem 563 (by decide +kernel) rfl, s_mem 59 (by decide +kernel) rfl, (by decide +kernel), by decide +kernel, by decide +kernel, by decide +kernel⟩
theorem s_m53 : s_mok 53 := ⟨s_mem 588 (by decide +kernel) rfl, s_mem 59 (by decide +kernel) rfl, (by decide +kernel), by decide +kernel, by decide +kernel, by decide +kernel⟩
theorem s_m54 : s_mok 54 := ⟨s_mem 596 (by decide +kernel) rfl, s_mem 59 (by decide +kernel) rfl, (by decide +kernel), by decide +kernel, by decide +kernel, by decide +kernel⟩
theorem s_m55 : s_mok 55 := ⟨s_mem 650 (by decide +kernel) rfl, s_mem 59 (by decide +kernel) rfl, (by decide +kernel), by decide +kernel, by decide +kernel, by decide +kernel⟩
theorem s_m56 : s_mok 56 := ⟨s_mem 659 (by decide +kernel) rfl, s_mem 59 (by decide +kernel) rfl, (by decide +kernel), by decide +kernel, by decide +kernel, by decide +kernel⟩
theorem s_m57 : s_mok 57 := ⟨s_mem 663 (by decide +kernel) rfl, s_mem 59 (by decide +kernel) rfl, (by decide +kernel), by decide +kernel, by decide +kernel, by decide +kernel⟩
theorem s_m58 : s_mok 58 := ⟨s_mem 676 (by decide +kernel) rfl, s_mem 59 (by decide +kernel) rfl, (by decide +kernel), by decide +kernel, by decide +kernel, by decide +kernel⟩
theorem s_m59 : s_mok 59 := ⟨s_mem 684 (by decide +kernel) rfl, s_mem 59 (by decide +kernel) rfl, (by decide +kernel), by decide +kernel, by decide +kernel, by decide +kernel⟩
theorem s_m60 : s_mok 60 := ⟨s_mem 688 (by decide +kernel) rfl, s_mem 59 (by decide +kernel) rfl, (by decide +kernel), by decide +kernel, by decide +kernel, by decide +kernel⟩
theorem s_m61 : s_mok 61 := ⟨s_mem 692 (by decide +kernel) rfl, s_mem 59 (by decide +kernel) rfl, (by decide +kernel), by decide +kernel, by decide +kernel, by decide +kernel⟩
theorem s_m62 : s_mok 62 := ⟨s_mem 721 (by decide +kernel) rfl, s_mem 59 (by decide +kernel) rfl, (by decide +kernel), by decide +kernel, by decide +kernel, by decide +kernel⟩
theorem s_m63 : s_mok 63 := ⟨s_mem 733 (by decide +kernel) rfl, s_mem 59 (by decide +kernel) rfl, (by decide +kernel), by decide +kernel, by decide +kernel, by decide +kernel⟩
theorem s_m64 : s_mok 64 := ⟨s_mem 737 (by decide +kernel) rfl, s_mem 59 (by decide +kernel) rfl, (by decide +kernel), by decide +kernel, by decide +kernel, by decide +kernel⟩
theorem s_m65 : s_mok 65 := ⟨s_mem 336 (by decide +kernel) rfl, s_mem 59 (by decide +kernel) rfl, (by decide +kernel), by decide +kernel, by decide +kernel, by decide +kernel⟩
theorem s_m66 : s_mok 66 := ⟨s_mem 741 (by decide +kernel) rfl, s_mem 59 (by decide +kernel) rfl, (by decide +kernel), by decide +kernel, by decide +kernel, by decide +kernel⟩
theorem s_m67 : s_mok 67 := ⟨s_mem 749 (by decide +kernel) rfl, s_mem 59 (by decide +kernel) rfl, (by decide +kernel), by decide +kernel, by decide +kernel, by decide +kernel⟩
theorem s_m68 : s_mok 68 := ⟨s_mem 359 (by decide +kernel) rfl, s_mem 59 (by decide +kernel) rfl, (by decide +kernel), by decide +kernel, by decide +kernel, by decide +kernel⟩
theorem s_m69 : s_mok 69 := ⟨s_mem 356 (by decide +kernel) rfl, s_mem 59 (by decide +kernel) rfl, (by decide +kernel), by decide +kernel, by decide +kernel, by decide +kernel⟩
theorem s_m70 : s_mok 70 := ⟨s_mem 353 (by decide +kernel) rfl, s_mem 59 (by decide +kernel) rfl, (by decide +kernel), by decide +kernel, by decide +kernel, by decide +kernel⟩
theorem s_m71 : s_mok 71 := ⟨s_mem 457 (by decide +kernel) rfl, s_mem 59 (by decide +kernel) rfl, (by decide +kernel), by decide +kernel, by decide +kernel, by decide +kernel⟩
theorem s_m72 : s_mok 72 := ⟨s_mem 461 (by decide +kernel) rfl, s_mem 59 (by decide +kernel) rfl, (by decide +kernel), by decide +kernel, by decide +kernel, by decide +kernel⟩
theorem s_m73 : s_mok 73 := ⟨s_mem 537 (by decide +kernel) rfl, s_mem 59 (by decide +kernel) rfl, (by decide +kernel), by decide +kernel, by decide +kernel, by decide +kernel⟩
theorem s_m74 : s_mok 74 := ⟨s_mem 525 (by decide +kernel) rfl, s_mem 59 (by decide +kernel) rfl, (by decide +kernel), by decide +kernel, by decide +kernel, by decide +kernel⟩
theorem s_m75 : s_mok 75 := ⟨s_mem 529 (by decide +kernel) rfl, s_mem 59 (by decide +kernel) rfl, (by decide +kernel), by decide +kernel, by decide +kernel, by decide +kernel⟩
theorem s_m76 : s_mok 76 := ⟨s_mem 533 (by decide +kernel) rfl, s_mem 59 (by decide +kernel) rfl, (by decide +kernel), by decide +kernel, by decide +kernel, by decide +kernel⟩
theorem s_m77 : s_mok 77 := ⟨s_mem 592 (by decide +kernel) rfl, s_mem 59 (by decide +kernel) rfl, (by decide +kernel), by decide +kernel, by decide +kernel, by decide +kernel⟩
theorem s_m78 : s_mok 78 := ⟨s_mem 567 (by decide +kernel) rfl, s_mem 59 (by decide +kernel) rfl, (by decide +kernel), by decide +kernel, by decide +kernel, by decide +kernel⟩
theorem s_m79 : s_mok 79 := ⟨s_mem 600 (by decide +kernel) rfl, s_mem 59 (by decide +kernel) rfl, (by decide +kernel), by decide +kernel, by decide +kernel, by decide +kernel⟩
theorem s_m80 : s_mok 80 := ⟨s_mem 696 (by decide +kernel) rfl, s_mem 59 (by decide +kernel) rfl, (by decide +kernel), by decide +kernel, by decide +kernel, by decide +kernel⟩
theorem s_m81 : s_mok 81 := ⟨s_mem 701 (by decide +kernel) rfl, s_mem 59 (by decide +kernel) rfl, (by decide +kernel), by decide +kernel, by decide +kernel, by decide +kernel⟩
theorem s_m82 : s_mok 82 := ⟨s_mem 709 (by decide +kernel) rfl, s_mem 59 (by decide +kernel) rfl, (by decide +kernel), by decide +kernel, by decide +kernel, by decide +kernel⟩
theorem s_m83 : s_mok 83 := ⟨s_mem 705 (by decide +kernel) rfl, s_mem 59 (by decide +kernel) rfl, (by decide +kernel), by decide +kernel, by decide +kernel, by decide +kernel⟩
theorem s_m84 : s_mok 84 := ⟨s_mem 713 (by decide +kernel) rfl, s_mem 59 (by decide +kernel) rfl, (by decide +kernel), by decide +kernel, by decide +kernel, by decide +kernel⟩
theorem s_m85 : s_mok 85 := ⟨s_mem 717 (by decide +kernel) rfl, s_mem 59 (by decide +kernel) rfl, (by decide +kernel), by decide +kernel, by decide +kernel, by decide +kernel⟩
theorem s_m86 : s_mok 86 := ⟨s_mem 724 (by decide +kernel) rfl, s_mem 59 (by decide +kernel) rfl, (by decide +kernel), by decide +kernel, by decide +kernel, by decide +kernel⟩
theorem s_m87 : s_mok 87 := ⟨s_mem 754 (by decide +kernel) rfl, s_mem 67 (by decide +kernel) rfl, (by decide +kernel), by decide +kernel, by decide +kernel, by decide +kernel⟩
theorem s_m88 : s_mok 88 := ⟨s_mem 888 (by decide +kernel) rfl, s_mem 67 (by decide +kernel) rfl, (by decide +kernel), by decide +kernel, by decide +kernel, by decide +kernel⟩
theorem s_m89 : s_mok 89 := ⟨s_mem 896 (by decide +kernel) rfl, s_mem 67 (by decide +kernel) rfl, (by decide +kernel), by decide +kernel, by decide +kernel, by decide +kernel⟩
theorem s_m90 : s_mok 90 := ⟨s_mem 906 (by decide +kernel) rfl, s_mem 67 (by decide +kernel) rfl, (by decide +kernel), by decide +kernel, by decide +kernel, by decide +kernel⟩
theorem s_m91 : s_mok 91 := ⟨s_mem 884 (by decide +kernel) rfl, s_mem 67 (by decide +kernel) rfl, (by decide +kernel), by decide +kernel, by decide +kernel, by decide +kernel⟩
theorem s_m92 : s_mok 92 := ⟨s_mem 900 (by decide +kernel) rfl, s_mem 67 (by decide +kernel) rfl, (by decide +kernel), by decide +kernel, by decide +kernel, by decide +kernel⟩
theorem s_m93 : s_mok 93 := ⟨s_mem 903 (by decide +kernel) rfl, s_mem 67 (by decide +kernel) rfl, (by decide +kernel), by decide +kernel, by decide +kernel, by decide +kernel⟩
theorem s_m94 : s_mok 94 := ⟨s_mem 892 (by decide +kernel) rfl, s_mem 67 (by decide +kernel) rfl, (by decide +kernel), by decide +kernel, by decide +kernel, by decide +kernel⟩
theorem s_m95 : s_mok 95 := ⟨s_mem 910 (by decide +kernel) rfl, s_mem 67 (by decide +kernel) rfl, (by decide +kernel), by decide +kernel, by decide +kernel, by decide +kernel⟩
theorem s_m96 : s_mok 96 := ⟨s_mem 914 (by decide +kernel) rfl, s_mem 67 (by decide +kernel) rfl, (by decide +kernel), by decide +kernel, by decide +kernel, by decide +kernel⟩
theorem s_m97 : s_mok 97 := ⟨s_mem 920 (by decide +kernel) rfl, s_mem 67 (by decide +kernel) rfl, (by decide +kernel), by decide +kernel, by decide +kernel, by decide +kernel⟩
theorem s_m98 : s_mok 98 := ⟨s_mem 924 (by decide +kernel) rfl, s_mem 67 (by decide +kernel) rfl, (by decide +kernel), by decide +kernel, by decide +kernel, by decide +kernel⟩
theorem s_m99 : s_mok 99 := ⟨s_mem 938 (by decide +kernel) rfl, s_mem 67 (by decide +kernel) rfl, (by decide +kernel), by decide +kernel, by decide +kernel, by decide +kernel⟩
theorem s_m100 : s_mok 100 := ⟨s_mem 942 (by decide +kernel) rfl, s_mem 67 (by decide +kernel) rfl, (by decide +kernel), by decide +kernel, by decide +kernel, by decide +kernel⟩
theorem s_m101 : s_mok 101 := ⟨s_mem 934 (by decide +kernel) rfl, s_mem 67 (by decide +kernel) rfl, (by decide +kernel), by decide +kernel, by decide +kernel, by decide +kernel⟩
theorem s_m102 : s_mok 102 := ⟨s_mem 929 (by decide +kernel) rfl, s_mem 67 (by decide +kernel) rfl, (by decide +kernel), by decide +kernel, by decide +kernel, by decide +kernel⟩
theorem s_m103 : s_mok 103 := ⟨s_mem 972 (by decide +kernel) rfl, s_mem 67 (by decide +kernel) rfl, (by decide +kernel), by decide +kernel, by decide +kernel, by decide +kernel⟩
theorem s_m104 : s_mok 104 := ⟨s_mem 976 (by decide +kernel) rfl, s_mem 67 (by decide +kernel) rfl, (by decide +kernel), by decide +kernel, by decide +kernel, by decide +kernel⟩
theorem s_m105 : s_mok 105 := ⟨s_mem 984 (by decide +kernel) rfl, s_mem 67 (by decide +kernel) rfl, (by decide +kernel), by decide +kernel, by decide +kernel, by decide +kernel⟩
theorem s_m106 : s_mok 106 := ⟨s_mem 980 (by decide +kernel) rfl, s_mem 67 (by decide +kernel) rfl, (by decide +kernel), by decide +kernel, by decide +kernel, by decide +kernel⟩
theorem s_m107 : s_mok 107 := ⟨s_mem 988 (by decide +kernel) rfl, s_mem 67 (by decide +kernel) rfl, (by decide +kernel), by decide +kernel, by decide +kernel, by decide +kernel⟩
theorem s_m108 : s_mok 108 := ⟨s_mem 996 (by decide +kernel) rfl, s_mem 67 (by decide +kernel) rfl, (by decide +kernel), by decide +kernel, by decide +kernel, by decide +kernel⟩
theorem s_m109 : s_mok 109 := ⟨s_mem 999 (by decide +kernel) rfl, s_mem 67 (by decide +kernel) rfl, (by decide +kernel), by decide +kernel, by decide +kernel, by decide +kernel⟩
theorem s_m110 : s_mok 110 := ⟨s_mem 992 (by decide +kernel) rfl, s_mem 67 (by decide +kernel) rfl, (by decide +kernel), by decide +kernel, by decide +kernel, by decide +kernel⟩
theorem s_m111 : s_mok 111 := ⟨s_mem 968 (by decide +kernel) rfl, s_mem 67 (by decide +kernel) rfl, (by decide +kernel), by decide +kernel, by decide +kernel, by decide +kernel⟩
theorem s_m112 : s_mok 112 := ⟨s_mem 964 (by decide +kernel) rfl, s_mem 67 (by decide +kernel) rfl, (by decide +kernel), by decide +kernel, by decide +kernel, by decide +kernel⟩
theorem s_m113 : s_mok 113 := ⟨s_mem 960 (by decide +kernel) rfl, s_mem 67 (by decide +kernel) rfl, (by decide +kernel), by decide +kernel, by decide +kernel, by decide +kernel⟩
theorem s_m114 : s_mok 114 := ⟨s_mem 946 (by decide +kernel) rfl, s_mem 67 (by decide +kernel) rfl, (by decide +kernel), by decide +kernel, by decide +kernel, by decide +kernel⟩
theorem s_m115 : s_mok 115 := ⟨s_mem 955 (by decide +kernel) rfl, s_mem 67 (by decide +kernel) rfl, (by decide +kernel), by decide +kernel, by decide +kernel, by decide +kernel⟩
theorem s_m116 : s_mok 116 := ⟨s_mem 951 (by decide +kernel) rfl, s_mem 67 (by decide +kernel) rfl, (by decide +kernel), by decide +kernel, by decide +kernel, by decide +kernel⟩
theorem s_m117 : s_mok 117 := ⟨s_mem 1003 (by decide +kernel) rfl, s_mem 67 (by decide +kernel) rfl, (by decide +kernel), by decide +kernel, by decide +kernel, by decide +kernel⟩
theorem s_m118 : s_mok 118 := ⟨s_mem 1011 (by decide +kernel) rfl, s_mem 67 (by decide +kernel) rfl, (by decide +kernel), by decide +kernel, by decide +kernel, by decide +kernel⟩
theorem s_m119 : s_mok 119 := ⟨s_mem 1007 (by decide +kernel) rfl, s_mem 67 (by decide +kernel) rfl, (by decide +kernel), by decide +kernel, by decide +kernel, by decide +kernel⟩
theorem s_m120 : s_mok 120 := ⟨s_mem 1015 (by decide +kernel) rfl, s_mem 67 (by decide +kernel) rfl, (by decide +kernel), by decide +kernel, by decide +kernel, by decide +kernel⟩
theorem s_m121 : s_mok 121 := ⟨s_mem 1023 (by decide +kernel) rfl, s_mem 67 (by decide +kernel) rfl, (by decide +kernel), by decide +kernel, by decide +kernel, by decide +kernel⟩
theorem s_m122 : s_mok 122 := ⟨s_mem 1019 (by decide +kernel) rfl, s_mem 67 (by decide +kernel) rfl, (by decide +kernel), by decide +kernel, by decide +kernel, by decide +kernel⟩
theorem s_m123 : s_mok 123 := ⟨s_mem 1027 (by decide +kernel) rfl, s_mem 67 (by decide +kernel) rfl, (by decide +kernel), by decide +kernel, by decide +kernel, by decide +kernel⟩
theorem s_m124 : s_mok 124 := ⟨s_mem 1031 (by decide +kernel) rfl, s_mem 67 (by decide +kernel) rfl, (by decide +kernel), by decide +kernel, by decide +kernel, by decide +kernel⟩
theorem s_m125 : s_mok 125 := ⟨s_mem 1041 (by decide +kernel) rfl, s_mem 67 (by decide +kernel) rfl, (by decide +kernel), by decide +kernel, by decide +kernel, by decide +kernel⟩
theorem s_m126 : s_mok 126 := ⟨s_mem 1037 (by decide +kernel) rfl, s_mem 67 (by decide +kernel) rfl, (by decide +kernel), by decide +kernel, by decide +kernel, by decide +kernel⟩
theorem s_m127 : s_mok 127 := ⟨s_mem 1065 (by decide +kernel) rfl, s_mem 67 (by decide +kernel) rfl, (by decide +kernel), by decide +kernel, by decide +kernel, by decide +kernel⟩
theorem s_m128 : s_mok 128 := ⟨s_mem 1057 (by decide +kernel) rfl, s_mem 67 (by decide +kernel) rfl, (by decide +kernel), by decide +kernel, by decide +kernel, by decide +kernel⟩
theorem s_m129 : s_mok 129 := ⟨s_mem 1061 (by decide +kernel) rfl, s_mem 67 (by decide +kernel) rfl, (by decide +kernel), by decide +kernel, by decide +kernel, by decide +kernel⟩
theorem s_m130 : s_mok 130 := ⟨s_mem 1053 (by decide +kernel) rfl, s_mem 67 (by decide +kernel) rfl, (by decide +kernel), by decide +kernel, by decide +kernel, by decide +kernel⟩
theorem s_m131 : s_mok 131 := ⟨s_mem 1049 (by decide +kernel) rfl, s_mem 67 (by decide +kernel) rfl, (by decide +kernel), by decide +kernel, by decide +kernel, by decide +kernel⟩
theorem s_m132 : s_mok 132 := ⟨s_mem 1045 (by decide +kernel) rfl, s_mem 67 (by decide +kernel) rfl, (by decide +kernel), by decide +kernel, by decide +kernel, by decide +kernel⟩
theorem s_m133 : s_mok 133 := ⟨s_mem 1070 (by decide +kernel) rfl, s_mem 67 (by decide +kernel) rfl, (by decide +kernel), by decide +kernel, by decide +kernel, by decide +kernel⟩
theorem s_m134 : s_mok 134 := ⟨s_mem 1074 (by decide +kernel) rfl, s_mem 67 (by decide +kernel) rfl, (by decide +kernel), by decide +kernel, by decide +kernel, by decide +kernel⟩
theorem s_m135 : s_mok 135 := ⟨s_mem 1078 (by decide +kernel) rfl, s_mem 67 (by decide +kernel) rfl, (by decide +kernel), by decide +kernel, by decide +kernel, by decide +kernel⟩
theorem s_m136 : s_mok 136 := ⟨s_mem 1087 (by decide +kernel) rfl, s_mem 67 (by decide +kernel) rfl, (by decide +kernel), by decide +kernel, by decide +kernel, by decide +kernel⟩
theorem s_m137 : s_mok 137 := ⟨s_mem 1083 (by decide +kernel) rfl, s_mem 67 (by decide +kernel) rfl, (by decide +kernel), by decide +kernel, by decide +kernel, by decide +kernel⟩
theorem s_m138 : s_mok 138 := ⟨s_mem 1093 (by decide +kernel) rfl, s_mem 67 (by decide +kernel) rfl, (by decide +kernel), by decide +kernel, by decide +kernel, by decide +kernel⟩
theorem s_m139 : s_mok 139 := ⟨s_mem 1097 (by decide +kernel) rfl, s_mem 67 (by decide +kernel) rfl, (by decide +kernel), by decide +kernel, by decide +kernel, by decide +kernel⟩
theorem s_m140 : s_mok 140 := ⟨s_mem 1117 (by decide +kernel) rfl, s_mem 67 (by decide +kernel) rfl, (by decide +kernel), by decide +kernel, by decide +kernel, by decide +kernel⟩
theorem s_m141 : s_mok 141 := ⟨s_mem 1113 (by decide +kernel) rfl, s_mem 67 (by decide +kernel) rfl, (by decide +kernel), by decide +kernel, by decide +kernel, by decide +kernel⟩
theorem s_m142 : s_mok 142 := ⟨s_mem 1105 (by decide +kernel) rfl, s_mem 67 (by decide +kernel) rfl, (by decide +kernel), by decide +kernel, by decide +kernel, by decide +kernel⟩
theorem s_m143 : s_mok 143 := ⟨s_mem 1109 (by decide +kernel) rfl, s_mem 67 (by decide +kernel) rfl, (by decide +kernel), by decide +kernel, by decide +kernel, by decide +kernel⟩
theorem s_m144 : s_mok 144 := ⟨s_mem 1101 (by decide +kernel) rfl, s_mem 67 (by decide +kernel) rfl, (by decide +kernel), by decide +kernel, by decide +kernel, by decide +kernel⟩
theorem s_m145 : s_mok 145 := ⟨s_mem 1126 (by decide +kernel) rfl, s_mem 67 (by decide +kernel) rfl, (by decide +kernel), by decide +kernel, by decide +kernel, by decide +kernel⟩
theorem s_m146 : s_mok 146 := ⟨s_mem 1121 (by decide +kernel) rfl, s_mem 67 (by decide +kernel) rfl, (by decide +kernel), by decide +kernel, by decide +kernel, by decide +kernel⟩
theorem s_m147 : s_mok 147 := ⟨s_mem 1130 (by decide +kernel) rfl, s_mem 67 (by decide +kernel) rfl, (by decide +kernel), by decide +kernel, by decide +kernel, by decide +kernel⟩
theorem s_m148 : s_mok 148 := ⟨s_mem 1134 (by decide +kernel) rfl, s_mem 67 (by decide +kernel) rfl, (by decide +kernel), by decide +kernel, by decide +kernel, by decide +kernel⟩
theorem s_m149 : s_mok 149 := ⟨s_mem 293 (by decide +kernel) rfl, s_mem 70 (by decide +kernel) rfl, (by decide +kernel), by decide +kernel, by decide +kernel, by decide +kernel⟩
theorem s_m150 : s_mok 150 := ⟨s_mem 323 (by decide +kernel) rfl, s_mem 70 (by decide +kernel) rfl, (by decide +kernel), by decide +kernel, by decide +kernel, by decide +kernel⟩
theorem s_m151 : s_mok 151 := ⟨s_mem 95 (by decide +kernel) rfl, s_mem 60 (by decide +kernel) rfl, (by decide +kernel), by decide +kernel, by decide +kernel, by decide +kernel⟩
theorem s_m152 : s_mok 152 := ⟨s_mem 92 (by decide +kernel) rfl, s_mem 61 (by decide +kernel) rfl, (by decide +kernel), by decide +kernel, by decide +kernel, by decide +kernel⟩
theorem s_m153 : s_mok 153 := ⟨s_mem 89 (by decide +kernel) rfl, s_mem 62 (by decide +kernel) rfl, (by decide +kernel), by decide +kernel, by decide +kernel, by decide +kernel⟩
theorem s_m154 : s_mok 154 := ⟨s_mem 287 (by decide +kernel) rfl, s_mem 62 (by decide +kernel) rfl, (by decide +kernel), by decide +kernel, by decide +kernel, by decide +kernel⟩
theorem s_m155 : s_mok 155 := ⟨s_mem 283 (by decide +kernel) rfl, s_mem 62 (by decide +kernel) rfl, (by decide +kernel), by decide +kernel, by decide +kernel, by decide +kernel⟩
theorem s_m156 : s_mok 156 := ⟨s_mem 243 (by decide +kernel) rfl, s_mem 62 (by decide +kernel) rfl, (by decide +kernel), by decide +kernel, by decide +kernel, by decide +kernel⟩
theorem s_m157 : s_mok 157 := ⟨s_mem 350 (by decide +kernel) rfl, s_mem 62 (by decide +kernel) rfl, (by decide +kernel), by decide +kernel, by decide +kernel, by decide +kernel⟩
theorem s_m158 : s_mok 158 := ⟨s_mem 340 (by decide +kernel) rfl, s_mem 62 (by decide +kernel) rfl, (by decide +kernel), by decide +kernel, by decide +kernel, by decide +kernel⟩
theorem s_m159 : s_mok 159 := ⟨s_mem 279 (by decide +kernel) rfl, s_mem 62 (by decide +kernel) rfl, (by decide +kernel), by decide +kernel, by decide +kernel, by decide +kernel⟩
theorem s_m160 : s_mok 160 := ⟨s_mem 275 (by decide +kernel) rfl, s_mem 62 (by decide +kernel) rfl, (by decide +kernel), by decide +kernel, by decide +kernel, by decide +kernel⟩
theorem s_m161 : s_mok 161 := ⟨s_mem 672 (by decide +kernel) rfl, s_mem 71 (by decide +kernel) rfl, (by decide +kernel), by decide +kernel, by decide +kernel, by decide +kernel⟩
theorem s_m162 : s_mok 162 := ⟨s_mem 424 (by decide +kernel) rfl, s_mem 71 (by decide +kernel) rfl, (by decide +kernel), by decide +kernel, by decide +kernel, by decide +kernel⟩
theorem s_m163 : s_mok 163 := ⟨s_mem 300 (by decide +kernel) rfl, s_mem 71 (by decide +kernel) rfl, (by decide +kernel), by decide +kernel, by decide +kernel, by decide +kernel⟩
theorem s_m164 : s_mok 164 := ⟨s_mem 317 (by decide +kernel) rfl, s_mem 71 (by decide +kernel) rfl, (by decide +kernel), by decide +kernel, by decide +kernel, by decide +kernel⟩
theorem s_m165 : s_mok 165 := ⟨s_mem 343 (by decide +kernel) rfl, s_mem 73 (by decide +kernel) rfl, (by decide +kernel), by decide +kernel, by decide +kernel, by decide +kernel⟩
theorem s_m166 : s_mok 166 := ⟨s_mem 290 (by decide +kernel) rfl, s_mem 69 (by decide +kernel) rfl, (by decide +kernel), by decide +kernel, by decide +kernel, by decide +kernel⟩
theorem s_m167 : s_mok 167 := ⟨s_mem 297 (by decide +kernel) rfl, s_mem 69 (by decide +kernel) rfl, (by decide +kernel), by decide +kernel, by decide +kernel, by decide +kernel⟩
theorem s_m168 : s_mok 168 := ⟨s_mem 346 (by decide +kernel) rfl, s_mem 74 (by decide +kernel) rfl, (by decide +kernel), by decide +kernel, by decide +kernel, by decide +kernel⟩
theorem s_u0 : ∀ w ∈ u_ws (s_cq 0).1 (s_cq 0).2.1 (s_cq 0).2.2, w ∈ s_tb := by
  have e : u_ws (s_cq 0).1 (s_cq 0).2.1 (s_cq 0).2.2 = ([123, 125, 127, 129] : List Nat).filterMap (fun i => lw_tbl[i]?) := by decide +kernel
  intro w hw0
  have hw := hw0
  rw [e] at hw
  obtain ⟨i, -, hi⟩ := List.mem_filterMap.mp hw
  exact s_mem i hi (List.all_eq_true.mp (show (u_ws (s_cq 0).1 (s_cq 0).2.1 (s_cq 0).2.2).all goodWord = true by decide +kernel) w hw0)
theorem s_k0 : s_kok 0 := ⟨s_u0, tyX0_ok, nmX0, s_mem 112 (by decide +kernel) rfl, s_mem 63 (by decide +kernel) rfl, List.mem_of_getElem? (i := 1138) (by decide +kernel), rfl⟩
theorem s_u1 : ∀ w ∈ u_ws (s_cq 1).1 (s_cq 1).2.1 (s_cq 1).2.2, w ∈ s_tb := by
  have e : u_ws (s_cq 1).1 (s_cq 1).2.1 (s_cq 1).2.2 = ([195, 197, 199, 201, 203, 205] : List Nat).filterMap (fun i => lw_tbl[i]?) := by decide +kernel
  intro w hw0
  have hw := hw0
  rw [e] at hw
  obtain ⟨i, -, hi⟩ := List.mem_filterMap.mp hw
  exact s_mem i hi (List.all_eq_true.mp (show (u_ws (s_cq 1).1 (s_cq 1).2.1 (s_cq 1).2.2).all goodWord = true by decide +kernel) w hw0)
theorem s_k1 : s_kok 1 := ⟨s_u1, tyX1_ok, nmX1, s_mem 178 (by decide +kernel) rfl, s_mem 66 (by decide +kernel) rfl, List.mem_of_getElem? (i := 1141) (by decide +kernel), rfl⟩
theorem s_u2 : ∀ w ∈ u_ws (s_cq 2).1 (s_cq 2).2.1 (s_cq 2).2.2, w ∈ s_tb := by
  have e : u_ws (s_cq 2).1 (s_cq 2).2.1 (s_cq 2).2.2 = ([580, 582] : List Nat).filterMap (fun i => lw_tbl[i]?) := by decide +kernel
  intro w hw0
  have hw := hw0
  rw [e] at hw
  obtain ⟨i, -, hi⟩ := List.mem_filterMap.mp hw
  exact s_mem i hi (List.all_eq_true.mp (show (u_ws (s_cq 2).1 (s_cq 2).2.1 (s_cq 2).2.2).all goodWord = true by decide +kernel) w hw0)
theorem s_k2 : s_kok 2 := ⟨s_u2, tyX2_ok, nmX2, s_mem 570 (by decide +kernel) rfl, s_mem 76 (by decide +kernel) rfl, List.mem_of_getElem? (i := 1145) (by decide +kernel), rfl⟩
theorem s_u3 : ∀ w ∈ u_ws (s_cq 3).1 (s_cq 3).2.1 (s_cq 3).2.2, w ∈ s_tb := by
  have e : u_ws (s_cq 3).1 (s_cq 3).2.1 (s_cq 3).2.2 = ([395, 397, 399, 401, 403, 405, 407, 409, 411, 413, 415] : List Nat).filterMap (fun i => lw_tbl[i]?) := by decide +kernel
  intro w hw0
  have hw := hw0
  rw [e] at hw
  obtain ⟨i, -, hi⟩ := List.mem_filterMap.mp hw
  exact s_mem i hi (List.all_eq_true.mp (show (u_ws (s_cq 3).1 (s_cq 3).2.1 (s_cq 3).2.2).all goodWord = true by decide +kernel) w hw0)
theorem s_k3 : s_kok 3 := ⟨s_u3, tyX3_ok, nmX3, s_mem 361 (by decide +kernel) rfl, s_mem 75 (by decide +kernel) rfl, List.mem_of_getElem? (i := 1144) (by decide +kernel), rfl⟩
theorem s_u4 : ∀ w ∈ u_ws (s_cq 4).1 (s_cq 4).2.1 (s_cq 4).2.2, w ∈ s_tb := by
  have e : u_ws (s_cq 4).1 (s_cq 4).2.1 (s_cq 4).2.2 = ([162, 164, 166, 168, 170, 172, 174] : List Nat).filterMap (fun i => lw_tbl[i]?) := by decide +kernel
  intro w hw0
  have hw := hw0
  rw [e] at hw
  obtain ⟨i, -, hi⟩ := List.mem_filterMap.mp hw
  exact s_mem i hi (List.all_eq_true.mp (show (u_ws (s_cq 4).1 (s_cq 4).2.1 (s_cq 4).2.2).all goodWord = true by decide +kernel) w hw0)
theorem s_k4 : s_kok 4 := ⟨s_u4, tyX4_ok, nmX4, s_mem 134 (by decide +kernel) rfl, s_mem 64 (by decide +kernel) rfl, List.mem_of_getElem? (i := 1139) (by decide +kernel), rfl⟩
theorem s_u5 : ∀ w ∈ u_ws (s_cq 5).1 (s_cq 5).2.1 (s_cq 5).2.2, w ∈ s_tb := by
  have e : u_ws (s_cq 5).1 (s_cq 5).2.1 (s_cq 5).2.2 = ([149, 151] : List Nat).filterMap (fun i => lw_tbl[i]?) := by decide +kernel
  intro w hw0
  have hw := hw0
  rw [e] at hw
  obtain ⟨i, -, hi⟩ := List.mem_filterMap.mp hw
  exact s_mem i hi (List.all_eq_true.mp (show (u_ws (s_cq 5).1 (s_cq 5).2.1 (s_cq 5).2.2).all goodWord = true by decide +kernel) w hw0)
theorem s_k5 : s_kok 5 := ⟨s_u5, tyX5_ok, nmX5, s_mem 140 (by decide +kernel) rfl, s_mem 65 (by decide +kernel) rfl, List.mem_of_getElem? (i := 1140) (by decide +kernel), rfl⟩
theorem s_u6 : ∀ w ∈ u_ws (s_cq 6).1 (s_cq 6).2.1 (s_cq 6).2.2, w ∈ s_tb := by
  have e : u_ws (s_cq 6).1 (s_cq 6).2.1 (s_cq 6).2.2 = ([262, 264, 266, 268] : List Nat).filterMap (fun i => lw_tbl[i]?) := by decide +kernel
  intro w hw0
  have hw := hw0
  rw [e] at hw
  obtain ⟨i, -, hi⟩ := List.mem_filterMap.mp hw
  exact s_mem i hi (List.all_eq_true.mp (show (u_ws (s_cq 6).1 (s_cq 6).2.1 (s_cq 6).2.2).all goodWord = true by decide +kernel) w hw0)
theorem s_k6 : s_kok 6 := ⟨s_u6, tyX6_ok, nmX6, s_mem 245 (by decide +kernel) rfl, s_mem 68 (by decide +kernel) rfl, List.mem_of_getElem? (i := 1143) (by decide +kernel), rfl⟩
theorem s_u7 : ∀ w ∈ u_ws (s_cq 7).1 (s_cq 7).2.1 (s_cq 7).2.2, w ∈ s_tb := by
  have e : u_ws (s_cq 7).1 (s_cq 7).2.1 (s_cq 7).2.2 = ([217, 219, 221, 223, 225, 227, 229, 231, 233] : List Nat).filterMap (fun i => lw_tbl[i]?) := by decide +kernel
  intro w hw0
  have hw := hw0
  rw [e] at hw
  obtain ⟨i, -, hi⟩ := List.mem_filterMap.mp hw
  exact s_mem i hi (List.all_eq_true.mp (show (u_ws (s_cq 7).1 (s_cq 7).2.1 (s_cq 7).2.2).all goodWord = true by decide +kernel) w hw0)
theorem s_k7 : s_kok 7 := ⟨s_u7, tyX7_ok, nmX7, s_mem 78 (by decide +kernel) rfl, s_mem 59 (by decide +kernel) rfl, List.mem_of_getElem? (i := 1136) (by decide +kernel), rfl⟩
theorem s_u8 : ∀ w ∈ u_ws (s_cq 8).1 (s_cq 8).2.1 (s_cq 8).2.2, w ∈ s_tb := by
  have e : u_ws (s_cq 8).1 (s_cq 8).2.1 (s_cq 8).2.2 = ([797, 799, 801, 803, 805, 807, 809, 811, 813, 815, 817, 819, 821, 823, 825, 827, 829, 831, 833, 835, 837, 839, 841, 843, 845, 847, 849, 851, 853, 855, 857, 859, 861, 863, 865, 867, 869, 871, 873, 875, 877] : List Nat).filterMap (fun i => lw_tbl[i]?) := by decide +kernel
  intro w hw0
  have hw := hw0
  rw [e] at hw
  obtain ⟨i, -, hi⟩ := List.mem_filterMap.mp hw
  exact s_mem i hi (List.all_eq_true.mp (show (u_ws (s_cq 8).1 (s_cq 8).2.1 (s_cq 8).2.2).all goodWord = true by decide +kernel) w hw0)
theorem s_k8 : s_kok 8 := ⟨s_u8, tyX8_ok, nmX8, s_mem 751 (by decide +kernel) rfl, s_mem 67 (by decide +kernel) rfl, List.mem_of_getElem? (i := 1142) (by decide +kernel), rfl⟩
theorem s_u9 : ∀ w ∈ u_ws (s_cq 9).1 (s_cq 9).2.1 (s_cq 9).2.2, w ∈ s_tb := by
  have e : u_ws (s_cq 9).1 (s_cq 9).2.1 (s_cq 9).2.2 = ([108, 104, 106] : List Nat).filterMap (fun i => lw_tbl[i]?) := by decide +kernel
  intro w hw0
  have hw := hw0
  rw [e] at hw
  obtain ⟨i, -, hi⟩ := List.mem_filterMap.mp hw
  exact s_mem i hi (List.all_eq_true.mp (show (u_ws (s_cq 9).1 (s_cq 9).2.1 (s_cq 9).2.2).all goodWord = true by decide +kernel) w hw0)
theorem s_k9 : s_kok 9 := ⟨s_u9, tyJx4a65c_ok, nmJx4a65c, s_mem 86 (by decide +kernel) rfl, s_mem 62 (by decide +kernel) rfl, List.mem_of_getElem? (i := 1137) (by decide +kernel), rfl⟩
theorem s_fo : ∀ i, i < 19 → ∀ e ∈ z_ft.getD i [], s_fok i e := by
  intro i hi
  match i, hi with
  | 0, _ => exact s_fo0
  | 1, _ => exact s_fo1
  | 2, _ => exact s_fo2
  | 3, _ => exact s_fo3
  | 4, _ => exact s_fo4
  | 5, _ => exact s_fo5
  | 6, _ => exact s_fo6
  | 7, _ => exact s_fo7
  | 8, _ => exact s_fo8
  | 9, _ => exact s_fo9
  | 10, _ => exact s_fo10
  | 11, _ => exact s_fo11
  | 12, _ => exact s_fo12
  | 13, _ => exact s_fo13
  | 14, _ => exact s_fo14
  | 15, _ => exact s_fo15
  | 16, _ => exact s_fo16
  | 17, _ => exact s_fo17
  | 18, _ => exact s_fo18
  | i + 19, hi => exact absurd hi (by omega)
theorem s_co : ∀ i, i < 19 → ∀ e ∈ z_ct.getD i [], s_cok i e := by
  intro i hi
  match i, hi with
  | 0, _ => exact s_co0
  | 1, _ => exact s_co1
  | 2, _ => exact s_co2
  | 3, _ => exact s_co3
  | 4, _ => exact s_co4
  | 5, _ => exact s_co5
  | 6, _ => exact s_co6
  | 7, _ => exact s_co7
  | 8, _ => exact s_co8
  | 9, _ => exact s_co9
  | 10, _ => exact s_co10
  | 11, _ => exact s_co11
  | 12, _ => exact s_co12
  | 13, _ => exact s_co13
  | 14, _ => exact s_co14
  | 15, _ => exact s_co15
  | 16, _ => exact s_co16
  | 17, _ => exact s_co17
  | 18, _ => exact s_co18
  | i + 19, hi => exact absurd hi (by omega)
theorem s_ko : ∀ i, i < 10 → s_kok i := by
  intro i hi
  match i, hi with
  | 0, _ => exact s_k0
  | 1, _ => exact s_k1
  | 2, _ => exact s_k2
  | 3, _ => exact s_k3
  | 4, _ => exact s_k4
  | 5, _ => exact s_k5
  | 6, _ => exact s_k6
  | 7, _ => exact s_k7
  | 8, _ => exact s_k8
  | 9, _ => exact s_k9
  | i + 10, hi => exact absurd hi (by omega)
set_option maxRecDepth 20000 in
theorem s_mo : ∀ M ∈ List.range 169, s_mok M := by
  have e : List.range 169 = [0, 1, 2, 3, 4, 5, 6, 7, 8, 9, 10, 11, 12, 13, 14, 15, 16, 17, 18, 19, 20, 21, 22, 23, 24, 25, 26, 27, 28, 29, 30, 31, 32, 33, 34, 35, 36, 37, 38, 39, 40, 41, 42, 43, 44, 45, 46, 47, 48, 49, 50, 51, 52, 53, 54, 55, 56, 57, 58, 59, 60, 61, 62, 63, 64, 65, 66, 67, 68, 69, 70, 71, 72, 73, 74, 75, 76, 77, 78, 79, 80, 81, 82, 83, 84, 85, 86, 87, 88, 89, 90, 91, 92, 93, 94, 95, 96, 97, 98, 99, 100, 101, 102, 103, 104, 105, 106, 107, 108, 109, 110, 111, 112, 113, 114, 115, 116, 117, 118, 119, 120, 121, 122, 123, 124, 125, 126, 127, 128, 129, 130, 131, 132, 133, 134, 135, 136, 137, 138, 139, 140, 141, 142, 143, 144, 145, 146, 147, 148, 149, 150, 151, 152, 153, 154, 155, 156, 157, 158, 159, 160, 161, 162, 163, 164, 165, 166, 167, 168] := by decide +kernel
  rw [e]
  exact List.forall_mem_cons.mpr ⟨s_m0, List.forall_mem_cons.mpr ⟨s_m1, List.forall_mem_cons.mpr ⟨s_m2, List.forall_mem_cons.mpr ⟨s_m3, List.forall_mem_cons.mpr ⟨s_m4, List.forall_mem_cons.mpr ⟨s_m5, List.forall_mem_cons.mpr ⟨s_m6, List.forall_mem_cons.mpr ⟨s_m7, List.forall_mem_cons.mpr ⟨s_m8, List.forall_mem_cons.mpr ⟨s_m9, List.forall_mem_cons.mpr ⟨s_m10, List.forall_mem_cons.mpr ⟨s_m11, List.forall_mem_cons.mpr ⟨s_m12, List.forall_mem_cons.mpr ⟨s_m13, List.forall_mem_cons.mpr ⟨s_m14, List.forall_mem_cons.mpr ⟨s_m15, List.forall_mem_cons.mpr ⟨s_m16, List.forall_mem_cons.mpr ⟨s_m17, List.forall_mem_cons.mpr ⟨s_m18, List.forall_mem_cons.mpr ⟨s_m19, List.forall_mem_cons.mpr ⟨s_m20, List.forall_mem_cons.mpr ⟨s_m21, List.forall_mem_cons.mpr ⟨s_m22, List.forall_mem_cons.mpr ⟨s_m23, List.forall_mem_cons.mpr ⟨s_m24, List.forall_mem_cons.mpr ⟨s_m25, List.forall_mem_cons.mpr ⟨s_m26, List.forall_mem_cons.mpr ⟨s_m27, List.forall_mem_cons.mpr ⟨s_m28, List.forall_mem_cons.mpr ⟨s_m29, List.forall_mem_cons.mpr ⟨s_m30, List.forall_mem_cons.mpr ⟨s_m31, List.forall_mem_cons.mpr ⟨s_m32, List.forall_mem_cons.mpr ⟨s_m33, List.forall_mem_cons.mpr ⟨s_m34, List.forall_mem_cons.mpr ⟨s_m35, List.forall_mem_cons.mpr ⟨s_m36, List.forall_mem_cons.mpr ⟨s_m37, List.forall_mem_cons.mpr ⟨s_m38, List.forall_mem_cons.mpr ⟨s_m39, List.forall_mem_cons.mpr ⟨s_m40, List.forall_mem_cons.mpr ⟨s_m41, List.forall_mem_cons.mpr ⟨s_m42, List.forall_mem_cons.mpr ⟨s_m43, List.forall_mem_cons.mpr ⟨s_m44, List.forall_mem_cons.mpr ⟨s_m45, List.forall_mem_cons.mpr ⟨s_m46, List.forall_mem_cons.mpr ⟨s_m47, List.forall_mem_cons.mpr ⟨s_m48, List.forall_mem_cons.mpr ⟨s_m49, List.forall_mem_cons.mpr ⟨s_m50, List.forall_mem_cons.mpr ⟨s_m51, List.forall_mem_cons.mpr ⟨s_m52, List.forall_mem_cons.mpr ⟨s_m53, List.forall_mem_cons.mpr ⟨s_m54, List.forall_mem_cons.mpr ⟨s_m55, List.forall_mem_cons.mpr ⟨s_m56, List.forall_mem_cons.mpr ⟨s_m57, List.forall_mem_cons.mpr ⟨s_m58, List.forall_mem_cons.mpr ⟨s_m59, List.forall_mem_cons.mpr ⟨s_m60, List.forall_mem_cons.mpr ⟨s_m61, List.forall_mem_cons.mpr ⟨s_m62, List.forall_mem_cons.mpr ⟨s_m63, List.forall_mem_cons.mpr ⟨s_m64, List.forall_mem_cons.mpr ⟨s_m65, List.forall_mem_cons.mpr ⟨s_m66, List.forall_mem_cons.mpr ⟨s_m67, List.forall_mem_cons.mpr ⟨s_m68, List.forall_mem_cons.mpr ⟨s_m69, List.forall_mem_cons.mpr ⟨s_m70, List.forall_mem_cons.mpr ⟨s_m71, List.forall_mem_cons.mpr ⟨s_m72, List.forall_mem_cons.mpr ⟨s_m73, List.forall_mem_cons.mpr ⟨s_m74, List.forall_mem_cons.mpr ⟨s_m75, List.forall_mem_cons.mpr ⟨s_m76, List.forall_mem_cons.mpr ⟨s_m77, List.forall_mem_cons.mpr ⟨s_m78, List.forall_mem_cons.mpr ⟨s_m79, List.forall_mem_cons.mpr ⟨s_m80, List.forall_mem_cons.mpr ⟨s_m81, List.forall_mem_cons.mpr ⟨s_m82, List.forall_mem_cons.mpr ⟨s_m83, List.forall_mem_cons.mpr ⟨s_m84, List.forall_mem_cons.mpr ⟨s_m85, List.forall_mem_cons.mpr ⟨s_m86, List.forall_mem_cons.mpr ⟨s_m87, List.forall_mem_cons.mpr ⟨s_m88, List.forall_mem_cons.mpr ⟨s_m89, List.forall_mem_cons.mpr ⟨s_m90, List.forall_mem_cons.mpr ⟨s_m91, List.forall_mem_cons.mpr ⟨s_m92, List.forall_mem_cons.mpr ⟨s_m93, List.forall_mem_cons.mpr ⟨s_m94, List.forall_mem_cons.mpr ⟨s_m95, List.forall_mem_cons.mpr ⟨s_m96, List.forall_mem_cons.mpr ⟨s_m97, List.forall_mem_cons.mpr ⟨s_m98, List.forall_mem_cons.mpr ⟨s_m99, List.forall_mem_cons.mpr ⟨s_m100, List.forall_mem_cons.mpr ⟨s_m101, List.forall_mem_cons.mpr ⟨s_m102, List.forall_mem_cons.mpr ⟨s_m103, List.forall_mem_cons.mpr ⟨s_m104, List.forall_mem_cons.mpr ⟨s_m105, List.forall_mem_cons.mpr ⟨s_m106, List.forall_mem_cons.mpr ⟨s_m107, List.forall_mem_cons.mpr ⟨s_m108, List.forall_mem_cons.mpr ⟨s_m109, List.forall_mem_cons.mpr ⟨s_m110, List.forall_mem_cons.mpr ⟨s_m111, List.forall_mem_cons.mpr ⟨s_m112, List.forall_mem_cons.mpr ⟨s_m113, List.forall_mem_cons.mpr ⟨s_m114, List.forall_mem_cons.mpr ⟨s_m115, List.forall_mem_cons.mpr ⟨s_m116, List.forall_mem_cons.mpr ⟨s_m117, List.forall_mem_cons.mpr ⟨s_m118, List.forall_mem_cons.mpr ⟨s_m119, List.forall_mem_cons.mpr ⟨s_m120, List.forall_mem_cons.mpr ⟨s_m121, List.forall_mem_cons.mpr ⟨s_m122, List.forall_mem_cons.mpr ⟨s_m123, List.forall_mem_cons.mpr ⟨s_m124, List.forall_mem_cons.mpr ⟨s_m125, List.forall_mem_cons.mpr ⟨s_m126, List.forall_mem_cons.mpr ⟨s_m127, List.forall_mem_cons.mpr ⟨s_m128, List.forall_mem_cons.mpr ⟨s_m129, List.forall_mem_cons.mpr ⟨s_m130, List.forall_mem_cons.mpr ⟨s_m131, List.forall_mem_cons.mpr ⟨s_m132, List.forall_mem_cons.mpr ⟨s_m133, List.forall_mem_cons.mpr ⟨s_m134, List.forall_mem_cons.mpr ⟨s_m135, List.forall_mem_cons.mpr ⟨s_m136, List.forall_mem_cons.mpr ⟨s_m137, List.forall_mem_cons.mpr ⟨s_m138, List.forall_mem_cons.mpr ⟨s_m139, List.forall_mem_cons.mpr ⟨s_m140, List.forall_mem_cons.mpr ⟨s_m141, List.forall_mem_cons.mpr ⟨s_m142, List.forall_mem_cons.mpr ⟨s_m143, List.forall_mem_cons.mpr ⟨s_m144, List.forall_mem_cons.mpr ⟨s_m145, List.forall_mem_cons.mpr ⟨s_m146, List.forall_mem_cons.mpr ⟨s_m147, List.forall_mem_cons.mpr ⟨s_m148, List.forall_mem_cons.mpr ⟨s_m149, List.forall_mem_cons.mpr ⟨s_m150, List.forall_mem_cons.mpr ⟨s_m151, List.forall_mem_cons.mpr ⟨s_m152, List.forall_mem_cons.mpr ⟨s_m153, List.forall_mem_cons.mpr ⟨s_m154, List.forall_mem_cons.mpr ⟨s_m155, List.forall_mem_cons.mpr ⟨s_m156, List.forall_mem_cons.mpr ⟨s_m157, List.forall_mem_cons.mpr ⟨s_m158, List.forall_mem_cons.mpr ⟨s_m159, List.forall_mem_cons.mpr ⟨s_m160, List.forall_mem_cons.mpr ⟨s_m161, List.forall_mem_cons.mpr ⟨s_m162, List.forall_mem_cons.mpr ⟨s_m163, List.forall_mem_cons.mpr ⟨s_m164, List.forall_mem_cons.mpr ⟨s_m165, List.forall_mem_cons.mpr ⟨s_m166, List.forall_mem_cons.mpr ⟨s_m167, List.forall_mem_cons.mpr ⟨s_m168, fun _ h => absurd h List.not_mem_nil⟩⟩⟩⟩⟩⟩⟩⟩⟩⟩⟩⟩⟩⟩⟩⟩⟩⟩⟩⟩⟩⟩⟩⟩⟩⟩⟩⟩⟩⟩⟩⟩⟩⟩⟩⟩⟩⟩⟩⟩⟩⟩⟩⟩⟩⟩⟩⟩⟩⟩⟩⟩⟩⟩⟩⟩⟩⟩⟩⟩⟩⟩⟩⟩⟩⟩⟩⟩⟩⟩⟩⟩⟩⟩⟩⟩⟩⟩⟩⟩⟩⟩⟩⟩⟩⟩⟩⟩⟩⟩⟩⟩⟩⟩⟩⟩⟩⟩⟩⟩⟩⟩⟩⟩⟩⟩⟩⟩⟩⟩⟩⟩⟩⟩⟩⟩⟩⟩⟩⟩⟩⟩⟩⟩⟩⟩⟩⟩⟩⟩⟩⟩⟩⟩⟩⟩⟩⟩⟩⟩⟩⟩⟩⟩⟩⟩⟩⟩⟩⟩⟩⟩⟩⟩⟩⟩⟩⟩⟩⟩⟩⟩⟩⟩⟩⟩⟩⟩⟩
theorem s_owlt : ∀ M ∈ List.range 170, z_ow M < 19 := by decide +kernel
theorem s_constanto0 : ∀ e ∈ z_it.getD 0 [], Cond.constant (s_nm 0) e.1 e.2 ∈ s_tb := fun _ h => absurd h List.not_mem_nil
theorem s_constanto1 : ∀ e ∈ z_it.getD 1 [], Cond.constant (s_nm 1) e.1 e.2 ∈ s_tb := fun _ h => absurd h List.not_mem_nil
theorem s_constanto2 : ∀ e ∈ z_it.getD 2 [], Cond.constant (s_nm 2) e.1 e.2 ∈ s_tb := fun _ h => absurd h List.not_mem_nil
theorem s_constanto3 : ∀ e ∈ z_it.getD 3 [], Cond.constant (s_nm 3) e.1 e.2 ∈ s_tb := fun _ h => absurd h List.not_mem_nil
theorem s_constant4_92 : Cond.constant (s_nm 4) 92 (1000000 : Int32) ∈ s_tb := s_mem 646 (by decide +kernel) rfl
theorem s_constanto4 : ∀ e ∈ z_it.getD 4 [], Cond.constant (s_nm 4) e.1 e.2 ∈ s_tb := List.forall_mem_cons.mpr ⟨s_constant4_92, fun _ h => absurd h List.not_mem_nil⟩
theorem s_constant5_18 : Cond.constant (s_nm 5) 18 (1000000 : Int32) ∈ s_tb := s_mem 609 (by decide +kernel) rfl
theorem s_constanto5 : ∀ e ∈ z_it.getD 5 [], Cond.constant (s_nm 5) e.1 e.2 ∈ s_tb := List.forall_mem_cons.mpr ⟨s_constant5_18, fun _ h => absurd h List.not_mem_nil⟩
theorem s_constanto6 : ∀ e ∈ z_it.getD 6 [], Cond.constant (s_nm 6) e.1 e.2 ∈ s_tb := fun _ h => absurd h List.not_mem_nil
theorem s_constanto7 : ∀ e ∈ z_it.getD 7 [], Cond.constant (s_nm 7) e.1 e.2 ∈ s_tb := fun _ h => absurd h List.not_mem_nil
theorem s_constant8_160 : Cond.constant (s_nm 8) 160 (1000000000 : Int32) ∈ s_tb := s_mem 993 (by decide +kernel) rfl
theorem s_constant8_220 : Cond.constant (s_nm 8) 220 (1000000 : Int32) ∈ s_tb := s_mem 1066 (by decide +kernel) rfl
theorem s_constanto8 : ∀ e ∈ z_it.getD 8 [], Cond.constant (s_nm 8) e.1 e.2 ∈ s_tb := List.forall_mem_cons.mpr ⟨s_constant8_160, List.forall_mem_cons.mpr ⟨s_constant8_220, fun _ h => absurd h List.not_mem_nil⟩⟩
theorem s_constanto9 : ∀ e ∈ z_it.getD 9 [], Cond.constant (s_nm 9) e.1 e.2 ∈ s_tb := fun _ h => absurd h List.not_mem_nil
theorem s_constanto10 : ∀ e ∈ z_it.getD 10 [], Cond.constant (s_nm 10) e.1 e.2 ∈ s_tb := fun _ h => absurd h List.not_mem_nil
theorem s_constanto11 : ∀ e ∈ z_it.getD 11 [], Cond.constant (s_nm 11) e.1 e.2 ∈ s_tb := fun _ h => absurd h List.not_mem_nil
theorem s_constanto12 : ∀ e ∈ z_it.getD 12 [], Cond.constant (s_nm 12) e.1 e.2 ∈ s_tb := fun _ h => absurd h List.not_mem_nil
theorem s_constant13_200 : Cond.constant (s_nm 13) 200 (2147483639 : Int32) ∈ s_tb := s_mem 294 (by decide +kernel) rfl
theorem s_constanto13 : ∀ e ∈ z_it.getD 13 [], Cond.constant (s_nm 13) e.1 e.2 ∈ s_tb := List.forall_mem_cons.mpr ⟨s_constant13_200, fun _ h => absurd h List.not_mem_nil⟩
theorem s_constanto14 : ∀ e ∈ z_it.getD 14 [], Cond.constant (s_nm 14) e.1 e.2 ∈ s_tb := fun _ h => absurd h List.not_mem_nil
theorem s_constanto15 : ∀ e ∈ z_it.getD 15 [], Cond.constant (s_nm 15) e.1 e.2 ∈ s_tb := fun _ h => absurd h List.not_mem_nil
theorem s_constanto16 : ∀ e ∈ z_it.getD 16 [], Cond.constant (s_nm 16) e.1 e.2 ∈ s_tb := fun _ h => absurd h List.not_mem_nil
theorem s_constanto17 : ∀ e ∈ z_it.getD 17 [], Cond.constant (s_nm 17) e.1 e.2 ∈ s_tb := fun _ h => absurd h List.not_mem_nil
theorem s_constanto18 : ∀ e ∈ z_it.getD 18 [], Cond.constant (s_nm 18) e.1 e.2 ∈ s_tb := fun _ h => absurd h List.not_mem_nil
theorem s_constanto : ∀ i, i < 19 → ∀ e ∈ z_it.getD i [], Cond.constant (s_nm i) e.1 e.2 ∈ s_tb := by
  intro i hi
  match i, hi with
  | 0, _ => exact s_constanto0
  | 1, _ => exact s_constanto1
  | 2, _ => exact s_constanto2
  | 3, _ => exact s_constanto3
  | 4, _ => exact s_constanto4
  | 5, _ => exact s_constanto5
  | 6, _ => exact s_constanto6
  | 7, _ => exact s_constanto7
  | 8, _ => exact s_constanto8
  | 9, _ => exact s_constanto9
  | 10, _ => exact s_constanto10
  | 11, _ => exact s_constanto11
  | 12, _ => exact s_constanto12
  | 13, _ => exact s_constanto13
  | 14, _ => exact s_constanto14
  | 15, _ => exact s_constanto15
  | 16, _ => exact s_constanto16
  | 17, _ => exact s_constanto17
  | 18, _ => exact s_constanto18
  | i + 19, hi => exact absurd hi (by omega)
theorem s_constantLongo0 : ∀ e ∈ z_lt.getD 0 [], Cond.constantLong (s_nm 0) e.1 e.2 ∈ s_tb := fun _ h => absurd h List.not_mem_nil
theorem s_constantLongo1 : ∀ e ∈ z_lt.getD 1 [], Cond.constantLong (s_nm 1) e.1 e.2 ∈ s_tb := fun _ h => absurd h List.not_mem_nil
theorem s_constantLong2_19 : Cond.constantLong (s_nm 2) 19 (24 : Int64) ∈ s_tb := s_mem 575 (by decide +kernel) rfl
theorem s_constantLongo2 : ∀ e ∈ z_lt.getD 2 [], Cond.constantLong (s_nm 2) e.1 e.2 ∈ s_tb := List.forall_mem_cons.mpr ⟨s_constantLong2_19, fun _ h => absurd h List.not_mem_nil⟩
theorem s_constantLongo3 : ∀ e ∈ z_lt.getD 3 [], Cond.constantLong (s_nm 3) e.1 e.2 ∈ s_tb := fun _ h => absurd h List.not_mem_nil
theorem s_constantLongo4 : ∀ e ∈ z_lt.getD 4 [], Cond.constantLong (s_nm 4) e.1 e.2 ∈ s_tb := fun _ h => absurd h List.not_mem_nil
theorem s_constantLongo5 : ∀ e ∈ z_lt.getD 5 [], Cond.constantLong (s_nm 5) e.1 e.2 ∈ s_tb := fun _ h => absurd h List.not_mem_nil
theorem s_constantLongo6 : ∀ e ∈ z_lt.getD 6 [], Cond.constantLong (s_nm 6) e.1 e.2 ∈ s_tb := fun _ h => absurd h List.not_mem_nil
theorem s_constantLong7_247 : Cond.constantLong (s_nm 7) 247 (24 : Int64) ∈ s_tb := s_mem 568 (by decide +kernel) rfl
theorem s_constantLongo7 : ∀ e ∈ z_lt.getD 7 [], Cond.constantLong (s_nm 7) e.1 e.2 ∈ s_tb := List.forall_mem_cons.mpr ⟨s_constantLong7_247, fun _ h => absurd h List.not_mem_nil⟩
theorem s_constantLong8_118 : Cond.constantLong (s_nm 8) 118 (5 : Int64) ∈ s_tb := s_mem 885 (by decide +kernel) rfl
theorem s_constantLong8_124 : Cond.constantLong (s_nm 8) 124 (12 : Int64) ∈ s_tb := s_mem 897 (by decide +kernel) rfl
theorem s_constantLong8_136 : Cond.constantLong (s_nm 8) 136 (-128 : Int64) ∈ s_tb := s_mem 915 (by decide +kernel) rfl
theorem s_constantLong8_138 : Cond.constantLong (s_nm 8) 138 (127 : Int64) ∈ s_tb := s_mem 916 (by decide +kernel) rfl
theorem s_constantLong8_140 : Cond.constantLong (s_nm 8) 140 (39 : Int64) ∈ s_tb := s_mem 925 (by decide +kernel) rfl
theorem s_constantLong8_150 : Cond.constantLong (s_nm 8) 150 (15 : Int64) ∈ s_tb := s_mem 930 (by decide +kernel) rfl
theorem s_constantLong8_192 : Cond.constantLong (s_nm 8) 192 (100 : Int64) ∈ s_tb := s_mem 947 (by decide +kernel) rfl
theorem s_constantLong8_194 : Cond.constantLong (s_nm 8) 194 (6 : Int64) ∈ s_tb := s_mem 956 (by decide +kernel) rfl
theorem s_constantLong8_210 : Cond.constantLong (s_nm 8) 210 (8 : Int64) ∈ s_tb := s_mem 1032 (by decide +kernel) rfl
theorem s_constantLong8_212 : Cond.constantLong (s_nm 8) 212 (24 : Int64) ∈ s_tb := s_mem 1033 (by decide +kernel) rfl
theorem s_constantLong8_242 : Cond.constantLong (s_nm 8) 242 (14 : Int64) ∈ s_tb := s_mem 1079 (by decide +kernel) rfl
theorem s_constantLong8_254 : Cond.constantLong (s_nm 8) 254 (7 : Int64) ∈ s_tb := s_mem 1088 (by decide +kernel) rfl
theorem s_constantLong8_256 : Cond.constantLong (s_nm 8) 256 (-1 : Int64) ∈ s_tb := s_mem 1089 (by decide +kernel) rfl
theorem s_constantLong8_279 : Cond.constantLong (s_nm 8) 279 (20000 : Int64) ∈ s_tb := s_mem 1122 (by decide +kernel) rfl
theorem s_constantLongo8 : ∀ e ∈ z_lt.getD 8 [], Cond.constantLong (s_nm 8) e.1 e.2 ∈ s_tb := List.forall_mem_cons.mpr ⟨s_constantLong8_118, List.forall_mem_cons.mpr ⟨s_constantLong8_124, List.forall_mem_cons.mpr ⟨s_constantLong8_136, List.forall_mem_cons.mpr ⟨s_constantLong8_138, List.forall_mem_cons.mpr ⟨s_constantLong8_140, List.forall_mem_cons.mpr ⟨s_constantLong8_150, List.forall_mem_cons.mpr ⟨s_constantLong8_192, List.forall_mem_cons.mpr ⟨s_constantLong8_194, List.forall_mem_cons.mpr ⟨s_constantLong8_210, List.forall_mem_cons.mpr ⟨s_constantLong8_212, List.forall_mem_cons.mpr ⟨s_constantLong8_242, List.forall_mem_cons.mpr ⟨s_constantLong8_254, List.forall_mem_cons.mpr ⟨s_constantLong8_256, List.forall_mem_cons.mpr ⟨s_constantLong8_279, fun _ h => absurd h List.not_mem_nil⟩⟩⟩⟩⟩⟩⟩⟩⟩⟩⟩⟩⟩⟩
theorem s_constantLongo9 : ∀ e ∈ z_lt.getD 9 [], Cond.constantLong (s_nm 9) e.1 e.2 ∈ s_tb := fun _ h => absurd h List.not_mem_nil
theorem s_constantLongo10 : ∀ e ∈ z_lt.getD 10 [], Cond.constantLong (s_nm 10) e.1 e.2 ∈ s_tb := fun _ h => absurd h List.not_mem_nil
theorem s_constantLongo11 : ∀ e ∈ z_lt.getD 11 [], Cond.constantLong (s_nm 11) e.1 e.2 ∈ s_tb := fun _ h => absurd h List.not_mem_nil
theorem s_constantLongo12 : ∀ e ∈ z_lt.getD 12 [], Cond.constantLong (s_nm 12) e.1 e.2 ∈ s_tb := fun _ h => absurd h List.not_mem_nil
theorem s_constantLongo13 : ∀ e ∈ z_lt.getD 13 [], Cond.constantLong (s_nm 13) e.1 e.2 ∈ s_tb := fun _ h => absurd h List.not_mem_nil
theorem s_constantLongo14 : ∀ e ∈ z_lt.getD 14 [], Cond.constantLong (s_nm 14) e.1 e.2 ∈ s_tb := fun _ h => absurd h List.not_mem_nil
theorem s_constantLongo15 : ∀ e ∈ z_lt.getD 15 [], Cond.constantLong (s_nm 15) e.1 e.2 ∈ s_tb := fun _ h => absurd h List.not_mem_nil
theorem s_constantLongo16 : ∀ e ∈ z_lt.getD 16 [], Cond.constantLong (s_nm 16) e.1 e.2 ∈ s_tb := fun _ h => absurd h List.not_mem_nil
theorem s_constantLong17_18 : Cond.constantLong (s_nm 17) 18 (4294967295 : Int64) ∈ s_tb := s_mem 1135 (by decide +kernel) rfl
theorem s_constantLongo17 : ∀ e ∈ z_lt.getD 17 [], Cond.constantLong (s_nm 17) e.1 e.2 ∈ s_tb := List.forall_mem_cons.mpr ⟨s_constantLong17_18, fun _ h => absurd h List.not_mem_nil⟩
theorem s_constantLongo18 : ∀ e ∈ z_lt.getD 18 [], Cond.constantLong (s_nm 18) e.1 e.2 ∈ s_tb := fun _ h => absurd h List.not_mem_nil
theorem s_constantLongo : ∀ i, i < 19 → ∀ e ∈ z_lt.getD i [], Cond.constantLong (s_nm i) e.1 e.2 ∈ s_tb := by
  intro i hi
  match i, hi with
  | 0, _ => exact s_constantLongo0
  | 1, _ => exact s_constantLongo1
  | 2, _ => exact s_constantLongo2
  | 3, _ => exact s_constantLongo3
  | 4, _ => exact s_constantLongo4
  | 5, _ => exact s_constantLongo5
  | 6, _ => exact s_constantLongo6
  | 7, _ => exact s_constantLongo7
  | 8, _ => exact s_constantLongo8
  | 9, _ => exact s_constantLongo9
  | 10, _ => exact s_constantLongo10
  | 11, _ => exact s_constantLongo11
  | 12, _ => exact s_constantLongo12
  | 13, _ => exact s_constantLongo13
  | 14, _ => exact s_constantLongo14
  | 15, _ => exact s_constantLongo15
  | 16, _ => exact s_constantLongo16
  | 17, _ => exact s_constantLongo17
  | 18, _ => exact s_constantLongo18
  | i + 19, hi => exact absurd hi (by omega)
theorem s_cl0_26 : Cond.classLink (s_nm 0) 26 (s_cq 3).1 ∈ s_tb ∧ 3 < 10 := ⟨s_mem 472 (by decide +kernel) rfl, by decide⟩
theorem s_clo0 : ∀ e ∈ z_kt.getD 0 [], Cond.classLink (s_nm 0) e.1 (s_cq e.2).1 ∈ s_tb ∧ e.2 < 10 := List.forall_mem_cons.mpr ⟨s_cl0_26, fun _ h => absurd h List.not_mem_nil⟩
theorem s_clo1 : ∀ e ∈ z_kt.getD 1 [], Cond.classLink (s_nm 1) e.1 (s_cq e.2).1 ∈ s_tb ∧ e.2 < 10 := fun _ h => absurd h List.not_mem_nil
theorem s_clo2 : ∀ e ∈ z_kt.getD 2 [], Cond.classLink (s_nm 2) e.1 (s_cq e.2).1 ∈ s_tb ∧ e.2 < 10 := fun _ h => absurd h List.not_mem_nil
theorem s_clo3 : ∀ e ∈ z_kt.getD 3 [], Cond.classLink (s_nm 3) e.1 (s_cq e.2).1 ∈ s_tb ∧ e.2 < 10 := fun _ h => absurd h List.not_mem_nil
theorem s_cl4_23 : Cond.classLink (s_nm 4) 23 (s_cq 5).1 ∈ s_tb ∧ 5 < 10 := ⟨s_mem 139 (by decide +kernel) rfl, by decide⟩
theorem s_cl4_70 : Cond.classLink (s_nm 4) 70 (s_cq 3).1 ∈ s_tb ∧ 3 < 10 := ⟨s_mem 620 (by decide +kernel) rfl, by decide⟩
theorem s_clo4 : ∀ e ∈ z_kt.getD 4 [], Cond.classLink (s_nm 4) e.1 (s_cq e.2).1 ∈ s_tb ∧ e.2 < 10 := List.forall_mem_cons.mpr ⟨s_cl4_23, List.forall_mem_cons.mpr ⟨s_cl4_70, fun _ h => absurd h List.not_mem_nil⟩⟩
theorem s_clo5 : ∀ e ∈ z_kt.getD 5 [], Cond.classLink (s_nm 5) e.1 (s_cq e.2).1 ∈ s_tb ∧ e.2 < 10 := fun _ h => absurd h List.not_mem_nil
theorem s_cl6_15 : Cond.classLink (s_nm 6) 15 (s_cq 9).1 ∈ s_tb ∧ 9 < 10 := ⟨s_mem 250 (by decide +kernel) rfl, by decide⟩
theorem s_clo6 : ∀ e ∈ z_kt.getD 6 [], Cond.classLink (s_nm 6) e.1 (s_cq e.2).1 ∈ s_tb ∧ e.2 < 10 := List.forall_mem_cons.mpr ⟨s_cl6_15, fun _ h => absurd h List.not_mem_nil⟩
theorem s_cl7_7 : Cond.classLink (s_nm 7) 7 (s_cq 9).1 ∈ s_tb ∧ 9 < 10 := ⟨s_mem 85 (by decide +kernel) rfl, by decide⟩
theorem s_cl7_19 : Cond.classLink (s_nm 7) 19 (s_cq 0).1 ∈ s_tb ∧ 0 < 10 := ⟨s_mem 111 (by decide +kernel) rfl, by decide⟩
theorem s_cl7_26 : Cond.classLink (s_nm 7) 26 (s_cq 4).1 ∈ s_tb ∧ 4 < 10 := ⟨s_mem 133 (by decide +kernel) rfl, by decide⟩
theorem s_cl7_33 : Cond.classLink (s_nm 7) 33 (s_cq 1).1 ∈ s_tb ∧ 1 < 10 := ⟨s_mem 177 (by decide +kernel) rfl, by decide⟩
theorem s_cl7_58 : Cond.classLink (s_nm 7) 58 (s_cq 6).1 ∈ s_tb ∧ 6 < 10 := ⟨s_mem 244 (by decide +kernel) rfl, by decide⟩
theorem s_cl7_78 : Cond.classLink (s_nm 7) 78 (s_cq 3).1 ∈ s_tb ∧ 3 < 10 := ⟨s_mem 360 (by decide +kernel) rfl, by decide⟩
theorem s_cl7_162 : Cond.classLink (s_nm 7) 162 (s_cq 2).1 ∈ s_tb ∧ 2 < 10 := ⟨s_mem 569 (by decide +kernel) rfl, by decide⟩
theorem s_clo7 : ∀ e ∈ z_kt.getD 7 [], Cond.classLink (s_nm 7) e.1 (s_cq e.2).1 ∈ s_tb ∧ e.2 < 10 := List.forall_mem_cons.mpr ⟨s_cl7_7, List.forall_mem_cons.mpr ⟨s_cl7_19, List.forall_mem_cons.mpr ⟨s_cl7_26, List.forall_mem_cons.mpr ⟨s_cl7_33, List.forall_mem_cons.mpr ⟨s_cl7_58, List.forall_mem_cons.mpr ⟨s_cl7_78, List.forall_mem_cons.mpr ⟨s_cl7_162, fun _ h => absurd h List.not_mem_nil⟩⟩⟩⟩⟩⟩⟩
theorem s_clo8 : ∀ e ∈ z_kt.getD 8 [], Cond.classLink (s_nm 8) e.1 (s_cq e.2).1 ∈ s_tb ∧ e.2 < 10 := fun _ h => absurd h List.not_mem_nil
theorem s_clo9 : ∀ e ∈ z_kt.getD 9 [], Cond.classLink (s_nm 9) e.1 (s_cq e.2).1 ∈ s_tb ∧ e.2 < 10 := fun _ h => absurd h List.not_mem_nil
theorem s_clo10 : ∀ e ∈ z_kt.getD 10 [], Cond.classLink (s_nm 10) e.1 (s_cq e.2).1 ∈ s_tb ∧ e.2 < 10 := fun _ h => absurd h List.not_mem_nil
theorem s_clo11 : ∀ e ∈ z_kt.getD 11 [], Cond.classLink (s_nm 11) e.1 (s_cq e.2).1 ∈ s_tb ∧ e.2 < 10 := fun _ h => absurd h List.not_mem_nil
theorem s_clo12 : ∀ e ∈ z_kt.getD 12 [], Cond.classLink (s_nm 12) e.1 (s_cq e.2).1 ∈ s_tb ∧ e.2 < 10 := fun _ h => absurd h List.not_mem_nil
theorem s_clo13 : ∀ e ∈ z_kt.getD 13 [], Cond.classLink (s_nm 13) e.1 (s_cq e.2).1 ∈ s_tb ∧ e.2 < 10 := fun _ h => absurd h List.not_mem_nil
theorem s_clo14 : ∀ e ∈ z_kt.getD 14 [], Cond.classLink (s_nm 14) e.1 (s_cq e.2).1 ∈ s_tb ∧ e.2 < 10 := fun _ h => absurd h List.not_mem_nil
theorem s_clo15 : ∀ e ∈ z_kt.getD 15 [], Cond.classLink (s_nm 15) e.1 (s_cq e.2).1 ∈ s_tb ∧ e.2 < 10 := fun _ h => absurd h List.not_mem_nil
theorem s_clo16 : ∀ e ∈ z_kt.getD 16 [], Cond.classLink (s_nm 16) e.1 (s_cq e.2).1 ∈ s_tb ∧ e.2 < 10 := fun _ h => absurd h List.not_mem_nil
theorem s_cl17_7 : Cond.classLink (s_nm 17) 7 (s_cq 7).1 ∈ s_tb ∧ 7 < 10 := ⟨s_mem 77 (by decide +kernel) rfl, by decide⟩
theorem s_cl17_10 : Cond.classLink (s_nm 17) 10 (s_cq 8).1 ∈ s_tb ∧ 8 < 10 := ⟨s_mem 750 (by decide +kernel) rfl, by decide⟩
theorem s_clo17 : ∀ e ∈ z_kt.getD 17 [], Cond.classLink (s_nm 17) e.1 (s_cq e.2).1 ∈ s_tb ∧ e.2 < 10 := List.forall_mem_cons.mpr ⟨s_cl17_7, List.forall_mem_cons.mpr ⟨s_cl17_10, fun _ h => absurd h List.not_mem_nil⟩⟩
theorem s_clo18 : ∀ e ∈ z_kt.getD 18 [], Cond.classLink (s_nm 18) e.1 (s_cq e.2).1 ∈ s_tb ∧ e.2 < 10 := fun _ h => absurd h List.not_mem_nil
theorem s_clo : ∀ i, i < 19 → ∀ e ∈ z_kt.getD i [], Cond.classLink (s_nm i) e.1 (s_cq e.2).1 ∈ s_tb ∧ e.2 < 10 := by
  intro i hi
  match i, hi with
  | 0, _ => exact s_clo0
  | 1, _ => exact s_clo1
  | 2, _ => exact s_clo2
  | 3, _ => exact s_clo3
  | 4, _ => exact s_clo4
  | 5, _ => exact s_clo5
  | 6, _ => exact s_clo6
  | 7, _ => exact s_clo7
  | 8, _ => exact s_clo8
  | 9, _ => exact s_clo9
  | 10, _ => exact s_clo10
  | 11, _ => exact s_clo11
  | 12, _ => exact s_clo12
  | 13, _ => exact s_clo13
  | 14, _ => exact s_clo14
  | 15, _ => exact s_clo15
  | 16, _ => exact s_clo16
  | 17, _ => exact s_clo17
  | 18, _ => exact s_clo18
  | i + 19, hi => exact absurd hi (by omega)
theorem s_oi7 : Cond.methodLink (s_nm 7) 1 objectInit ∈ s_tb := s_mem 82 (by decide +kernel) rfl
theorem s_oi15 : Cond.methodLink (s_nm 15) 1 objectInit ∈ s_tb := s_mem 96 (by decide +kernel) rfl
theorem s_oi0 : Cond.methodLink (s_nm 0) 3 objectInit ∈ s_tb := s_mem 116 (by decide +kernel) rfl
theorem s_oi4 : Cond.methodLink (s_nm 4) 3 objectInit ∈ s_tb := s_mem 138 (by decide +kernel) rfl
theorem s_oi5 : Cond.methodLink (s_nm 5) 5 objectInit ∈ s_tb := s_mem 144 (by decide +kernel) rfl
theorem s_oi1 : Cond.methodLink (s_nm 1) 3 objectInit ∈ s_tb := s_mem 182 (by decide +kernel) rfl
theorem s_oi6 : Cond.methodLink (s_nm 6) 3 objectInit ∈ s_tb := s_mem 249 (by decide +kernel) rfl
theorem s_oi3 : Cond.methodLink (s_nm 3) 3 objectInit ∈ s_tb := s_mem 365 (by decide +kernel) rfl
theorem s_oi2 : Cond.methodLink (s_nm 2) 3 objectInit ∈ s_tb := s_mem 574 (by decide +kernel) rfl
theorem s_oi8 : Cond.methodLink (s_nm 8) 1 objectInit ∈ s_tb := s_mem 755 (by decide +kernel) rfl
theorem s_oio : ∀ q ∈ ([(7, 1), (15, 1), (0, 3), (4, 3), (5, 5), (1, 3), (6, 3), (3, 3), (2, 3), (8, 1)] : List (Nat × Nat)), Cond.methodLink (s_nm q.1) q.2 objectInit ∈ s_tb := List.forall_mem_cons.mpr ⟨s_oi7, List.forall_mem_cons.mpr ⟨s_oi15, List.forall_mem_cons.mpr ⟨s_oi0, List.forall_mem_cons.mpr ⟨s_oi4, List.forall_mem_cons.mpr ⟨s_oi5, List.forall_mem_cons.mpr ⟨s_oi1, List.forall_mem_cons.mpr ⟨s_oi6, List.forall_mem_cons.mpr ⟨s_oi3, List.forall_mem_cons.mpr ⟨s_oi2, List.forall_mem_cons.mpr ⟨s_oi8, fun _ h => absurd h List.not_mem_nil⟩⟩⟩⟩⟩⟩⟩⟩⟩⟩
theorem s_ac11 : Cond.methodLink (s_nm 11) 150 arraycopyName ∈ s_tb := s_mem 324 (by decide +kernel) rfl
theorem s_ac7 : Cond.methodLink (s_nm 7) 96 arraycopyName ∈ s_tb := s_mem 433 (by decide +kernel) rfl
theorem s_ac5 : Cond.methodLink (s_nm 5) 19 arraycopyName ∈ s_tb := s_mem 625 (by decide +kernel) rfl
theorem s_aco : ∀ q ∈ ([(11, 150), (7, 96), (5, 19)] : List (Nat × Nat)), Cond.methodLink (s_nm q.1) q.2 arraycopyName ∈ s_tb := List.forall_mem_cons.mpr ⟨s_ac11, List.forall_mem_cons.mpr ⟨s_ac7, List.forall_mem_cons.mpr ⟨s_ac5, fun _ h => absurd h List.not_mem_nil⟩⟩⟩
theorem s_max1 : Cond.methodLink (s_nm 1) 37 Lib.Math.max.name ∈ s_tb := s_mem 669 (by decide +kernel) rfl
theorem s_max4 : Cond.methodLink (s_nm 4) 45 Lib.Math.max.name ∈ s_tb := s_mem 559 (by decide +kernel) rfl
theorem s_max9 : Cond.methodLink (s_nm 9) 79 Lib.Math.max.name ∈ s_tb := s_mem 327 (by decide +kernel) rfl
theorem s_max13 : Cond.methodLink (s_nm 13) 194 Lib.Math.max.name ∈ s_tb := s_mem 291 (by decide +kernel) rfl
theorem s_maxo : ∀ q ∈ ([(1, 37), (4, 45), (9, 79), (13, 194)] : List (Nat × Nat)), Cond.methodLink (s_nm q.1) q.2 Lib.Math.max.name ∈ s_tb := List.forall_mem_cons.mpr ⟨s_max1, List.forall_mem_cons.mpr ⟨s_max4, List.forall_mem_cons.mpr ⟨s_max9, List.forall_mem_cons.mpr ⟨s_max13, fun _ h => absurd h List.not_mem_nil⟩⟩⟩⟩
theorem s_max_s : Cond.static Lib.Math.max.name ∈ s_tb := s_mem 292 (by decide +kernel) rfl
theorem s_max_c : Cond.code Lib.Math.max.name Lib.Math.max.code 2 (some .int) ∈ s_tb := s_mem 293 (by decide +kernel) rfl
theorem s_min0 : Cond.methodLink (s_nm 0) 93 Lib.Math.min.name ∈ s_tb := s_mem 501 (by decide +kernel) rfl
theorem s_min1 : Cond.methodLink (s_nm 1) 31 Lib.Math.min.name ∈ s_tb := s_mem 668 (by decide +kernel) rfl
theorem s_min4 : Cond.methodLink (s_nm 4) 39 Lib.Math.min.name ∈ s_tb := s_mem 558 (by decide +kernel) rfl
theorem s_min11 : Cond.methodLink (s_nm 11) 304 Lib.Math.min.name ∈ s_tb := s_mem 321 (by decide +kernel) rfl
theorem s_mino : ∀ q ∈ ([(0, 93), (1, 31), (4, 39), (11, 304)] : List (Nat × Nat)), Cond.methodLink (s_nm q.1) q.2 Lib.Math.min.name ∈ s_tb := List.forall_mem_cons.mpr ⟨s_min0, List.forall_mem_cons.mpr ⟨s_min1, List.forall_mem_cons.mpr ⟨s_min4, List.forall_mem_cons.mpr ⟨s_min11, fun _ h => absurd h List.not_mem_nil⟩⟩⟩⟩
theorem s_min_s : Cond.static Lib.Math.min.name ∈ s_tb := s_mem 322 (by decide +kernel) rfl
theorem s_min_c : Cond.code Lib.Math.min.name Lib.Math.min.code 2 (some .int) ∈ s_tb := s_mem 323 (by decide +kernel) rfl
theorem s_math_i : Cond.initialized "java/lang/Math" ∈ s_tb := s_mem 70 (by decide +kernel) rfl
theorem s_oi_i : Cond.instanceMethod objectInit ∈ s_tb := s_mem 83 (by decide +kernel) rfl
theorem s_oi_c : Cond.code objectInit ⟨#[0xb1]⟩ 1 none ∈ s_tb := s_mem 84 (by decide +kernel) rfl
theorem s_ac_n : Cond.native arraycopyName ∈ s_tb := s_mem 326 (by decide +kernel) rfl
theorem s_ac_s : Cond.static arraycopyName ∈ s_tb := s_mem 325 (by decide +kernel) rfl
theorem s_ac_i : Cond.initialized "java/lang/System" ∈ s_tb := s_mem 72 (by decide +kernel) rfl
theorem s_gc_l : Cond.methodLink (s_nm 11) 86 ⟨"java/lang/Object", "getClass", "()Ljava/lang/Class;"⟩ ∈ s_tb := s_mem 301 (by decide +kernel) rfl
theorem s_gc_n : Cond.native ⟨"java/lang/Object", "getClass", "()Ljava/lang/Class;"⟩ ∈ s_tb := s_mem 314 (by decide +kernel) rfl
theorem s_gc_i : Cond.instanceMethod ⟨"java/lang/Object", "getClass", "()Ljava/lang/Class;"⟩ ∈ s_tb := s_mem 302 (by decide +kernel) rfl
theorem s_gc_d : Cond.declares ⟨"java/lang/Object", "getClass", "()Ljava/lang/Class;"⟩ ∈ lw_tbl := List.mem_of_getElem? (i := 1148) (by decide +kernel)
theorem s_gc_s : Cond.selects "[Ljava/lang/Object;" ⟨"java/lang/Object", "getClass", "()Ljava/lang/Class;"⟩ ⟨"java/lang/Object", "getClass", "()Ljava/lang/Class;"⟩ ∈ s_tb := s_mem 1147 (by decide +kernel) rfl
theorem s_ao11 : Cond.classLink (s_nm 11) 2 "java/lang/Object" ∈ s_tb := s_mem 320 (by decide +kernel) rfl
theorem s_ao9 : Cond.classLink (s_nm 9) 7 "java/lang/Object" ∈ s_tb := s_mem 328 (by decide +kernel) rfl
theorem s_ao_o : Cond.arrayOver (.object "java/lang/Object") ∈ lw_tbl := List.mem_of_getElem? (i := 319) (by decide +kernel)
theorem s_lm11 : Cond.classLink (s_nm 11) 110 "[Ljava/lang/Object;" ∈ s_tb := s_mem 318 (by decide +kernel) rfl
theorem s_gs9 : Cond.fieldLink (s_nm 9) 39 "java/util/ArrayList" "DEFAULTCAPACITY_EMPTY_ELEMENTDATA" "[Ljava/lang/Object;" ∈ s_tb := s_mem 97 (by decide +kernel) rfl
theorem s_gs_s : Cond.laysStatic "java/util/ArrayList" "DEFAULTCAPACITY_EMPTY_ELEMENTDATA" "[Ljava/lang/Object;" ∈ lw_tbl := List.mem_of_getElem? (i := 98) (by decide +kernel)
theorem s_ar_int : Cond.arrayClass .int ∈ s_tb := s_mem 132 (by decide +kernel) rfl
theorem s_ar_byte : Cond.arrayClass .byte ∈ s_tb := s_mem 271 (by decide +kernel) rfl
theorem s_ar_boolean : Cond.arrayClass .boolean ∈ s_tb := s_mem 880 (by decide +kernel) rfl
theorem s_gd : ∀ w ∈ s_tb, (w.onTables && w.keeps) = true ∨ ∃ ty, w = .arrayClass ty := fun w hw => good_of_word (List.mem_filter.mp hw).2
