/-! THE SMALL MACHINE AND THE MACHINE: what of the one stands for what of the other. -/
/-- the launch's numbers: the classes' numbers and slots; 0 where the made cells begin, 1 the script, 2 ArrayList's empty row, 3 the class object, 4 the script's length, 5 to 8 the array classes of int, byte, boolean, Object; the script -/
abbrev s_G : Type := va_G × (Nat → Nat) × (Nat → Int32)
def s_ad (g : s_G) (k : Nat) : Nat := match k with
  | 0 => g.2.1 1
  | 1 => g.2.1 2
  | 2 => g.2.1 3
  | k + 3 => g.2.1 0 + k
def s_v (g : s_G) (v : Value) : Value := match v with
  | .ref a => .ref (s_ad g a)
  | v => v
def s_ar (g : s_G) (k : Nat) : ClassId := if k = 0 then g.2.1 5 else if k = 1 then g.2.1 6 else g.2.1 7
def s_cn (g : s_G) (c : z_C) : va_E := match c with
  | .inl (k, n, f) => .inl (s_ar g k, n, .inl f)
  | .inr (.inl (ci, fs)) => .inr (ci, (List.range (z_nf ci)).map fun j => s_v g (fs j))
  | .inr (.inr (n, f)) => .inl (g.2.1 8, n, .inr (.inr (.inr (.inr (fun j => (f j).map (s_ad g))))))
abbrev s_A (g : s_G) : Nat → Prop := fun q => g.2.1 0 ≤ q
def s_tys (g : s_G) : List (ClassId × FieldType) := [(g.2.1 5, .int), (g.2.1 6, .byte), (g.2.1 7, .boolean), (g.2.1 8, .object "java/lang/Object")]
def s_kd (c : z_C) : Prop := match c with
  | .inl (k, _, _) => k ≤ 2
  | _ => True
def s_HR (g : s_G) (h : z_H) (nx : Nat) (H : Heap) : Prop := 3 ≤ nx ∧ H.size = g.2.1 0 + (nx - 3) ∧ (∀ k, 3 ≤ k → k < nx → va_at g.1 z_cl (s_ad g k, s_cn g (h k)) H ∧ s_kd (h k)) ∧ h 0 = .inl (3, g.2.1 4, g.2.2) ∧ h 1 = .inr (.inr (0, fun _ => none)) ∧ ∀ k, (k = 2 ∨ nx ≤ k) → h k = z_no
/-- what a method's start gives of the launch -/
def s_X (g : s_G) (U : State) : Prop := va_K g.1 z_cl (s_tys g) U ∧ va_Z "java/util/ArrayList" "DEFAULTCAPACITY_EMPTY_ELEMENTDATA" "[Ljava/lang/Object;" (.ref (g.2.1 2)) (s_A g) U U.heap ∧ va_T (.object "java/lang/Object") (g.2.1 2) 0 (fun _ => .null) (s_A g) U U.heap ∧ va_Mi "[Ljava/lang/Object;" (g.2.1 3) U ∧ va_X (g.2.1 1) (g.2.1 4) g.2.2 U U.heap ∧ g.2.1 1 < g.2.1 0 ∧ g.2.1 0 ≤ U.heap.size ∧
  (∀ ci, ci < 10 → va_Nw (.castable (s_cq ci).1 "java/lang/Object") U) ∧ va_Dc U ∧ va_AO "java/lang/Object" U ∧ ∀ own, own < 19 → ∀ e ∈ z_ct.getD own [], e.2.2.1 = 3 → va_Nw (.methodLinkNest (s_nm own) e.1 (z_my e.2.1) "VerseBench") U
def s_LR (g : s_G) (M : Nat) (L : z_L) (ls : Array Slot) : Prop := ls.size = z_mx M ∧ lv_wf ls ∧ L.length = z_mx M ∧ ∀ (i : Nat) (v : Value), L[i]? = some (some v) → ls[i]? = some (.val (s_v g v)) ∧ (v.category = 2 → (z_lg M).contains i = true)
/-- a frame of a method of the small machine -/
def s_F (g : s_G) (p : Program) (R : Room) (s : State) (m : MethodId) (args : Array Value) (meth : Method) (c : Code) (d M : Nat) : Prop :=
  p.tables.exec = Jvm.exec ∧ c.code = z_by M ∧ c.maxLocals = z_mx M ∧ s.vm.findClass (s_nm (z_ow M)) = some m.cls ∧ (∀ w ∈ s_tb, w.before args s = true) ∧ meth.locks = false ∧ meth.sig.returnType = z_rt M ∧ (z_isI M = true → meth.name = "<init>") ∧ s_X g s ∧ d ≤ R.frames ∧ 40 * d ≤ R.locals ∧ R.cells = z_mc M ∧ R.slots = z_ms M ∧ z_ow M < 19
theorem s_v_cat (g : s_G) (v : Value) : (s_v g v).category = v.category := by cases v <;> rfl
theorem z_ld_some {L : z_L} {i : Nat} {v : Value} (h : z_ld L i = some v) : L[i]? = some (some v) := by
  unfold z_ld at h
  split at h
  · rename_i w hw
    rw [hw]
    simp at h
    rw [h]
  · simp at h
theorem s_LR.at {g : s_G} {M : Nat} {L : z_L} {ls : Array Slot} (h : s_LR g M L ls) {i : Nat} {v : Value} (hv : z_ld L i = some v) : ls[i]? = some (.val (s_v g v)) := (h.2.2.2 i v (z_ld_some hv)).1
def s_lv (g : s_G) (L : z_L) : List (Nat × Value) := (List.range L.length).filterMap fun i => (z_ld L i).map fun v => (i, s_v g v)
theorem s_lv_mem {g : s_G} {L : z_L} {i : Nat} {v : Value} (h : L[i]? = some (some v)) : (i, s_v g v) ∈ s_lv g L := by
  refine List.mem_filterMap.mpr ⟨i, List.mem_range.mpr (List.getElem?_eq_some_iff.mp h).1, ?_⟩
  simp [z_ld, h]
theorem s_LR.lv {g : s_G} {M : Nat} {L : z_L} {ls : Array Slot} (h : s_LR g M L ls) : lv_has ls (z_mx M) (s_lv g L) := by
  refine ⟨h.1, h.2.1, fun q hq => ?_⟩
  obtain ⟨i, -, hi⟩ := List.mem_filterMap.mp hq
  cases hv : z_ld L i with
  | none => simp [hv] at hi
  | some v =>
    simp [hv] at hi
    rw [← hi]
    exact h.at hv
theorem s_store1 {g : s_G} {M : Nat} {L : z_L} {ls ls' : Array Slot} {i : Nat} {v : Value} (h : s_LR g M L ls) (ho : z_ok1 M i = true) (hc : v.category = 1) (h' : lv_has ls' (z_mx M) ((i, s_v g v) :: (s_lv g L).filter (fun q => !(q.1 == i) && !(q.1 + 1 == i && q.2.category == 2)))) : s_LR g M (L.set i (some v)) ls' := by
  obtain ⟨-, -, hlen, hL⟩ := h
  refine ⟨h'.1, h'.2.1, by rw [List.length_set]; exact hlen, fun j w hj => ?_⟩
  simp only [z_ok1, Bool.and_eq_true, decide_eq_true_eq, Bool.not_eq_true', Bool.or_eq_true, beq_iff_eq] at ho
  by_cases e : i = j
  · subst e
    rw [List.getElem?_set_self (by omega)] at hj
    cases hj
    exact ⟨h'.2.2 _ List.mem_cons_self, fun q => by omega⟩
  · rw [List.getElem?_set_ne e] at hj
    obtain ⟨-, h2⟩ := hL j w hj
    refine ⟨h'.2.2 _ (List.mem_cons_of_mem _ (List.mem_filter.mpr ⟨s_lv_mem hj, ?_⟩)), h2⟩
    simp only [Bool.and_eq_true, Bool.not_eq_true', beq_eq_false_iff_ne, ne_eq, Bool.and_eq_false_iff, s_v_cat]
    refine ⟨fun q => e q.symm, ?_⟩
    by_cases e2 : j + 1 = i
    · right
      intro q
      have := h2 q
      rcases ho.2.2 with z | z
      · omega
      · rw [show i - 1 = j by omega, this] at z
        cases z
    · left
      exact e2
theorem s_store2 {g : s_G} {M : Nat} {L : z_L} {ls ls' : Array Slot} {i : Nat} {v : Value} (h : s_LR g M L ls) (ho : z_ok2 M i = true) (h' : lv_has ls' (z_mx M) ((i, s_v g v) :: (s_lv g L).filter (fun q => !(q.1 == i) && (!(q.1 == i + 1) && !(q.1 + 1 == i && q.2.category == 2))))) : s_LR g M ((L.set i (some v)).set (i + 1) none) ls' := by
  obtain ⟨-, -, hlen, hL⟩ := h
  refine ⟨h'.1, h'.2.1, by rw [List.length_set, List.length_set]; exact hlen, fun j w hj => ?_⟩
  simp only [z_ok2, Bool.and_eq_true, decide_eq_true_eq, Bool.not_eq_true', Bool.or_eq_true, beq_iff_eq] at ho
  by_cases e1 : i + 1 = j
  · subst e1
    rw [List.getElem?_set_self (by rw [List.length_set]; omega)] at hj
    cases hj
  rw [List.getElem?_set_ne e1] at hj
  by_cases e : i = j
  · subst e
    rw [List.getElem?_set_self (by omega)] at hj
    cases hj
    exact ⟨h'.2.2 _ List.mem_cons_self, fun q => ho.2.1⟩
  · rw [List.getElem?_set_ne e] at hj
    obtain ⟨-, h2⟩ := hL j w hj
    refine ⟨h'.2.2 _ (List.mem_cons_of_mem _ (List.mem_filter.mpr ⟨s_lv_mem hj, ?_⟩)), h2⟩
    simp only [Bool.and_eq_true, Bool.not_eq_true', beq_eq_false_iff_ne, ne_eq, Bool.and_eq_false_iff, s_v_cat]
    refine ⟨fun q => e q.symm, fun q => e1 q.symm, ?_⟩
    by_cases e2 : j + 1 = i
    · right
      intro q
      have := h2 q
      rcases ho.2.2 with z | z
      · omega
      · rw [show i - 1 = j by omega, this] at z
        cases z
    · left
      exact e2
theorem z_tg_some {pc t : Nat} {off : Int} (h : z_tg pc off = some t) : (pc : Int) + off = (t : Int) := by
  unfold z_tg at h
  split at h
  · cases h
    omega
  · cases h
theorem z_br_some {b : Bool} {pc len : Nat} {off : Int} {L : z_L} {st : List Value} {pc' : Nat} {L' : z_L} {st' : List Value} (h : z_br b pc len off L st = some (pc', L', st')) : ∃ t : Nat, (pc : Int) + off = (t : Int) ∧ (if b then t else pc + len) = pc' ∧ L = L' ∧ st = st' := by
  unfold z_br at h
  split at h
  · rename_i t ht
    cases h
    exact ⟨t, z_tg_some ht, rfl, rfl, rfl⟩
  · cases h
theorem s_ok1_lt {M i : Nat} (h : z_ok1 M i = true) : i < z_mx M := by
  simp only [z_ok1, Bool.and_eq_true, decide_eq_true_eq] at h
  exact h.1
theorem s_ok2_lt {M i : Nat} (h : z_ok2 M i = true) : i + 1 < z_mx M := by
  simp only [z_ok2, Bool.and_eq_true, decide_eq_true_eq] at h
  exact h.1
theorem s_own {g : s_G} {p : Program} {R : Room} {s : State} {m : MethodId} {args : Array Value} {meth : Method} {c : Code} {d M : Nat} (F : s_F g p R s m args meth c d M) : s.vm.findClass (s_nm (z_ow M)) = some m.cls := F.2.2.2.1
section Sound
variable {g : s_G} {p : Program} {l : Launch} {e : Env} {R : Room} {s : State} {m : MethodId} {args : Array Value} {below : List Frame} {meth : Method} {c : Code} {H : Heap} {locs : List Loc} {cells slots : Nat} {Qm : State → Prop} {d M pc pc' : Nat} {L L' : z_L} {ls : Array Slot} {st st' : List Value} {ins : Instr} {len : Nat}
theorem s_A1 (F : s_F g p R s m args meth c d M) (hl : s_LR g M L ls) (hdg : decode (z_by M) pc = .ok (ins, len)) (hs : z_A1 M ins len pc L st = some (pc', L', st')) (k : ∀ ls', s_LR g M L' ls' → W p l e R s m args below meth c H locs cells slots Qm (F0 m pc' ls' (st'.map (s_v g)))) : W p l e R s m args below meth c H locs cells slots Qm (F0 m pc ls (st.map (s_v g))) := by
  obtain ⟨hx, hb, hml, hown, hts, hlk, hr, hnm, hX, hfr, hlo, hcc, hss, hlt⟩ := F
  unfold z_A1 at hs
  split at hs
  · split at hs
    · rename_i n hlen; subst hlen; cases hs; exact lv_iconst hx hb hdg rfl (k ls hl)
    · cases hs
  · split at hs
    · rename_i n hlen; subst hlen; cases hs; exact lv_bipush hx hb hdg rfl (k ls hl)
    · cases hs
  · split at hs
    · rename_i n hlen; subst hlen; cases hs; exact lv_sipush hx hb hdg rfl (k ls hl)
    · cases hs
  · split at hs
    · rename_i n hlen; subst hlen; cases hs; exact lv_lconst hx hb hdg rfl (k ls hl)
    · cases hs
  · split at hs
    · rename_i n hlen; subst hlen
      split at hs
      · rename_i v hv; cases hs; exact lv_ldc hx hb hown (hts _ (s_constanto _ hlt _ (s_lookup hv))) hdg (k ls hl)
      · cases hs
    · cases hs
  · split at hs
    · rename_i n hlen; subst hlen
      split at hs
      · rename_i v hv; cases hs; exact lv_ldc2 hx hb hown (hts _ (s_constantLongo _ hlt _ (s_lookup hv))) hdg (k ls hl)
      · cases hs
    · cases hs
  · split at hs
    · rename_i hlen; subst hlen; cases hs; exact lv_null hx hb hdg (k ls hl)
    · cases hs
  · split at hs
    · rename_i n hlen; subst hlen
      split at hs
      · rename_i v hv; cases hs; exact lv_iload hx hb hdg (hl.at hv) (k ls hl)
      · cases hs
    · cases hs
  · split at hs
    · rename_i n hlen; subst hlen
      split at hs
      · rename_i v hv; cases hs; exact lv_iload_n hx hb hdg rfl (hl.at hv) (k ls hl)
      · cases hs
    · cases hs
  · split at hs
    · rename_i n hlen; subst hlen
      split at hs
      · rename_i v hv; cases hs; exact lv_lload hx hb hdg (hl.at hv) (k ls hl)
      · cases hs
    · cases hs
  · split at hs
    · rename_i n hlen; subst hlen
      split at hs
      · rename_i v hv; cases hs; exact lv_lload_n hx hb hdg rfl (hl.at hv) (k ls hl)
      · cases hs
    · cases hs
  · split at hs
    · rename_i n hlen; subst hlen
      split at hs
      · rename_i v hv; cases hs; exact lv_aload hx hb hdg (hl.at hv) (k ls hl)
      · rename_i hv; cases hs; exact lv_aloadN hx hb hdg (hl.at hv) (k ls hl)
      · cases hs
    · cases hs
  · split at hs
    · rename_i n hlen; subst hlen
      split at hs
      · rename_i v hv; cases hs; exact lv_aload_n hx hb hdg rfl (hl.at hv) (k ls hl)
      · rename_i hv; cases hs; exact lv_aload_nN hx hb hdg rfl (hl.at hv) (k ls hl)
      · cases hs
    · cases hs
  · split at hs
    · rename_i n hlen; obtain ⟨rfl, ho⟩ := hlen
      split at hs
      · rename_i v r; cases hs; exact lv_istore hx hb hdg hl.lv (s_ok1_lt ho) rfl (fun ls' h' => k ls' (s_store1 hl ho rfl h'))
      · cases hs
    · cases hs
  · split at hs
    · rename_i n hlen; obtain ⟨rfl, ho⟩ := hlen
      split at hs
      · rename_i v r; cases hs; exact lv_istore_n hx hb hdg rfl hl.lv (s_ok1_lt ho) rfl (fun ls' h' => k ls' (s_store1 hl ho rfl h'))
      · cases hs
    · cases hs
  · split at hs
    · rename_i n hlen; obtain ⟨rfl, ho⟩ := hlen
      split at hs
      · rename_i v r; cases hs; exact lv_lstore hx hb hdg hl.lv (s_ok2_lt ho) rfl (fun ls' h' => k ls' (s_store2 hl ho h'))
      · cases hs
    · cases hs
  · split at hs
    · rename_i n hlen; obtain ⟨rfl, ho⟩ := hlen
      split at hs
      · rename_i v r; cases hs; exact lv_astore hx hb hdg hl.lv (s_ok1_lt ho) rfl (fun ls' h' => k ls' (s_store1 hl ho rfl h'))
      · rename_i r; cases hs; exact lv_astoreN hx hb hdg hl.lv (s_ok1_lt ho) rfl (fun ls' h' => k ls' (s_store1 hl ho rfl h'))
      · cases hs
    · cases hs
  · split at hs
    · rename_i n hlen; obtain ⟨rfl, ho⟩ := hlen
      split at hs
      · rename_i v r; cases hs; exact lv_astore_n hx hb hdg rfl hl.lv (s_ok1_lt ho) rfl (fun ls' h' => k ls' (s_store1 hl ho rfl h'))
      · rename_i r; cases hs; exact lv_astore_nN hx hb hdg rfl hl.lv (s_ok1_lt ho) rfl (fun ls' h' => k ls' (s_store1 hl ho rfl h'))
      · cases hs
    · cases hs
  · split at hs
    · rename_i n c hlen; obtain ⟨rfl, ho⟩ := hlen
      split at hs
      · rename_i x hv; cases hs
        obtain ⟨q, hq⟩ := List.mem_iff_getElem?.mp (s_lv_mem (g := g) (z_ld_some hv))
        exact lv_iinc hx hb hdg hl.lv hq rfl (s_ok1_lt ho) rfl (fun ls' h' => k ls' (s_store1 hl ho rfl h'))
      · cases hs
    · cases hs
  · cases hs
theorem s_A2 (F : s_F g p R s m args meth c d M) (hl : s_LR g M L ls) (hdg : decode (z_by M) pc = .ok (ins, len)) (hs : z_A2 ins len pc L st = some (pc', L', st')) (k : ∀ ls', s_LR g M L' ls' → W p l e R s m args below meth c H locs cells slots Qm (F0 m pc' ls' (st'.map (s_v g)))) : W p l e R s m args below meth c H locs cells slots Qm (F0 m pc ls (st.map (s_v g))) := by
  obtain ⟨hx, hb, hml, hown, hts, hlk, hr, hnm, hX, hfr, hlo, hcc, hss, hlt⟩ := F
  unfold z_A2 at hs
  split at hs
  · split at hs
    · rename_i hlen; subst hlen
      split at hs
      · cases hs; exact lv_iadd hx hb hdg (k ls hl)
      · cases hs
    · cases hs
  · split at hs
    · rename_i hlen; subst hlen
      split at hs
      · cases hs; exact lv_isub hx hb hdg (k ls hl)
      · cases hs
    · cases hs
  · split at hs
    · rename_i hlen; subst hlen
      split at hs
      · cases hs; exact lv_imul hx hb hdg (k ls hl)
      · cases hs
    · cases hs
  · split at hs
    · rename_i hlen; subst hlen
      split at hs
      · cases hs; exact lv_iand hx hb hdg (k ls hl)
      · cases hs
    · cases hs
  · split at hs
    · rename_i hlen; subst hlen
      split at hs
      · cases hs; exact lv_ior hx hb hdg (k ls hl)
      · cases hs
    · cases hs
  · split at hs
    · rename_i hlen; subst hlen
      split at hs
      · cases hs; exact lv_ishl hx hb hdg (k ls hl)
      · cases hs
    · cases hs
  · split at hs
    · rename_i hlen; subst hlen
      split at hs
      · cases hs; exact lv_ishr hx hb hdg (k ls hl)
      · cases hs
    · cases hs
  · split at hs
    · rename_i hlen; subst hlen
      split at hs
      · split at hs
        · cases hs
        · rename_i hne; cases hs; exact lv_idiv hx hb hdg hne (k ls hl)
      · cases hs
    · cases hs
  · split at hs
    · rename_i hlen; subst hlen
      split at hs
      · split at hs
        · cases hs
        · rename_i hne; cases hs; exact lv_irem hx hb hdg hne (k ls hl)
      · cases hs
    · cases hs
  · split at hs
    · rename_i hlen; subst hlen
      split at hs
      · cases hs; exact lv_i2l hx hb hdg rfl (k ls hl)
      · cases hs
    · cases hs
  · split at hs
    · rename_i hlen; subst hlen
      split at hs
      · cases hs; exact lv_l2i hx hb hdg rfl (k ls hl)
      · cases hs
    · cases hs
  · split at hs
    · rename_i hlen; subst hlen
      split at hs
      · cases hs; exact lv_i2b hx hb hdg rfl (k ls hl)
      · cases hs
    · cases hs
  · split at hs
    · rename_i hlen; subst hlen
      split at hs
      · cases hs; exact lv_land hx hb hdg (k ls hl)
      · cases hs
    · cases hs
  · split at hs
    · rename_i hlen; subst hlen
      split at hs
      · cases hs; exact lv_lor hx hb hdg (k ls hl)
      · cases hs
    · cases hs
  · split at hs
    · rename_i hlen; subst hlen
      split at hs
      · cases hs; exact lv_lshl hx hb hdg rfl (k ls hl)
      · cases hs
    · cases hs
  · split at hs
    · rename_i hlen; subst hlen
      split at hs
      · cases hs; exact lv_lushr hx hb hdg rfl (k ls hl)
      · cases hs
    · cases hs
  · split at hs
    · rename_i hlen; subst hlen
      split at hs
      · split at hs
        · cases hs
        · rename_i hne; cases hs; exact lv_ldiv hx hb hdg hne (k ls hl)
      · cases hs
    · cases hs
  · split at hs
    · rename_i hlen; subst hlen
      split at hs
      · split at hs
        · cases hs
        · rename_i hne; cases hs; exact lv_lrem hx hb hdg hne (k ls hl)
      · cases hs
    · cases hs
  · split at hs
    · rename_i hlen; subst hlen
      split at hs
      · cases hs; exact W.lcmp hx hb hdg (k ls hl)
      · cases hs
    · cases hs
  · cases hs
theorem s_A3 (F : s_F g p R s m args meth c d M) (hl : s_LR g M L ls) (hdg : decode (z_by M) pc = .ok (ins, len)) (hs : z_A3 ins len pc L st = some (pc', L', st')) (k : ∀ ls', s_LR g M L' ls' → W p l e R s m args below meth c H locs cells slots Qm (F0 m pc' ls' (st'.map (s_v g)))) : W p l e R s m args below meth c H locs cells slots Qm (F0 m pc ls (st.map (s_v g))) := by
  obtain ⟨hx, hb, hml, hown, hts, hlk, hr, hnm, hX, hfr, hlo, hcc, hss, hlt⟩ := F
  unfold z_A3 at hs
  split at hs
  · split at hs
    · rename_i hlen; subst hlen
      split at hs
      · cases hs; exact lv_dup hx hb hdg rfl (k ls hl)
      · cases hs; exact lv_dup hx hb hdg rfl (k ls hl)
      · cases hs
    · cases hs
  · split at hs
    · rename_i hlen; subst hlen
      split at hs
      · cases hs; exact lv_pop hx hb hdg rfl (k ls hl)
      · cases hs; exact lv_pop hx hb hdg rfl (k ls hl)
      · cases hs
    · cases hs
  · split at hs
    · rename_i hlen; subst hlen
      split at hs
      · cases hs; exact lv_dup_x1 hx hb hdg rfl rfl (k ls hl)
      · cases hs; exact lv_dup_x1 hx hb hdg rfl rfl (k ls hl)
      · cases hs
    · cases hs
  · split at hs
    · rename_i hlen; subst hlen
      split at hs
      · cases hs; exact lv_dup2_11 hx hb hdg rfl rfl (k ls hl)
      · cases hs
    · cases hs
  · split at hs
    · rename_i hlen; subst hlen
      obtain ⟨t, ht, rfl, rfl, rfl⟩ := z_br_some hs
      exact lv_goto hx hb hdg ht (k ls hl)
    · cases hs
  · split at hs
    · rename_i hlen; subst hlen
      split at hs
      · split at hs
        · obtain ⟨t, ht, rfl, rfl, rfl⟩ := z_br_some hs
          refine lv_icmp_eq hx hb hdg ht (fun q => ?_) (fun q => ?_)
          · simpa [q] using k ls hl
          · simpa [q] using k ls hl
        · obtain ⟨t, ht, rfl, rfl, rfl⟩ := z_br_some hs
          refine lv_icmp_ne hx hb hdg ht (fun q => ?_) (fun q => ?_)
          · simpa [q] using k ls hl
          · simpa [q] using k ls hl
        · obtain ⟨t, ht, rfl, rfl, rfl⟩ := z_br_some hs
          refine lv_icmp_lt hx hb hdg ht (fun q => ?_) (fun q => ?_)
          · simpa [q] using k ls hl
          · simpa [q] using k ls hl
        · obtain ⟨t, ht, rfl, rfl, rfl⟩ := z_br_some hs
          refine lv_icmp_ge hx hb hdg ht (fun q => ?_) (fun q => ?_)
          · simpa [q] using k ls hl
          · simpa [q] using k ls hl
        · obtain ⟨t, ht, rfl, rfl, rfl⟩ := z_br_some hs
          refine lv_icmp_gt hx hb hdg ht (fun q => ?_) (fun q => ?_)
          · simpa [q] using k ls hl
          · simpa [q] using k ls hl
        · obtain ⟨t, ht, rfl, rfl, rfl⟩ := z_br_some hs
          refine lv_icmp_le hx hb hdg ht (fun q => ?_) (fun q => ?_)
          · simpa [q] using k ls hl
          · simpa [q] using k ls hl
      · cases hs
    · cases hs
  · split at hs
    · rename_i hlen; subst hlen
      split at hs
      · split at hs
        · obtain ⟨t, ht, rfl, rfl, rfl⟩ := z_br_some hs
          refine lv_if_eq hx hb hdg ht (fun q => ?_) (fun q => ?_)
          · simpa [q] using k ls hl
          · simpa [q] using k ls hl
        · obtain ⟨t, ht, rfl, rfl, rfl⟩ := z_br_some hs
          refine lv_if_ne hx hb hdg ht (fun q => ?_) (fun q => ?_)
          · simpa [q] using k ls hl
          · simpa [q] using k ls hl
        · obtain ⟨t, ht, rfl, rfl, rfl⟩ := z_br_some hs
          refine lv_if_lt hx hb hdg ht (fun q => ?_) (fun q => ?_)
          · simpa [q] using k ls hl
          · simpa [q] using k ls hl
        · obtain ⟨t, ht, rfl, rfl, rfl⟩ := z_br_some hs
          refine lv_if_ge hx hb hdg ht (fun q => ?_) (fun q => ?_)
          · simpa [q] using k ls hl
          · simpa [q] using k ls hl
        · obtain ⟨t, ht, rfl, rfl, rfl⟩ := z_br_some hs
          refine lv_if_gt hx hb hdg ht (fun q => ?_) (fun q => ?_)
          · simpa [q] using k ls hl
          · simpa [q] using k ls hl
        · obtain ⟨t, ht, rfl, rfl, rfl⟩ := z_br_some hs
          refine lv_if_le hx hb hdg ht (fun q => ?_) (fun q => ?_)
          · simpa [q] using k ls hl
          · simpa [q] using k ls hl
      · cases hs
    · cases hs
  · split at hs
    · rename_i hlen; subst hlen
      split at hs
      · obtain ⟨t, ht, rfl, rfl, rfl⟩ := z_br_some hs; exact lv_ifnull hx hb hdg (k ls hl)
      · obtain ⟨t, ht, rfl, rfl, rfl⟩ := z_br_some hs; exact lv_ifnullN hx hb hdg ht (k ls hl)
      · cases hs
    · cases hs
  · split at hs
    · rename_i hlen; subst hlen
      split at hs
      · obtain ⟨t, ht, rfl, rfl, rfl⟩ := z_br_some hs; exact lv_ifnonnull hx hb hdg ht (k ls hl)
      · obtain ⟨t, ht, rfl, rfl, rfl⟩ := z_br_some hs; exact lv_ifnonnullN hx hb hdg (k ls hl)
      · cases hs
    · cases hs
  · split at hs
    · rename_i hlen; subst hlen
      split at hs
      · split at hs
        · rename_i y x r he; subst he
          split at hs
          · obtain ⟨t, ht, rfl, rfl, rfl⟩ := z_br_some hs
            exact lv_acmp_eq (rx := some (s_ad g x)) (ry := some (s_ad g x)) hx hb hdg ht (fun _ => k ls hl) (fun q => absurd rfl q)
          · obtain ⟨t, ht, rfl, rfl, rfl⟩ := z_br_some hs
            exact lv_acmp_ne (rx := some (s_ad g x)) (ry := some (s_ad g x)) hx hb hdg ht (fun q => absurd rfl q) (fun _ => k ls hl)
        · cases hs
      · cases hs
    · cases hs
  · split at hs
    · split at hs
      · rename_i hq
        obtain ⟨t, ht, rfl, rfl, rfl⟩ := z_br_some hs
        exact lv_tableOut hx hb hdg hq ht (k ls hl)
      · rename_i hq
        split at hs
        · rename_i off ho
          obtain ⟨t, ht, rfl, rfl, rfl⟩ := z_br_some hs
          exact lv_tableIn hx hb hdg (fun q => hq (Or.inl q)) (fun q => hq (Or.inr q)) ho ht (k ls hl)
        · cases hs
    · cases hs
  · cases hs
theorem s_Aa (F : s_F g p R s m args meth c d M) (hl : s_LR g M L ls) (hdg : decode (z_by M) pc = .ok (ins, len)) (hs : z_A M ins len pc L st = some (pc', L', st')) (k : ∀ ls', s_LR g M L' ls' → W p l e R s m args below meth c H locs cells slots Qm (F0 m pc' ls' (st'.map (s_v g)))) : W p l e R s m args below meth c H locs cells slots Qm (F0 m pc ls (st.map (s_v g))) := by
  unfold z_A at hs
  cases h1 : z_A1 M ins len pc L st with
  | some t => rw [h1] at hs; exact s_A1 F hl hdg (h1.trans hs) k
  | none =>
    rw [h1, Option.none_or] at hs
    cases h2 : z_A2 ins len pc L st with
    | some t => rw [h2] at hs; exact s_A2 F hl hdg (h2.trans hs) k
    | none =>
      rw [h2, Option.none_or] at hs
      exact s_A3 F hl hdg hs k
end Sound
