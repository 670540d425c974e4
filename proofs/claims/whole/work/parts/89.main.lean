/-! ENDS AND CALLS; and the one theorem: what the small machine does, the machine does. -/
theorem s_nomath : ∀ own ∈ List.range 19, ∀ e ∈ z_ct.getD own [], s_math e.2.1 = false := by decide +kernel
theorem s_maxL : ∀ M ∈ List.range 169, z_mx M ≤ 12 := by decide +kernel
theorem s_X.moved {g : s_G} {s U : State} (hW : s.WarmedH U.vm) (hk : ∀ q : Nat, q < s.heap.size → ¬ s_A g q → U.heap[q]? = s.heap[q]?) (hz : g.2.1 0 ≤ U.heap.size) (h : s_X g s) : s_X g U := by
  obtain ⟨h1, h2, h3, h4, h5, h6, h7, h8, h9, h10, h11⟩ := h
  refine ⟨va_K.moved hW.alike h1, (va_Z.moved hW.alike h2).kept hk, (va_T.moved hW.alike h3).kept hk, va_Mi.moved hW.alike h4, (va_X.moved hW.alike h5).kept (hk _ (Nat.lt_of_lt_of_le h6 h7) (Nat.not_le.mpr h6)), h6, hz, fun ci hci => va_Nw.warmC hW (h8 ci hci), va_Dc.moved hW.alike h9, va_AO.moved hW.alike h10, fun own ho e he h3 => va_Nw.warmM hW (h11 own ho e he h3)⟩
theorem s_args (g : s_G) (lg : List Nat) : ∀ (vs : List Value) (i j : Nat) (v : Value), z_lo lg i vs = true → (z_sl vs)[j]? = some (some v) → (i + j, s_v g v) ∈ lv_args i (vs.map (s_v g)) ∧ (v.category = 2 → lg.contains (i + j) = true)
  | [], i, j, v, _, h => by simp [z_sl] at h
  | .long w :: vs, i, j, v, ho, h => by
    simp only [z_lo, Bool.and_eq_true] at ho
    simp only [z_sl] at h
    match j, h with
    | 0, h =>
      simp only [List.getElem?_cons_zero, Option.some.injEq] at h
      subst h
      exact ⟨List.mem_cons_self, fun _ => ho.1⟩
    | 1, h => simp at h
    | j + 2, h =>
      simp only [List.getElem?_cons_succ] at h
      obtain ⟨q1, q2⟩ := s_args g lg vs (i + 2) j v ho.2 h
      refine ⟨List.mem_cons_of_mem _ ?_, fun q => ?_⟩
      · show (i + (j + 2), s_v g v) ∈ lv_args (i + 2) _
        rw [show i + (j + 2) = i + 2 + j by omega]
        exact q1
      · rw [show i + (j + 2) = i + 2 + j by omega]
        exact q2 q
  | .double w :: vs, i, j, v, ho, h => by simp [z_lo] at ho
  | .int w :: vs, i, j, v, ho, h => by
    simp only [z_lo] at ho
    simp only [z_sl] at h
    match j, h with
    | 0, h =>
      simp only [List.getElem?_cons_zero, Option.some.injEq] at h
      subst h
      exact ⟨List.mem_cons_self, fun q => by simp [Value.category] at q⟩
    | j + 1, h =>
      simp only [List.getElem?_cons_succ] at h
      obtain ⟨q1, q2⟩ := s_args g lg vs (i + 1) j v ho h
      rw [show i + (j + 1) = i + 1 + j by omega]
      exact ⟨List.mem_cons_of_mem _ q1, q2⟩
  | .ref w :: vs, i, j, v, ho, h => by
    simp only [z_lo] at ho
    simp only [z_sl] at h
    match j, h with
    | 0, h =>
      simp only [List.getElem?_cons_zero, Option.some.injEq] at h
      subst h
      exact ⟨List.mem_cons_self, fun q => by simp [Value.category] at q⟩
    | j + 1, h =>
      simp only [List.getElem?_cons_succ] at h
      obtain ⟨q1, q2⟩ := s_args g lg vs (i + 1) j v ho h
      rw [show i + (j + 1) = i + 1 + j by omega]
      exact ⟨List.mem_cons_of_mem _ q1, q2⟩
  | .null :: vs, i, j, v, ho, h => by
    simp only [z_lo] at ho
    simp only [z_sl] at h
    match j, h with
    | 0, h =>
      simp only [List.getElem?_cons_zero, Option.some.injEq] at h
      subst h
      exact ⟨List.mem_cons_self, fun q => by simp [Value.category] at q⟩
    | j + 1, h =>
      simp only [List.getElem?_cons_succ] at h
      obtain ⟨q1, q2⟩ := s_args g lg vs (i + 1) j v ho h
      rw [show i + (j + 1) = i + 1 + j by omega]
      exact ⟨List.mem_cons_of_mem _ q1, q2⟩
  | .float w :: vs, i, j, v, ho, h => by
    simp only [z_lo] at ho
    simp only [z_sl] at h
    match j, h with
    | 0, h =>
      simp only [List.getElem?_cons_zero, Option.some.injEq] at h
      subst h
      exact ⟨List.mem_cons_self, fun q => by simp [Value.category] at q⟩
    | j + 1, h =>
      simp only [List.getElem?_cons_succ] at h
      obtain ⟨q1, q2⟩ := s_args g lg vs (i + 1) j v ho h
      rw [show i + (j + 1) = i + 1 + j by omega]
      exact ⟨List.mem_cons_of_mem _ q1, q2⟩
  | .retAddr w :: vs, i, j, v, ho, h => by
    simp only [z_lo] at ho
    simp only [z_sl] at h
    match j, h with
    | 0, h =>
      simp only [List.getElem?_cons_zero, Option.some.injEq] at h
      subst h
      exact ⟨List.mem_cons_self, fun q => by simp [Value.category] at q⟩
    | j + 1, h =>
      simp only [List.getElem?_cons_succ] at h
      obtain ⟨q1, q2⟩ := s_args g lg vs (i + 1) j v ho h
      rw [show i + (j + 1) = i + 1 + j by omega]
      exact ⟨List.mem_cons_of_mem _ q1, q2⟩
theorem s_sl_len (g : s_G) (lg : List Nat) : ∀ (vs : List Value) (i : Nat), z_lo lg i vs = true → (lg_sl (vs.map (s_v g))).length = (z_sl vs).length
  | [], _, _ => rfl
  | .long w :: vs, i, ho => by
    simp only [z_lo, Bool.and_eq_true] at ho
    have := s_sl_len g lg vs _ ho.2
    simp only [lg_sl, List.map_cons, List.flatMap_cons, List.length_append, z_sl, List.length_cons, s_v, Value.category, if_true] at this ⊢
    simp only [List.length_nil]
    omega
  | .double w :: vs, i, ho => by simp [z_lo] at ho
  | .int w :: vs, i, ho => by
    simp only [z_lo] at ho
    have := s_sl_len g lg vs _ ho
    have q : lg_sl (List.map (s_v g) (Value.int w :: vs)) = Slot.val (s_v g (Value.int w)) :: lg_sl (vs.map (s_v g)) := rfl
    rw [q]
    simp only [List.length_cons, z_sl, this]
  | .ref w :: vs, i, ho => by
    simp only [z_lo] at ho
    have := s_sl_len g lg vs _ ho
    have q : lg_sl (List.map (s_v g) (Value.ref w :: vs)) = Slot.val (s_v g (Value.ref w)) :: lg_sl (vs.map (s_v g)) := rfl
    rw [q]
    simp only [List.length_cons, z_sl, this]
  | .null :: vs, i, ho => by
    simp only [z_lo] at ho
    have := s_sl_len g lg vs _ ho
    have q : lg_sl (List.map (s_v g) (Value.null :: vs)) = Slot.val (s_v g (Value.null)) :: lg_sl (vs.map (s_v g)) := rfl
    rw [q]
    simp only [List.length_cons, z_sl, this]
  | .float w :: vs, i, ho => by
    simp only [z_lo] at ho
    have := s_sl_len g lg vs _ ho
    have q : lg_sl (List.map (s_v g) (Value.float w :: vs)) = Slot.val (s_v g (Value.float w)) :: lg_sl (vs.map (s_v g)) := rfl
    rw [q]
    simp only [List.length_cons, z_sl, this]
  | .retAddr w :: vs, i, ho => by
    simp only [z_lo] at ho
    have := s_sl_len g lg vs _ ho
    have q : lg_sl (List.map (s_v g) (Value.retAddr w :: vs)) = Slot.val (s_v g (Value.retAddr w)) :: lg_sl (vs.map (s_v g)) := rfl
    rw [q]
    simp only [List.length_cons, z_sl, this]
theorem s_entry (g : s_G) {M : Nat} {vs : List Value} (hag : z_ag M vs = true) : s_LR g M (z_en (z_mx M) vs) ((lg_sl (vs.map (s_v g)) ++ List.replicate (z_mx M - (lg_sl (vs.map (s_v g))).length) Slot.unset).toArray) := by
  simp only [z_ag, Bool.and_eq_true, decide_eq_true_eq] at hag
  obtain ⟨ho, hlen⟩ := hag
  have h1 := s_sl_len g _ vs 0 ho
  have hl := lv_entry (vs.map (s_v g)) (n := z_mx M) (by rw [h1]; exact hlen)
  refine ⟨hl.1, hl.2.1, by simp only [z_en, List.length_append, List.length_replicate]; omega, fun i v hi => ?_⟩
  have hi' : (z_sl vs)[i]? = some (some v) := by
    unfold z_en at hi
    by_cases hlt : i < (z_sl vs).length
    · rw [List.getElem?_append_left hlt] at hi
      exact hi
    · rw [List.getElem?_append_right (by omega)] at hi
      have := List.mem_of_getElem? hi
      rw [List.mem_replicate] at this
      cases this.2
  obtain ⟨q1, q2⟩ := s_args g _ vs 0 i v ho hi'
  rw [Nat.zero_add] at q1 q2
  exact ⟨hl.2.2 _ q1, q2⟩
def s_Qc (g : s_G) (Q : z_Q) : Array Value → State → Outcome → State → Prop := fun _ st o t => (∃ (r : Option Value) (h' : z_H) (nx' : Nat), o = .returned (r.map (s_v g)) ∧ Q r h' nx' ∧ s_HR g h' nx' t.heap) ∧ va_F (s_A g) st t
/-- what is taken of an end: at the instruction that ends the method, with what the small machine says of it -/
def s_Rt (g : s_G) (p : Program) (l : Launch) (e : Env) (R : Room) (s : State) (m : MethodId) (args : Array Value) (below : List Frame) (meth : Method) (c : Code) (Qm : State → Prop) (M : Nat) (Q : z_Q) : Prop :=
  ∀ (r : Option Value) (h' : z_H) (nx' : Nat) (H' : Heap) (locs' : List Loc) (cells' slots' pc' : Nat) (ls' : Array Slot) (ins' : Instr) (len' : Nat) (st' : List Value), decode (z_by M) pc' = .ok (ins', len') → z_R M ins' len' st' = some r → Q r h' nx' → s_HR g h' nx' H' → va_S (s_A g) s.heap H' locs' → cells' ≤ R.cells → slots' ≤ R.slots → W p l e R s m args below meth c H' locs' cells' slots' Qm (F0 m pc' ls' (st'.map (s_v g)))
def s_Run (g : s_G) (l : Launch) (k : Nat) : Prop := ∀ (d M pc : Nat) (L : z_L) (st : List Value) (h : z_H) (nx bc bs : Nat) (Q : z_Q), Ex k d M pc L st h nx bc bs Q → ∀ (p : Program) (e : Env) (R : Room) (s : State) (m : MethodId) (args : Array Value) (below : List Frame) (meth : Method) (c : Code) (H : Heap) (locs : List Loc) (cells slots : Nat) (Qm : State → Prop) (ls : Array Slot), s_F g p R s m args meth c d M → s_LR g M L ls → s_HR g h nx H → va_S (s_A g) s.heap H locs → cells + bc = R.cells → slots + bs = R.slots → s_Rt g p l e R s m args below meth c Qm M Q → W p l e R s m args below meth c H locs cells slots Qm (F0 m pc ls (st.map (s_v g)))
def s_rm (d M : Nat) : Room := { frames := d, cells := z_mc M, slots := z_ms M, locals := 40 * d }
def s_ws (M : Nat) : List Cond := Cond.code (z_my M) (z_by M) (z_mx M) (z_rt M) :: s_tb
section Main
variable {g : s_G} {l : Launch}
theorem s_blind (vs : List Value) (h : z_H) (nx : Nat) : FrameBlind (va_Pc (vs.map (s_v g)) (fun U => s_X g U ∧ s_HR g h nx U.heap)) := by
  intro a U fr mk q
  obtain ⟨q1, q2, q3⟩ := q
  exact ⟨q1, s_X.moved (s := U) (U := U.calling fr mk a) (State.WarmedH.refl U) (fun _ _ _ => rfl) q2.2.2.2.2.2.2.1 q2, q3⟩
theorem s_met {k : Nat} (hk : s_Run g l k) {d M : Nat} {vs : List Value} {h : z_H} {nx : Nat} {Q : z_Q} (hE : Ex k d M 0 (z_en (z_mx M) vs) [] h nx (z_mc M) (z_ms M) Q) (hM : M < 169) (hmath : s_math M = false) (hag : z_ag M vs = true) :
    Met l (z_my M) (s_ws M) (s_rm d M) (va_Pc (vs.map (s_v g)) (fun U => s_X g U ∧ s_HR g h nx U.heap)) (s_Qc g Q) (z_mc M) (z_ms M) (s_A g) := by
  obtain ⟨hcode, hini, hpl, hy1, hy2, hnm⟩ := s_mo M (List.mem_range.mpr hM)
  refine Met.ofW (cc := z_by M) (maxL := z_mx M) (ret := z_rt M) (hpl hmath) rfl ?_
  intro p e s m args below meth c s₁ B hml hv
  obtain ⟨rfl, hX, hR⟩ := hv
  have hts := atoms_spec (ws := s_ws M) B.pre
  have hown : s.vm.findClass (z_my M).cls = some m.cls := findClass_of_methodNamed B.named
  have hlocks := B.notSynchronized
  have F : s_F g p (s_rm d M) s m ((vs.map (s_v g)).toArray) meth c d M := ⟨B.exec, B.bytes, hml, by rw [hnm]; exact hown, fun w hw => hts w (List.mem_cons_of_mem _ hw), hlocks, B.returns, fun q => by rw [(name_of_methodNamed B.named B.method).1]; simpa [z_isI] using q, hX, Nat.le_refl _, Nat.le_refl _, rfl, rfl, s_owlt M (List.mem_range.mpr (by omega))⟩
  rw [lg_entry_eq]
  refine hk d M 0 _ [] h nx _ _ Q hE p e (s_rm d M) s m _ below meth c s.heap [] 0 0 _ _ F (s_entry g hag) hR va_S.rf (Nat.zero_add _) (Nat.zero_add _) ?_
  intro r h' nx' H' locs' cells' slots' pc' ls' ins' len' st' hdg hz hQ hR' hS' hc' hs'
  obtain ⟨hx, hb, -, -, -, -, hr, -⟩ := F
  refine W.widen (k := z_mc M) (n := z_ms M) hc' hs' ?_
  have hq : ∀ t : State, t.heap = H' → s_Qc g Q ((vs.map (s_v g)).toArray) s (.returned (r.map (s_v g))) t := fun t ht => ⟨⟨r, h', nx', rfl, hQ, by rw [ht]; exact hR'⟩, hS'.F ht⟩
  unfold z_R at hz
  split at hz
  · split at hz
    · rename_i hlen; subst hlen
      split at hz
      · rename_i v hrt; cases hz
        exact W.iret hx hb (hr.trans hrt) (fun t ht _ => hq t ht) hS'.2.2 hdg
      · rename_i v hrt
        split at hz
        · rename_i hv; cases hz
          refine W.zret (ty := .boolean) hx hb (hr.trans hrt) ?_ (fun t ht _ => hq t ht) hS'.2.2 hdg
          rcases hv with rfl | rfl <;> rfl
        · cases hz
      · cases hz
    · cases hz
  · split at hz
    · rename_i hlen; subst hlen
      split at hz
      · rename_i a nm hrt; cases hz
        exact W.aret hx hb (hr.trans hrt) (Or.inl ⟨_, rfl⟩) (Or.inr ⟨_, rfl⟩) (fun t ht _ => hq t ht) hS'.2.2 hdg
      · rename_i nm hrt; cases hz
        exact W.aret hx hb (hr.trans hrt) (Or.inl ⟨_, rfl⟩) (Or.inl rfl) (fun t ht _ => hq t ht) hS'.2.2 hdg
      · rename_i a nm hrt; cases hz
        exact W.aret hx hb (hr.trans hrt) (Or.inr ⟨_, rfl⟩) (Or.inr ⟨_, rfl⟩) (fun t ht _ => hq t ht) hS'.2.2 hdg
      · cases hz
    · cases hz
  · split at hz
    · rename_i hlen; subst hlen
      split at hz
      · rename_i hrt; cases hz
        exact W.vret hx hb (hr.trans hrt) (fun t ht _ => hq t ht) hS'.2.2 hdg
      · cases hz
    · cases hz
  · cases hz
variable {p : Program} {e : Env} {R : Room} {s : State} {m : MethodId} {args : Array Value} {below : List Frame} {meth : Method} {c : Code} {H : Heap} {locs : List Loc} {cells slots : Nat} {Qm : State → Prop} {ls : Array Slot}
theorem s_after {mc ms pc : Nat} {st0 rest : List Value} {Q : z_Q} {a : Array Value} (hr : va_Run p l e R s m args below meth c H locs cells slots mc ms (F0 m pc ls st0) (rest.map (s_v g)) (s_Qc g Q a) (s_A g)) (hS : va_S (s_A g) s.heap H locs)
    (kk : ∀ (r : Option Value) (h' : z_H) (nx' : Nat) (H1 : Heap) (locs1 : List Loc), Q r h' nx' → s_HR g h' nx' H1 → va_S (s_A g) s.heap H1 locs1 → W p l e R s m args below meth c H1 locs1 (cells + mc) (slots + ms) Qm (F0 m (pc + 3) ls ((z_pu r rest).map (s_v g)))) : W p l e R s m args below meth c H locs cells slots Qm (F0 m pc ls st0) := by
  intro T hT X
  obtain ⟨v, st₀, t, T', L, h0, X', hL, e1, e2, ⟨⟨r, h', nx', hv, hQ, hR⟩, hz, hk⟩, st⟩ := hr T hT X
  cases hv
  rw [h0] at hz hk
  obtain ⟨t2, a1, b1⟩ := kk r h' nx' T'.heap (locs ++ L) hQ (by rw [e1]; exact hR)
    ⟨Nat.le_trans hS.1 (by rw [e1]; exact hz), fun q h1 h2 => by rw [e1, hk q (Nat.lt_of_lt_of_le h1 hS.1) h2]; exact hS.2.1 q h1 h2, fun q hq => by
      rcases List.mem_append.mp hq with h | h
      · exact hS.2.2 q h
      · exact hL q h⟩ T' rfl X'
  refine ⟨t2, st t2 ?_, b1⟩
  cases r <;> exact a1
theorem s_call {k : Nat} (hk : s_Run g l k) {d M pc : Nat} {L : z_L} {st : List Value} {h : z_H} {nx bc bs : Nat} {Q : z_Q} {ins : Instr} {len M' : Nat} {vs st' : List Value} (F : s_F g p R s m args meth c (d + 1) M) (hl : s_LR g M L ls) (hR : s_HR g h nx H) (hS : va_S (s_A g) s.heap H locs) (hbc : cells + bc = R.cells) (hbs : slots + bs = R.slots) (hdg : decode (z_by M) pc = .ok (ins, len)) (hD : z_D M ins len st h = some (M', vs, st')) (hcm : z_mc M' ≤ bc) (hsm : z_ms M' ≤ bs)
    (hE : Ex k d M' 0 (z_en (z_mx M') vs) [] h nx (z_mc M') (z_ms M') Q)
    (kk : ∀ (r : Option Value) (h' : z_H) (nx' : Nat) (H1 : Heap) (locs1 : List Loc), Q r h' nx' → s_HR g h' nx' H1 → va_S (s_A g) s.heap H1 locs1 → W p l e R s m args below meth c H1 locs1 (cells + z_mc M') (slots + z_ms M') Qm (F0 m (pc + 3) ls ((z_pu r st').map (s_v g)))) : W p l e R s m args below meth c H locs cells slots Qm (F0 m pc ls (st.map (s_v g))) := by
  obtain ⟨hx, hb, hml, hown, hts, hlk, hr, hnm, hX, hfr, hlo, hcc, hss, hlt⟩ := F
  have hz := hl.1
  have hwarm : ∀ U : State, U.heap = H → s.WarmedH U.vm → va_Pc (vs.map (s_v g)) (fun U => s_X g U ∧ s_HR g h nx U.heap) ((vs.map (s_v g)).toArray) U := fun U hU hW =>
    ⟨rfl, s_X.moved hW (fun q h1 h2 => by rw [hU]; exact hS.2.1 q h1 h2) (by rw [hU]; exact Nat.le_trans hX.2.2.2.2.2.2.1 hS.1) hX, by rw [hU]; exact hR⟩
  have hfix : CallFix p m c (z_by M) (z_mx M) s args s_tb (s_nm (z_ow M)) := ⟨hx, hb, hml, hown, hts⟩
  have hroom : ∀ {M' n : Nat}, M' < 169 → (z_mc M' ≤ bc) → (z_ms M' ≤ bs) → (s_rm d M').frames + 1 ≤ R.frames ∧ 8 + (z_mx M' + 11) + (s_rm d M').locals ≤ R.locals ∧ cells + z_mc M' ≤ R.cells ∧ slots + z_ms M' ≤ R.slots := by
    intro M' n hM h1 h2
    have := s_maxL M' (List.mem_range.mpr hM)
    refine ⟨hfr, ?_, by omega, by omega⟩
    show 8 + (z_mx M' + 11) + 40 * d ≤ R.locals
    omega
  have hws : ∀ M', M' < 169 → ∀ w ∈ s_ws M', ∀ (a' : Array Value) (U : State), s.WarmedH U.vm → w.before a' U = true := by
    intro M' hM w hw a' U hW
    have hw' : w ∈ s_tb := by
      rcases List.mem_cons.mp hw with rfl | q
      · exact (s_mo M' (List.mem_range.mpr hM)).1
      · exact q
    exact word_at hW (s_gd w hw') (hts w hw')
  unfold z_D at hD
  split at hD
  · -- virtual
    split at hD
    · rename_i cp hlen; subst hlen
      split at hD
      · rename_i M2 n hc
        split at hD
        · rename_i b rest hdrop
          split at hD
          · rename_i ci fs hb2
            split at hD
            · rename_i hq
              obtain ⟨rfl, hr4, hag⟩ := hq
              cases hD
              obtain ⟨hM, hn, hlink, hins, hsel⟩ := s_co _ hlt _ (s_lookup hc)
              dsimp only at hM hn hlink hins hsel
              obtain ⟨hcode, hini, hpl, hy1, hy2, hnm2⟩ := s_mo M' (List.mem_range.mpr hM)
              have hmath := s_nomath _ (List.mem_range.mpr hlt) _ (s_lookup hc)
              obtain ⟨r1, r2, r3, r4⟩ := hroom (n := 0) hM hcm hsm
              have hst : st = st.take n ++ .ref b :: st' := by rw [← hdrop, List.take_append_drop]
              have hci : z_ow M' < 10 := by
                rcases Nat.lt_or_ge (z_ow M') 10 with q | q
                · exact q
                · exfalso
                  have h0 : b ≠ 0 := fun q => by rw [q, hR.2.2.2.1] at hb2; cases hb2
                  have h1 : b ≠ 1 := fun q => by rw [q, hR.2.2.2.2.1] at hb2; cases hb2
                  have hno : h b ≠ z_no := by
                    intro q2
                    rw [hb2] at q2
                    simp only [z_no, Sum.inr.injEq, Sum.inl.injEq, Prod.mk.injEq] at q2
                    have := s_owlt M' (List.mem_range.mpr (by omega))
                    omega
                  obtain ⟨b3, bn⟩ := hR.lo h0 h1 hno
                  have q3 := (hR.2.2.1 b b3 bn).1
                  rw [hb2] at q3
                  obtain ⟨r0, hr0, -⟩ := q3
                  have := (List.getElem?_eq_some_iff.mp hr0).1
                  have hl10 : z_cl.length = 10 := rfl
                  dsimp only at this
                  omega
              obtain ⟨b3, bn, bat⟩ := hR.obj hb2 hci
              have hcn : (s_cq (z_ow M')).1 = (z_my M').cls := by
                rw [← hnm2]
                exact (s_ko _ hci).2.2.2.2.2.2.symm
              have hrun := va_runV (R := R) (H := H) (locs := locs) (cells := cells) (slots := slots) (e := e) (below := below) (meth := meth) (b := s_ad g b) (As := ((st.take n).reverse).map (s_v g)) (rest := st'.map (s_v g)) (g := F0 m pc ls (st.map (s_v g))) (C := (z_my M').cls) (n := n) (index := cp) (bytes := z_by M') (maxL := z_mx M') (ret := z_rt M') hfix (s_met hk hE hM hmath hag)
                ⟨⟨rfl, rfl, r1, r2, hws M' hM, List.mem_cons_self, hts _ hcode, hts _ hini, ⟨hy1, hy2⟩, fun sig hsig => by rw [hsig] at hn; exact (Option.some.inj hn).symm, hts _ hlink⟩, hts _ hins, hts _ hsel⟩
                ⟨s_blind _ h nx, by rw [← hcn]; exact va_recv hX.1 (s_P1 bat) (q0 := 0) (s_cl_at hci) rfl, fun U hU hW => hwarm U hU hW⟩ rfl (by
                  have hle : n ≤ st.length := by
                    rcases Nat.lt_or_ge st.length n with q | q
                    · rw [List.drop_eq_nil_of_le (by omega)] at hdrop
                      cases hdrop
                    · exact q
                  simp
                  omega) hz (by
                  show st.map (s_v g) = _
                  rw [List.map_reverse, List.reverse_reverse]
                  conv => lhs; rw [hst]
                  rw [List.map_append]
                  rfl) (lv_room (s_cat4 g hr4)) hdg ⟨r3, r4⟩
              exact s_after hrun hS kk
            · cases hD
          · cases hD
        · cases hD
      · cases hD
    · cases hD
  · -- special
    split at hD
    · rename_i cp hlen; subst hlen
      split at hD
      · rename_i M2 n hc
        split at hD
        · rename_i b rest hdrop
          split at hD
          · rename_i hq
            obtain ⟨hr4, hag⟩ := hq
            cases hD
            obtain ⟨hM, hn, hlink, hins, hnmi, hrt⟩ := s_co _ hlt _ (s_lookup hc)
            dsimp only at hM hn hlink hins hnmi hrt
            obtain ⟨hcode, hini, hpl, hy1, hy2, hnm2⟩ := s_mo M' (List.mem_range.mpr hM)
            have hmath := s_nomath _ (List.mem_range.mpr hlt) _ (s_lookup hc)
            obtain ⟨r1, r2, r3, r4⟩ := hroom (n := 0) hM hcm hsm
            have hst : st = st.take n ++ .ref b :: st' := by rw [← hdrop, List.take_append_drop]
            rw [hrt] at hcode
            have hrun := va_runI (R := R) (H := H) (locs := locs) (cells := cells) (slots := slots) (e := e) (below := below) (meth := meth) (b := s_ad g b) (As := ((st.take n).reverse).map (s_v g)) (rest := st'.map (s_v g)) (g := F0 m pc ls (st.map (s_v g))) (n := n) (index := cp) (bytes := z_by M') (maxL := z_mx M') hfix (s_met hk hE hM hmath hag)
              ⟨⟨rfl, rfl, r1, r2, hws M' hM, by unfold s_ws; rw [hrt]; exact List.mem_cons_self, hts _ hcode, hts _ hini, ⟨hy1, hy2⟩, fun sig hsig => by rw [hsig] at hn; exact (Option.some.inj hn).symm, hts _ hlink⟩, hnmi, hts _ hins⟩
              ⟨s_blind _ h nx, fun U hU hW => hwarm U hU hW⟩ rfl (by
                have hle : n ≤ st.length := by
                  rcases Nat.lt_or_ge st.length n with q | q
                  · rw [List.drop_eq_nil_of_le (by omega)] at hdrop
                    cases hdrop
                  · exact q
                simp
                omega) hz (by
                show st.map (s_v g) = _
                rw [List.map_reverse, List.reverse_reverse]
                conv => lhs; rw [hst]
                rw [List.map_append]
                rfl) (lv_room (s_cat4 g hr4)) hdg ⟨r3, r4⟩
            exact s_after hrun hS kk
          · cases hD
        · cases hD
      · cases hD
    · cases hD
  · -- static
    split at hD
    · rename_i cp hlen; subst hlen
      split at hD
      · rename_i M2 n hc
        split at hD
        · rename_i hq
          obtain ⟨hle, hr4, hag⟩ := hq
          cases hD
          obtain ⟨hM, hn, hlink, hstt⟩ := s_co _ hlt _ (s_lookup hc)
          dsimp only at hM hn hlink hstt
          obtain ⟨hcode, hini, hpl, hy1, hy2, hnm2⟩ := s_mo M' (List.mem_range.mpr hM)
          have hmath := s_nomath _ (List.mem_range.mpr hlt) _ (s_lookup hc)
          obtain ⟨r1, r2, r3, r4⟩ := hroom (n := 0) hM hcm hsm
          have hrun := va_runS (R := R) (H := H) (locs := locs) (cells := cells) (slots := slots) (e := e) (below := below) (meth := meth) (As := ((st.take n).reverse).map (s_v g)) (rest := (st.drop n).map (s_v g)) (g := F0 m pc ls (st.map (s_v g))) (n := n) (index := cp) (bytes := z_by M') (maxL := z_mx M') (ret := z_rt M') hfix (s_met hk hE hM hmath hag)
            ⟨⟨rfl, rfl, r1, r2, hws M' hM, List.mem_cons_self, hts _ hcode, hts _ hini, ⟨hy1, hy2⟩, fun sig hsig => by rw [hsig] at hn; exact (Option.some.inj hn).symm, hts _ hlink⟩, hts _ hstt⟩
            ⟨s_blind _ h nx, fun U hU hW => hwarm U hU hW⟩ rfl (by simp; omega) hz (by
              show st.map (s_v g) = _
              rw [List.map_reverse, List.reverse_reverse, ← List.map_append, List.take_append_drop]) (lv_room (s_cat4 g hr4)) hdg ⟨r3, r4⟩
          exact s_after hrun hS kk
        · cases hD
      · rename_i M2 n hc
        split at hD
        · rename_i hq
          obtain ⟨hle, hr4, hag⟩ := hq
          cases hD
          obtain ⟨hM, hn, -, hstt⟩ := s_co _ hlt _ (s_lookup hc)
          have hlink := hX.2.2.2.2.2.2.2.2.2.2 _ hlt _ (s_lookup hc) rfl
          dsimp only at hM hn hlink hstt
          obtain ⟨hcode, hini, hpl, hy1, hy2, hnm2⟩ := s_mo M' (List.mem_range.mpr hM)
          have hmath := s_nomath _ (List.mem_range.mpr hlt) _ (s_lookup hc)
          obtain ⟨r1, r2, r3, r4⟩ := hroom (n := 0) hM hcm hsm
          have hrun := va_runSN (R := R) (H := H) (locs := locs) (cells := cells) (slots := slots) (e := e) (below := below) (meth := meth) (As := ((st.take n).reverse).map (s_v g)) (rest := (st.drop n).map (s_v g)) (g := F0 m pc ls (st.map (s_v g))) (n := n) (index := cp) (host := "VerseBench") (bytes := z_by M') (maxL := z_mx M') (ret := z_rt M') hfix (s_met hk hE hM hmath hag)
            ⟨⟨⟨rfl, rfl, r1, r2, hws M' hM, List.mem_cons_self⟩, hts _ hcode, hts _ hini, ⟨hy1, hy2⟩, fun sig hsig => by rw [hsig] at hn; exact (Option.some.inj hn).symm, va_Nw.use rfl hlink⟩, hts _ hstt, trivial⟩
            ⟨s_blind _ h nx, fun U hU hW => hwarm U hU hW⟩ rfl (by simp; omega) hz (by
              show st.map (s_v g) = _
              rw [List.map_reverse, List.reverse_reverse, ← List.map_append, List.take_append_drop]) (lv_room (s_cat4 g hr4)) hdg ⟨r3, r4⟩
          exact s_after hrun hS kk
        · cases hD
      · cases hD
    · cases hD
  · cases hD
/-- WHAT THE SMALL MACHINE DOES, THE MACHINE DOES -/
theorem s_all (g : s_G) (l : Launch) : ∀ k, s_Run g l k := by
  intro k
  induction k with
  | zero => intro d M pc L st h nx bc bs Q hE; exact hE.elim
  | succ k ih =>
    intro d M pc L st h nx bc bs Q hE p e R s m args below meth c H locs cells slots Qm ls F hl hR hS hbc hbs hrt
    simp only [Ex] at hE
    cases hd : decode (z_by M) pc with
    | error e => simp only [hd] at hE
    | ok q =>
      obtain ⟨ins, len⟩ := q
      simp only [hd] at hE
      cases hA : z_A M ins len pc L st with
      | some t =>
        obtain ⟨pc', L', st'⟩ := t
        simp only [hA] at hE
        exact s_Aa F hl hd hA (fun ls' hl' => ih d M pc' L' st' h nx bc bs Q hE p e R s m args below meth c H locs cells slots Qm ls' F hl' hR hS hbc hbs hrt)
      | none =>
        simp only [hA] at hE
        cases hB : z_B d M ins len pc st h nx bc bs with
        | some t =>
          obtain ⟨pc', st', h', nx', bc', bs'⟩ := t
          simp only [hB] at hE
          unfold z_B at hB
          cases hB1 : z_B1 M ins len pc st h nx bc bs with
          | some t =>
            rw [hB1] at hB
            refine s_B1 F hR hS hd (hB1.trans hB) (fun H' locs' e1 e2 hR' hS' => ?_)
            subst e1; subst e2
            exact ih d M pc' L st' h' nx' _ _ Q hE p e R s m args below meth c H' locs' cells slots Qm ls F hl hR' hS' hbc hbs hrt
          | none =>
            rw [hB1, Option.none_or] at hB
            exact s_B2 F hl.1 hR hS hbc hbs hd hB (fun H' locs' cells' slots' e1 e2 hR' hS' => ih d M pc' L st' h' nx' bc' bs' Q hE p e R s m args below meth c H' locs' cells' slots' Qm ls F hl hR' hS' e1 e2 hrt)
        | none =>
          simp only [hB] at hE
          cases hz : z_R M ins len st with
          | some r =>
            simp only [hz] at hE
            exact hrt r h nx H locs cells slots pc ls ins len st hd hz hE hR hS (by omega) (by omega)
          | none =>
            simp only [hz] at hE
            cases hD : z_D M ins len st h with
            | none => simp only [hD] at hE
            | some t =>
              obtain ⟨M', vs, st'⟩ := t
              simp only [hD] at hE
              cases d with
              | zero => exact hE.elim
              | succ d =>
                obtain ⟨⟨hc1, hc2⟩, hE⟩ := hE
                exact s_call ih F hl hR hS hbc hbs hd hD hc1 hc2 hE (fun r h' nx' H1 locs1 hQ hR1 hS1 => ih (d + 1) M (pc + 3) L (z_pu r st') h' nx' _ _ Q hQ p e R s m args below meth c H1 locs1 _ _ Qm ls F hl hR1 hS1 (by omega) (by omega) hrt)
end Main
