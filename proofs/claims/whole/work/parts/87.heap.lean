/-! THE HEAPS: what the small machine does to its cells, the machine does to its own. -/
theorem s_ad_ge (g : s_G) {a : Nat} (h : 3 ≤ a) : s_ad g a = g.2.1 0 + (a - 3) := by
  obtain ⟨k, rfl⟩ : ∃ k, a = k + 3 := ⟨a - 3, by omega⟩
  simp [s_ad]
theorem s_cl_at {ci : Nat} (h : ci < 10) : z_cl[ci]? = some (s_cq ci) := by
  have h' : ci < z_cl.length := h
  simp [s_cq, List.getD_eq_getElem?_getD, h']
theorem s_no_class {c : z_C} {ci : Nat} {fs : Nat → Value} (h : c = .inr (.inl (ci, fs))) (hci : ci < 10) : c ≠ z_no := by
  intro q
  rw [h] at q
  simp only [z_no, Sum.inr.injEq, Sum.inl.injEq, Prod.mk.injEq] at q
  omega
section HRs
variable {g : s_G} {h : z_H} {nx a ci : Nat} {H H' : Heap}
theorem s_HR.lo (hR : s_HR g h nx H) (h0 : a ≠ 0) (h1 : a ≠ 1) (hz : h a ≠ z_no) : 3 ≤ a ∧ a < nx := by
  obtain ⟨-, -, -, -, -, hn⟩ := hR
  refine ⟨?_, ?_⟩
  · rcases Nat.lt_or_ge a 3 with q | q
    · have e : a = 2 := by omega
      exact absurd (hn a (Or.inl e)) hz
    · exact q
  · rcases Nat.lt_or_ge a nx with q | q
    · exact q
    · exact absurd (hn a (Or.inr q)) hz
theorem s_HR.obj (hR : s_HR g h nx H) {fs : Nat → Value} (hc : h a = .inr (.inl (ci, fs))) (hci : ci < 10) : 3 ≤ a ∧ a < nx ∧ va_at g.1 z_cl (s_ad g a, .inr (ci, (List.range (z_nf ci)).map fun j => s_v g (fs j))) H := by
  have h0 : a ≠ 0 := fun q => by rw [q, hR.2.2.2.1] at hc; cases hc
  have h1 : a ≠ 1 := fun q => by rw [q, hR.2.2.2.2.1] at hc; cases hc
  obtain ⟨q1, q2⟩ := hR.lo h0 h1 (s_no_class hc hci)
  have q3 := (hR.2.2.1 a q1 q2).1
  rw [hc] at q3
  exact ⟨q1, q2, q3⟩
theorem s_HR.row (hR : s_HR g h nx H) {k n : Nat} {f : Nat → Int32} (hc : h a = .inl (k, n, f)) (hk : k ≠ 3) : 3 ≤ a ∧ a < nx ∧ k ≤ 2 ∧ va_at g.1 z_cl (s_ad g a, .inl (s_ar g k, n, .inl f)) H := by
  have h0 : a ≠ 0 := fun q => by rw [q, hR.2.2.2.1] at hc; cases hc; exact hk rfl
  have h1 : a ≠ 1 := fun q => by rw [q, hR.2.2.2.2.1] at hc; cases hc
  obtain ⟨q1, q2⟩ := hR.lo h0 h1 (fun q => by rw [hc] at q; cases q)
  obtain ⟨q3, q4⟩ := hR.2.2.1 a q1 q2
  rw [hc] at q3 q4
  exact ⟨q1, q2, q4, q3⟩
theorem s_HR.qrow (hR : s_HR g h nx H) {n : Nat} {f : Nat → Option Nat} (hc : h a = .inr (.inr (n, f))) (ha : a ≠ 1) : 3 ≤ a ∧ a < nx ∧ va_at g.1 z_cl (s_ad g a, .inl (g.2.1 8, n, .inr (.inr (.inr (.inr (fun j => (f j).map (s_ad g))))))) H := by
  have h0 : a ≠ 0 := fun q => by rw [q, hR.2.2.2.1] at hc; cases hc
  obtain ⟨q1, q2⟩ := hR.lo h0 ha (fun q => by rw [hc] at q; cases q)
  obtain ⟨q3, q4⟩ := hR.2.2.1 a q1 q2
  rw [hc] at q3
  exact ⟨q1, q2, q3⟩
theorem s_HR.set (hR : s_HR g h nx H) (h3 : 3 ≤ a) (hn : a < nx) {c : z_C} (he : va_at g.1 z_cl (s_ad g a, s_cn g c) H') (hk : s_kd c) (hz : H'.size = H.size) (ho : ∀ q, q ≠ s_ad g a → H'[q]? = H[q]?) : s_HR g (va_up h a c) nx H' := by
  obtain ⟨r1, r2, r3, r4, r5, r6⟩ := hR
  refine ⟨r1, hz.trans r2, fun k k3 kn => ?_, ?_, ?_, fun k hk' => ?_⟩
  · by_cases e : k = a
    · subst e
      simp only [va_up, if_true]
      exact ⟨he, hk⟩
    · simp only [va_up, if_neg e]
      refine ⟨(r3 k k3 kn).1.kept (ho _ ?_), (r3 k k3 kn).2⟩
      show s_ad g k ≠ s_ad g a
      rw [s_ad_ge g k3, s_ad_ge g h3]
      omega
  · simp only [va_up]; rw [if_neg (by omega)]; exact r4
  · simp only [va_up]; rw [if_neg (by omega)]; exact r5
  · simp only [va_up]; rw [if_neg (by omega)]; exact r6 k hk'
theorem s_HR.new (hR : s_HR g h nx H) : s_ad g nx = H.size := by
  rw [s_ad_ge g hR.1, hR.2.1]
theorem s_HR.push (hR : s_HR g h nx H) {c : z_C} (he : va_at g.1 z_cl (H.size, s_cn g c) H') (hk : s_kd c) (hz : H'.size = H.size + 1) (ho : ∀ q, q < H.size → H'[q]? = H[q]?) : s_HR g (va_up h nx c) (nx + 1) H' := by
  have hnew := hR.new
  obtain ⟨r1, r2, r3, r4, r5, r6⟩ := hR
  refine ⟨by omega, by omega, fun k k3 kn => ?_, ?_, ?_, fun k hk' => ?_⟩
  · by_cases e : k = nx
    · subst e
      simp only [va_up, if_true]
      exact ⟨by rw [hnew]; exact he, hk⟩
    · simp only [va_up, if_neg e]
      have hlt : k < nx := by omega
      refine ⟨(r3 k k3 hlt).1.kept (ho _ (r3 k k3 hlt).1.lt), (r3 k k3 hlt).2⟩
  · simp only [va_up]; rw [if_neg (by omega)]; exact r4
  · simp only [va_up]; rw [if_neg (by omega)]; exact r5
  · simp only [va_up]; rw [if_neg (by omega)]; exact r6 k (by omega)
end HRs
theorem s_P1 {D : va_G} {cl : List vw_C} {q : Nat × va_E} {H : Heap} (h : va_at D cl q H) : va_P D cl [q] H := fun k x hx => by
  have hz : k < 1 := (List.getElem?_eq_some_iff.mp hx).1
  rw [show k = 0 by omega] at hx
  cases hx
  exact h
theorem s_Spush {A : Nat → Prop} {H0 H H1 : Heap} {locs : List Loc} (hS : va_S A H0 H locs) (z : H1.size = H.size + 1) (o : ∀ q, q < H.size → H1[q]? = H[q]?) : va_S A H0 H1 locs :=
  ⟨by have := hS.1; omega, fun x h1 h2 => (o x (Nat.lt_of_lt_of_le h1 hS.1)).trans (hS.2.1 x h1 h2), hS.2.2⟩
theorem s_fit {g : s_G} {t : Nat} {v : Value} {ty : FieldType} (hv : z_fit t v = true) (ht : s_tk t ty = true) : narrow ty (s_v g v) = s_v g v ∧ fits ty (s_v g v) = true := by
  unfold z_fit at hv
  split at hv
  · unfold s_tk at ht
    split at ht <;> simp_all
    · exact ⟨rfl, rfl⟩
  · unfold s_tk at ht
    split at ht <;> simp_all
    · rcases hv with rfl | rfl <;> exact ⟨rfl, rfl⟩
  · unfold s_tk at ht
    split at ht <;> simp_all
    · exact ⟨rfl, rfl⟩
    · exact ⟨rfl, rfl⟩
  · unfold s_tk at ht
    split at ht <;> simp_all
    · exact ⟨rfl, rfl⟩
    · exact ⟨rfl, rfl⟩
  · cases hv
theorem s_in {i : Int32} {n : Nat} (h : z_in i n = true) : vp_in i n := by
  simp only [z_in, Bool.not_eq_true', Bool.or_eq_false_iff, decide_eq_false_iff_not] at h
  exact fun q => q.elim h.1 h.2
theorem s_upd (f : Nat → Int32) (k : Nat) (x : Int32) : upd f k x = va_up f k x := rfl
theorem s_mapset {α : Type} (N : Nat) (f : Nat → α) (j : Nat) (v : α) : (List.range N).map (va_up f j v) = ((List.range N).map f).set j v := by
  apply List.ext_getElem
  · simp
  · intro k h1 h2
    simp only [List.getElem_map, List.getElem_range, List.getElem_set, va_up]
    by_cases e : k = j
    · subst e; simp
    · rw [if_neg e, if_neg (Ne.symm e)]
theorem s_vup (g : s_G) (fs : Nat → Value) (j : Nat) (v : Value) : (fun k => s_v g (va_up fs j v k)) = va_up (fun k => s_v g (fs k)) j (s_v g v) := by
  funext k
  simp only [va_up]
  by_cases e : k = j
  · rw [if_pos e, if_pos e]
  · rw [if_neg e, if_neg e]
section Heaps
variable {g : s_G} {p : Program} {l : Launch} {e : Env} {R : Room} {s : State} {m : MethodId} {args : Array Value} {below : List Frame} {meth : Method} {c : Code} {H : Heap} {locs : List Loc} {cells slots : Nat} {Qm : State → Prop} {d M pc pc' : Nat} {ls : Array Slot} {st st' : List Value} {ins : Instr} {len : Nat} {h h' : z_H} {nx nx' bc bc' bs bs' : Nat}
theorem s_putobj (F : s_F g p R s m args meth c d M) (hR : s_HR g h nx H) (hS : va_S (s_A g) s.heap H locs) {cp a ci j t : Nat} {fin : Bool} {v : Value} {fs : Nat → Value} {r : List Value} (hf : z_f M cp = some (ci, j, t, fin)) (hv : z_fit t v = true) (hfin : fin = true → z_isI M = true ∧ ci = z_ow M) (hc : h a = .inr (.inl (ci, fs))) (hdg : decode (z_by M) pc = .ok (.putfield cp, 3))
    (k : ∀ (H' : Heap) (locs' : List Loc), s_HR g (va_up h a (.inr (.inl (ci, va_up fs j v)))) nx H' → va_S (s_A g) s.heap H' locs' → W p l e R s m args below meth c H' locs' cells slots Qm (F0 m (pc + 3) ls (r.map (s_v g)))) : W p l e R s m args below meth c H locs cells slots Qm (F0 m pc ls ((v :: .ref a :: r).map (s_v g))) := by
  obtain ⟨hx, hb, hml, hown, hts, hlk, hr, hnm, hX, hfr, hlo, hcc, hss, hlt⟩ := F
  obtain ⟨hci, hj, hfi, hdecl, htk, ref, hlink, hsame⟩ := s_fo _ hlt _ (s_lookup hf)
  dsimp only at hci hj hfi hdecl htk hlink hsame
  obtain ⟨hin, hty, hnmF, hinst, hini, hcast, hcn⟩ := s_ko ci hci
  obtain ⟨h3, hn, hat⟩ := hR.obj hc hci
  obtain ⟨r0, hr0, cell, q1, q2, q3, q4⟩ := hat
  have hcl := s_cl_at hci
  have hr0' : r0 = s_cq ci := Option.some.inj (hr0.symm.trans hcl)
  subst hr0'
  obtain ⟨hKs, hfc, kC, hkC, hkind⟩ := hX.1.1 ci _ hcl
  obtain ⟨cf, kf, fi, f, hi, hsl⟩ := hKs j hj
  have hap := va_apart (D := g.1) (cl := z_cl) (own := "") (ci := ci) (C := (s_cq ci).1) (T := (s_cq ci).2.1) (N := (s_cq ci).2.2) hts hin (z_ty ci) hty hnmF hX.1 hcl
  have hst := (u_facts hfc hkC (u_lays hts hin hj) hi).1
  have hsm : s.fieldFound? ref ((s_cq ci).2.1 j).2.1 ((s_cq ci).2.1 j).2.2.1 = some (cf, kf, fi, f) := by
    rcases hsame with rfl | q
    · exact hi
    · exact u_same (hts _ q) _ hi
  obtain ⟨hn1, hn2⟩ := s_fit (g := g) hv htk
  have hlay := hts _ (hin _ (u_in_lay hj))
  unfold u_lay at hlay
  have hslot : f.slot < cell.slots.size := by rw [hsl]; exact k2_hasslot (q4 j hj)
  have hend : ∀ (H' : Heap), H'[s_ad g a]? = some (cell.setSlot f.slot (s_v g v)) → H'.size = H.size → (∀ q, q ≠ s_ad g a → H'[q]? = H[q]?) → W p l e R s m args below meth c H' (locs ++ [⟨s_ad g a, f.slot⟩]) cells slots Qm (F0 m (pc + 3) ls (r.map (s_v g))) := by
    intro H' e1 e2 e3
    rw [hsl] at e1
    have hA : s_A g (s_ad g a) := by show g.2.1 0 ≤ s_ad g a; rw [s_ad_ge g h3]; omega
    refine k H' _ (hR.set h3 hn ?_ trivial e2 e3) (hS.put e2 e3 hA)
    refine ⟨_, hcl, t_OB.to (V := updV (vp_V ((List.range (z_nf ci)).map fun j => s_v g (fs j))) j (s_v g v)) ⟨_, e1, q2, q3, t_set q4 hap hj (s_v g v)⟩ (fun i hi' => ?_)⟩
    show updV (vp_V ((List.range (z_nf ci)).map fun j => s_v g (fs j))) j (s_v g v) i = vp_V ((List.range (z_nf ci)).map fun k => s_v g (va_up fs j v k)) i
    rw [s_vup, s_mapset]
    exact vp_updV_set (by simp; exact hj) _ i
  cases fin with
  | false =>
    rw [hfi, if_neg (by decide)] at hlay
    have h6 := u_store hfc hkC hkind hlay hi (hty j hj) hn1 hn2
    exact W.putK hx hb (f := f) ⟨hown, hts _ hlink, ⟨_, _, _, hsm⟩, hst⟩ (by rw [q2]; exact h6) q1 q3 hslot rfl rfl hdg hend
  | true =>
    obtain ⟨hI, hcw⟩ := hfin rfl
    rw [hfi, if_pos rfl] at hlay
    have hcf : m.cls = cf := by
      obtain ⟨_, _, c', _, _, _, -, -, hf', -, -, -, hown2, -⟩ := Cond.laysFinal_spec hlay
      have e1 : c' = cf := by have := hi.symm.trans hf'; simp at this; exact this.1.symm
      rw [hdecl rfl hcw] at hown2
      rw [← e1]; exact Option.some.inj (hown.symm.trans hown2)
    have h6 := u_fits hfc hkC hkind (Or.inr hlay) hi (hty j hj) hn1 hn2
    exact W.putFinK hx hb hown (hts _ hlink) hsm hst hcf (hnm hI) (by rw [q2]; exact h6) q1 q3 hslot rfl rfl hdg hend
theorem s_B1 (F : s_F g p R s m args meth c d M) (hR : s_HR g h nx H) (hS : va_S (s_A g) s.heap H locs) (hdg : decode (z_by M) pc = .ok (ins, len)) (hs : z_B1 M ins len pc st h nx bc bs = some (pc', st', h', nx', bc', bs'))
    (k : ∀ (H' : Heap) (locs' : List Loc), bc' = bc → bs' = bs → s_HR g h' nx' H' → va_S (s_A g) s.heap H' locs' → W p l e R s m args below meth c H' locs' cells slots Qm (F0 m pc' ls (st'.map (s_v g)))) : W p l e R s m args below meth c H locs cells slots Qm (F0 m pc ls (st.map (s_v g))) := by
  have F0' := F
  obtain ⟨hx, hb, hml, hown, hts, hlk, hr, hnm, hX, hfr, hlo, hcc, hss, hlt⟩ := F
  have hK := hX.1
  unfold z_B1 at hs
  split at hs
  · -- getfield
    split at hs
    · rename_i cp hlen; subst hlen
      split at hs
      · rename_i a r ci j x y hf
        split at hs
        · rename_i ci' fs hc
          split at hs
          · rename_i he; subst he
            cases hs
            obtain ⟨hci, hj, hfi, hdecl, htk, ref, hlink, hsame⟩ := s_fo _ hlt _ (s_lookup hf)
            dsimp only at hci hj hfi hdecl htk hlink hsame
            obtain ⟨hin, hty, hnmF, hinst, hini, hcast, hcn⟩ := s_ko ci' hci
            obtain ⟨h3, hn, hat⟩ := hR.obj hc hci
            refine va_get (D := g.1) (cl := z_cl) (C := (s_cq ci').1) (T := (s_cq ci').2.1) (N := (s_cq ci').2.2) (v := s_v g (fs j)) hx hb hts hin hown hK (s_P1 hat) 0 rfl (s_cl_at hci) j hj (hts _ hlink) ?_ ?_ hdg (k H locs rfl rfl hR hS)
            · intro x9 h9
              rcases hsame with rfl | q
              · exact h9
              · exact u_same (hts _ q) _ h9
            · have hj' : j < z_nf ci' := hj
              simp [hj']
          · cases hs
        · cases hs
      · cases hs
    · cases hs
  · -- putfield
    split at hs
    · rename_i cp hlen; subst hlen
      split at hs
      · rename_i v a r ci j t fin hf
        split at hs
        · rename_i hq
          split at hs
          · rename_i ci' fs hc
            split at hs
            · rename_i he; subst he
              cases hs
              exact s_putobj F0' hR hS hf hq.1 hq.2 hc hdg (fun H' locs' a1 a2 => k H' locs' rfl rfl a1 a2)
            · cases hs
          · cases hs
        · cases hs
      · cases hs
    · cases hs
  · -- iaload
    split at hs
    · rename_i hlen; subst hlen
      split at hs
      · rename_i i a r
        split at hs
        · rename_i kk n f hc
          split at hs
          · rename_i hq
            cases hs
            obtain ⟨hq1, hq2⟩ := hq
            rcases hq1 with rfl | rfl
            · obtain ⟨h3, hn, -, hat⟩ := hR.row hc (by decide)
              exact va_iald (D := g.1) (cl := z_cl) hx hb hK (s_P1 hat) 0 0 rfl rfl (s_in hq2) hdg (k H locs rfl rfl hR hS)
            · have ha : a = 0 := by
                by_cases h0 : a = 0
                · exact h0
                · exfalso
                  have h1 : a ≠ 1 := fun q => by rw [q, hR.2.2.2.2.1] at hc; cases hc
                  obtain ⟨q1, q2⟩ := hR.lo h0 h1 (fun q => by rw [hc] at q; cases q)
                  have q4 := (hR.2.2.1 a q1 q2).2
                  rw [hc] at q4
                  exact absurd q4 (by show ¬ 3 ≤ 2; decide)
              subst ha
              have hc' := hR.2.2.2.1.symm.trans hc
              simp only [Sum.inl.injEq, Prod.mk.injEq, true_and] at hc'
              obtain ⟨hn, hf⟩ := hc'
              subst hn; subst hf
              obtain ⟨-, -, -, -, hXs, hbl, hsz, -⟩ := hX
              exact va_sld (A := s_A g) (H0 := s.heap) hx hb hXs (Nat.lt_of_lt_of_le hbl hsz) (Nat.not_le.mpr hbl) hS (s_in hq2) hdg (k H locs rfl rfl hR hS)
          · cases hs
        · cases hs
      · cases hs
    · cases hs
  · -- baload
    split at hs
    · rename_i hlen; subst hlen
      split at hs
      · rename_i i a r
        split at hs
        · rename_i kk n f hc
          split at hs
          · rename_i hq
            cases hs
            obtain ⟨hq1, hq2⟩ := hq
            rcases hq1 with rfl | rfl
            · obtain ⟨h3, hn, -, hat⟩ := hR.row hc (by decide)
              exact va_bald (D := g.1) (cl := z_cl) hx hb hK (s_P1 hat) 0 1 rfl rfl (s_in hq2) hdg (k H locs rfl rfl hR hS)
            · obtain ⟨h3, hn, -, hat⟩ := hR.row hc (by decide)
              exact va_zald (D := g.1) (cl := z_cl) hx hb hK (s_P1 hat) 0 2 rfl rfl (s_in hq2) hdg (k H locs rfl rfl hR hS)
          · cases hs
        · cases hs
      · cases hs
    · cases hs
  · -- aaload
    split at hs
    · rename_i hlen; subst hlen
      split at hs
      · rename_i i a r
        split at hs
        · rename_i n f hc
          split at hs
          · rename_i hq
            cases hs
            have ha : a ≠ 1 := by
              intro q
              rw [q, hR.2.2.2.2.1] at hc
              cases hc
              exact (s_in hq) (Or.inr (Nat.zero_le _))
            obtain ⟨h3, hn, hat⟩ := hR.qrow hc ha
            refine va_aldq (D := g.1) (cl := z_cl) hx hb hK (s_P1 hat) 0 3 rfl rfl (s_in hq) hdg ?_
            have hkk := k H locs rfl rfl hR hS
            cases hv : f i.toNatClampNeg with
            | none => rw [hv] at hkk; exact hkk
            | some y => rw [hv] at hkk; exact hkk
          · cases hs
        · cases hs
      · cases hs
    · cases hs
  · -- iastore
    split at hs
    · rename_i hlen; subst hlen
      split at hs
      · rename_i x i a r
        split at hs
        · rename_i kk n f hc
          split at hs
          · rename_i hq
            obtain ⟨rfl, hq2⟩ := hq
            cases hs
            obtain ⟨h3, hn, -, hat⟩ := hR.row hc (by decide)
            have hA : s_A g (s_ad g a) := by show g.2.1 0 ≤ s_ad g a; rw [s_ad_ge g h3]; omega
            refine W.iast hx hb hat ((hK.2 0 _ rfl).1 n (fun j => .int (f j))) (fun q => by cases q) (by show ¬ (i < 0 ∨ (arrV _ _ _).slots.size ≤ _); rw [arrV_size]; exact s_in hq2) rfl rfl hdg fun H1 e1 z oq => ?_
            refine k H1 _ rfl rfl (hR.set h3 hn ?_ (Nat.zero_le 2) z oq) (hS.put z oq hA)
            show H1[s_ad g a]? = some (vp_cell _ _)
            rw [e1]
            rw [vp_cell_i, vp_cell_i, arrV_store]
            congr 2
            funext q
            by_cases hq : q = i.toNatClampNeg
            · subst hq; simp [updV, va_up]
            · simp [updV, va_up, hq]
          · cases hs
        · cases hs
      · cases hs
    · cases hs
  · -- bastore
    split at hs
    · rename_i hlen; subst hlen
      split at hs
      · rename_i x i a r
        split at hs
        · rename_i kk n f hc
          split at hs
          · rename_i hq
            obtain ⟨rfl, hq2⟩ := hq
            cases hs
            obtain ⟨h3, hn, -, hat⟩ := hR.row hc (by decide)
            have hA : s_A g (s_ad g a) := by show g.2.1 0 ≤ s_ad g a; rw [s_ad_ge g h3]; omega
            refine W.bast hx hb hat ((hK.2 1 _ rfl).1 n (fun j => .int (f j))) (fun q => by cases q) (by show ¬ (i < 0 ∨ (arrV _ _ _).slots.size ≤ _); rw [arrV_size]; exact s_in hq2) rfl rfl hdg fun H1 e1 z oq => ?_
            refine k H1 _ rfl rfl (hR.set h3 hn ?_ (by show 1 ≤ 2; decide) z oq) (hS.put z oq hA)
            show H1[s_ad g a]? = some (vp_cell _ _)
            rw [e1]
            rw [vp_cell_i, vp_cell_i, arrV_store]
            congr 2
            funext q
            by_cases hq : q = i.toNatClampNeg
            · subst hq; simp [updV, va_up, vp_nar, narrow]
            · simp [updV, va_up, hq]
          · split at hs
            · rename_i hq
              obtain ⟨rfl, hq2⟩ := hq
              cases hs
              obtain ⟨h3, hn, -, hat⟩ := hR.row hc (by decide)
              have hA : s_A g (s_ad g a) := by show g.2.1 0 ≤ s_ad g a; rw [s_ad_ge g h3]; omega
              refine W.zast hx hb hat ((hK.2 2 _ rfl).1 n (fun j => .int (f j))) (fun q => by cases q) (by show ¬ (i < 0 ∨ (arrV _ _ _).slots.size ≤ _); rw [arrV_size]; exact s_in hq2) rfl rfl hdg fun H1 e1 z oq => ?_
              refine k H1 _ rfl rfl (hR.set h3 hn ?_ (by show 2 ≤ 2; decide) z oq) (hS.put z oq hA)
              show H1[s_ad g a]? = some (vp_cell _ _)
              rw [e1]
              rw [vp_cell_i, vp_cell_i, arrV_store]
              congr 2
              funext q
              by_cases hq : q = i.toNatClampNeg
              · subst hq; simp [updV, va_up, vp_nar, narrow]
              · simp [updV, va_up, hq]
            · cases hs
        · cases hs
      · cases hs
    · cases hs
  · -- aastore
    split at hs
    · rename_i hlen; subst hlen
      split at hs
      · rename_i v i a r
        split at hs
        · rename_i n f ci fs hc hv
          split at hs
          · rename_i hq
            obtain ⟨hci, hq2⟩ := hq
            cases hs
            have ha : a ≠ 1 := by
              intro q
              rw [q, hR.2.2.2.2.1] at hc
              cases hc
              exact (s_in hq2) (Or.inr (Nat.zero_le _))
            obtain ⟨h3, hn, hat⟩ := hR.qrow hc ha
            obtain ⟨v3, vn, vat⟩ := hR.obj hv (by omega : ci < 10)
            have hA : s_A g (s_ad g a) := by show g.2.1 0 ≤ s_ad g a; rw [s_ad_ge g h3]; omega
            have hany : va_Any "java/lang/Object" s H (s_ad g v) := by
              refine va_rAny (D := g.1) (cl := z_cl) hK (s_P1 vat) (q0 := 0) rfl (s_cl_at (by omega : ci < 10)) ?_
              intro comp c0 hcomp hc0
              obtain ⟨c1, t1, f1, f2, f3⟩ := Cond.castable_spec (va_Nw.use (A := args) rfl (hX.2.2.2.2.2.2.2.1 ci (by omega)))
              cases hc0.symm.trans f1
              cases hcomp.symm.trans f2
              exact f3
            obtain ⟨cellV, g1, g3, ⟨kC, hkC⟩, hasg⟩ := hany
            obtain ⟨kA, comp, k1, k2, k3, -⟩ := (hK.2 3 _ rfl).2
            obtain ⟨kE, hkE, -⟩ := Vm.findClass_spec k3
            have hin := s_in hq2
            have hlt2 : i.toNatClampNeg < n := Nat.not_le.mp fun q => hin (Or.inr q)
            have h0 : ¬ i < 0 := fun q => hin (Or.inl q)
            refine W.aast hx hb hat (fun q h => by cases h) (fun h => by cases h) k1 k2 rfl hkE ⟨h0, by show _ < (arrV _ _ _).slots.size; rw [arrV_size]; exact hlt2⟩ g1 (fun q h => by rw [h] at g3; cases g3) hkC (hasg _ k3) rfl rfl hdg fun H1 e1 z oq => ?_
            refine k H1 _ rfl rfl (hR.set h3 hn ?_ trivial z oq) (hS.put z oq hA)
            show H1[s_ad g a]? = some (vp_cell _ _)
            rw [e1]
            rw [vp_cell_q, vp_cell_q, arrV_store]
            congr 2
            funext q
            by_cases hq : q = i.toNatClampNeg
            · subst hq; simp [updV, va_up, va_rf]
            · simp [updV, va_up, hq]
          · cases hs
        · cases hs
      · cases hs
    · cases hs
  · -- arraylength
    split at hs
    · rename_i hlen; subst hlen
      split at hs
      · rename_i a r
        split at hs
        · rename_i kk n f hc
          cases hs
          by_cases h3 : kk = 3
          · subst h3
            have ha : a = 0 := by
              by_cases h0 : a = 0
              · exact h0
              · exfalso
                have h1 : a ≠ 1 := fun q => by rw [q, hR.2.2.2.2.1] at hc; cases hc
                obtain ⟨q1, q2⟩ := hR.lo h0 h1 (fun q => by rw [hc] at q; cases q)
                have q4 := (hR.2.2.1 a q1 q2).2
                rw [hc] at q4
                exact absurd q4 (by show ¬ 3 ≤ 2; decide)
            subst ha
            have hc' := hR.2.2.2.1.symm.trans hc
            simp only [Sum.inl.injEq, Prod.mk.injEq, true_and] at hc'
            obtain ⟨hn, hf⟩ := hc'
            subst hn; subst hf
            obtain ⟨-, -, -, -, hXs, hbl, hsz, -⟩ := hX
            exact va_slen (A := s_A g) (H0 := s.heap) hx hb hXs (Nat.lt_of_lt_of_le hbl hsz) (Nat.not_le.mpr hbl) hS hdg (k H locs rfl rfl hR hS)
          · obtain ⟨h3', hn, hk2, hat⟩ := hR.row hc h3
            have hcase : kk = 0 ∨ kk = 1 ∨ kk = 2 := by omega
            rcases hcase with rfl | rfl | rfl
            · exact va_alen (D := g.1) (cl := z_cl) hx hb hK (s_P1 hat) 0 0 rfl rfl rfl hdg (k H locs rfl rfl hR hS)
            · exact va_alen (D := g.1) (cl := z_cl) hx hb hK (s_P1 hat) 0 1 rfl rfl rfl hdg (k H locs rfl rfl hR hS)
            · exact va_alen (D := g.1) (cl := z_cl) hx hb hK (s_P1 hat) 0 2 rfl rfl rfl hdg (k H locs rfl rfl hR hS)
        · rename_i n f hc
          cases hs
          by_cases ha : a = 1
          · subst ha
            rw [hR.2.2.2.2.1] at hc
            cases hc
            obtain ⟨cell, t1, t2, t3, t4, t5, t6, t7⟩ := hX.2.2.1
            have hlt0 : g.2.1 2 < s.heap.size := (Array.getElem?_eq_some_iff.mp t1).1
            exact W.alen (n := Int32.ofNat 0) hx hb (by show H[g.2.1 2]? = some cell; rw [hS.2.1 _ hlt0 t7]; exact t1) t2 t5 rfl rfl hdg (k H locs rfl rfl hR hS)
          · obtain ⟨h3', hn, hat⟩ := hR.qrow hc ha
            exact va_alen (D := g.1) (cl := z_cl) hx hb hK (s_P1 hat) 0 3 rfl rfl rfl hdg (k H locs rfl rfl hR hS)
        · cases hs
      · cases hs
    · cases hs
  · cases hs
end Heaps
