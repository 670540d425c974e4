/-! MAKING, CASTS, THE JDK's NATIVES, ENDS AND CALLS; then the one theorem: what the small machine does, the machine does. -/
theorem s_cat1 (g : s_G) (v : Value) : (s_v g v).category ≤ 2 := by cases v <;> simp [s_v, Value.category]
theorem s_cats (g : s_G) : ∀ (r : List Value) (n : Nat), r.length ≤ n → ((r.map (s_v g)).map fun v => v.category).sum ≤ 2 * n
  | [], _, _ => by simp
  | v :: r, 0, h => by simp at h
  | v :: r, n + 1, h => by
    have := s_cats g r n (by simpa using h)
    have := s_cat1 g v
    simp only [List.map_cons, List.sum_cons]
    omega
theorem s_cat4 (g : s_G) {r : List Value} (h : r.length ≤ 4) : ((r.map (s_v g)).map fun v => v.category).sum ≤ 8 := s_cats g r 4 h
theorem s_dv (g : s_G) (ty : FieldType) : s_v g (defaultValue ty) = defaultValue ty := by cases ty <;> rfl
theorem s_vpV {N j : Nat} {f : Nat → Value} (h : j < N) : vp_V ((List.range N).map f) j = f j := by
  simp [vp_V, List.getD_eq_getElem?_getD, h]
theorem s_nn (z : Int32) (hz : ¬ z < 0) : z.toInt = (z.toNatClampNeg : Int) := by
  have hz0 : (0 : Int) ≤ z.toInt := by
    have := Int32.not_lt.mp hz
    simpa using Int32.le_iff_toInt_le.mp this
  show z.toInt = ((z.toInt.toNat : Nat) : Int)
  omega
section Make
variable {g : s_G} {p : Program} {l : Launch} {e : Env} {R : Room} {s : State} {m : MethodId} {args : Array Value} {below : List Frame} {meth : Method} {c : Code} {H : Heap} {locs : List Loc} {cells slots : Nat} {Qm : State → Prop} {d M pc pc' : Nat} {ls : Array Slot} {st st' : List Value} {ins : Instr} {len : Nat} {h h' : z_H} {nx nx' bc bc' bs bs' : Nat}
/-- System.arraycopy, with what it leaves of the heap -/
theorem s_arcopy (F : s_F g p R s m args meth c d M) (hd : 1 ≤ d) (hz : ls.size = z_mx M) {cp src dst : Nat} {cs cd : Cell} {sp dp n : Int32} {rest : List Value} (hac : z_ac M cp = true) (hc0 : H[src]? = some cs) (hc1 : H[dst]? = some cd) (hv0 : cs.vm = .none) (hv1 : cd.vm = .none) {k0 k1 : Class} {cm0 cm1 : ClassId} {t0 t1 : FieldType} (hk0 : s.vm.classes[cs.cls]? = some k0) (hk1 : s.vm.classes[cd.cls]? = some k1) (hkk0 : k0.kind = .array cm0 t0) (hkk1 : k1.kind = .array cm1 t1)
    (hty : ((refKind t0 != refKind t1) || (!refKind t0 && t0 != t1)) = false) (h1 : ¬ sp < 0) (h2 : ¬ dp < 0) (h3 : ¬ n < 0) (h4 : sp.toNatClampNeg + n.toNatClampNeg ≤ cs.slots.size) (h5 : dp.toNatClampNeg + n.toNatClampNeg ≤ cd.slots.size)
    (hvals : ∀ (T : State), T.heap = H → ∀ vm', s.vm.Alike vm' → ∀ i, i < n.toNatClampNeg → fits t1 (cs.slots.getD (sp.toNatClampNeg + i) .null) = true ∧ (T.setVm vm').takes cm1 (cs.slots.getD (sp.toNatClampNeg + i) .null))
    (hr4 : (rest.map fun v => v.category).sum ≤ 8) (hdg : decode (z_by M) pc = .ok (.invokestatic cp, 3))
    (kk : ∀ (H' : Heap) (L : List Loc), H'[dst]? = some (copied cs cd sp dp n) → H'.size = H.size → (∀ q, q ≠ dst → H'[q]? = H[q]?) → (∀ q ∈ L, q.base = dst) → W p l e R s m args below meth c H' (locs ++ L) cells slots Qm (F0 m (pc + 3) ls rest)) : W p l e R s m args below meth c H locs cells slots Qm (F0 m pc ls (.int n :: .int dp :: .ref dst :: .int sp :: .ref src :: rest)) := by
  obtain ⟨hx, hb, hml, hown, hts, hlk, hr, hnm, hX, hfr, hlo, hcc, hss, hlt⟩ := F
  have hac' : (z_ow M, cp) ∈ ([(11, 150), (7, 96), (5, 19)] : List (Nat × Nat)) := by simpa [z_ac] using hac
  intro T hT X
  obtain ⟨vm', X', step⟩ := X.arraycopy hx hown (hts _ (s_aco _ hac')) (hts _ s_ac_n) (hts _ s_ac_s) (hts _ s_ac_i) (src := src) (dst := dst) (cs := cs) (cd := cd) (srcPos := sp) (destPos := dp) (n := n) (by rw [hT]; exact hc0) (by rw [hT]; exact hc1)
    (fun _ q => by rw [hv0] at q; cases q) (fun _ q => by rw [hv1] at q; cases q) (fun q => by rw [hv0] at q; cases q) (fun q => by rw [hv1] at q; cases q) hk0 hk1 hkk0 hkk1 hty h1 h2 h3
    (by rw [s_nn sp h1, s_nn n h3]; omega) (by rw [s_nn dp h2, s_nn n h3]; omega) (hvals T hT) (g := F0 m pc ls (.int n :: .int dp :: .ref dst :: .int sp :: .ref src :: rest)) rfl (by rw [hml]; exact hz) (rest := rest) rfl (by rw [hb]; exact hdg) (Nat.le_trans hd hfr)
    (by show 2 * 0 + _ + _ ≤ _; have hw : nativeFrameWords "java/lang/System" "arraycopy" 5 ≤ 20 := (by decide); omega)
  have hl : dst < H.size := (Array.getElem?_eq_some_iff.mp hc1).1
  obtain ⟨t, a1, b1⟩ := kk (((T.setVm vm').setCell dst (copied cs cd sp dp n)).heap) _ (heapAt_setCell_self _ (by show dst < T.heap.size; rw [hT]; exact hl)) (by rw [size_setCell]; show T.heap.size = _; rw [hT]) (fun q hq => by rw [heapAt_setCell_ne _ (Ne.symm hq)]; show T.heap[q]? = _; rw [hT]) (fun q hq => by
      obtain ⟨z, -, hz⟩ := List.mem_map.mp hq
      rw [← hz]) _ rfl X'
  exact ⟨t, step t a1, b1⟩
theorem s_own2 {x : Nat × Nat} {L : List (Nat × Nat)} {f : Nat × Nat → Cond} (h : L.contains x = true) (hf : ∀ q ∈ L, f q ∈ s_tb) : f x ∈ s_tb := hf x (by simpa using h)
theorem s_B2 (F : s_F g p R s m args meth c d M) (hz : ls.size = z_mx M) (hR : s_HR g h nx H) (hS : va_S (s_A g) s.heap H locs) (hbc : cells + bc = R.cells) (hbs : slots + bs = R.slots) (hdg : decode (z_by M) pc = .ok (ins, len)) (hs : z_B2 d M ins len pc st h nx bc bs = some (pc', st', h', nx', bc', bs'))
    (k : ∀ (H' : Heap) (locs' : List Loc) (cells' slots' : Nat), cells' + bc' = R.cells → slots' + bs' = R.slots → s_HR g h' nx' H' → va_S (s_A g) s.heap H' locs' → W p l e R s m args below meth c H' locs' cells' slots' Qm (F0 m pc' ls (st'.map (s_v g)))) : W p l e R s m args below meth c H locs cells slots Qm (F0 m pc ls (st.map (s_v g))) := by
  have F0' := F
  obtain ⟨hx, hb, hml, hown, hts, hlk, hr, hnm, hX, hfr, hlo, hcc, hss, hlt⟩ := F
  have hK := hX.1
  have hzm : c.maxLocals = ls.size := hml.trans hz.symm
  unfold z_B2 at hs
  split at hs
  · -- new
    split at hs
    · rename_i cp hlen; subst hlen
      split at hs
      · rename_i ci hk
        split at hs
        · rename_i hq
          obtain ⟨hci, hq1, hq2⟩ := hq
          cases hs
          obtain ⟨hcl, -⟩ := s_clo _ hlt _ (s_lookup hk)
          dsimp only at hcl
          obtain ⟨hin, hty, hnmF, hinst, hini, hcast, hcn⟩ := s_ko ci hci
          have hKn := hK.1 ci _ (s_cl_at hci)
          refine W.newcK hx hb hown (hts _ hcl) (hts _ hinst) (hts _ hini) rfl hdg (by omega) (by show slots + z_nf ci ≤ R.slots; omega) hKn.2.1 rfl fun H1 kC hkC e1 z1 o1 => ?_
          have hh := k H1 locs (cells + 1) (slots + z_nf ci) (by omega) (by omega) (hR.push ⟨_, s_cl_at hci, (u_born (z_ty ci) hts hin hKn hkC e1 hty).to (fun j hj => ?_)⟩ trivial z1 o1) (s_Spush hS z1 o1)
          · have : s_v g (.ref nx) = .ref H.size := by show Value.ref (s_ad g nx) = _; rw [hR.new]
            simp only [List.map_cons, this] at hh
            exact hh
          · have hj' : j < z_nf ci := hj
            rw [s_vpV hj']
            simp only [z_df, if_pos hj', s_dv]
        · cases hs
      · cases hs
    · cases hs
  · -- newarray
    split at hs
    · rename_i t hlen; subst hlen
      split at hs
      · rename_i n r kk hk
        split at hs
        · rename_i hq
          obtain ⟨hn, hN, hq1, hq2⟩ := hq
          cases hs
          have key : ∀ (ty : FieldType) (t0 : Nat), newarray.typeOf t = ty → (s_tys g)[t0]? = some (s_ar g kk, ty) → Cond.arrayClass ty ∈ s_tb → componentBytes ty ≤ 8 → defaultValue ty = .int 0 → (∀ cA, va_RA s cA ty = (s.vm.findClass ("[" ++ ty.toString) = some cA)) → kk ≤ 2 → W p l e R s m args below meth c H locs cells slots Qm (F0 m pc ls ((.int n :: r).map (s_v g))) := by
            intro ty t0 hty ht hac hby hdv hra hk2
            subst hty
            refine va_newaK hx hb (hts _ hac) rfl hdg rfl hn rfl (by have := Nat.mul_le_mul hN hby; omega) (by omega) (by omega) rfl fun H1 cA e1 z1 o1 hAr hNm => ?_
            have hcA : cA = s_ar g kk := by
              have q := (hK.2 t0 _ ht).2
              dsimp only at q
              rw [hra] at q
              exact Option.some.inj (hNm.symm.trans q)
            subst hcA
            rw [hdv] at e1
            have hh := k H1 locs (cells + 1) (slots + n.toNatClampNeg) (by omega) (by omega) (hR.push (c := .inl (kk, n.toNatClampNeg, fun _ => 0)) e1 hk2 z1 o1) (s_Spush hS z1 o1)
            have : s_v g (.ref nx) = .ref H.size := by show Value.ref (s_ad g nx) = _; rw [hR.new]
            simp only [List.map_cons, this] at hh
            exact hh
          cases t <;> simp [z_ak] at hk
          · subst hk; exact key .boolean 2 rfl rfl s_ar_boolean (by decide) rfl (fun _ => rfl) (by decide)
          · subst hk; exact key .byte 1 rfl rfl s_ar_byte (by decide) rfl (fun _ => rfl) (by decide)
          · subst hk; exact key .int 0 rfl rfl s_ar_int (by decide) rfl (fun _ => rfl) (by decide)
        · cases hs
      · cases hs
    · cases hs
  · -- anewarray
    split at hs
    · rename_i cp hlen; obtain ⟨rfl, hao⟩ := hlen
      split at hs
      · rename_i n r
        split at hs
        · rename_i hq
          obtain ⟨hn, hN, hq1, hq2⟩ := hq
          cases hs
          have hlink : Cond.classLink (s_nm (z_ow M)) cp "java/lang/Object" ∈ s_tb := by
            have : (z_ow M = 11 ∧ cp = 2) ∨ (z_ow M = 9 ∧ cp = 7) := by simpa [z_ao] using hao
            rcases this with ⟨e1, rfl⟩ | ⟨e1, rfl⟩
            · rw [e1]; exact s_ao11
            · rw [e1]; exact s_ao9
          refine W.anew hx hb hown (hts _ hlink) (va_AO.use hX.2.2.2.2.2.2.2.2.2.1) rfl hdg rfl hn (by omega) (by omega) (by omega) fun cA kA comp f1 f2 f3 f4 => ?_
          have hcA : cA = g.2.1 8 := by
            obtain ⟨-, -, -, -, -, q⟩ := (hK.2 3 _ rfl).2
            exact Option.some.inj (f1.symm.trans q)
          subst hcA
          have z1 : (H.push ({ cls := g.2.1 8, slots := Array.replicate n.toNatClampNeg .null, vm := .none } : Cell)).size = H.size + 1 := Array.size_push ..
          have o1 : ∀ q, q < H.size → (H.push ({ cls := g.2.1 8, slots := Array.replicate n.toNatClampNeg .null, vm := .none } : Cell))[q]? = H[q]? := fun q hq => by rw [Array.getElem?_push, if_neg (Nat.ne_of_lt hq)]
          have e1 : (H.push ({ cls := g.2.1 8, slots := Array.replicate n.toNatClampNeg .null, vm := .none } : Cell))[H.size]? = some (arrV (g.2.1 8) n.toNatClampNeg (fun _ => .null)) := by rw [Array.getElem?_push_size, ← arrV_new]
          have hh := k _ locs (cells + 1) (slots + n.toNatClampNeg) (by omega) (by omega) (hR.push (c := .inr (.inr (n.toNatClampNeg, fun _ => none))) e1 trivial z1 o1) (s_Spush hS z1 o1)
          have : s_v g (.ref nx) = .ref H.size := by show Value.ref (s_ad g nx) = _; rw [hR.new]
          simp only [List.map_cons, this] at hh
          exact hh
        · cases hs
      · cases hs
    · cases hs
  · -- checkcast
    split at hs
    · rename_i cp hlen; subst hlen
      split at hs
      · rename_i a r ci hk
        split at hs
        · rename_i ci' fs hc
          split at hs
          · rename_i he; subst he
            cases hs
            obtain ⟨hcl, hci⟩ := s_clo _ hlt _ (s_lookup hk)
            dsimp only at hcl hci
            obtain ⟨h3, hn, hat⟩ := hR.obj hc hci
            exact va_castS hx hb hown (hts _ hcl) (hK.1 ci' _ (s_cl_at hci)).2 (va_recv hK (s_P1 hat) (q0 := 0) (s_cl_at hci) rfl) hdg (k H locs cells slots hbc hbs hR hS)
          · cases hs
        · cases hs
      · cases hs
    · cases hs
  · -- getstatic
    split at hs
    · rename_i cp hlen; obtain ⟨rfl, hgs⟩ := hlen
      cases hs
      have hq : z_ow M = 9 ∧ cp = 39 := by simpa [z_gs] using hgs
      obtain ⟨e1, rfl⟩ := hq
      rw [e1] at hown
      exact va_gets hx hb hX.2.1 hS hown (hts _ s_gs9) (fun _ q => q) hdg (k H locs cells slots hbc hbs hR hS)
    · cases hs
  · -- ldc of a class
    split at hs
    · rename_i cp hlen; obtain ⟨rfl, hlm⟩ := hlen
      cases hs
      have hq : z_ow M = 11 ∧ cp = 110 := by simpa [z_lm] using hlm
      obtain ⟨e1, rfl⟩ := hq
      rw [e1] at hown
      exact va_ldcM hx hb hown (hts _ s_lm11) hX.2.2.2.1 hdg (k H locs cells slots hbc hbs hR hS)
    · cases hs
  · -- Object's constructor
    split at hs
    · rename_i cp hlen; obtain ⟨rfl, hoi, hd⟩ := hlen
      split at hs
      · rename_i a r
        split at hs
        · rename_i hr4
          cases hs
          have := s_cat4 g hr4
          exact W.objInit hx hb hown (hts _ (s_own2 hoi s_oio)) (hts _ s_oi_i) (hts _ s_oi_c) rfl (by rw [hml]; exact hz) rfl hdg (Nat.le_trans hd hfr) (by show 2 * 0 + _ + 12 ≤ _; omega) (k H locs cells slots hbc hbs hR hS)
        · cases hs
      · cases hs
    · cases hs
  · -- getClass
    split at hs
    · rename_i cp hlen; obtain ⟨rfl, hgc, hd⟩ := hlen
      split at hs
      · rename_i a r
        split at hs
        · rename_i q hc
          split at hs
          · rename_i hr4
            obtain ⟨hr4, ha⟩ := hr4
            cases hs
            have hq : z_ow M = 11 ∧ cp = 86 := by simpa [z_gc] using hgc
            obtain ⟨e1, rfl⟩ := hq
            rw [e1] at hown
            obtain ⟨n, f⟩ := q
            obtain ⟨h3, hn, hat⟩ := hR.qrow hc ha
            have := s_cat4 g hr4
            exact va_getC hx hb hzm hown (hts _ s_gc_l) (va_Dc.use hX.2.2.2.2.2.2.2.2.1) (hts _ s_gc_s) (hts _ s_gc_i) (hts _ s_gc_n) hX.2.2.2.1 ⟨_, hat, rfl, va_nmO (hK.2 3 _ rfl).2 rfl⟩ (Nat.le_trans hd hfr) (by omega) hdg (k H locs cells slots hbc hbs hR hS)
          · cases hs
        · cases hs
      · cases hs
    · cases hs
  · -- Math.max, Math.min, arraycopy
    split at hs
    · rename_i cp hlen; obtain ⟨rfl, hmx, hd⟩ := hlen
      split at hs
      · split at hs
        · rename_i y x r hr4
          cases hs
          have := s_cat4 g hr4
          exact va_mmax hx hb hzm hown (hts _ (s_own2 hmx s_maxo)) (hts _ s_max_s) (hts _ s_math_i) (hts _ s_max_c) (Nat.le_trans hd hfr) (by omega) (by omega) (by omega) hdg (k H locs cells slots hbc hbs hR hS)
        · cases hs
      · cases hs
    · split at hs
      · rename_i cp _ hlen; obtain ⟨rfl, hmn, hd⟩ := hlen
        split at hs
        · split at hs
          · rename_i y x r hr4
            cases hs
            have := s_cat4 g hr4
            exact va_mmin hx hb hzm hown (hts _ (s_own2 hmn s_mino)) (hts _ s_min_s) (hts _ s_math_i) (hts _ s_min_c) (Nat.le_trans hd hfr) (by omega) (by omega) (by omega) hdg (k H locs cells slots hbc hbs hR hS)
          · cases hs
        · cases hs
      · split at hs
        · rename_i cp _ _ hlen; obtain ⟨rfl, hac, hd⟩ := hlen
          split at hs
          · split at hs
            · rename_i n dp a sp a0 r hq
              obtain ⟨hr4, hn0, hdp0, hsp0⟩ := hq
              have hsum := s_cat4 g hr4
              split at hs
              · rename_i kx n0 f ky n1 gg hc0 hc1
                split at hs
                · rename_i hq
                  obtain ⟨rfl, hk01, b0, b1⟩ := hq
                  cases hs
                  have hkn : kx ≠ 3 := by rcases hk01 with q | ⟨q, -⟩ <;> omega
                  obtain ⟨p3, pn, pk, pat⟩ := hR.row hc0 hkn
                  obtain ⟨a3, an, ak, aat⟩ := hR.row hc1 hkn
                  have hA : s_A g (s_ad g a) := by show g.2.1 0 ≤ s_ad g a; rw [s_ad_ge g a3]; omega
                  have key : ∀ (ty : FieldType) (t0 : Nat), (s_tys g)[t0]? = some (s_ar g kx, ty) → refKind ty = false → (∀ i, i < n.toNatClampNeg → fits ty (.int (f (sp.toNatClampNeg + i))) = true) → W p l e R s m args below meth c H locs cells slots Qm (F0 m pc ls ((.int n :: .int dp :: .ref a :: .int sp :: .ref a0 :: st').map (s_v g))) := by
                    intro ty t0 ht hprim hfits
                    obtain ⟨-, k0, hk0, cm0, hkk0⟩ := (hK.2 t0 _ ht).1 n0 (fun j => .int (f j))
                    obtain ⟨-, k1, hk1, cm1, hkk1⟩ := (hK.2 t0 _ ht).1 n1 (fun j => .int (gg j))
                    refine s_arcopy F0' hd hz hac pat aat rfl rfl hk0 hk1 hkk0 hkk1 (by simp [hprim]) hsp0 hdp0 hn0 (by show _ ≤ (arrV _ _ _).slots.size; rw [arrV_size]; exact b0) (by show _ ≤ (arrV _ _ _).slots.size; rw [arrV_size]; exact b1) (fun T hT vm' hal i hi => ?_) hsum hdg (fun H' L e1 z oq hL => ?_)
                    · have e : (vp_cell (s_ar g kx) (n0, .inl f)).slots.getD (sp.toNatClampNeg + i) .null = .int (f (sp.toNatClampNeg + i)) := by
                        show (arrV _ n0 (fun j => .int (f j))).slots.getD _ _ = _
                        rw [Array.getD_eq_getD_getElem?, arrV_read _ _ (by omega)]
                        rfl
                      dsimp only
                      rw [e]
                      exact ⟨hfits i hi, trivial⟩
                    · have e2 : copied (vp_cell (s_ar g kx) (n0, .inl f)) (vp_cell (s_ar g kx) (n1, .inl gg)) sp dp n = vp_cell (s_ar g kx) (n1, .inl (va_cpy f gg sp.toNatClampNeg dp.toNatClampNeg n.toNatClampNeg)) := va_copied (fun z => .int z) _ _ f gg b0
                      dsimp only at e1
                      rw [e2] at e1
                      refine k H' _ cells slots hbc hbs (hR.set a3 an e1 ak z oq) ⟨by have := hS.1; omega, fun q g1 g2 => ?_, fun q hq => ?_⟩
                      · rw [oq q (fun e => g2 (by rw [e]; exact hA))]
                        exact hS.2.1 q g1 g2
                      · rcases List.mem_append.mp hq with h | h
                        · exact hS.2.2 q h
                        · rw [hL q h]; exact hA
                  rcases hk01 with rfl | ⟨rfl, hall⟩
                  · exact key .int 0 rfl rfl (fun i hi => rfl)
                  · exact key .byte 1 rfl rfl (fun i hi => List.all_eq_true.mp hall i (List.mem_range.mpr hi))
                · cases hs
              · rename_i n0 f n1 gg hc0 hc1
                split at hs
                · rename_i hq
                  obtain ⟨ha, ha0, hcq, b0, b1⟩ := hq
                  cases hs
                  obtain ⟨p3, pn, pat⟩ := hR.qrow hc0 ha0
                  obtain ⟨a3, an, aat⟩ := hR.qrow hc1 ha
                  have hA : s_A g (s_ad g a) := by show g.2.1 0 ≤ s_ad g a; rw [s_ad_ge g a3]; omega
                  have hany : ∀ i, i < n.toNatClampNeg → ∀ y, f (sp.toNatClampNeg + i) = some y → va_Any "java/lang/Object" s H (s_ad g y) := by
                    intro i hi y hy
                    have hc' : ∃ c0, c0 < 10 ∧ z_cq h f sp.toNatClampNeg n.toNatClampNeg c0 = true := by
                      rcases hcq with q | q | q
                      · exact ⟨6, by decide, q⟩
                      · exact ⟨2, by decide, q⟩
                      · exact ⟨3, by decide, q⟩
                    obtain ⟨c0, hc0', hq⟩ := hc'
                    have hy2 := List.all_eq_true.mp hq i (List.mem_range.mpr hi)
                    rw [hy] at hy2
                    dsimp only at hy2
                    split at hy2
                    · rename_i c1 fs1 hcy
                      have e1 : c1 = c0 := by simpa using hy2
                      subst e1
                      obtain ⟨v3, vn, vat⟩ := hR.obj hcy hc0'
                      refine va_rAny (D := g.1) (cl := z_cl) hK (s_P1 vat) (q0 := 0) rfl (s_cl_at hc0') ?_
                      intro comp c0 hcomp hc0
                      obtain ⟨c1, t1, f1, f2, f3⟩ := Cond.castable_spec (va_Nw.use (A := args) rfl (hX.2.2.2.2.2.2.2.1 _ hc0'))
                      cases hc0.symm.trans f1
                      cases hcomp.symm.trans f2
                      exact f3
                    · cases hy2
                  obtain ⟨-, k0, hk0, cm0, hkk0⟩ := (hK.2 3 _ rfl).1 n0 (fun j => va_rf ((f j).map (s_ad g)))
                  obtain ⟨-, k1, hk1, cm1, hkk1⟩ := (hK.2 3 _ rfl).1 n1 (fun j => va_rf ((gg j).map (s_ad g)))
                  refine s_arcopy F0' hd hz hac pat aat rfl rfl hk0 hk1 hkk0 hkk1 rfl hsp0 hdp0 hn0 (by show _ ≤ (arrV _ _ _).slots.size; rw [arrV_size]; exact b0) (by show _ ≤ (arrV _ _ _).slots.size; rw [arrV_size]; exact b1) (fun T hT vm' hal i hi => ?_) hsum hdg (fun H' L e1 z oq hL => ?_)
                  · have e : (vp_cell (g.2.1 8) (n0, .inr (.inr (.inr (.inr (fun j => (f j).map (s_ad g))))))).slots.getD (sp.toNatClampNeg + i) .null = va_rf ((f (sp.toNatClampNeg + i)).map (s_ad g)) := by
                      show (arrV _ n0 (fun j => va_rf ((f j).map (s_ad g)))).slots.getD _ _ = _
                      rw [Array.getD_eq_getD_getElem?, arrV_read _ _ (by omega)]
                      rfl
                    dsimp only
                    rw [e]
                    cases hy : f (sp.toNatClampNeg + i) with
                    | none => exact ⟨rfl, trivial⟩
                    | some y =>
                      obtain ⟨cellV, g1, g2, ⟨kC, hkC⟩, hasg⟩ := hany i hi y hy
                      obtain ⟨kA, comp, r1, r2, r3, -⟩ := (hK.2 3 _ rfl).2
                      cases hk1.symm.trans r1
                      cases hkk1.symm.trans r2
                      obtain ⟨kE, hkE, -⟩ := Vm.findClass_spec r3
                      obtain ⟨kC', hkC', -⟩ := hal.2.2 _ _ hkC
                      obtain ⟨kE', hkE', -⟩ := hal.2.2 _ _ hkE
                      refine ⟨rfl, cellV, (show T.heap[s_ad g y]? = some cellV by rw [hT]; exact g1), (fun q h => by rw [h] at g2; cases g2), ⟨kC', hkC'⟩, ⟨kE', hkE'⟩, ?_⟩
                      show vm'.assignable _ _ = true
                      rw [hal.assignable]
                      exact hasg _ r3
                  · have e2 : copied (vp_cell (g.2.1 8) (n0, .inr (.inr (.inr (.inr (fun j => (f j).map (s_ad g))))))) (vp_cell (g.2.1 8) (n1, .inr (.inr (.inr (.inr (fun j => (gg j).map (s_ad g))))))) sp dp n = vp_cell (g.2.1 8) (n1, .inr (.inr (.inr (.inr (fun j => (va_cpy f gg sp.toNatClampNeg dp.toNatClampNeg n.toNatClampNeg j).map (s_ad g)))))) := by
                      have := va_copied va_rf (g.2.1 8) (g.2.1 8) (fun j => (f j).map (s_ad g)) (fun j => (gg j).map (s_ad g)) (n0 := n0) (n1 := n1) (sp := sp.toNatClampNeg) (dp := dp.toNatClampNeg) (n := n.toNatClampNeg) b0
                      refine this.trans ?_
                      rw [vp_cell_q]
                      congr 1
                      funext j
                      congr 1
                      simp only [va_cpy]
                      split <;> rfl
                    dsimp only at e1
                    rw [e2] at e1
                    refine k H' _ cells slots hbc hbs (hR.set a3 an e1 trivial z oq) ⟨by have := hS.1; omega, fun q g1 g2 => ?_, fun q hq => ?_⟩
                    · rw [oq q (fun e => g2 (by rw [e]; exact hA))]
                      exact hS.2.1 q g1 g2
                    · rcases List.mem_append.mp hq with h | h
                      · exact hS.2.2 q h
                      · rw [hL q h]; exact hA
                · cases hs
              · cases hs
            · cases hs
          · cases hs
        · cases hs
  · cases hs
end Make
