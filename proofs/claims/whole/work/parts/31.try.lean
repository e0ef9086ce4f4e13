/-! calls inside a try; calls that never throw; worlds in two pieces -/
section ZC9
variable {G : zg} {l : Launch} {K : zk} {rm : Room} {own : String} {cc : ByteArray} {nl : Nat} {k n pc : Nat} {L L' : List (Nat × Value)} {st : List Value} {ws ws' : va_W}
variable {hh : List (Nat × Nat × Nat × Nat)} {w0 : va_W} {mc ms tc ts : Nat} {post : Option Value → va_W → Prop} {thr : String → va_W → Prop}
theorem zc_ofC {l : Launch} {K : zk} {y : MethodName} {rm : Room} {mc ms tc ts : Nat} {av : List Value} {w0 : va_W} {post : Option Value → va_W → Prop} {thr : String → va_W → Prop} {cc : ByteArray} {nl : Nat} {ret : Option FieldType} {hh : List (Nat × Nat × Nat × Nat)}
    (hy : plainName y.cls = true) (hlen : (lg_sl av).length ≤ nl)
    (body : ∀ G : zg, zf G l K rm y.cls cc nl → zq G ret hh w0 mc ms tc ts post thr → zj G 0 0 0 (lv_args 0 av) [] w0) : zc l K y (.codeWith y cc nl ret hh) rm mc ms tc ts av w0 post thr := by
  intro sz
  refine zx_ofWith (cc := cc) (maxL := nl) (ret := ret) hy rfl ?_
  intro p e s m args below meth c s₁ B hml hv
  obtain ⟨rfl, hsz, hP, hK, hD0, hZ⟩ := hv
  subst hsz
  have hts := atoms_spec (ws := Cond.codeWith y cc nl ret hh :: zT) B.pre
  have hl := lv_entry av (n := nl) hlen
  have htab : c.exceptionTable.toList.map (fun h => (h.startPc, h.endPc, h.handlerPc, h.catchType)) = hh := by
    obtain ⟨mk, meth', c', hn', h1, h2, -, -, h5, -⟩ := Cond.codeWith_spec (hts _ List.mem_cons_self)
    cases B.named.symm.trans hn'
    cases B.method.symm.trans h1
    cases (Stand.of_body B).code.symm.trans h2
    exact h5
  rw [lg_entry_eq]
  exact body (p, l, e, rm, s, m, av.toArray, below, meth, c, K, va_A w0 s.heap.size, nl, _) ⟨B.exec, B.bytes, hml, findClass_of_methodNamed B.named, fun w h => hts w (List.mem_cons_of_mem _ h), hK, fun q h => Or.inr h, hZ, B.notSynchronized, zc_notStatics hP, rfl, rfl, rfl, rfl⟩ ⟨B.returns, htab, rfl, rfl⟩ s.heap [] _ hP hD0.self va_S.rf hl
theorem zj_callC (F : zf G l K rm own cc nl) {ret : Option FieldType} (E : zq G ret hh w0 mc ms tc ts post thr) {y : MethodName} {cw : Cond} {rc : Room} {mc' ms' tc' ts' maxL : Nat} {av st0 rest : List Value} {wc wr : va_W} {post' : Option Value → va_W → Prop} {thr' : String → va_W → Prop} {ig : Instr}
    (hM : zc l K y cw rc mc' ms' tc' ts' av wc post' thr') (hi : zi G pc st0 rest y av ws) (d : decode cc pc = .ok (ig, 3)) (hcw : cw ∈ zT) (hcode : zCW y maxL cw) (hini : Cond.initialized y.cls ∈ zT)
    (isC isR : List Nat) (hC : isC.map (fun i => ws[i]?) = wc.map some) (hR : isR.map (fun i => ws[i]?) = wr.map some) (hnC : va_nd isC = true) (hnR : va_nd isR = true) (hdis : ∀ i ∈ isR, i ∉ isC)
    (hroom : rc.frames + 1 ≤ rm.frames ∧ 8 + (maxL + 11) + rc.locals ≤ rm.locals ∧ k + rc.cells ≤ rm.cells ∧ n + rc.slots ≤ rm.slots) (hrest : (rest.map fun v => v.category).sum ≤ 8)
    (kr : ∀ v w1, post' v w1 → zj G (k + mc') (n + ms') (pc + 3) L (v.toList ++ rest) (wr ++ w1))
    (kt : ∀ X w1, thr' X w1 → ∃ (pre suf : List (Nat × Nat × Nat × Nat)) (x : Nat × Nat × Nat × Nat) (nm : String), hh = pre ++ x :: suf ∧ (∀ z ∈ pre, z.2.2.2 ≠ 0 ∧ X = zY ∧ Cond.classLink own z.2.2.2 zU ∈ zT) ∧ (decide (x.1 ≤ pc) && decide (pc < x.2.1)) = true ∧ x.2.2.2 ≠ 0 ∧ Cond.classLink own x.2.2.2 nm ∈ zT ∧ Cond.castable X nm ∈ zxW ∧ ∀ q, zj G (k + tc') (n + ts') x.2.2.1 L [.ref q] (wr ++ w1)) : zj G k n pc L st0 ws := by
  obtain ⟨p, l, e, R, s, m, args, below, meth, c, K, A, nL, Q⟩ := G
  obtain ⟨hx, hb, hml, hown, hts, hK, hA, hZ, hlk, hst, rfl, rfl, rfl, rfl⟩ := F
  obtain ⟨hr, htab, rfl, rfl⟩ := E
  intro H locs ls hP hD hS hl T hT X
  obtain ⟨vm₁, mk, X₁, hn, hgo⟩ := hi H locs ls k n T hP hl.1 hT X
  have hC2 : isC.filterMap (fun i => ws[i]?) = wc := by
    have h1 : isC.filterMap (fun i => ws[i]?) = (isC.map (fun i => ws[i]?)).filterMap id := by rw [List.filterMap_map]; rfl
    rw [h1, hC, List.filterMap_map]
    simp
  have hFc := va_free (wc := wc) hD hS hA isC hC
  have hG : GoodIn zT (cw :: zT) := fun w hw => (List.mem_cons.mp hw).elim (fun e => e ▸ zT_good _ hcw) (zT_good w)
  have hws := pay_in hts hG
  have hPc : zc_P K av wc H.size av.toArray (T.setVm vm₁) :=
    ⟨rfl, by show T.heap.size = _; rw [hT], by show va_P _ _ _ T.heap; rw [hT]; exact hP.sub isC hC2, va_K.moved X₁.warmed.alike hK, (hD.sub isC hnC hC).weaken (fun _ _ _ _ => trivial),
      by show zst _ _ _ T.heap; rw [hT]; exact zst.warm X₁.warmed ((hZ.kept hS.2.1).narrow hFc)⟩
  have hpay := zx_pay (hM H.size) zc_blind (maxL := maxL) (len := 3) (g := F0 m pc ls rest) (ig := ig) (mk := mk) (a := av.toArray) X₁ rfl (hl.1.trans hml.symm) (by rw [hb]; exact d) (by simpa using hrest) (X₁.named hn) (hcode.use (hws _ List.mem_cons_self av.toArray _ X₁.warmed)) (fun w hw => hws w hw _ _ X₁.warmed)
    (word_at X₁.warmed (Or.inl (by first | rfl | simp [Cond.onTables, Cond.keeps, Cond.steady])) (hts _ hini)) hroom.1 hroom.2.1 hroom.2.2.1 hroom.2.2.2 hPc
  have step : ∀ (t T' : State) (L' : List Loc), T'.heap = t.heap → (∀ q ∈ L', va_A wc H.size q.base) → va_F (va_A wc H.size) ((T.setVm vm₁).calling (F0 m pc ls rest) mk av.toArray) t → ∀ w1, va_P K.1 vwCl w1 t.heap → va_D (va_A wc H.size) w1 →
      va_P K.1 vwCl (wr ++ w1) t.heap ∧ va_D (va_A w0 s.heap.size) (wr ++ w1) ∧ va_S (va_A w0 s.heap.size) s.heap t.heap (locs ++ L') := by
    intro t T' L' e1 hL hF w1 hP1 hD1
    have hz : H.size ≤ t.heap.size := by have := hF.1; rw [← hT]; exact this
    have hk : ∀ q : Nat, q < H.size → ¬ va_A wc H.size q → t.heap[q]? = H[q]? := fun q h1 h2 => by
      have := hF.2 q (by show q < T.heap.size; rw [hT]; exact h1) h2
      rw [this]; show T.heap[q]? = _; rw [hT]
    obtain ⟨g1, g2⟩ := va_join hP hD isC isR hC hR hnR hdis hk hFc hP1 hD1
    refine ⟨g1, g2, Nat.le_trans hS.1 hz, fun q h1 h2 => ?_, fun q hq => ?_⟩
    · rw [hk q (Nat.lt_of_lt_of_le h1 hS.1) (fun z => h2 (hFc q z))]
      exact hS.2.1 q h1 h2
    · rcases List.mem_append.mp hq with h | h
      · exact hS.2.2 q h
      · exact hFc _ (hL q h)
  rcases hpay with ⟨v, t, T', L', X', hL, e1, e2, ⟨⟨w1, hp, hP1, hD1⟩, hF⟩, hsteps⟩ | ⟨v, t, T', L', X', hL, e1, e2, ⟨⟨w1, ⟨Xn, hp, hx1, cellX, hx2, hx3, hx4⟩, hP1, hD1⟩, hF⟩, hsteps⟩
  · obtain ⟨g1, g2, g3⟩ := step t T' L' e1 hL hF w1 hP1 hD1
    obtain ⟨t2, a1, b1⟩ := kr v w1 hp t.heap (locs ++ L') ls g1 g2 g3 hl T' e1 X'
    exact ⟨t2, hgo _ (hsteps.trans a1), b1⟩
  · obtain ⟨g1, g2, g3⟩ := step t T' L' e1 hL hF w1 hP1 hD1
    obtain ⟨pre, suf, x, nm, hsp, hpass, hcov, h0, hlink, hcast, kk⟩ := kt Xn w1 hp
    rw [hsp] at htab
    obtain ⟨l1, l2, hl12, hl1, hl2⟩ := List.map_eq_append_iff.mp htab
    obtain ⟨xe, l3, hl23, hxe, hl3⟩ := List.map_eq_cons_iff.mp hl2
    subst hl23
    subst hxe
    have hal : s.vm.Alike T'.vm := X'.warmed.alike
    have hclX : s.vm.findClass Xn = some cellX.cls := by
      rw [← hal.findClass, e2]
      exact hx4
    have hpl : e.platform.magicAccessors = ({} : Platform).magicAccessors := by rw [X'.admits.platform]
    obtain ⟨c3, c4, hc3, hc4, hasg⟩ := Cond.castable_spec (va_Nw.use (A := args) rfl (hZ.2.2.2 _ hcast))
    cases Option.some.inj (hc3.symm.trans hclX)
    obtain ⟨c5, hc5, hcl5⟩ := Cond.classLink_spec hown (hts _ hlink) e.platform hpl
    cases Option.some.inj (hc4.symm.trans hc5)
    obtain ⟨vm', X2, st⟩ := X'.thenCaughtThrough v (g := F0 m pc ls rest) rfl (Steps.refl _) (by rw [e1]; exact hx2) hx3 (by obtain ⟨k9, h9, -⟩ := Vm.findClass_spec hclX; exact ⟨k9, h9⟩) l1 xe l3 hl12
      (fun z hz => by
        have hz2 : (z.startPc, z.endPc, z.handlerPc, z.catchType) ∈ pre := by rw [← hl1]; exact List.mem_map.mpr ⟨z, hz, rfl⟩
        obtain ⟨hz0, hXY, hlz⟩ := hpass _ hz2
        obtain ⟨c6, hc6, hcl6⟩ := Cond.classLink_spec hown (hts _ hlz) e.platform hpl
        obtain ⟨a8, b8, h1, h2, h3⟩ := hZ.1.2
        subst hXY
        cases Option.some.inj (h1.symm.trans hclX)
        cases Option.some.inj (h2.symm.trans hc6)
        exact Or.inr ⟨hz0, _, hcl6, h3⟩) hcov (Or.inr ⟨h0, c4, hcl5, hasg⟩)
    obtain ⟨t2, a1, b1⟩ := kk v t.heap (locs ++ L') ls g1 g2 g3 hl (T'.setVm vm') e1 X2
    exact ⟨t2, hgo _ (hsteps.trans (st.trans a1)), b1⟩
theorem zj_callN (F : zf G l K rm own cc nl) {y : MethodName} {cw : Cond} {rc : Room} {mc' ms' tc' ts' maxL : Nat} {av st0 rest : List Value} {wc wr : va_W} {post' : Option Value → va_W → Prop} {ig : Instr}
    (hM : zc l K y cw rc mc' ms' tc' ts' av wc post' (fun _ _ => False)) (hi : zi G pc st0 rest y av ws) (d : decode cc pc = .ok (ig, 3)) (hcw : cw ∈ zT) (hcode : zCW y maxL cw) (hini : Cond.initialized y.cls ∈ zT)
    (isC isR : List Nat) (hC : isC.map (fun i => ws[i]?) = wc.map some) (hR : isR.map (fun i => ws[i]?) = wr.map some) (hnC : va_nd isC = true) (hnR : va_nd isR = true) (hdis : ∀ i ∈ isR, i ∉ isC)
    (hroom : rc.frames + 1 ≤ rm.frames ∧ 8 + (maxL + 11) + rc.locals ≤ rm.locals ∧ k + rc.cells ≤ rm.cells ∧ n + rc.slots ≤ rm.slots) (hrest : (rest.map fun v => v.category).sum ≤ 8)
    (kr : ∀ v w1, post' v w1 → zj G (k + mc') (n + ms') (pc + 3) L (v.toList ++ rest) (wr ++ w1)) : zj G k n pc L st0 ws := by
  obtain ⟨p, l, e, R, s, m, args, below, meth, c, K, A, nL, Q⟩ := G
  obtain ⟨hx, hb, hml, hown, hts, hK, hA, hZ, hlk, hst, rfl, rfl, rfl, rfl⟩ := F
  intro H locs ls hP hD hS hl T hT X
  obtain ⟨vm₁, mk, X₁, hn, hgo⟩ := hi H locs ls k n T hP hl.1 hT X
  have hC2 : isC.filterMap (fun i => ws[i]?) = wc := by
    have h1 : isC.filterMap (fun i => ws[i]?) = (isC.map (fun i => ws[i]?)).filterMap id := by rw [List.filterMap_map]; rfl
    rw [h1, hC, List.filterMap_map]
    simp
  have hFc := va_free (wc := wc) hD hS hA isC hC
  have hG : GoodIn zT (cw :: zT) := fun w hw => (List.mem_cons.mp hw).elim (fun e => e ▸ zT_good _ hcw) (zT_good w)
  have hws := pay_in hts hG
  have hPc : zc_P K av wc H.size av.toArray (T.setVm vm₁) :=
    ⟨rfl, by show T.heap.size = _; rw [hT], by show va_P _ _ _ T.heap; rw [hT]; exact hP.sub isC hC2, va_K.moved X₁.warmed.alike hK, (hD.sub isC hnC hC).weaken (fun _ _ _ _ => trivial),
      by show zst _ _ _ T.heap; rw [hT]; exact zst.warm X₁.warmed ((hZ.kept hS.2.1).narrow hFc)⟩
  have hpay := zx_pay (hM H.size) zc_blind (maxL := maxL) (len := 3) (g := F0 m pc ls rest) (ig := ig) (mk := mk) (a := av.toArray) X₁ rfl (hl.1.trans hml.symm) (by rw [hb]; exact d) (by simpa using hrest) (X₁.named hn) (hcode.use (hws _ List.mem_cons_self av.toArray _ X₁.warmed)) (fun w hw => hws w hw _ _ X₁.warmed)
    (word_at X₁.warmed (Or.inl (by first | rfl | simp [Cond.onTables, Cond.keeps, Cond.steady])) (hts _ hini)) hroom.1 hroom.2.1 hroom.2.2.1 hroom.2.2.2 hPc
  have step : ∀ (t T' : State) (L' : List Loc), T'.heap = t.heap → (∀ q ∈ L', va_A wc H.size q.base) → va_F (va_A wc H.size) ((T.setVm vm₁).calling (F0 m pc ls rest) mk av.toArray) t → ∀ w1, va_P K.1 vwCl w1 t.heap → va_D (va_A wc H.size) w1 →
      va_P K.1 vwCl (wr ++ w1) t.heap ∧ va_D (A) (wr ++ w1) ∧ va_S (A) s.heap t.heap (locs ++ L') := by
    intro t T' L' e1 hL hF w1 hP1 hD1
    have hz : H.size ≤ t.heap.size := by have := hF.1; rw [← hT]; exact this
    have hk : ∀ q : Nat, q < H.size → ¬ va_A wc H.size q → t.heap[q]? = H[q]? := fun q h1 h2 => by
      have := hF.2 q (by show q < T.heap.size; rw [hT]; exact h1) h2
      rw [this]; show T.heap[q]? = _; rw [hT]
    obtain ⟨g1, g2⟩ := va_join hP hD isC isR hC hR hnR hdis hk hFc hP1 hD1
    refine ⟨g1, g2, Nat.le_trans hS.1 hz, fun q h1 h2 => ?_, fun q hq => ?_⟩
    · rw [hk q (Nat.lt_of_lt_of_le h1 hS.1) (fun z => h2 (hFc q z))]
      exact hS.2.1 q h1 h2
    · rcases List.mem_append.mp hq with h | h
      · exact hS.2.2 q h
      · exact hFc _ (hL q h)
  rcases hpay with ⟨v, t, T', L', X', hL, e1, e2, ⟨⟨w1, hp, hP1, hD1⟩, hF⟩, hsteps⟩ | ⟨v, t, T', L', X', hL, e1, e2, ⟨⟨w1, ⟨Xn, hp, hx1, cellX, hx2, hx3, hx4⟩, hP1, hD1⟩, hF⟩, hsteps⟩
  · obtain ⟨g1, g2, g3⟩ := step t T' L' e1 hL hF w1 hP1 hD1
    obtain ⟨t2, a1, b1⟩ := kr v w1 hp t.heap (locs ++ L') ls g1 g2 g3 hl T' e1 X'
    exact ⟨t2, hgo _ (hsteps.trans a1), b1⟩
  · exact hp.elim
theorem zw_l (a b : va_W) : (List.range a.length).map (fun i => (a ++ b)[i]?) = a.map some := by
  apply List.ext_getElem?
  intro i
  rw [List.getElem?_map, List.getElem?_map]
  by_cases h : i < a.length
  · rw [List.getElem?_range h]
    show some ((a ++ b)[i]?) = (a[i]?).map some
    rw [List.getElem?_append_left h, List.getElem?_eq_getElem h]
    rfl
  · rw [List.getElem?_eq_none (by simpa using h), List.getElem?_eq_none (by omega)]
    rfl
theorem zw_r (a b : va_W) : ((List.range b.length).map (fun i => a.length + i)).map (fun i => (a ++ b)[i]?) = b.map some := by
  apply List.ext_getElem?
  intro i
  rw [List.map_map, List.getElem?_map, List.getElem?_map]
  by_cases h : i < b.length
  · rw [List.getElem?_range h]
    show some ((a ++ b)[a.length + i]?) = (b[i]?).map some
    rw [List.getElem?_append_right (by omega), Nat.add_sub_cancel_left, List.getElem?_eq_getElem h]
    rfl
  · rw [List.getElem?_eq_none (by simpa using h), List.getElem?_eq_none (by omega)]
    rfl
theorem zw_nd : ∀ l : List Nat, l.Nodup → va_nd l = true
  | [], _ => rfl
  | a :: l, h => by
    rw [List.nodup_cons] at h
    show (decide (a ∉ l) && va_nd l) = true
    rw [zw_nd l h.2]
    simp [h.1]
theorem zw_ndl (m : Nat) : va_nd (List.range m) = true := zw_nd _ List.nodup_range
theorem zw_ndr (m k : Nat) : va_nd ((List.range m).map (fun i => k + i)) = true := zw_nd _ (List.pairwise_map.mpr (List.Pairwise.imp (fun h e => h (Nat.add_left_cancel e)) List.nodup_range))
theorem zw_dis (m k : Nat) : ∀ i ∈ (List.range m).map (fun i => k + i), i ∉ List.range k := by
  intro i hi
  obtain ⟨j, -, rfl⟩ := List.mem_map.mp hi
  rw [List.mem_range]
  omega
theorem zw_fm {ws ws' : va_W} {is : List Nat} (h : is.map (fun i => ws[i]?) = ws'.map some) : is.filterMap (fun i => ws[i]?) = ws' := by
  have h1 : is.filterMap (fun i => ws[i]?) = (is.map (fun i => ws[i]?)).filterMap id := by rw [List.filterMap_map]; rfl
  rw [h1, h, List.filterMap_map]
  simp
/-- the pieces of a world change places -/
theorem zj_rot {a b : va_W} (kk : zj G k n pc L st (b ++ a)) : zj G k n pc L st (a ++ b) := by
  have h : ((List.range b.length).map (fun i => a.length + i) ++ List.range a.length).map (fun i => (a ++ b)[i]?) = (b ++ a).map some := by
    rw [List.map_append, zw_l, zw_r, List.map_append]
  refine zj_wsub ((List.range b.length).map (fun i => a.length + i) ++ List.range a.length) (zw_nd _ ?_) h (zw_fm h) kk
  rw [List.nodup_append]
  refine ⟨?_, List.nodup_range, ?_⟩
  · exact List.pairwise_map.mpr (List.Pairwise.imp (fun h e => h (Nat.add_left_cancel e)) List.nodup_range)
  · intro x hx y hy hxy
    subst hxy
    exact zw_dis _ _ x hx hy
end ZC9
