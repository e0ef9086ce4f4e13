/-! contracts over worlds; a body, its ends, its calls -/
/-- the word that says a method's code -/
def zCW (y : MethodName) (maxL : Nat) (cw : Cond) : Prop := (∃ b r, cw = .code y b maxL r) ∨ ∃ b r hh, cw = .codeWith y b maxL r hh
theorem zCW.use {y : MethodName} {maxL : Nat} {cw : Cond} {args : Array Value} {s : State} (h : zCW y maxL cw) (hb : cw.before args s = true) : zx_Code s y maxL := by
  rcases h with ⟨b, r, rfl⟩ | ⟨b, r, hh, rfl⟩
  · exact zx_code hb
  · exact zx_codeWith hb
/-- the object that was thrown -/
def zc_X (X : String) (a : Nat) (st t : State) : Prop := True ∧ ∃ cell : Cell, t.heap[a]? = some cell ∧ cell.vm.isStatics = false ∧ t.vm.findClass X = some cell.cls
def zc_O (post : Option Value → va_W → Prop) (thr : String → va_W → Prop) (oc : Outcome) (w1 : va_W) (st t : State) : Prop := match oc with
  | .returned v => post v w1
  | .threw a => ∃ X, thr X w1 ∧ zc_X X a st t
def zc_Q (K : zk) (w0 : va_W) (sz : Nat) (post : Option Value → va_W → Prop) (thr : String → va_W → Prop) : Array Value → State → Outcome → State → Prop := fun _ st oc t => (∃ w1, zc_O post thr oc w1 st t ∧ va_P K.1 vwCl w1 t.heap ∧ va_D (va_A w0 sz) w1) ∧ va_F (va_A w0 sz) st t
def zc_P (K : zk) (av : List Value) (w0 : va_W) (sz : Nat) : Array Value → State → Prop := va_Pc av (fun U => U.heap.size = sz ∧ va_P K.1 vwCl w0 U.heap ∧ va_K K.1 vwCl (zty K) U ∧ va_D (fun _ => True) w0 ∧ zst K.2.2 (va_A w0 sz) U U.heap)
/-- a method's contract: from the cells w0 it returns with 'post', or throws with 'thr'; nothing else changes -/
def zc (l : Launch) (K : zk) (y : MethodName) (cw : Cond) (rm : Room) (mc ms tc ts : Nat) (av : List Value) (w0 : va_W) (post : Option Value → va_W → Prop) (thr : String → va_W → Prop) : Prop :=
  ∀ sz : Nat, zx_Met l y (cw :: zT) rm (zc_P K av w0 sz) (zc_Q K w0 sz post thr) mc ms tc ts (va_A w0 sz)
/-- what is known at a method's ends -/
def zq (G : zg) (ret : Option FieldType) (hh : List (Nat × Nat × Nat × Nat)) (w0 : va_W) (mc ms tc ts : Nat) (post : Option Value → va_W → Prop) (thr : String → va_W → Prop) : Prop := match G with
  | (p, l, e, R, s, m, args, below, meth, c, K, A, nL, Q) => meth.sig.returnType = ret ∧ c.exceptionTable.toList.map (fun h => (h.startPc, h.endPc, h.handlerPc, h.catchType)) = hh ∧ A = va_A w0 s.heap.size ∧ Q = zx_Q below (zc_Q K w0 s.heap.size post thr) args s mc ms tc ts (va_A w0 s.heap.size)
theorem zc_blind {K : zk} {av : List Value} {w0 : va_W} {sz : Nat} : FrameBlind (zc_P K av w0 sz) := by
  intro a U g mk h
  obtain ⟨h0, h1, h2, h3, h4, h5⟩ := h
  exact ⟨h0, h1, h2, va_K.moved (u := U) (U := U.calling g mk a) (Vm.Alike.refl U.vm) h3, h4, zst.warm (u := U) (U := U.calling g mk a) (State.WarmedH.refl U) h5⟩
theorem zc_notStatics {K : zk} {w0 : va_W} {s : State} (hP : va_P K.1 vwCl w0 s.heap) : ∀ q, va_A w0 s.heap.size q → ∀ cell, s.heap[q]? = some cell → cell.vm.isStatics = false := by
  intro q h cell hc
  rcases h with ⟨k, e, hk⟩ | h
  · have h1 := hP k _ hk
    cases e with
    | inl x =>
      have h2 : s.heap[q]? = some (vp_cell x.1 x.2) := h1
      cases h2.symm.trans hc
      obtain ⟨cA, n, f⟩ := x
      rcases f with f | f | f | f | f <;> rfl
    | inr o =>
      obtain ⟨r, h2, cell', h3, h4, h5, h6⟩ := h1
      cases h3.symm.trans hc
      rw [h5]; rfl
  · have := (Array.getElem?_eq_some_iff.mp hc).1
    omega
theorem zc_of {l : Launch} {K : zk} {y : MethodName} {rm : Room} {mc ms tc ts : Nat} {av : List Value} {w0 : va_W} {post : Option Value → va_W → Prop} {thr : String → va_W → Prop} {cc : ByteArray} {nl : Nat} {ret : Option FieldType}
    (hy : plainName y.cls = true) (hlen : (lg_sl av).length ≤ nl)
    (body : ∀ G : zg, zf G l K rm y.cls cc nl → zq G ret [] w0 mc ms tc ts post thr → zj G 0 0 0 (lv_args 0 av) [] w0) : zc l K y (.code y cc nl ret) rm mc ms tc ts av w0 post thr := by
  intro sz
  refine zx_ofW (cc := cc) (maxL := nl) (ret := ret) hy rfl ?_
  intro p e s m args below meth c s₁ B hml hv
  obtain ⟨rfl, hsz, hP, hK, hD0, hZ⟩ := hv
  subst hsz
  have hts := atoms_spec (ws := Cond.code y cc nl ret :: zT) B.pre
  have hl := lv_entry av (n := nl) hlen
  have htab : c.exceptionTable.toList.map (fun h => (h.startPc, h.endPc, h.handlerPc, h.catchType)) = [] := by
    have h1 := B.noHandlers (hts _ List.mem_cons_self)
    have h0 : c.exceptionTable.size = 0 := by simpa [Array.isEmpty] using h1
    have h2 : c.exceptionTable.toList = [] := List.eq_nil_of_length_eq_zero (by simpa using h0)
    rw [h2]; rfl
  rw [lg_entry_eq]
  exact body (p, l, e, rm, s, m, av.toArray, below, meth, c, K, va_A w0 s.heap.size, nl, _) ⟨B.exec, B.bytes, hml, findClass_of_methodNamed B.named, fun w h => hts w (List.mem_cons_of_mem _ h), hK, fun q h => Or.inr h, hZ, B.notSynchronized, zc_notStatics hP, rfl, rfl, rfl, rfl⟩ ⟨B.returns, htab, rfl, rfl⟩ s.heap [] _ hP hD0.self va_S.rf hl
section ZE
variable {G : zg} {l : Launch} {K : zk} {rm : Room} {own : String} {cc : ByteArray} {nl : Nat} {k n pc : Nat} {L L' : List (Nat × Value)} {st : List Value} {ws ws' : va_W}
variable {hh : List (Nat × Nat × Nat × Nat)} {w0 : va_W} {mc ms tc ts : Nat} {post : Option Value → va_W → Prop} {thr : String → va_W → Prop}
theorem zj_vret (F : zf G l K rm own cc nl) (E : zq G none hh w0 mc ms tc ts post thr) (d : decode cc pc = .ok (.return_, 1)) (hk : k ≤ mc) (hm : n ≤ ms) (hp : post none ws) : zj G k n pc L [] ws := by
  obtain ⟨p, l, e, R, s, m, args, below, meth, c, K, A, nL, Q⟩ := G
  obtain ⟨hx, hb, hml, hown, hts, hK, hA, hZ, hlk, hst, rfl, rfl, rfl, rfl⟩ := F
  obtain ⟨hr, htab, rfl, rfl⟩ := E
  intro H locs ls hP hD hS hl
  refine W.widen hk hm ?_
  refine zx_mono (fun t => zx_ofMQ) ?_
  exact W.vret hx hb hr (fun t ht hW => ⟨⟨ws, hp, by rw [ht]; exact hP, hD⟩, hS.F ht⟩) hS.2.2 d (hlocks := hlk)
theorem zj_iret (F : zf G l K rm own cc nl) (E : zq G (some .int) hh w0 mc ms tc ts post thr) {v : Int32} (d : decode cc pc = .ok (.ireturn, 1)) (hk : k ≤ mc) (hm : n ≤ ms) (hp : post (some (.int v)) ws) : zj G k n pc L [.int v] ws := by
  obtain ⟨p, l, e, R, s, m, args, below, meth, c, K, A, nL, Q⟩ := G
  obtain ⟨hx, hb, hml, hown, hts, hK, hA, hZ, hlk, hst, rfl, rfl, rfl, rfl⟩ := F
  obtain ⟨hr, htab, rfl, rfl⟩ := E
  intro H locs ls hP hD hS hl
  refine W.widen hk hm ?_
  refine zx_mono (fun t => zx_ofMQ) ?_
  exact W.iret (v := v) hx hb hr (fun t ht hW => ⟨⟨ws, hp, by rw [ht]; exact hP, hD⟩, hS.F ht⟩) hS.2.2 d (hlocks := hlk)
theorem zj_zret (F : zf G l K rm own cc nl) (E : zq G (some .boolean) hh w0 mc ms tc ts post thr) {v : Int32} (d : decode cc pc = .ok (.ireturn, 1)) (hv : narrow .boolean (.int v) = .int v) (hk : k ≤ mc) (hm : n ≤ ms) (hp : post (some (.int v)) ws) : zj G k n pc L [.int v] ws := by
  obtain ⟨p, l, e, R, s, m, args, below, meth, c, K, A, nL, Q⟩ := G
  obtain ⟨hx, hb, hml, hown, hts, hK, hA, hZ, hlk, hst, rfl, rfl, rfl, rfl⟩ := F
  obtain ⟨hr, htab, rfl, rfl⟩ := E
  intro H locs ls hP hD hS hl
  refine W.widen hk hm ?_
  refine zx_mono (fun t => zx_ofMQ) ?_
  exact W.zret (v := v) hx hb hr hv (fun t ht hW => ⟨⟨ws, hp, by rw [ht]; exact hP, hD⟩, hS.F ht⟩) hS.2.2 d (hlocks := hlk)
theorem zj_lret (F : zf G l K rm own cc nl) (E : zq G (some .long) hh w0 mc ms tc ts post thr) {v : Int64} (d : decode cc pc = .ok (.lreturn, 1)) (hk : k ≤ mc) (hm : n ≤ ms) (hp : post (some (.long v)) ws) : zj G k n pc L [.long v] ws := by
  obtain ⟨p, l, e, R, s, m, args, below, meth, c, K, A, nL, Q⟩ := G
  obtain ⟨hx, hb, hml, hown, hts, hK, hA, hZ, hlk, hst, rfl, rfl, rfl, rfl⟩ := F
  obtain ⟨hr, htab, rfl, rfl⟩ := E
  intro H locs ls hP hD hS hl
  refine W.widen hk hm ?_
  refine zx_mono (fun t => zx_ofMQ) ?_
  exact W.lret (v := v) hx hb hr (fun t ht hW => ⟨⟨ws, hp, by rw [ht]; exact hP, hD⟩, hS.F ht⟩) hS.2.2 d (hlocks := hlk)
/-- the call instruction itself: it comes to the invocation of y with the arguments av, the stack cut to 'rest' -/
def zi (G : zg) (pc : Nat) (st0 rest : List Value) (y : MethodName) (av : List Value) (ws : va_W) : Prop := match G with
  | (p, l, e, R, s, m, args, below, meth, c, K, A, nL, Q) => ∀ (H : Heap) (locs : List Loc) (ls : Array Slot) (k n : Nat) (T : State), va_P K.1 vwCl ws H → ls.size = nL → T.heap = H → Stand p l e R s m args below meth c T locs k n →
    ∃ (vm₁ : Vm) (mk : MethodId), Stand p l e R s m args below meth c (T.setVm vm₁) locs k n ∧ s.methodNamed? y = some mk ∧ ∀ target, Steps p.tables e below (doInvoke e ((T.setVm vm₁).setTop (F0 m pc ls rest)) [] mk av.toArray).1 target → Steps p.tables e below (T.setTop (F0 m pc ls st0)) target
theorem zi_hlen {y : MethodName} {nn : Nat} (hd : (parseMethodDescriptor y.desc).map (fun d => d.parameters.length) = some nn) : ∀ sig, parseMethodDescriptor y.desc = some sig → nn = sig.parameters.length := by
  intro sig h
  rw [h] at hd
  exact (Option.some.inj hd).symm
theorem zi_V (F : zf G l K rm own cc nl) {y : MethodName} {index ci b maxL : Nat} {q : vw_C} {fs As rest : List Value} (d : decode cc pc = .ok (.invokevirtual index, 3)) (q0 : Nat) (he : ws[q0]? = some (b, .inr (ci, fs))) (hc : vwCl[ci]? = some q) (hcls : q.1 = y.cls) (hw1 : Cond.methodLink own index y ∈ zT) (hw2 : Cond.instanceMethod y ∈ zT) (hw3 : Cond.selects y.cls y y ∈ zT) {cw : Cond} (hcw : cw ∈ zT) (hcode : zCW y maxL cw)
    (hy : y.cls ≠ "java/lang/invoke/MethodHandle" ∧ y.cls ≠ "java/lang/invoke/VarHandle") (hd : (parseMethodDescriptor y.desc).map (fun d => d.parameters.length) = some As.length) : zi G pc (As.reverse ++ .ref b :: rest) rest y (.ref b :: As) ws := by
  obtain ⟨p, l, e, R, s, m, args, below, meth, c, K, A, nL, Q⟩ := G
  obtain ⟨hx, hb, hml, hown, hts, hK, hA, hZ, hlk, hst, rfl, rfl, rfl, rfl⟩ := F
  intro H locs ls k n T hP hls hT X
  obtain ⟨cellB, hcB, hoB, hclB⟩ := va_recv hK hP hc he
  rw [hcls] at hclB
  obtain ⟨mk, methM, cM, hnamed, hmethM, -, -, hsigM⟩ := hcode.use (hts _ hcw)
  obtain ⟨mk', methM', hnamed', hmethM', hstM, habM⟩ := Cond.instanceMethod_spec (hts _ hw2)
  cases hnamed.symm.trans hnamed'
  cases hmethM.symm.trans hmethM'
  obtain ⟨c2, r2, m2, q1, q2, q3, q4, kP, hkP, hkPi⟩ := Cond.selects_spec (hts _ hw3)
  cases hclB.symm.trans q1
  cases (State.methodFound?_of_named hnamed hy).symm.trans q2
  cases hnamed.symm.trans q3
  have hselP : selectMethod e.platform s.vm cellB.cls mk = .method mk := by rw [Launch.admits_selectMethod X.admits]; exact q4
  obtain ⟨vm₁, X₁, hstep₁⟩ := X.invokevirtual hx hown (hts _ hw1) hnamed hmethM hstM hkP hkPi hy (a := b) (cell := cellB) (by rw [hT]; exact hcB)
    (fun z h => by rw [h] at hoB; cases hoB) hselP hmethM habM hkP hkPi (g := F0 m pc ls (As.reverse ++ .ref b :: rest)) rfl (argsL := As) (rest := rest) (zi_hlen hd _ hsigM) rfl (by rw [hb]; exact d)
  exact ⟨vm₁, mk, X₁, hnamed, fun target h => hstep₁ _ fun acts => by rw [doInvoke_state]; exact h⟩
theorem zi_VN (F : zf G l K rm own cc nl) {y : MethodName} {host : String} {index ci b maxL : Nat} {q : vw_C} {fs As rest : List Value} (d : decode cc pc = .ok (.invokevirtual index, 3)) (q0 : Nat) (he : ws[q0]? = some (b, .inr (ci, fs))) (hc : vwCl[ci]? = some q) (hcls : q.1 = y.cls) (hw1 : Cond.methodLinkNest own index y host ∈ zxW) (hw2 : Cond.instanceMethod y ∈ zT) (hw3 : Cond.selects y.cls y y ∈ zT) {cw : Cond} (hcw : cw ∈ zT) (hcode : zCW y maxL cw)
    (hy : y.cls ≠ "java/lang/invoke/MethodHandle" ∧ y.cls ≠ "java/lang/invoke/VarHandle") (hd : (parseMethodDescriptor y.desc).map (fun d => d.parameters.length) = some As.length) : zi G pc (As.reverse ++ .ref b :: rest) rest y (.ref b :: As) ws := by
  obtain ⟨p, l, e, R, s, m, args, below, meth, c, K, A, nL, Q⟩ := G
  obtain ⟨hx, hb, hml, hown, hts, hK, hA, hZ, hlk, hst, rfl, rfl, rfl, rfl⟩ := F
  intro H locs ls k n T hP hls hT X
  obtain ⟨cellB, hcB, hoB, hclB⟩ := va_recv hK hP hc he
  rw [hcls] at hclB
  obtain ⟨mk, methM, cM, hnamed, hmethM, -, -, hsigM⟩ := hcode.use (hts _ hcw)
  obtain ⟨mk', methM', hnamed', hmethM', hstM, habM⟩ := Cond.instanceMethod_spec (hts _ hw2)
  cases hnamed.symm.trans hnamed'
  cases hmethM.symm.trans hmethM'
  obtain ⟨c2, r2, m2, q1, q2, q3, q4, kP, hkP, hkPi⟩ := Cond.selects_spec (hts _ hw3)
  cases hclB.symm.trans q1
  cases (State.methodFound?_of_named hnamed hy).symm.trans q2
  cases hnamed.symm.trans q3
  have hselP : selectMethod e.platform s.vm cellB.cls mk = .method mk := by rw [Launch.admits_selectMethod X.admits]; exact q4
  obtain ⟨vm₁, X₁, hstep₁⟩ := X.invokevirtualNest hx hown (va_Nw.use rfl (hZ.2.2.2 _ hw1)) hnamed hmethM hstM hkP hkPi hy (a := b) (cell := cellB) (by rw [hT]; exact hcB)
    (fun z h => by rw [h] at hoB; cases hoB) hselP hmethM habM hkP hkPi (g := F0 m pc ls (As.reverse ++ .ref b :: rest)) rfl (argsL := As) (rest := rest) (zi_hlen hd _ hsigM) rfl (by rw [hb]; exact d)
  exact ⟨vm₁, mk, X₁, hnamed, fun target h => hstep₁ _ fun acts => by rw [doInvoke_state]; exact h⟩
theorem zi_S (F : zf G l K rm own cc nl) {y : MethodName} {index maxL : Nat} {As rest : List Value} (d : decode cc pc = .ok (.invokestatic index, 3)) (hw1 : Cond.methodLink own index y ∈ zT) (hw2 : Cond.static y ∈ zT) (hw3 : Cond.initialized y.cls ∈ zT) {cw : Cond} (hcw : cw ∈ zT) (hcode : zCW y maxL cw)
    (hy : y.cls ≠ "java/lang/invoke/MethodHandle" ∧ y.cls ≠ "java/lang/invoke/VarHandle") (hd : (parseMethodDescriptor y.desc).map (fun d => d.parameters.length) = some As.length) : zi G pc (As.reverse ++ rest) rest y As ws := by
  obtain ⟨p, l, e, R, s, m, args, below, meth, c, K, A, nL, Q⟩ := G
  obtain ⟨hx, hb, hml, hown, hts, hK, hA, hZ, hlk, hst, rfl, rfl, rfl, rfl⟩ := F
  intro H locs ls k n T hP hls hT X
  obtain ⟨mk, methM, cM, hnamed, hmethM, -, -, hsigM⟩ := hcode.use (hts _ hcw)
  have hstatic : methM.isStatic = true := Cond.static_spec hnamed hmethM (hts _ hw2)
  obtain ⟨kP, hkP, -⟩ := className_of_methodNamed hnamed
  have hinitP : kP.init = .initialized := Cond.initialized_spec (findClass_of_methodNamed hnamed) hkP (hts _ hw3)
  obtain ⟨vm₁, X₁, hstep₁⟩ := X.invokestatic hx hown (hts _ hw1) hnamed hmethM hstatic hkP hinitP hy (g := F0 m pc ls (As.reverse ++ rest)) rfl (argsL := As) (rest := rest) (zi_hlen hd _ hsigM) rfl (by rw [hb]; exact d)
  exact ⟨vm₁, mk, X₁, hnamed, fun target h => hstep₁ _ fun acts => by rw [doInvoke_state]; exact h⟩
theorem zi_SN (F : zf G l K rm own cc nl) {y : MethodName} {host : String} {index maxL : Nat} {As rest : List Value} (d : decode cc pc = .ok (.invokestatic index, 3)) (hw1 : Cond.methodLinkNest own index y host ∈ zxW) (hw2 : Cond.static y ∈ zT) (hw3 : Cond.initialized y.cls ∈ zT) {cw : Cond} (hcw : cw ∈ zT) (hcode : zCW y maxL cw)
    (hy : y.cls ≠ "java/lang/invoke/MethodHandle" ∧ y.cls ≠ "java/lang/invoke/VarHandle") (hd : (parseMethodDescriptor y.desc).map (fun d => d.parameters.length) = some As.length) : zi G pc (As.reverse ++ rest) rest y As ws := by
  obtain ⟨p, l, e, R, s, m, args, below, meth, c, K, A, nL, Q⟩ := G
  obtain ⟨hx, hb, hml, hown, hts, hK, hA, hZ, hlk, hst, rfl, rfl, rfl, rfl⟩ := F
  intro H locs ls k n T hP hls hT X
  obtain ⟨mk, methM, cM, hnamed, hmethM, -, -, hsigM⟩ := hcode.use (hts _ hcw)
  have hstatic : methM.isStatic = true := Cond.static_spec hnamed hmethM (hts _ hw2)
  obtain ⟨kP, hkP, -⟩ := className_of_methodNamed hnamed
  have hinitP : kP.init = .initialized := Cond.initialized_spec (findClass_of_methodNamed hnamed) hkP (hts _ hw3)
  obtain ⟨vm₁, X₁, hstep₁⟩ := X.invokestaticNest hx hown (va_Nw.use rfl (hZ.2.2.2 _ hw1)) hnamed hmethM hstatic hkP hinitP hy (g := F0 m pc ls (As.reverse ++ rest)) rfl (argsL := As) (rest := rest) (zi_hlen hd _ hsigM) rfl (by rw [hb]; exact d)
  exact ⟨vm₁, mk, X₁, hnamed, fun target h => hstep₁ _ fun acts => by rw [doInvoke_state]; exact h⟩
/-- a call by contract -/
theorem zj_call (F : zf G l K rm own cc nl) {ret : Option FieldType} (E : zq G ret hh w0 mc ms tc ts post thr) {y : MethodName} {cw : Cond} {rc : Room} {mc' ms' tc' ts' maxL : Nat} {av st0 rest : List Value} {wc wr : va_W} {post' : Option Value → va_W → Prop} {thr' : String → va_W → Prop} {ig : Instr}
    (hM : zc l K y cw rc mc' ms' tc' ts' av wc post' thr') (hi : zi G pc st0 rest y av ws) (d : decode cc pc = .ok (ig, 3)) (hcw : cw ∈ zT) (hcode : zCW y maxL cw) (hini : Cond.initialized y.cls ∈ zT)
    (isC isR : List Nat) (hC : isC.map (fun i => ws[i]?) = wc.map some) (hR : isR.map (fun i => ws[i]?) = wr.map some) (hnC : va_nd isC = true) (hnR : va_nd isR = true) (hdis : ∀ i ∈ isR, i ∉ isC)
    (hroom : rc.frames + 1 ≤ rm.frames ∧ 8 + (maxL + 11) + rc.locals ≤ rm.locals ∧ k + rc.cells ≤ rm.cells ∧ n + rc.slots ≤ rm.slots) (hrest : (rest.map fun v => v.category).sum ≤ 8)
    (kr : ∀ v w1, post' v w1 → zj G (k + mc') (n + ms') (pc + 3) L (v.toList ++ rest) (wr ++ w1))
    (kt : ∀ X w1, thr' X w1 → hh.all (fun h => !(decide (h.1 ≤ pc) && decide (pc < h.2.1))) = true ∧ k + tc' ≤ tc ∧ n + ts' ≤ ts ∧ ∃ (is : List Nat) (w2 : va_W), va_nd is = true ∧ is.map (fun i => (wr ++ w1)[i]?) = w2.map some ∧ thr X w2) : zj G k n pc L st0 ws := by
  obtain ⟨p, l, e, R, s, m, args, below, meth, c, K, A, nL, Q⟩ := G
  obtain ⟨hx, hb, hml, hown, hts, hK, hA, hZ, hlk, hst, rfl, rfl, rfl, rfl⟩ := F
  obtain ⟨hr, htab, rfl, rfl⟩ := E
  intro H locs ls hP hD hS hl T hT X
  obtain ⟨vm₁, mk, X₁, hn, hgo⟩ := hi H locs ls k n T hP hl.1 hT X
  have hC2 : isC.filterMap (fun i => ws[i]?) = wc := by
    have h1 : isC.filterMap (fun i => ws[i]?) = (isC.map (fun i => ws[i]?)).filterMap id := by rw [List.filterMap_map]; rfl
    rw [h1, hC, List.filterMap_map]
    simp
  have hFc := va_free (wc := wc) hD hS hA isC hC
  have hG : GoodIn zT (cw :: zT) := fun w hw => (List.mem_cons.mp hw).elim (fun e => e ▸ zT_good _ hcw) (zT_good w)
  have hws := pay_in hts hG
  have hPc : zc_P K av wc H.size av.toArray (T.setVm vm₁) :=
    ⟨rfl, by show T.heap.size = _; rw [hT], by show va_P _ _ _ T.heap; rw [hT]; exact hP.sub isC hC2, va_K.moved X₁.warmed.alike hK, (hD.sub isC hnC hC).weaken (fun _ _ _ _ => trivial),
      by show zst _ _ _ T.heap; rw [hT]; exact zst.warm X₁.warmed ((hZ.kept hS.2.1).narrow hFc)⟩
  have hpay := zx_pay (hM H.size) zc_blind (maxL := maxL) (len := 3) (g := F0 m pc ls rest) (ig := ig) (mk := mk) (a := av.toArray) X₁ rfl (hl.1.trans hml.symm) (by rw [hb]; exact d) (by simpa using hrest) (X₁.named hn) (hcode.use (hws _ List.mem_cons_self av.toArray _ X₁.warmed)) (fun w hw => hws w hw _ _ X₁.warmed)
    (word_at X₁.warmed (Or.inl (by first | rfl | simp [Cond.onTables, Cond.keeps, Cond.steady])) (hts _ hini)) hroom.1 hroom.2.1 hroom.2.2.1 hroom.2.2.2 hPc
  have step : ∀ (t T' : State) (L' : List Loc), T'.heap = t.heap → (∀ q ∈ L', va_A wc H.size q.base) → va_F (va_A wc H.size) ((T.setVm vm₁).calling (F0 m pc ls rest) mk av.toArray) t → ∀ w1, va_P K.1 vwCl w1 t.heap → va_D (va_A wc H.size) w1 →
      va_P K.1 vwCl (wr ++ w1) t.heap ∧ va_D (va_A w0 s.heap.size) (wr ++ w1) ∧ va_S (va_A w0 s.heap.size) s.heap t.heap (locs ++ L') := by
    intro t T' L' e1 hL hF w1 hP1 hD1
    have hz : H.size ≤ t.heap.size := by have := hF.1; rw [← hT]; exact this
    have hk : ∀ q : Nat, q < H.size → ¬ va_A wc H.size q → t.heap[q]? = H[q]? := fun q h1 h2 => by
      have := hF.2 q (by show q < T.heap.size; rw [hT]; exact h1) h2
      rw [this]; show T.heap[q]? = _; rw [hT]
    obtain ⟨g1, g2⟩ := va_join hP hD isC isR hC hR hnR hdis hk hFc hP1 hD1
    refine ⟨g1, g2, Nat.le_trans hS.1 hz, fun q h1 h2 => ?_, fun q hq => ?_⟩
    · rw [hk q (Nat.lt_of_lt_of_le h1 hS.1) (fun z => h2 (hFc q z))]
      exact hS.2.1 q h1 h2
    · rcases List.mem_append.mp hq with h | h
      · exact hS.2.2 q h
      · exact hFc _ (hL q h)
  rcases hpay with ⟨v, t, T', L', X', hL, e1, e2, ⟨⟨w1, hp, hP1, hD1⟩, hF⟩, hsteps⟩ | ⟨v, t, T', L', X', hL, e1, e2, ⟨⟨w1, ⟨Xn, hp, hx1, cellX, hx2, hx3, hx4⟩, hP1, hD1⟩, hF⟩, hsteps⟩
  · obtain ⟨g1, g2, g3⟩ := step t T' L' e1 hL hF w1 hP1 hD1
    obtain ⟨t2, a1, b1⟩ := kr v w1 hp t.heap (locs ++ L') ls g1 g2 g3 hl T' e1 X'
    exact ⟨t2, hgo _ (hsteps.trans a1), b1⟩
  · obtain ⟨g1, g2, g3⟩ := step t T' L' e1 hL hF w1 hP1 hD1
    obtain ⟨hcov, hc1, hc2, is, w2, hn2, hm2, hthr⟩ := kt Xn w1 hp
    have h22 : is.filterMap (fun i => (wr ++ w1)[i]?) = w2 := by
      have h1 : is.filterMap (fun i => (wr ++ w1)[i]?) = (is.map (fun i => (wr ++ w1)[i]?)).filterMap id := by rw [List.filterMap_map]; rfl
      rw [h1, hm2, List.filterMap_map]
      simp
    have hout : ∀ x ∈ c.exceptionTable.toList, covers x pc = false := by
      intro x hx9
      have h1 : (x.startPc, x.endPc, x.handlerPc, x.catchType) ∈ hh := by rw [← htab]; exact List.mem_map.mpr ⟨x, hx9, rfl⟩
      have h2 : (!(covers x pc)) = true := List.all_eq_true.mp hcov _ h1
      cases hc9 : covers x pc
      · rfl
      · rw [hc9] at h2; cases h2
    obtain ⟨t2, a1, b1⟩ := zx_leave (H := t.heap) (Qc := zc_Q K w0 s.heap.size post thr) (mc := mc) (ms := ms) (tc := tc) (ts := ts) (free := va_A w0 s.heap.size) e1 X' hlk (a := v) (g := F0 m pc ls rest) rfl rfl rfl hout hc1 hc2 g3.2.2 (fun t3 h3 hW3 => ⟨⟨w2, ⟨Xn, hthr, trivial, cellX, by rw [h3]; exact hx2, hx3, by
        have q1 : t.vm.Alike t3.vm := by
          have := X'.warmed.alike
          rw [e2] at this
          exact this.symm.trans hW3.alike
        rw [q1.findClass]; exact hx4⟩, by rw [h3]; exact g1.sub is h22, g2.sub is hn2 hm2⟩, by rw [h3]; exact g3.1, fun q h4 h5 => by rw [h3]; exact g3.2.1 q h4 h5⟩)
    exact ⟨t2, hgo _ (hsteps.trans a1), b1⟩
end ZE
