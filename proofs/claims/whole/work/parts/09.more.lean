/-! more rows of the walk: tables, constructors, calls of the JDK's -/
/-- the tables by their numbers -/
def ztab (i j : Nat) : Nat := match zst_tabs[i]? with
  | some r => r.2.2.getD j 0
  | none => 0
theorem zby_updB (t : Nat → Nat) (k : Nat) (x : Int32) : upd (zby t) k (vp_nar .byte (x.toInt8.toInt32)) = zby (va_up t k (zlow x)) := by
  rw [pk_vb, ← vp_nar_byte]
  exact zby_upd t k x
theorem zlow_sb : ∀ c, c < 256 → zlow (sb_b c) = c := by decide +kernel
section ZM
variable {G : zg} {l : Launch} {K : zk} {rm : Room} {own : String} {cc : ByteArray} {nl : Nat} {k n pc : Nat} {L L' : List (Nat × Value)} {st : List Value} {ws ws' : va_W}
theorem zj_tlen (F : zf G l K rm own cc nl) {C nm : String} {xs : List Nat} (d : decode cc pc = .ok (.arraylength, 1)) (t : Nat) (hi : zst_tabs[t]? = some (C, nm, xs)) (kk : zj G k n (pc + 1) L (.int (nI xs.length) :: st) ws) : zj G k n pc L (.ref (K.2.2 t) :: st) ws := by
  obtain ⟨p, l, e, R, s, m, args, below, meth, c, K, A, nL, Q⟩ := G
  obtain ⟨hx, hb, hml, hown, hts, hK, hA, hZ, hlk, hst, rfl, rfl, rfl, rfl⟩ := F
  intro H locs ls hP hD hS hl
  obtain ⟨cell, h1, h2, h3, h4, h5, h6, h7⟩ := (hZ.2.2.1 t _ hi).2
  exact W.alen hx hb (by rw [hS.2.1 _ (Array.getElem?_eq_some_iff.mp h1).1 h7]; exact h1) h2 h5 rfl rfl d (kk H locs ls hP hD hS hl)
theorem zj_objInit (F : zf G l K rm own cc nl) {a idx : Nat} (d : decode cc pc = .ok (.invokespecial idx, 3)) (hw : Cond.methodLink own idx Lib.objectInit ∈ zT) (hf : 1 ≤ rm.frames) (hl : (st.map fun v => v.category).sum + 12 ≤ rm.locals) (kk : zj G k n (pc + 3) L st ws) : zj G k n pc L (.ref a :: st) ws := by
  obtain ⟨p, l, e, R, s, m, args, below, meth, c, K, A, nL, Q⟩ := G
  obtain ⟨hx, hb, hml, hown, hts, hK, hA, hZ, hlk, hst, rfl, rfl, rfl, rfl⟩ := F
  intro H locs ls hP hD hS hls
  refine W.objInit hx hb hown (hts _ hw) (hts _ q_23) (hts _ q_24) rfl (hls.1.trans hml.symm) rfl d hf (by show 2 * 0 + _ + _ ≤ _; omega) ?_
  exact kk H locs ls hP hD hS hls
theorem zj_copyB (F : zf G l K rm own cc nl) {a0 a1 n0 n1 m : Nat} {f g : Nat → Nat} {idx : Nat} (d : decode cc pc = .ok (.invokestatic idx, 3)) (hw : Cond.methodLink own idx arraycopyName ∈ zT) (q0 q1 : Nat) (ha0 : ws[q0]? = some (zB K a0 n0 (zby f))) (ha1 : ws[q1]? = some (zB K a1 n1 (zby g))) (h4 : m ≤ n0) (h5 : m ≤ n1) (hm : m < 2 ^ 31) (hf : 1 ≤ rm.frames) (hl : (st.map fun v => v.category).sum + (nativeFrameWords "java/lang/System" "arraycopy" 5 + 11) ≤ rm.locals)
    (hws : ws.set q1 (zB K a1 n1 (zby (va_cpy f g 0 0 m))) = ws') (kk : zj G k n (pc + 3) L st ws') : zj G k n pc L (.int (nI m) :: .int (nI 0) :: .ref a1 :: .int (nI 0) :: .ref a0 :: st) ws := by
  obtain ⟨p, l, e, R, s, mm, args, below, meth, c, K, A, nL, Q⟩ := G
  obtain ⟨hx, hb, hml, hown, hts, hK, hA, hZ, hlk, hst, rfl, rfl, rfl, rfl⟩ := F
  intro H locs ls hP hD hS hls
  subst hws
  have hc0 : (nI 0).toNatClampNeg = 0 := nI_clamp (by decide)
  have hcm : (nI m).toNatClampNeg = m := nI_clamp hm
  refine va_copyi hx hb (hml.trans hls.1.symm) hown (hts _ hw) (hts _ q_174) (hts _ q_173) (hts _ (by decide +kernel)) hK hP hD hS q0 q1 0 0 ha0 ha1 rfl rfl rfl (nI_pos (by decide)) (nI_pos (by decide)) (nI_pos hm) (by rw [hc0, hcm]; omega) (by rw [hc0, hcm]; omega) (fun i _ => sb_fitB _) hf hl d ?_
  intro H1 locs1 hP1 hD1 hS1
  have he : va_cpy (zby f) (zby g) (nI 0).toNatClampNeg (nI 0).toNatClampNeg (nI m).toNatClampNeg = zby (va_cpy f g 0 0 m) := by
    rw [hc0, hcm]
    funext j
    unfold va_cpy zby
    by_cases h : 0 ≤ j ∧ j < 0 + m
    · simp only [h, and_self, if_true]
    · simp only [h, if_false]
  rw [he] at hP1 hD1
  exact kk H1 locs1 ls hP1 hD1 hS1 hls
theorem zj_min (F : zf G l K rm own cc nl) {a b idx : Nat} (d : decode cc pc = .ok (.invokestatic idx, 3)) (hw : Cond.methodLink own idx Lib.Math.min.name ∈ zT) (ha : a < 2 ^ 31) (hb' : b < 2 ^ 31) (hf : 1 ≤ rm.frames) (hl : (st.map fun v => v.category).sum + 13 ≤ rm.locals) (hk : k ≤ rm.cells) (hn : n ≤ rm.slots) (kk : zj G k n (pc + 3) L (.int (nI (min a b)) :: st) ws) : zj G k n pc L (.int (nI b) :: .int (nI a) :: st) ws := by
  obtain ⟨p, l, e, R, s, m, args, below, meth, c, K, A, nL, Q⟩ := G
  obtain ⟨hx, hb, hml, hown, hts, hK, hA, hZ, hlk, hst, rfl, rfl, rfl, rfl⟩ := F
  intro H locs ls hP hD hS hls
  refine va_mmin hx hb (hml.trans hls.1.symm) hown (hts _ hw) (hts _ q_465) (hts _ q_16) (hts _ q_466) hf hl hk hn d ?_
  have he : (if nI b < nI a then nI b else nI a) = nI (min a b) := by
    by_cases h : b < a
    · rw [if_pos ((nI_ltI hb' ha).mpr h), Nat.min_eq_right (Nat.le_of_lt h)]
    · rw [if_neg (fun q => h ((nI_ltI hb' ha).mp q)), Nat.min_eq_left (Nat.le_of_not_lt h)]
  rw [he]
  exact kk H locs ls hP hD hS hls
theorem zj_max (F : zf G l K rm own cc nl) {x y z : Int32} {idx : Nat} (d : decode cc pc = .ok (.invokestatic idx, 3)) (hw : Cond.methodLink own idx Lib.Math.max.name ∈ zT) (hf : 1 ≤ rm.frames) (hl : (st.map fun v => v.category).sum + 13 ≤ rm.locals) (hk : k ≤ rm.cells) (hn : n ≤ rm.slots) (hz : (if x < y then y else x) = z) (kk : zj G k n (pc + 3) L (.int z :: st) ws) : zj G k n pc L (.int y :: .int x :: st) ws := by
  obtain ⟨p, l, e, R, s, m, args, below, meth, c, K, A, nL, Q⟩ := G
  obtain ⟨hx, hb, hml, hown, hts, hK, hA, hZ, hlk, hst, rfl, rfl, rfl, rfl⟩ := F
  intro H locs ls hP hD hS hls
  subst hz
  exact va_mmax hx hb (hml.trans hls.1.symm) hown (hts _ hw) (hts _ q_468) (hts _ q_16) (hts _ q_469) hf hl hk hn d (kk H locs ls hP hD hS hls)
theorem zj_new (F : zf G l K rm own cc nl) {C : String} {T : u_T} {N ci idx : Nat} {ty0 : Nat → FieldType} {fs : List Value} (d : decode cc pc = .ok (.new idx, 3)) (hc : vwCl[ci]? = some (C, T, N)) (hin : ∀ w ∈ u_ws C T N, w ∈ zT) (hty : ∀ k, k < N → parseFieldDescriptor (T k).2.2.1 = some (ty0 k)) (hw1 : Cond.classLink own idx C ∈ zT) (hw2 : Cond.instantiable C N ∈ zT) (hw3 : Cond.initialized C ∈ zT) (hfs : ∀ j, j < N → defaultValue (ty0 j) = vp_V fs j) (hk : k + 1 ≤ rm.cells) (hn : n + N ≤ rm.slots)
    (kk : ∀ q, zj G (k + 1) (n + N) (pc + 3) L (.ref q :: st) (ws ++ [(q, .inr (ci, fs))])) : zj G k n pc L st ws := by
  obtain ⟨p, l, e, R, s, m, args, below, meth, c, K, A, nL, Q⟩ := G
  obtain ⟨hx, hb, hml, hown, hts, hK, hA, hZ, hlk, hst, rfl, rfl, rfl, rfl⟩ := F
  intro H locs ls hP hD hS hls
  exact va_new hx hb hts hin ty0 hty hown (hts _ hw1) (hts _ hw2) (hts _ hw3) hK hP hD hS hA hc hfs hk hn d (fun q H1 hP1 hD1 hS1 => kk q H1 locs ls hP1 hD1 hS1 hls)
theorem zj_newa (F : zf G l K rm own cc nl) {atype : ArrayType} {ty : FieldType} {tc : ClassId} {m : Int32} {N' : Nat} {a0 : vp_A} (d : decode cc pc = .ok (.newarray atype, 2)) (t : Nat) (ht : (zty K)[t]? = some (tc, ty)) (hty : newarray.typeOf atype = ty) (hprim : ty = .byte ∨ ty = .int ∨ ty = .long) (harr : Cond.arrayClass ty ∈ zT) (ha : ∀ cA : ClassId, vp_cell cA a0 = arrV cA N' (fun _ => defaultValue ty)) (hm : m = nI N') (hN : N' < 2 ^ 26) (hk : k + 1 ≤ rm.cells) (hn : n + N' ≤ rm.slots)
    (kk : ∀ q, zj G (k + 1) (n + N') (pc + 2) L (.ref q :: st) (ws ++ [(q, .inl (tc, a0))])) : zj G k n pc L (.int m :: st) ws := by
  obtain ⟨p, l, e, R, s, mm, args, below, meth, c, K, A, nL, Q⟩ := G
  obtain ⟨hx, hb, hml, hown, hts, hK, hA, hZ, hlk, hst, rfl, rfl, rfl, rfl⟩ := F
  intro H locs ls hP hD hS hls
  subst hm
  refine va_newa hx hb (by rw [hty]; exact hts _ harr) hty hK hP hD hS hA ha (nI_pos (by omega)) (nI_clamp (by omega)) (by rcases hprim with rfl | rfl | rfl <;> simp only [componentBytes] <;> omega) hk hn d ?_
  intro q cA H1 hK1 hP1 hD1 hS1
  have h1 := (hK.2 t _ ht).2
  have h2 := (hK1.2 3 (cA, ty) rfl).2
  have hcA : cA = tc := by
    rcases hprim with rfl | rfl | rfl
    · exact Option.some.inj ((show s.vm.findClass _ = some cA from h2).symm.trans (show s.vm.findClass _ = some tc from h1))
    · exact Option.some.inj ((show s.vm.findClass _ = some cA from h2).symm.trans (show s.vm.findClass _ = some tc from h1))
    · exact Option.some.inj ((show s.vm.findClass _ = some cA from h2).symm.trans (show s.vm.findClass _ = some tc from h1))
  subst hcA
  exact kk q H1 locs ls hP1 hD1 hS1 hls
/-- the method's own name: a constructor may write its final fields -/
def zn (G : zg) (nm : String) : Prop := match G with
  | (p, l, e, R, s, m, args, below, meth, c, K, A, nL, Q) => meth.name = nm
theorem zj_putF (F : zf G l K rm own cc nl) (hnm0 : zn G "<init>") {C : String} {T : u_T} {N ci index a : Nat} {fs : List Value} {v : Value} {ty0 : Nat → FieldType} (d : decode cc pc = .ok (.putfield index, 3)) (q j : Nat) (he : ws[q]? = some (a, .inr (ci, fs))) (hc : vwCl[ci]? = some (C, T, N)) (hin : ∀ w ∈ u_ws C T N, w ∈ zT) (hty : ∀ k, k < N → parseFieldDescriptor (T k).2.2.1 = some (ty0 k)) (hnm : ∀ a, a < N → ∀ b, b < N → a ≠ b → (T a).2.1 ≠ (T b).2.1) (hj : j < N) (hw : Cond.fieldLink own index (T j).1 (T j).2.1 (T j).2.2.1 ∈ zT) (hfin : (T j).2.2.2 = true) (hdecl : (T j).1 = own) (hn : narrow (ty0 j) v = v) (hfit : fits (ty0 j) v = true) (hl : j < fs.length) (hws : ws.set q (a, .inr (ci, fs.set j v)) = ws') (kk : zj G k n (pc + 3) L st ws') : zj G k n pc L (v :: .ref a :: st) ws := by
  obtain ⟨p, l, e, R, s, m, args, below, meth, c, K, A, nL, Q⟩ := G
  obtain ⟨hx, hb, hml, hown, hts, hK, hA, hZ, hlk, hst, rfl, rfl, rfl, rfl⟩ := F
  intro H locs ls hP hD hS hL
  subst hws
  exact va_putF hx hb hts hin ty0 hty hnm hown hK hP hD hS q he hc j hj (hts _ hw) (fun _ h9 => h9) hfin hnm0 hdecl (hty j hj) hn hfit hl d (fun H1 locs1 hP1 hD1 hS1 => kk H1 locs1 ls hP1 hD1 hS1 hL)
theorem zi_I (F : zf G l K rm own cc nl) {y : MethodName} {index b maxL : Nat} {bytes : ByteArray} {As rest : List Value} (d : decode cc pc = .ok (.invokespecial index, 3)) (hw1 : Cond.methodLink own index y ∈ zT) (hw2 : Cond.instanceMethod y ∈ zT) {cw : Cond} (hcw : cw ∈ zT) (hcode : cw = .code y bytes maxL none) (hy1 : y.name = "<init>") (hy : y.cls ≠ "java/lang/invoke/MethodHandle" ∧ y.cls ≠ "java/lang/invoke/VarHandle") (hd : (parseMethodDescriptor y.desc).map (fun d => d.parameters.length) = some As.length) : zi G pc (As.reverse ++ .ref b :: rest) rest y (.ref b :: As) ws := by
  obtain ⟨p, l, e, R, s, m, args, below, meth, c, K, A, nL, Q⟩ := G
  obtain ⟨hx, hb, hml, hown, hts, hK, hA, hZ, hlk, hst, rfl, rfl, rfl, rfl⟩ := F
  subst hcode
  intro H locs ls k n T hP hls hT X
  have hpl : e.platform.magicAccessors = ({} : Platform).magicAccessors := by rw [X.admits.platform]
  obtain ⟨mk, methM, cM, kP, vm₁, hnamed, hmethM, hcodeM, -, hlocalsM, -, hkP, -, hW₁, hstep₁⟩ := Steps.initColdArgs (e := e) X.here hx X.warmed hpl hown hy1 hy (hts _ hw1) (hts _ hw2) (hts _ hcw) (f := F0 m pc ls (As.reverse ++ .ref b :: rest)) rfl (argsL := As) (rest := rest) (zi_hlen hd) rfl (by rw [hb]; exact d)
  exact ⟨vm₁, mk, X.noted hW₁, hnamed, fun target h => hstep₁ _ fun acts => by rw [doInvoke_state]; exact h⟩
theorem zi_IN (F : zf G l K rm own cc nl) {y : MethodName} {host : String} {index b maxL : Nat} {bytes : ByteArray} {As rest : List Value} (d : decode cc pc = .ok (.invokespecial index, 3)) (hw1 : Cond.methodLinkNest own index y host ∈ zxW) (hw2 : Cond.instanceMethod y ∈ zT) {cw : Cond} (hcw : cw ∈ zT) (hcode : cw = .code y bytes maxL none) (hy1 : y.name = "<init>") (hy : y.cls ≠ "java/lang/invoke/MethodHandle" ∧ y.cls ≠ "java/lang/invoke/VarHandle") (hd : (parseMethodDescriptor y.desc).map (fun d => d.parameters.length) = some As.length) : zi G pc (As.reverse ++ .ref b :: rest) rest y (.ref b :: As) ws := by
  obtain ⟨p, l, e, R, s, m, args, below, meth, c, K, A, nL, Q⟩ := G
  obtain ⟨hx, hb, hml, hown, hts, hK, hA, hZ, hlk, hst, rfl, rfl, rfl, rfl⟩ := F
  subst hcode
  intro H locs ls k n T hP hls hT X
  have hpl : e.platform.magicAccessors = ({} : Platform).magicAccessors := by rw [X.admits.platform]
  obtain ⟨mk, methM, cM, kP, vm₁, hnamed, hmethM, hcodeM, -, hlocalsM, -, hkP, -, hW₁, hstep₁⟩ := Steps.initColdArgsNest (e := e) X.here hx X.warmed hpl hown hy1 hy (va_Nw.use rfl (hZ.2.2.2 _ hw1)) (hts _ hw2) (hts _ hcw) (f := F0 m pc ls (As.reverse ++ .ref b :: rest)) rfl (argsL := As) (rest := rest) (zi_hlen hd) rfl (by rw [hb]; exact d)
  exact ⟨vm₁, mk, X.noted hW₁, hnamed, fun target h => hstep₁ _ fun acts => by rw [doInvoke_state]; exact h⟩
end ZM
theorem zc_ofN {l : Launch} {K : zk} {y : MethodName} {rm : Room} {mc ms tc ts : Nat} {av : List Value} {w0 : va_W} {post : Option Value → va_W → Prop} {thr : String → va_W → Prop} {cc : ByteArray} {nl : Nat} {ret : Option FieldType}
    (hy : plainName y.cls = true) (hlen : (lg_sl av).length ≤ nl)
    (body : ∀ G : zg, zf G l K rm y.cls cc nl → zq G ret [] w0 mc ms tc ts post thr → zn G y.name → zj G 0 0 0 (lv_args 0 av) [] w0) : zc l K y (.code y cc nl ret) rm mc ms tc ts av w0 post thr := by
  intro sz
  refine zx_ofW (cc := cc) (maxL := nl) (ret := ret) hy rfl ?_
  intro p e s m args below meth c s₁ B hml hv
  obtain ⟨rfl, hsz, hP, hK, hD0, hZ⟩ := hv
  subst hsz
  have hts := atoms_spec (ws := Cond.code y cc nl ret :: zT) B.pre
  have hl := lv_entry av (n := nl) hlen
  have htab : c.exceptionTable.toList.map (fun h => (h.startPc, h.endPc, h.handlerPc, h.catchType)) = [] := by
    have h1 := B.noHandlers (hts _ List.mem_cons_self)
    have h0 : c.exceptionTable.size = 0 := by simpa [Array.isEmpty] using h1
    have h2 : c.exceptionTable.toList = [] := List.eq_nil_of_length_eq_zero (by simpa using h0)
    rw [h2]; rfl
  rw [lg_entry_eq]
  exact body (p, l, e, rm, s, m, av.toArray, below, meth, c, K, va_A w0 s.heap.size, nl, _) ⟨B.exec, B.bytes, hml, findClass_of_methodNamed B.named, fun w h => hts w (List.mem_cons_of_mem _ h), hK, fun q h => Or.inr h, hZ, B.notSynchronized, zc_notStatics hP, rfl, rfl, rfl, rfl⟩ ⟨B.returns, htab, rfl, rfl⟩ (name_of_methodNamed B.named B.method).1 s.heap [] _ hP hD0.self va_S.rf hl
