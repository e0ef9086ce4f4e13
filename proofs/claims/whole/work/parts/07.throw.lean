/-! a method makes an exception and throws it -/
section ZT2
variable {G : zg} {l : Launch} {K : zk} {rm : Room} {own : String} {cc : ByteArray} {nl : Nat} {k n pc : Nat} {L : List (Nat × Value)} {st : List Value} {ws : va_W}
variable {hh : List (Nat × Nat × Nat × Nat)} {w0 : va_W} {mc ms tc ts : Nat} {post : Option Value → va_W → Prop} {thr : String → va_W → Prop}
/-- what vx_throwS leaves, in a contract's words -/
theorem zt_end {p : Program} {l : Launch} {e : Env} {R : Room} {s : State} {m : MethodId} {args : Array Value} {below : List Frame} {meth : Method} {c : Code} {H : Heap} {locs : List Loc} {k n : Nat} {g : JFrame} {X : String}
    (hP : va_P K.1 vwCl ws H) (hD : va_D (va_A w0 s.heap.size) ws) (hS : va_S (va_A w0 s.heap.size) s.heap H locs) (hp : thr X ws)
    (kk : W p l e R s m args below meth c H locs k n (vx_MQ below (fun _ _ _ _ => False) (fun E st t => E = X ∧ st = s ∧ s.vm.Alike t.vm ∧ H.size ≤ t.heap.size ∧ ∀ q : Nat, q < H.size → t.heap[q]? = H[q]?) args s tc ts (fun q => va_A w0 s.heap.size q ∨ False)) g) :
    W p l e R s m args below meth c H locs k n (zx_Q below (zc_Q K w0 s.heap.size post thr) args s mc ms tc ts (va_A w0 s.heap.size)) g := by
  refine zx_mono (fun t ht => ?_) kk
  obtain ⟨o, h1, h2, h3⟩ := ht
  rcases h3 with ⟨h3, -⟩ | ⟨q, rfl, E, ce, L', ⟨rfl, -, hal, hz, hq⟩, hc1, hc2, hc3, hW, hsm, hf⟩
  · exact h3.elim
  refine ⟨.threw q, h1, h2, ⟨⟨ws, ⟨E, hp, ?_, ce, hc1, by rw [hc2]; rfl, by rw [hW.alike.findClass]; exact hc3⟩, hP.kept (fun k q hk => hq q.1 (hP k q hk).lt), hD⟩, Nat.le_trans hS.1 hz, fun a h4 h5 => (hq a (Nat.lt_of_lt_of_le h4 hS.1)).trans (hS.2.1 a h4 h5)⟩, L', ⟨hW, Or.inr ⟨⟨q, rfl⟩, hsm⟩⟩, fun z hz => (hf z hz).elim id False.elim⟩
  trivial
def zt_good (own : String) (i0 : Nat) (X : String) (L : List Cond) : Prop := ∀ w ∈ Cond.classLink own i0 X :: Cond.initialized X :: L, vx_ot w = true ∧ (w ∈ zT ∨ (w ∈ zxW ∧ w.onTables = true))
theorem zj_throwS (F : zf G l K rm own cc nl) {ret : Option FieldType} (E : zq G ret hh w0 mc ms tc ts post thr) (hl : l.stackTraces = false) {X text : String} {names : List String} {i0 i1 i2 : Nat} (d0 : decode cc pc = .ok (.new i0, 3)) (d1 : decode cc (pc + 3) = .ok (.dup, 1)) (d2 : decode cc (pc + 4) = .ok (.ldc i1, 2)) (d3 : decode cc (pc + 6) = .ok (.invokespecial i2, 3)) (d4 : decode cc (pc + 9) = .ok (.athrow, 1))
    (hfit : Bundle.fit X = true) (hnames : ∀ n ∈ names, Bundle.fit n = true) (hw1 : Cond.stringRef own i1 text ∈ zxW) (hat : zt_good own i0 X (vx_atS own i2 X names))
    (hroom : names.length + 3 < rm.frames ∧ (st.map fun v => v.category).sum + (13 * (names.length + 1) + 43) ≤ rm.locals ∧ k + 1 ≤ rm.cells ∧ n + 6 ≤ rm.slots) (hcov : hh.all (fun h => !(decide (h.1 ≤ pc + 9) && decide (pc + 9 < h.2.1))) = true) (hk : k + 1 ≤ tc) (hn : n + 6 ≤ ts) (hp : thr X ws) : zj G k n pc L st ws := by
  obtain ⟨p, l, e, R, s, m, args, below, meth, c, K, A, nL, Q⟩ := G
  obtain ⟨hx, hb, hml, hown, hts, hK, hA, hZ, hlk, hst, rfl, rfl, rfl, rfl⟩ := F
  obtain ⟨hr, htab, rfl, rfl⟩ := E
  intro H locs ls hP hD hS hls
  have hall : ∀ w ∈ Cond.classLink own i0 X :: Cond.initialized X :: vx_atS own i2 X names, w.before args s = true := fun w hw => ((hat w hw).2).elim (hts w) (fun h => va_Nw.use h.2 (hZ.2.2.2 w h.1))
  have hout : ∀ x ∈ c.exceptionTable.toList, covers x (pc + 9) = false := by
    intro x hx9
    have h1 : (x.startPc, x.endPc, x.handlerPc, x.catchType) ∈ hh := by rw [← htab]; exact List.mem_map.mpr ⟨x, hx9, rfl⟩
    have h2 : (!(covers x (pc + 9))) = true := List.all_eq_true.mp hcov _ h1
    cases hc9 : covers x (pc + 9)
    · rfl
    · rw [hc9] at h2; cases h2
  have hsr : (Cond.stringRef own i1 text).before #[] s = true := hZ.2.2.2 _ hw1
  obtain ⟨-, -, -, sa, -, -, -, -, -, hev⟩ := Cond.stringRef_spec hown hsr
  refine zt_end (X := X) hP hD hS hp ?_
  exact vx_throwS hx hb hl hown hfit hnames (hall _ List.mem_cons_self) (hall _ (List.mem_cons_of_mem _ List.mem_cons_self)) (vk_R.of hsr hev) (fun w hw => hall w (List.mem_cons_of_mem _ (List.mem_cons_of_mem _ hw))) (fun w hw => (hat w hw).1) hZ.1.1 hZ.2.1 hS (hls.1.trans hml.symm) d0 d1 d2 d3 d4 hout hroom.1 hroom.2.1 hroom.2.2.1 hroom.2.2.2 hlk
    (fun t h1 h2 h3 => ⟨rfl, rfl, h1, h2, h3⟩) (fun z hz => Or.inl (hS.2.2 z hz)) hk hn
theorem zj_throw0 (F : zf G l K rm own cc nl) {ret : Option FieldType} (E : zq G ret hh w0 mc ms tc ts post thr) (hl : l.stackTraces = false) {X : String} {names : List String} {i0 i2 : Nat} (d0 : decode cc pc = .ok (.new i0, 3)) (d1 : decode cc (pc + 3) = .ok (.dup, 1)) (d3 : decode cc (pc + 4) = .ok (.invokespecial i2, 3)) (d4 : decode cc (pc + 7) = .ok (.athrow, 1))
    (hfit : Bundle.fit X = true) (hnames : ∀ n ∈ names, Bundle.fit n = true) (hat : zt_good own i0 X (vx_at0 own i2 X names))
    (hroom : names.length + 3 < rm.frames ∧ (st.map fun v => v.category).sum + (13 * (names.length + 1) + 43) ≤ rm.locals ∧ k + 1 ≤ rm.cells ∧ n + 6 ≤ rm.slots) (hcov : hh.all (fun h => !(decide (h.1 ≤ pc + 7) && decide (pc + 7 < h.2.1))) = true) (hk : k + 1 ≤ tc) (hn : n + 6 ≤ ts) (hp : thr X ws) : zj G k n pc L st ws := by
  obtain ⟨p, l, e, R, s, m, args, below, meth, c, K, A, nL, Q⟩ := G
  obtain ⟨hx, hb, hml, hown, hts, hK, hA, hZ, hlk, hst, rfl, rfl, rfl, rfl⟩ := F
  obtain ⟨hr, htab, rfl, rfl⟩ := E
  intro H locs ls hP hD hS hls
  have hall : ∀ w ∈ Cond.classLink own i0 X :: Cond.initialized X :: vx_at0 own i2 X names, w.before args s = true := fun w hw => ((hat w hw).2).elim (hts w) (fun h => va_Nw.use h.2 (hZ.2.2.2 w h.1))
  have hout : ∀ x ∈ c.exceptionTable.toList, covers x (pc + 7) = false := by
    intro x hx9
    have h1 : (x.startPc, x.endPc, x.handlerPc, x.catchType) ∈ hh := by rw [← htab]; exact List.mem_map.mpr ⟨x, hx9, rfl⟩
    have h2 : (!(covers x (pc + 7))) = true := List.all_eq_true.mp hcov _ h1
    cases hc9 : covers x (pc + 7)
    · rfl
    · rw [hc9] at h2; cases h2
  refine zt_end (X := X) hP hD hS hp ?_
  exact vx_throw0 hx hb hl hown hfit hnames (hall _ List.mem_cons_self) (hall _ (List.mem_cons_of_mem _ List.mem_cons_self)) (fun w hw => hall w (List.mem_cons_of_mem _ (List.mem_cons_of_mem _ hw))) (fun w hw => (hat w hw).1) hZ.1.1 hZ.2.1 hS (hls.1.trans hml.symm) d0 d1 d3 d4 hout hroom.1 (by have := hroom.2.1; omega) hroom.2.2.1 hroom.2.2.2 hlk
    (fun t h1 h2 h3 => ⟨rfl, rfl, h1, h2, h3⟩) (fun z hz => Or.inl (hS.2.2 z hz)) hk hn
end ZT2
theorem at_ZB_41 : zt_good "ZlibBox" 37 "java/lang/IndexOutOfBoundsException" (vx_atS "ZlibBox" 41 "java/lang/IndexOutOfBoundsException" zt_up) := by unfold zt_good; decide +kernel
theorem at_ZB_52 : zt_good "ZlibBox" 48 "java/lang/IllegalArgumentException" (vx_atS "ZlibBox" 52 "java/lang/IllegalArgumentException" zt_up) := by unfold zt_good; decide +kernel
theorem at_MO_55 : zt_good "ZlibBoxModel" 53 "java/lang/UnsupportedOperationException" (vx_at0 "ZlibBoxModel" 55 "java/lang/UnsupportedOperationException" zt_up) := by unfold zt_good; decide +kernel
theorem at_MO_95 : zt_good "ZlibBoxModel" 93 "java/lang/IndexOutOfBoundsException" (vx_at0 "ZlibBoxModel" 95 "java/lang/IndexOutOfBoundsException" zt_up) := by unfold zt_good; decide +kernel
theorem at_BR_24 : zt_good "ZlibBox$BitReader" 20 "java/lang/UnsupportedOperationException" (vx_atS "ZlibBox$BitReader" 24 "java/lang/UnsupportedOperationException" zt_up) := by unfold zt_good; decide +kernel
theorem at_CO_40 : zt_good "ZlibBox$Codes" 36 "java/lang/UnsupportedOperationException" (vx_atS "ZlibBox$Codes" 40 "java/lang/UnsupportedOperationException" zt_up) := by unfold zt_good; decide +kernel
theorem at_PA_127 : zt_good "ZlibBox$Packer" 123 "java/lang/IndexOutOfBoundsException" (vx_atS "ZlibBox$Packer" 127 "java/lang/IndexOutOfBoundsException" zt_up) := by unfold zt_good; decide +kernel
theorem at_UN_83 : zt_good "ZlibBox$Unpacker" 79 "java/lang/UnsupportedOperationException" (vx_atS "ZlibBox$Unpacker" 83 "java/lang/UnsupportedOperationException" zt_up) := by unfold zt_good; decide +kernel
theorem at_UN_184 : zt_good "ZlibBox$Unpacker" 180 "java/lang/IndexOutOfBoundsException" (vx_atS "ZlibBox$Unpacker" 184 "java/lang/IndexOutOfBoundsException" zt_up) := by unfold zt_good; decide +kernel
