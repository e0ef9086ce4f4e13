/-! the walk zj: locals, stack and world stand in the goal; the heap is inside -/
def zst_tabs : List (String × String × List Nat) := [
  ("ZlibBox", "LENGTH_BASES", [3, 4, 5, 6, 7, 8, 9, 10, 11, 13, 15, 17, 19, 23, 27, 31, 35, 43, 51, 59, 67, 83, 99, 115, 131, 163, 195, 227, 258]),
  ("ZlibBox", "LENGTH_BITS", [0, 0, 0, 0, 0, 0, 0, 0, 1, 1, 1, 1, 2, 2, 2, 2, 3, 3, 3, 3, 4, 4, 4, 4, 5, 5, 5, 5, 0]),
  ("ZlibBox", "DISTANCE_BASES", [1, 2, 3, 4, 5, 7, 9, 13, 17, 25, 33, 49, 65, 97, 129, 193, 257, 385, 513, 769, 1025, 1537, 2049, 3073, 4097, 6145, 8193, 12289, 16385, 24577]),
  ("ZlibBox", "DISTANCE_BITS", [0, 0, 0, 0, 1, 1, 2, 2, 3, 3, 4, 4, 5, 5, 6, 6, 7, 7, 8, 8, 9, 9, 10, 10, 11, 11, 12, 12, 13, 13]),
  ("ZlibBox$Unpacker", "LENGTH_ORDER", [16, 17, 18, 0, 8, 7, 9, 6, 10, 5, 11, 4, 12, 3, 13, 2, 14, 1, 15]),
  ("ZlibBoxModel", "ORDER", [16, 17, 18, 0, 8, 7, 9, 6, 10, 5, 11, 4, 12, 3, 13, 2, 14, 1, 15])]
/-- what is static: the tables, at the cells q, and two fields of Throwable; no method writes them -/
def zst (q : Nat → Nat) (A : Nat → Prop) (U : State) (H : Heap) : Prop :=
  (vx_Zq "java/lang/Throwable" "UNASSIGNED_STACK" "[Ljava/lang/StackTraceElement;" A U H ∧ va_Nc "java/lang/IndexOutOfBoundsException" "java/lang/UnsupportedOperationException" U) ∧ vx_Zq "java/lang/Throwable" "SUPPRESSED_SENTINEL" "Ljava/util/List;" A U H ∧
  (∀ (i : Nat) (r : String × String × List Nat), zst_tabs[i]? = some r → va_Z r.1 r.2.1 "[I" (.ref (q i)) A U H ∧ va_T .int (q i) r.2.2.length (fun j => .int (nI (r.2.2.getD j 0))) A U H) ∧ ∀ w ∈ zxW, va_Nw w U
theorem zok_warm {w : Cond} {s U : State} (h : zok w = true) (hW : s.WarmedH U.vm) (hZ : va_Nw w s) : va_Nw w U := by
  cases w with
  | fieldLinkNest => exact va_Nw.warmF hW hZ
  | methodLinkNest => exact va_Nw.warmM hW hZ
  | castable => exact va_Nw.warmC hW hZ
  | declares => exact va_Nw.warmD hW hZ
  | stringRef own k tx =>
    have hcur : ∃ cur, s.vm.findClass own = some cur := by
      have h1 := hZ
      simp only [va_Nw, Cond.before, Cond.holds, Cond.value] at h1
      cases hc : s.vm.findClass own with
      | none => simp [hc] at h1
      | some cur => exact ⟨cur, rfl⟩
    obtain ⟨cur, hcur⟩ := hcur
    obtain ⟨-, -, -, sa, -, -, -, -, -, hev⟩ := Cond.stringRef_spec hcur hZ
    exact (vk_R.warm hW ⟨hZ, hev⟩).1
  | _ => exact absurd h Bool.false_ne_true
theorem zst.warm {q : Nat → Nat} {A : Nat → Prop} {u U : State} {H : Heap} (hW : u.WarmedH U.vm) (h : zst q A u H) : zst q A U H :=
  ⟨⟨h.1.1.moved hW.alike, va_Nc.moved hW.alike h.1.2⟩, h.2.1.moved hW.alike, fun i r hr => ⟨(h.2.2.1 i r hr).1.moved hW.alike, (h.2.2.1 i r hr).2.moved hW.alike⟩, fun w hw => zok_warm (List.mem_filter.mp hw).2 hW (h.2.2.2 w hw)⟩
theorem zst.kept {q : Nat → Nat} {A : Nat → Prop} {U : State} {H H1 : Heap} (h : zst q A U H) (hq : ∀ a : Nat, a < H.size → ¬ A a → H1[a]? = H[a]?) : zst q A U H1 :=
  ⟨⟨h.1.1.kept hq, h.1.2⟩, h.2.1.kept hq, fun i r hr => ⟨(h.2.2.1 i r hr).1.kept hq, (h.2.2.1 i r hr).2.kept hq⟩, h.2.2.2⟩
theorem zst.narrow {q : Nat → Nat} {A B : Nat → Prop} {U : State} {H : Heap} (h : zst q A U H) (hAB : ∀ a, B a → A a) : zst q B U H :=
  ⟨⟨h.1.1.narrow hAB, h.1.2⟩, h.2.1.narrow hAB, fun i r hr => ⟨(h.2.2.1 i r hr).1.narrow hAB, (h.2.2.1 i r hr).2.narrow hAB⟩, h.2.2.2⟩
/-- the tables' numbers: classes and slots; the classes of byte[], int[], long[]; the static cells -/
abbrev zk : Type := va_G × (Nat → ClassId) × (Nat → Nat)
abbrev zty (K : zk) : List (ClassId × FieldType) := [(K.2.1 0, .byte), (K.2.1 1, .int), (K.2.1 2, .long)]
abbrev zB (K : zk) (a n : Nat) (f : Nat → Int32) : Nat × va_E := (a, .inl (K.2.1 0, n, .inl f))
abbrev zI (K : zk) (a n : Nat) (f : Nat → Int32) : Nat × va_E := (a, .inl (K.2.1 1, n, .inl f))
abbrev zL (K : zk) (a n : Nat) (f : Nat → Int64) : Nat × va_E := (a, .inl (K.2.1 2, n, .inr (.inl f)))
abbrev zO (a ci : Nat) (fs : List Value) : Nat × va_E := (a, .inr (ci, fs))
abbrev zg : Type := Program × Launch × Env × Room × State × MethodId × Array Value × List Frame × Method × Code × zk × (Nat → Prop) × Nat × (State → Prop)
def zj (G : zg) (k n pc : Nat) (L : List (Nat × Value)) (st : List Value) (ws : va_W) : Prop := match G with
  | (p, l, e, R, s, m, args, below, meth, c, K, A, nL, Q) => ∀ (H : Heap) (locs : List Loc) (ls : Array Slot), va_P K.1 vwCl ws H → va_D A ws → va_S A s.heap H locs → lv_has ls nL L → W p l e R s m args below meth c H locs k n Q (F0 m pc ls st)
/-- what stays fixed in a method's walk: code, words, tables, statics, room -/
def zf (G : zg) (l : Launch) (K : zk) (rm : Room) (own : String) (cc : ByteArray) (nl : Nat) : Prop := match G with
  | (p, l', e, R, s, m, args, below, meth, c, K', A, nL, Q) => p.tables.exec = Jvm.exec ∧ c.code = cc ∧ c.maxLocals = nL ∧ s.vm.findClass own = some m.cls ∧ (∀ w ∈ zT, w.before args s = true) ∧ va_K K'.1 vwCl (zty K') s ∧ (∀ q, s.heap.size ≤ q → A q) ∧ zst K'.2.2 A s s.heap ∧ meth.locks = false ∧ (∀ q, A q → ∀ cell, s.heap[q]? = some cell → cell.vm.isStatics = false) ∧ l' = l ∧ K' = K ∧ R = rm ∧ nL = nl
section ZJ
variable {G : zg} {l : Launch} {K : zk} {rm : Room} {own : String} {cc : ByteArray} {nl : Nat} {k n pc : Nat} {L L' : List (Nat × Value)} {st : List Value} {ws ws' : va_W}
theorem zj_eq {pc' : Nat} {L' : List (Nat × Value)} {st' : List Value} (h1 : pc = pc') (h2 : L = L') (h3 : st = st') (h4 : ws = ws') (kk : zj G k n pc' L' st' ws') : zj G k n pc L st ws := by
  subst h1; subst h2; subst h3; subst h4; exact kk
theorem zj_top {x z : Int32} (h : x = z) (kk : zj G k n pc L (.int z :: st) ws) : zj G k n pc L (.int x :: st) ws := by subst h; exact kk
theorem zj_sub {L' : List (Nat × Value)} (is : List Nat) (h : lv_pick L is = L') (kk : zj G k n pc L' st ws) : zj G k n pc L st ws := by
  obtain ⟨p, l, e, R, s, m, args, below, meth, c, K, A, nL, Q⟩ := G
  intro H locs ls hP hD hS hl
  exact kk H locs ls hP hD hS (lv_sub hl is h)
theorem zj_wsub {ws' : va_W} (is : List Nat) (hn : va_nd is = true) (h : is.map (fun i => ws[i]?) = ws'.map some) (h2 : is.filterMap (fun i => ws[i]?) = ws') (kk : zj G k n pc L st ws') : zj G k n pc L st ws := by
  obtain ⟨p, l, e, R, s, m, args, below, meth, c, K, A, nL, Q⟩ := G
  intro H locs ls hP hD hS hl
  exact kk H locs ls (hP.sub is h2) (hD.sub is hn h) hS hl
theorem zj_widen {k' n' : Nat} (h1 : k ≤ k') (h2 : n ≤ n') (kk : zj G k' n' pc L st ws) : zj G k n pc L st ws := by
  obtain ⟨p, l, e, R, s, m, args, below, meth, c, K, A, nL, Q⟩ := G
  intro H locs ls hP hD hS hl
  exact W.widen h1 h2 (kk H locs ls hP hD hS hl)
theorem zj_iconst (F : zf G l K rm own cc nl) {z : Int} {v : Int32} (d : decode cc pc = .ok (.iconst z, 1)) (hv : Int32.ofInt z = v) (kk : zj G k n (pc + 1) L (.int v :: st) ws) : zj G k n pc L st ws := by
  obtain ⟨p, l, e, R, s, m, args, below, meth, c, K, A, nL, Q⟩ := G
  obtain ⟨hx, hb, hml, hown, hts, hK, hA, hZ, hlk, hst, rfl, rfl, rfl, rfl⟩ := F
  intro H locs ls hP hD hS hl
  exact lv_iconst hx hb d hv (kk H locs ls hP hD hS hl)
theorem zj_bipush (F : zf G l K rm own cc nl) {z : Int} {v : Int32} (d : decode cc pc = .ok (.bipush z, 2)) (hv : (Int8.ofInt z).toInt32 = v) (kk : zj G k n (pc + 2) L (.int v :: st) ws) : zj G k n pc L st ws := by
  obtain ⟨p, l, e, R, s, m, args, below, meth, c, K, A, nL, Q⟩ := G
  obtain ⟨hx, hb, hml, hown, hts, hK, hA, hZ, hlk, hst, rfl, rfl, rfl, rfl⟩ := F
  intro H locs ls hP hD hS hl
  exact lv_bipush hx hb d hv (kk H locs ls hP hD hS hl)
theorem zj_sipush (F : zf G l K rm own cc nl) {z : Int} {v : Int32} (d : decode cc pc = .ok (.sipush z, 3)) (hv : (Int16.ofInt z).toInt32 = v) (kk : zj G k n (pc + 3) L (.int v :: st) ws) : zj G k n pc L st ws := by
  obtain ⟨p, l, e, R, s, m, args, below, meth, c, K, A, nL, Q⟩ := G
  obtain ⟨hx, hb, hml, hown, hts, hK, hA, hZ, hlk, hst, rfl, rfl, rfl, rfl⟩ := F
  intro H locs ls hP hD hS hl
  exact lv_sipush hx hb d hv (kk H locs ls hP hD hS hl)
theorem zj_lconst (F : zf G l K rm own cc nl) {z : Fin 2} {v : Int64} (d : decode cc pc = .ok (.lconst z, 1)) (hv : Int64.ofNat (z : Nat) = v) (kk : zj G k n (pc + 1) L (.long v :: st) ws) : zj G k n pc L st ws := by
  obtain ⟨p, l, e, R, s, m, args, below, meth, c, K, A, nL, Q⟩ := G
  obtain ⟨hx, hb, hml, hown, hts, hK, hA, hZ, hlk, hst, rfl, rfl, rfl, rfl⟩ := F
  intro H locs ls hP hD hS hl
  exact lv_lconst hx hb d hv (kk H locs ls hP hD hS hl)
theorem zj_ldc (F : zf G l K rm own cc nl) {index : Nat} {v : Int32} (d : decode cc pc = .ok (.ldc index, 2)) (hw : Cond.constant own index v ∈ zT) (kk : zj G k n (pc + 2) L (.int v :: st) ws) : zj G k n pc L st ws := by
  obtain ⟨p, l, e, R, s, m, args, below, meth, c, K, A, nL, Q⟩ := G
  obtain ⟨hx, hb, hml, hown, hts, hK, hA, hZ, hlk, hst, rfl, rfl, rfl, rfl⟩ := F
  intro H locs ls hP hD hS hl
  exact lv_ldc hx hb hown (hts _ hw) d (kk H locs ls hP hD hS hl)
theorem zj_ldc2 (F : zf G l K rm own cc nl) {index : Nat} {v : Int64} (d : decode cc pc = .ok (.ldc2_w index, 3)) (hw : Cond.constantLong own index v ∈ zT) (kk : zj G k n (pc + 3) L (.long v :: st) ws) : zj G k n pc L st ws := by
  obtain ⟨p, l, e, R, s, m, args, below, meth, c, K, A, nL, Q⟩ := G
  obtain ⟨hx, hb, hml, hown, hts, hK, hA, hZ, hlk, hst, rfl, rfl, rfl, rfl⟩ := F
  intro H locs ls hP hD hS hl
  exact lv_ldc2 hx hb hown (hts _ hw) d (kk H locs ls hP hD hS hl)
theorem zj_iload_n (F : zf G l K rm own cc nl) {z : Fin 4} {i : Nat} {x : Int32} (d : decode cc pc = .ok (.iload_n z, 1)) (j : Nat) (hi : (z : Nat) = i) (hv : L[j]? = some (i, .int x)) (kk : zj G k n (pc + 1) L (.int x :: st) ws) : zj G k n pc L st ws := by
  obtain ⟨p, l, e, R, s, m, args, below, meth, c, K, A, nL, Q⟩ := G
  obtain ⟨hx, hb, hml, hown, hts, hK, hA, hZ, hlk, hst, rfl, rfl, rfl, rfl⟩ := F
  intro H locs ls hP hD hS hl
  exact lv_iload_n hx hb d hi (lv_at hl j hv) (kk H locs ls hP hD hS hl)
theorem zj_iload (F : zf G l K rm own cc nl) {i : Nat} {x : Int32} (d : decode cc pc = .ok (.iload i, 2)) (j : Nat) (hv : L[j]? = some (i, .int x)) (kk : zj G k n (pc + 2) L (.int x :: st) ws) : zj G k n pc L st ws := by
  obtain ⟨p, l, e, R, s, m, args, below, meth, c, K, A, nL, Q⟩ := G
  obtain ⟨hx, hb, hml, hown, hts, hK, hA, hZ, hlk, hst, rfl, rfl, rfl, rfl⟩ := F
  intro H locs ls hP hD hS hl
  exact lv_iload hx hb d (lv_at hl j hv) (kk H locs ls hP hD hS hl)
theorem zj_istore_n (F : zf G l K rm own cc nl) {z : Fin 4} {i : Nat} {x : Int32} (d : decode cc pc = .ok (.istore_n z, 1)) (hi : (z : Nat) = i) (hlt : i < nl) (hL : (i, Value.int x) :: L.filter (fun q => !(q.1 == i) && !(q.1 + 1 == i && q.2.category == 2)) = L') (kk : zj G k n (pc + 1) L' st ws) : zj G k n pc L (.int x :: st) ws := by
  obtain ⟨p, l, e, R, s, m, args, below, meth, c, K, A, nL, Q⟩ := G
  obtain ⟨hx, hb, hml, hown, hts, hK, hA, hZ, hlk, hst, rfl, rfl, rfl, rfl⟩ := F
  intro H locs ls hP hD hS hl
  exact lv_istore_n hx hb d hi hl hlt hL (fun ls' hl' => kk H locs ls' hP hD hS hl')
theorem zj_istore (F : zf G l K rm own cc nl) {i : Nat} {x : Int32} (d : decode cc pc = .ok (.istore i, 2)) (hlt : i < nl) (hL : (i, Value.int x) :: L.filter (fun q => !(q.1 == i) && !(q.1 + 1 == i && q.2.category == 2)) = L') (kk : zj G k n (pc + 2) L' st ws) : zj G k n pc L (.int x :: st) ws := by
  obtain ⟨p, l, e, R, s, m, args, below, meth, c, K, A, nL, Q⟩ := G
  obtain ⟨hx, hb, hml, hown, hts, hK, hA, hZ, hlk, hst, rfl, rfl, rfl, rfl⟩ := F
  intro H locs ls hP hD hS hl
  exact lv_istore hx hb d hl hlt hL (fun ls' hl' => kk H locs ls' hP hD hS hl')
theorem zj_lload_n (F : zf G l K rm own cc nl) {z : Fin 4} {i : Nat} {x : Int64} (d : decode cc pc = .ok (.lload_n z, 1)) (j : Nat) (hi : (z : Nat) = i) (hv : L[j]? = some (i, .long x)) (kk : zj G k n (pc + 1) L (.long x :: st) ws) : zj G k n pc L st ws := by
  obtain ⟨p, l, e, R, s, m, args, below, meth, c, K, A, nL, Q⟩ := G
  obtain ⟨hx, hb, hml, hown, hts, hK, hA, hZ, hlk, hst, rfl, rfl, rfl, rfl⟩ := F
  intro H locs ls hP hD hS hl
  exact lv_lload_n hx hb d hi (lv_at hl j hv) (kk H locs ls hP hD hS hl)
theorem zj_lload (F : zf G l K rm own cc nl) {i : Nat} {x : Int64} (d : decode cc pc = .ok (.lload i, 2)) (j : Nat) (hv : L[j]? = some (i, .long x)) (kk : zj G k n (pc + 2) L (.long x :: st) ws) : zj G k n pc L st ws := by
  obtain ⟨p, l, e, R, s, m, args, below, meth, c, K, A, nL, Q⟩ := G
  obtain ⟨hx, hb, hml, hown, hts, hK, hA, hZ, hlk, hst, rfl, rfl, rfl, rfl⟩ := F
  intro H locs ls hP hD hS hl
  exact lv_lload hx hb d (lv_at hl j hv) (kk H locs ls hP hD hS hl)
theorem zj_lstore_n (F : zf G l K rm own cc nl) {z : Fin 4} {i : Nat} {x : Int64} (d : decode cc pc = .ok (.lstore_n z, 1)) (hi : (z : Nat) = i) (hlt : i + 1 < nl) (hL : (i, Value.long x) :: L.filter (fun q => !(q.1 == i) && (!(q.1 == i + 1) && !(q.1 + 1 == i && q.2.category == 2))) = L') (kk : zj G k n (pc + 1) L' st ws) : zj G k n pc L (.long x :: st) ws := by
  obtain ⟨p, l, e, R, s, m, args, below, meth, c, K, A, nL, Q⟩ := G
  obtain ⟨hx, hb, hml, hown, hts, hK, hA, hZ, hlk, hst, rfl, rfl, rfl, rfl⟩ := F
  intro H locs ls hP hD hS hl
  exact lv_lstore_n hx hb d hi hl hlt hL (fun ls' hl' => kk H locs ls' hP hD hS hl')
theorem zj_lstore (F : zf G l K rm own cc nl) {i : Nat} {x : Int64} (d : decode cc pc = .ok (.lstore i, 2)) (hlt : i + 1 < nl) (hL : (i, Value.long x) :: L.filter (fun q => !(q.1 == i) && (!(q.1 == i + 1) && !(q.1 + 1 == i && q.2.category == 2))) = L') (kk : zj G k n (pc + 2) L' st ws) : zj G k n pc L (.long x :: st) ws := by
  obtain ⟨p, l, e, R, s, m, args, below, meth, c, K, A, nL, Q⟩ := G
  obtain ⟨hx, hb, hml, hown, hts, hK, hA, hZ, hlk, hst, rfl, rfl, rfl, rfl⟩ := F
  intro H locs ls hP hD hS hl
  exact lv_lstore hx hb d hl hlt hL (fun ls' hl' => kk H locs ls' hP hD hS hl')
theorem zj_aload_n (F : zf G l K rm own cc nl) {z : Fin 4} {i : Nat} {x : Nat} (d : decode cc pc = .ok (.aload_n z, 1)) (j : Nat) (hi : (z : Nat) = i) (hv : L[j]? = some (i, .ref x)) (kk : zj G k n (pc + 1) L (.ref x :: st) ws) : zj G k n pc L st ws := by
  obtain ⟨p, l, e, R, s, m, args, below, meth, c, K, A, nL, Q⟩ := G
  obtain ⟨hx, hb, hml, hown, hts, hK, hA, hZ, hlk, hst, rfl, rfl, rfl, rfl⟩ := F
  intro H locs ls hP hD hS hl
  exact lv_aload_n hx hb d hi (lv_at hl j hv) (kk H locs ls hP hD hS hl)
theorem zj_aload (F : zf G l K rm own cc nl) {i : Nat} {x : Nat} (d : decode cc pc = .ok (.aload i, 2)) (j : Nat) (hv : L[j]? = some (i, .ref x)) (kk : zj G k n (pc + 2) L (.ref x :: st) ws) : zj G k n pc L st ws := by
  obtain ⟨p, l, e, R, s, m, args, below, meth, c, K, A, nL, Q⟩ := G
  obtain ⟨hx, hb, hml, hown, hts, hK, hA, hZ, hlk, hst, rfl, rfl, rfl, rfl⟩ := F
  intro H locs ls hP hD hS hl
  exact lv_aload hx hb d (lv_at hl j hv) (kk H locs ls hP hD hS hl)
theorem zj_astore_n (F : zf G l K rm own cc nl) {z : Fin 4} {i : Nat} {x : Nat} (d : decode cc pc = .ok (.astore_n z, 1)) (hi : (z : Nat) = i) (hlt : i < nl) (hL : (i, Value.ref x) :: L.filter (fun q => !(q.1 == i) && !(q.1 + 1 == i && q.2.category == 2)) = L') (kk : zj G k n (pc + 1) L' st ws) : zj G k n pc L (.ref x :: st) ws := by
  obtain ⟨p, l, e, R, s, m, args, below, meth, c, K, A, nL, Q⟩ := G
  obtain ⟨hx, hb, hml, hown, hts, hK, hA, hZ, hlk, hst, rfl, rfl, rfl, rfl⟩ := F
  intro H locs ls hP hD hS hl
  exact lv_astore_n hx hb d hi hl hlt hL (fun ls' hl' => kk H locs ls' hP hD hS hl')
theorem zj_astore (F : zf G l K rm own cc nl) {i : Nat} {x : Nat} (d : decode cc pc = .ok (.astore i, 2)) (hlt : i < nl) (hL : (i, Value.ref x) :: L.filter (fun q => !(q.1 == i) && !(q.1 + 1 == i && q.2.category == 2)) = L') (kk : zj G k n (pc + 2) L' st ws) : zj G k n pc L (.ref x :: st) ws := by
  obtain ⟨p, l, e, R, s, m, args, below, meth, c, K, A, nL, Q⟩ := G
  obtain ⟨hx, hb, hml, hown, hts, hK, hA, hZ, hlk, hst, rfl, rfl, rfl, rfl⟩ := F
  intro H locs ls hP hD hS hl
  exact lv_astore hx hb d hl hlt hL (fun ls' hl' => kk H locs ls' hP hD hS hl')
theorem zj_iinc (F : zf G l K rm own cc nl) {i : Nat} {z : Int} {x v : Int32} (d : decode cc pc = .ok (.iinc i z, 3)) (j : Nat) (hk : L[j]? = some (i, .int x)) (hv : x + Int32.ofInt z = v) (hlt : i < nl) (hL : (i, Value.int v) :: L.filter (fun q => !(q.1 == i) && !(q.1 + 1 == i && q.2.category == 2)) = L') (kk : zj G k n (pc + 3) L' st ws) : zj G k n pc L st ws := by
  obtain ⟨p, l, e, R, s, m, args, below, meth, c, K, A, nL, Q⟩ := G
  obtain ⟨hx, hb, hml, hown, hts, hK, hA, hZ, hlk, hst, rfl, rfl, rfl, rfl⟩ := F
  intro H locs ls hP hD hS hl
  exact lv_iinc hx hb d hl hk hv hlt hL (fun ls' hl' => kk H locs ls' hP hD hS hl')
theorem zj_iadd (F : zf G l K rm own cc nl) {x y z : Int32} (d : decode cc pc = .ok (.iadd, 1)) (hz : x + y = z) (kk : zj G k n (pc + 1) L (.int z :: st) ws) : zj G k n pc L (.int y :: .int x :: st) ws := by
  obtain ⟨p, l, e, R, s, m, args, below, meth, c, K, A, nL, Q⟩ := G
  obtain ⟨hx, hb, hml, hown, hts, hK, hA, hZ, hlk, hst, rfl, rfl, rfl, rfl⟩ := F
  intro H locs ls hP hD hS hl
  subst hz
  exact lv_iadd hx hb d (kk H locs ls hP hD hS hl)
theorem zj_isub (F : zf G l K rm own cc nl) {x y z : Int32} (d : decode cc pc = .ok (.isub, 1)) (hz : x - y = z) (kk : zj G k n (pc + 1) L (.int z :: st) ws) : zj G k n pc L (.int y :: .int x :: st) ws := by
  obtain ⟨p, l, e, R, s, m, args, below, meth, c, K, A, nL, Q⟩ := G
  obtain ⟨hx, hb, hml, hown, hts, hK, hA, hZ, hlk, hst, rfl, rfl, rfl, rfl⟩ := F
  intro H locs ls hP hD hS hl
  subst hz
  exact lv_isub hx hb d (kk H locs ls hP hD hS hl)
theorem zj_imul (F : zf G l K rm own cc nl) {x y z : Int32} (d : decode cc pc = .ok (.imul, 1)) (hz : x * y = z) (kk : zj G k n (pc + 1) L (.int z :: st) ws) : zj G k n pc L (.int y :: .int x :: st) ws := by
  obtain ⟨p, l, e, R, s, m, args, below, meth, c, K, A, nL, Q⟩ := G
  obtain ⟨hx, hb, hml, hown, hts, hK, hA, hZ, hlk, hst, rfl, rfl, rfl, rfl⟩ := F
  intro H locs ls hP hD hS hl
  subst hz
  exact lv_imul hx hb d (kk H locs ls hP hD hS hl)
theorem zj_iand (F : zf G l K rm own cc nl) {x y z : Int32} (d : decode cc pc = .ok (.iand, 1)) (hz : x &&& y = z) (kk : zj G k n (pc + 1) L (.int z :: st) ws) : zj G k n pc L (.int y :: .int x :: st) ws := by
  obtain ⟨p, l, e, R, s, m, args, below, meth, c, K, A, nL, Q⟩ := G
  obtain ⟨hx, hb, hml, hown, hts, hK, hA, hZ, hlk, hst, rfl, rfl, rfl, rfl⟩ := F
  intro H locs ls hP hD hS hl
  subst hz
  exact lv_iand hx hb d (kk H locs ls hP hD hS hl)
theorem zj_ior (F : zf G l K rm own cc nl) {x y z : Int32} (d : decode cc pc = .ok (.ior, 1)) (hz : x ||| y = z) (kk : zj G k n (pc + 1) L (.int z :: st) ws) : zj G k n pc L (.int y :: .int x :: st) ws := by
  obtain ⟨p, l, e, R, s, m, args, below, meth, c, K, A, nL, Q⟩ := G
  obtain ⟨hx, hb, hml, hown, hts, hK, hA, hZ, hlk, hst, rfl, rfl, rfl, rfl⟩ := F
  intro H locs ls hP hD hS hl
  subst hz
  exact lv_ior hx hb d (kk H locs ls hP hD hS hl)
theorem zj_ixor (F : zf G l K rm own cc nl) {x y z : Int32} (d : decode cc pc = .ok (.ixor, 1)) (hz : x ^^^ y = z) (kk : zj G k n (pc + 1) L (.int z :: st) ws) : zj G k n pc L (.int y :: .int x :: st) ws := by
  obtain ⟨p, l, e, R, s, m, args, below, meth, c, K, A, nL, Q⟩ := G
  obtain ⟨hx, hb, hml, hown, hts, hK, hA, hZ, hlk, hst, rfl, rfl, rfl, rfl⟩ := F
  intro H locs ls hP hD hS hl
  subst hz
  exact lv_ixor hx hb d (kk H locs ls hP hD hS hl)
theorem zj_ishl (F : zf G l K rm own cc nl) {x y z : Int32} (d : decode cc pc = .ok (.ishl, 1)) (hz : x <<< (y &&& 31) = z) (kk : zj G k n (pc + 1) L (.int z :: st) ws) : zj G k n pc L (.int y :: .int x :: st) ws := by
  obtain ⟨p, l, e, R, s, m, args, below, meth, c, K, A, nL, Q⟩ := G
  obtain ⟨hx, hb, hml, hown, hts, hK, hA, hZ, hlk, hst, rfl, rfl, rfl, rfl⟩ := F
  intro H locs ls hP hD hS hl
  subst hz
  exact lv_ishl hx hb d (kk H locs ls hP hD hS hl)
theorem zj_ishr (F : zf G l K rm own cc nl) {x y z : Int32} (d : decode cc pc = .ok (.ishr, 1)) (hz : x >>> (y &&& 31) = z) (kk : zj G k n (pc + 1) L (.int z :: st) ws) : zj G k n pc L (.int y :: .int x :: st) ws := by
  obtain ⟨p, l, e, R, s, m, args, below, meth, c, K, A, nL, Q⟩ := G
  obtain ⟨hx, hb, hml, hown, hts, hK, hA, hZ, hlk, hst, rfl, rfl, rfl, rfl⟩ := F
  intro H locs ls hP hD hS hl
  subst hz
  exact lv_ishr hx hb d (kk H locs ls hP hD hS hl)
theorem zj_idiv (F : zf G l K rm own cc nl) {x y z : Int32} (d : decode cc pc = .ok (.idiv, 1)) (hne : ¬ y = 0) (hz : x / y = z) (kk : zj G k n (pc + 1) L (.int z :: st) ws) : zj G k n pc L (.int y :: .int x :: st) ws := by
  obtain ⟨p, l, e, R, s, m, args, below, meth, c, K, A, nL, Q⟩ := G
  obtain ⟨hx, hb, hml, hown, hts, hK, hA, hZ, hlk, hst, rfl, rfl, rfl, rfl⟩ := F
  intro H locs ls hP hD hS hl
  subst hz
  exact lv_idiv hx hb d hne (kk H locs ls hP hD hS hl)
theorem zj_irem (F : zf G l K rm own cc nl) {x y z : Int32} (d : decode cc pc = .ok (.irem, 1)) (hne : ¬ y = 0) (hz : x - x / y * y = z) (kk : zj G k n (pc + 1) L (.int z :: st) ws) : zj G k n pc L (.int y :: .int x :: st) ws := by
  obtain ⟨p, l, e, R, s, m, args, below, meth, c, K, A, nL, Q⟩ := G
  obtain ⟨hx, hb, hml, hown, hts, hK, hA, hZ, hlk, hst, rfl, rfl, rfl, rfl⟩ := F
  intro H locs ls hP hD hS hl
  subst hz
  exact lv_irem hx hb d hne (kk H locs ls hP hD hS hl)
theorem zj_ladd (F : zf G l K rm own cc nl) {x y z : Int64} (d : decode cc pc = .ok (.ladd, 1)) (hz : x + y = z) (kk : zj G k n (pc + 1) L (.long z :: st) ws) : zj G k n pc L (.long y :: .long x :: st) ws := by
  obtain ⟨p, l, e, R, s, m, args, below, meth, c, K, A, nL, Q⟩ := G
  obtain ⟨hx, hb, hml, hown, hts, hK, hA, hZ, hlk, hst, rfl, rfl, rfl, rfl⟩ := F
  intro H locs ls hP hD hS hl
  subst hz
  exact lv_ladd hx hb d (kk H locs ls hP hD hS hl)
theorem zj_lmul (F : zf G l K rm own cc nl) {x y z : Int64} (d : decode cc pc = .ok (.lmul, 1)) (hz : x * y = z) (kk : zj G k n (pc + 1) L (.long z :: st) ws) : zj G k n pc L (.long y :: .long x :: st) ws := by
  obtain ⟨p, l, e, R, s, m, args, below, meth, c, K, A, nL, Q⟩ := G
  obtain ⟨hx, hb, hml, hown, hts, hK, hA, hZ, hlk, hst, rfl, rfl, rfl, rfl⟩ := F
  intro H locs ls hP hD hS hl
  subst hz
  exact lv_lmul hx hb d (kk H locs ls hP hD hS hl)
theorem zj_lor (F : zf G l K rm own cc nl) {x y z : Int64} (d : decode cc pc = .ok (.lor, 1)) (hz : x ||| y = z) (kk : zj G k n (pc + 1) L (.long z :: st) ws) : zj G k n pc L (.long y :: .long x :: st) ws := by
  obtain ⟨p, l, e, R, s, m, args, below, meth, c, K, A, nL, Q⟩ := G
  obtain ⟨hx, hb, hml, hown, hts, hK, hA, hZ, hlk, hst, rfl, rfl, rfl, rfl⟩ := F
  intro H locs ls hP hD hS hl
  subst hz
  exact lv_lor hx hb d (kk H locs ls hP hD hS hl)
theorem zj_lshl (F : zf G l K rm own cc nl) {x z : Int64} {y : Int32} (d : decode cc pc = .ok (.lshl, 1)) (hz : x <<< (y.toInt64 &&& 63) = z) (kk : zj G k n (pc + 1) L (.long z :: st) ws) : zj G k n pc L (.int y :: .long x :: st) ws := by
  obtain ⟨p, l, e, R, s, m, args, below, meth, c, K, A, nL, Q⟩ := G
  obtain ⟨hx, hb, hml, hown, hts, hK, hA, hZ, hlk, hst, rfl, rfl, rfl, rfl⟩ := F
  intro H locs ls hP hD hS hl
  exact lv_lshl hx hb d hz (kk H locs ls hP hD hS hl)
theorem zj_lshr (F : zf G l K rm own cc nl) {x z : Int64} {y : Int32} (d : decode cc pc = .ok (.lshr, 1)) (hz : x >>> (y.toInt64 &&& 63) = z) (kk : zj G k n (pc + 1) L (.long z :: st) ws) : zj G k n pc L (.int y :: .long x :: st) ws := by
  obtain ⟨p, l, e, R, s, m, args, below, meth, c, K, A, nL, Q⟩ := G
  obtain ⟨hx, hb, hml, hown, hts, hK, hA, hZ, hlk, hst, rfl, rfl, rfl, rfl⟩ := F
  intro H locs ls hP hD hS hl
  exact lv_lshr hx hb d hz (kk H locs ls hP hD hS hl)
theorem zj_i2l (F : zf G l K rm own cc nl) {x : Int32} {z : Int64} (d : decode cc pc = .ok (.i2l, 1)) (hz : x.toInt64 = z) (kk : zj G k n (pc + 1) L (.long z :: st) ws) : zj G k n pc L (.int x :: st) ws := by
  obtain ⟨p, l, e, R, s, m, args, below, meth, c, K, A, nL, Q⟩ := G
  obtain ⟨hx, hb, hml, hown, hts, hK, hA, hZ, hlk, hst, rfl, rfl, rfl, rfl⟩ := F
  intro H locs ls hP hD hS hl
  exact lv_i2l hx hb d hz (kk H locs ls hP hD hS hl)
theorem zj_l2i (F : zf G l K rm own cc nl) {x : Int64} {z : Int32} (d : decode cc pc = .ok (.l2i, 1)) (hz : x.toInt32 = z) (kk : zj G k n (pc + 1) L (.int z :: st) ws) : zj G k n pc L (.long x :: st) ws := by
  obtain ⟨p, l, e, R, s, m, args, below, meth, c, K, A, nL, Q⟩ := G
  obtain ⟨hx, hb, hml, hown, hts, hK, hA, hZ, hlk, hst, rfl, rfl, rfl, rfl⟩ := F
  intro H locs ls hP hD hS hl
  exact lv_l2i hx hb d hz (kk H locs ls hP hD hS hl)
theorem zj_i2b (F : zf G l K rm own cc nl) {x : Int32} {z : Int32} (d : decode cc pc = .ok (.i2b, 1)) (hz : x.toInt8.toInt32 = z) (kk : zj G k n (pc + 1) L (.int z :: st) ws) : zj G k n pc L (.int x :: st) ws := by
  obtain ⟨p, l, e, R, s, m, args, below, meth, c, K, A, nL, Q⟩ := G
  obtain ⟨hx, hb, hml, hown, hts, hK, hA, hZ, hlk, hst, rfl, rfl, rfl, rfl⟩ := F
  intro H locs ls hP hD hS hl
  exact lv_i2b hx hb d hz (kk H locs ls hP hD hS hl)
theorem zj_if_eq (F : zf G l K rm own cc nl) {x : Int32} {off : Int} {tgt : Nat} {P : Prop} (d : decode cc pc = .ok (.ifCond .eq off, 3)) (ht : (pc : Int) + off = (tgt : Int)) (hP : x = 0 ↔ P) (kt : P → zj G k n tgt L st ws) (kf : ¬ P → zj G k n (pc + 3) L st ws) : zj G k n pc L (.int x :: st) ws := by
  obtain ⟨p, l, e, R, s, m, args, below, meth, c, K, A, nL, Q⟩ := G
  obtain ⟨hx, hb, hml, hown, hts, hK, hA, hZ, hlk, hst, rfl, rfl, rfl, rfl⟩ := F
  intro H locs ls hPw hD hS hl
  exact lv_if_eq hx hb d ht (fun h => kt (hP.mp h) H locs ls hPw hD hS hl) (fun h => kf (fun q => h (hP.mpr q)) H locs ls hPw hD hS hl)
theorem zj_if_ne (F : zf G l K rm own cc nl) {x : Int32} {off : Int} {tgt : Nat} {P : Prop} (d : decode cc pc = .ok (.ifCond .ne off, 3)) (ht : (pc : Int) + off = (tgt : Int)) (hP : x = 0 ↔ P) (kt : ¬ P → zj G k n tgt L st ws) (kf : P → zj G k n (pc + 3) L st ws) : zj G k n pc L (.int x :: st) ws := by
  obtain ⟨p, l, e, R, s, m, args, below, meth, c, K, A, nL, Q⟩ := G
  obtain ⟨hx, hb, hml, hown, hts, hK, hA, hZ, hlk, hst, rfl, rfl, rfl, rfl⟩ := F
  intro H locs ls hPw hD hS hl
  exact lv_if_ne hx hb d ht (fun h => kt (fun q => h (hP.mpr q)) H locs ls hPw hD hS hl) (fun h => kf (hP.mp h) H locs ls hPw hD hS hl)
theorem zj_if_lt (F : zf G l K rm own cc nl) {x : Int32} {off : Int} {tgt : Nat} {P : Prop} (d : decode cc pc = .ok (.ifCond .lt off, 3)) (ht : (pc : Int) + off = (tgt : Int)) (hP : x < 0 ↔ P) (kt : P → zj G k n tgt L st ws) (kf : ¬ P → zj G k n (pc + 3) L st ws) : zj G k n pc L (.int x :: st) ws := by
  obtain ⟨p, l, e, R, s, m, args, below, meth, c, K, A, nL, Q⟩ := G
  obtain ⟨hx, hb, hml, hown, hts, hK, hA, hZ, hlk, hst, rfl, rfl, rfl, rfl⟩ := F
  intro H locs ls hPw hD hS hl
  exact lv_if_lt hx hb d ht (fun h => kt (hP.mp h) H locs ls hPw hD hS hl) (fun h => kf (fun q => h (hP.mpr q)) H locs ls hPw hD hS hl)
theorem zj_if_ge (F : zf G l K rm own cc nl) {x : Int32} {off : Int} {tgt : Nat} {P : Prop} (d : decode cc pc = .ok (.ifCond .ge off, 3)) (ht : (pc : Int) + off = (tgt : Int)) (hP : 0 ≤ x ↔ P) (kt : P → zj G k n tgt L st ws) (kf : ¬ P → zj G k n (pc + 3) L st ws) : zj G k n pc L (.int x :: st) ws := by
  obtain ⟨p, l, e, R, s, m, args, below, meth, c, K, A, nL, Q⟩ := G
  obtain ⟨hx, hb, hml, hown, hts, hK, hA, hZ, hlk, hst, rfl, rfl, rfl, rfl⟩ := F
  intro H locs ls hPw hD hS hl
  exact lv_if_ge hx hb d ht (fun h => kt (hP.mp h) H locs ls hPw hD hS hl) (fun h => kf (fun q => h (hP.mpr q)) H locs ls hPw hD hS hl)
theorem zj_if_gt (F : zf G l K rm own cc nl) {x : Int32} {off : Int} {tgt : Nat} {P : Prop} (d : decode cc pc = .ok (.ifCond .gt off, 3)) (ht : (pc : Int) + off = (tgt : Int)) (hP : 0 < x ↔ P) (kt : P → zj G k n tgt L st ws) (kf : ¬ P → zj G k n (pc + 3) L st ws) : zj G k n pc L (.int x :: st) ws := by
  obtain ⟨p, l, e, R, s, m, args, below, meth, c, K, A, nL, Q⟩ := G
  obtain ⟨hx, hb, hml, hown, hts, hK, hA, hZ, hlk, hst, rfl, rfl, rfl, rfl⟩ := F
  intro H locs ls hPw hD hS hl
  exact lv_if_gt hx hb d ht (fun h => kt (hP.mp h) H locs ls hPw hD hS hl) (fun h => kf (fun q => h (hP.mpr q)) H locs ls hPw hD hS hl)
theorem zj_if_le (F : zf G l K rm own cc nl) {x : Int32} {off : Int} {tgt : Nat} {P : Prop} (d : decode cc pc = .ok (.ifCond .le off, 3)) (ht : (pc : Int) + off = (tgt : Int)) (hP : x ≤ 0 ↔ P) (kt : P → zj G k n tgt L st ws) (kf : ¬ P → zj G k n (pc + 3) L st ws) : zj G k n pc L (.int x :: st) ws := by
  obtain ⟨p, l, e, R, s, m, args, below, meth, c, K, A, nL, Q⟩ := G
  obtain ⟨hx, hb, hml, hown, hts, hK, hA, hZ, hlk, hst, rfl, rfl, rfl, rfl⟩ := F
  intro H locs ls hPw hD hS hl
  exact lv_if_le hx hb d ht (fun h => kt (hP.mp h) H locs ls hPw hD hS hl) (fun h => kf (fun q => h (hP.mpr q)) H locs ls hPw hD hS hl)
theorem zj_icmp_eq (F : zf G l K rm own cc nl) {x y : Int32} {off : Int} {tgt : Nat} {P : Prop} (d : decode cc pc = .ok (.if_icmp .eq off, 3)) (ht : (pc : Int) + off = (tgt : Int)) (hP : x = y ↔ P) (kt : P → zj G k n tgt L st ws) (kf : ¬ P → zj G k n (pc + 3) L st ws) : zj G k n pc L (.int y :: .int x :: st) ws := by
  obtain ⟨p, l, e, R, s, m, args, below, meth, c, K, A, nL, Q⟩ := G
  obtain ⟨hx, hb, hml, hown, hts, hK, hA, hZ, hlk, hst, rfl, rfl, rfl, rfl⟩ := F
  intro H locs ls hPw hD hS hl
  exact lv_icmp_eq hx hb d ht (fun h => kt (hP.mp h) H locs ls hPw hD hS hl) (fun h => kf (fun q => h (hP.mpr q)) H locs ls hPw hD hS hl)
theorem zj_icmp_ne (F : zf G l K rm own cc nl) {x y : Int32} {off : Int} {tgt : Nat} {P : Prop} (d : decode cc pc = .ok (.if_icmp .ne off, 3)) (ht : (pc : Int) + off = (tgt : Int)) (hP : x = y ↔ P) (kt : ¬ P → zj G k n tgt L st ws) (kf : P → zj G k n (pc + 3) L st ws) : zj G k n pc L (.int y :: .int x :: st) ws := by
  obtain ⟨p, l, e, R, s, m, args, below, meth, c, K, A, nL, Q⟩ := G
  obtain ⟨hx, hb, hml, hown, hts, hK, hA, hZ, hlk, hst, rfl, rfl, rfl, rfl⟩ := F
  intro H locs ls hPw hD hS hl
  exact lv_icmp_ne hx hb d ht (fun h => kt (fun q => h (hP.mpr q)) H locs ls hPw hD hS hl) (fun h => kf (hP.mp h) H locs ls hPw hD hS hl)
theorem zj_icmp_lt (F : zf G l K rm own cc nl) {x y : Int32} {off : Int} {tgt : Nat} {P : Prop} (d : decode cc pc = .ok (.if_icmp .lt off, 3)) (ht : (pc : Int) + off = (tgt : Int)) (hP : x < y ↔ P) (kt : P → zj G k n tgt L st ws) (kf : ¬ P → zj G k n (pc + 3) L st ws) : zj G k n pc L (.int y :: .int x :: st) ws := by
  obtain ⟨p, l, e, R, s, m, args, below, meth, c, K, A, nL, Q⟩ := G
  obtain ⟨hx, hb, hml, hown, hts, hK, hA, hZ, hlk, hst, rfl, rfl, rfl, rfl⟩ := F
  intro H locs ls hPw hD hS hl
  exact lv_icmp_lt hx hb d ht (fun h => kt (hP.mp h) H locs ls hPw hD hS hl) (fun h => kf (fun q => h (hP.mpr q)) H locs ls hPw hD hS hl)
theorem zj_icmp_ge (F : zf G l K rm own cc nl) {x y : Int32} {off : Int} {tgt : Nat} {P : Prop} (d : decode cc pc = .ok (.if_icmp .ge off, 3)) (ht : (pc : Int) + off = (tgt : Int)) (hP : y ≤ x ↔ P) (kt : P → zj G k n tgt L st ws) (kf : ¬ P → zj G k n (pc + 3) L st ws) : zj G k n pc L (.int y :: .int x :: st) ws := by
  obtain ⟨p, l, e, R, s, m, args, below, meth, c, K, A, nL, Q⟩ := G
  obtain ⟨hx, hb, hml, hown, hts, hK, hA, hZ, hlk, hst, rfl, rfl, rfl, rfl⟩ := F
  intro H locs ls hPw hD hS hl
  exact lv_icmp_ge hx hb d ht (fun h => kt (hP.mp h) H locs ls hPw hD hS hl) (fun h => kf (fun q => h (hP.mpr q)) H locs ls hPw hD hS hl)
theorem zj_icmp_gt (F : zf G l K rm own cc nl) {x y : Int32} {off : Int} {tgt : Nat} {P : Prop} (d : decode cc pc = .ok (.if_icmp .gt off, 3)) (ht : (pc : Int) + off = (tgt : Int)) (hP : y < x ↔ P) (kt : P → zj G k n tgt L st ws) (kf : ¬ P → zj G k n (pc + 3) L st ws) : zj G k n pc L (.int y :: .int x :: st) ws := by
  obtain ⟨p, l, e, R, s, m, args, below, meth, c, K, A, nL, Q⟩ := G
  obtain ⟨hx, hb, hml, hown, hts, hK, hA, hZ, hlk, hst, rfl, rfl, rfl, rfl⟩ := F
  intro H locs ls hPw hD hS hl
  exact lv_icmp_gt hx hb d ht (fun h => kt (hP.mp h) H locs ls hPw hD hS hl) (fun h => kf (fun q => h (hP.mpr q)) H locs ls hPw hD hS hl)
theorem zj_icmp_le (F : zf G l K rm own cc nl) {x y : Int32} {off : Int} {tgt : Nat} {P : Prop} (d : decode cc pc = .ok (.if_icmp .le off, 3)) (ht : (pc : Int) + off = (tgt : Int)) (hP : x ≤ y ↔ P) (kt : P → zj G k n tgt L st ws) (kf : ¬ P → zj G k n (pc + 3) L st ws) : zj G k n pc L (.int y :: .int x :: st) ws := by
  obtain ⟨p, l, e, R, s, m, args, below, meth, c, K, A, nL, Q⟩ := G
  obtain ⟨hx, hb, hml, hown, hts, hK, hA, hZ, hlk, hst, rfl, rfl, rfl, rfl⟩ := F
  intro H locs ls hPw hD hS hl
  exact lv_icmp_le hx hb d ht (fun h => kt (hP.mp h) H locs ls hPw hD hS hl) (fun h => kf (fun q => h (hP.mpr q)) H locs ls hPw hD hS hl)
theorem zj_goto (F : zf G l K rm own cc nl) {off : Int} {tgt : Nat} (d : decode cc pc = .ok (.goto off, 3)) (ht : (pc : Int) + off = (tgt : Int)) (kk : zj G k n tgt L st ws) : zj G k n pc L st ws := by
  obtain ⟨p, l, e, R, s, m, args, below, meth, c, K, A, nL, Q⟩ := G
  obtain ⟨hx, hb, hml, hown, hts, hK, hA, hZ, hlk, hst, rfl, rfl, rfl, rfl⟩ := F
  intro H locs ls hP hD hS hl
  exact lv_goto hx hb d ht (kk H locs ls hP hD hS hl)
theorem zj_pop (F : zf G l K rm own cc nl) {v : Value} (d : decode cc pc = .ok (.pop, 1)) (hv : v.category = 1) (kk : zj G k n (pc + 1) L st ws) : zj G k n pc L (v :: st) ws := by
  obtain ⟨p, l, e, R, s, m, args, below, meth, c, K, A, nL, Q⟩ := G
  obtain ⟨hx, hb, hml, hown, hts, hK, hA, hZ, hlk, hst, rfl, rfl, rfl, rfl⟩ := F
  intro H locs ls hP hD hS hl
  exact lv_pop hx hb d hv (kk H locs ls hP hD hS hl)
theorem zj_dup (F : zf G l K rm own cc nl) {v : Value} (d : decode cc pc = .ok (.dup, 1)) (hv : v.category = 1) (kk : zj G k n (pc + 1) L (v :: v :: st) ws) : zj G k n pc L (v :: st) ws := by
  obtain ⟨p, l, e, R, s, m, args, below, meth, c, K, A, nL, Q⟩ := G
  obtain ⟨hx, hb, hml, hown, hts, hK, hA, hZ, hlk, hst, rfl, rfl, rfl, rfl⟩ := F
  intro H locs ls hP hD hS hl
  exact lv_dup hx hb d hv (kk H locs ls hP hD hS hl)
theorem zj_dup2 (F : zf G l K rm own cc nl) {v w : Value} (d : decode cc pc = .ok (.dup2, 1)) (hv : v.category = 1) (hw : w.category = 1) (kk : zj G k n (pc + 1) L (v :: w :: v :: w :: st) ws) : zj G k n pc L (v :: w :: st) ws := by
  obtain ⟨p, l, e, R, s, m, args, below, meth, c, K, A, nL, Q⟩ := G
  obtain ⟨hx, hb, hml, hown, hts, hK, hA, hZ, hlk, hst, rfl, rfl, rfl, rfl⟩ := F
  intro H locs ls hP hD hS hl
  exact lv_dup2_11 hx hb d hv hw (kk H locs ls hP hD hS hl)
theorem zj_lcmp (F : zf G l K rm own cc nl) {x y : Int64} {z : Int32} (d : decode cc pc = .ok (.lcmp, 1)) (hz : lg_cmp x y = z) (kk : zj G k n (pc + 1) L (.int z :: st) ws) : zj G k n pc L (.long y :: .long x :: st) ws := by
  obtain ⟨p, l, e, R, s, m, args, below, meth, c, K, A, nL, Q⟩ := G
  obtain ⟨hx, hb, hml, hown, hts, hK, hA, hZ, hlk, hst, rfl, rfl, rfl, rfl⟩ := F
  intro H locs ls hP hD hS hl
  subst hz
  exact W.lcmp hx hb d (kk H locs ls hP hD hS hl)
theorem zj_lald (F : zf G l K rm own cc nl) {t0 : ClassId} {N a : Nat} {f : Nat → Int64} {i : Int32} {z : Int64} (d : decode cc pc = .ok (.laload, 1)) (q t j : Nat) (he : ws[q]? = some (a, .inl (t0, N, .inr (.inl f)))) (ht : (zty K)[t]? = some (t0, .long)) (hi : i = nI j) (hj : j < N) (hN : N < 2 ^ 31) (hz : f j = z) (kk : zj G k n (pc + 1) L (.long z :: st) ws) : zj G k n pc L (.int i :: .ref a :: st) ws := by
  obtain ⟨p, l, e, R, s, m, args, below, meth, c, K, A, nL, Q⟩ := G
  obtain ⟨hx, hb, hml, hown, hts, hK, hA, hZ, hlk, hst, rfl, rfl, rfl, rfl⟩ := F
  intro H locs ls hP hD hS hl
  subst hi
  subst hz
  refine va_lald hx hb hK hP q t he ht (vp_in_nI hj hN) d ?_
  rw [nI_clamp (by omega)]
  exact (kk H locs ls hP hD hS hl)
theorem zj_last (F : zf G l K rm own cc nl) {t0 : ClassId} {N a : Nat} {f : Nat → Int64} {i : Int32} {x : Int64} (d : decode cc pc = .ok (.lastore, 1)) (q t j : Nat) (he : ws[q]? = some (a, .inl (t0, N, .inr (.inl f)))) (ht : (zty K)[t]? = some (t0, .long)) (hi : i = nI j) (hj : j < N) (hN : N < 2 ^ 31) (hws : ws.set q (a, .inl (t0, N, .inr (.inl (vp_updL f j x)))) = ws') (kk : zj G k n (pc + 1) L st ws') : zj G k n pc L (.long x :: .int i :: .ref a :: st) ws := by
  obtain ⟨p, l, e, R, s, m, args, below, meth, c, K, A, nL, Q⟩ := G
  obtain ⟨hx, hb, hml, hown, hts, hK, hA, hZ, hlk, hst, rfl, rfl, rfl, rfl⟩ := F
  intro H locs ls hP hD hS hl
  subst hi
  subst hws
  refine va_last hx hb hK hP hD hS q t he ht (vp_in_nI hj hN) d ?_
  rw [nI_clamp (by omega)]
  exact fun H1 locs1 hP1 hD1 hS1 => kk H1 locs1 ls hP1 hD1 hS1 hl
theorem zj_get (F : zf G l K rm own cc nl) {C : String} {T : u_T} {N ci index a : Nat} {fs : List Value} {v : Value} (d : decode cc pc = .ok (.getfield index, 3)) (q j : Nat) (he : ws[q]? = some (a, .inr (ci, fs))) (hc : vwCl[ci]? = some (C, T, N)) (hin : ∀ w ∈ u_ws C T N, w ∈ zT) (hj : j < N) (hw : Cond.fieldLink own index (T j).1 (T j).2.1 (T j).2.2.1 ∈ zT) (hv : fs[j]? = some v) (kk : zj G k n (pc + 3) L (v :: st) ws) : zj G k n pc L (.ref a :: st) ws := by
  obtain ⟨p, l, e, R, s, m, args, below, meth, c, K, A, nL, Q⟩ := G
  obtain ⟨hx, hb, hml, hown, hts, hK, hA, hZ, hlk, hst, rfl, rfl, rfl, rfl⟩ := F
  intro H locs ls hP hD hS hl
  exact va_get hx hb hts hin hown hK hP q he hc j hj (hts _ hw) (fun _ h9 => h9) hv d (kk H locs ls hP hD hS hl)
theorem zj_getN (F : zf G l K rm own cc nl) {C host : String} {T : u_T} {N ci index a : Nat} {fs : List Value} {v : Value} (d : decode cc pc = .ok (.getfield index, 3)) (q j : Nat) (he : ws[q]? = some (a, .inr (ci, fs))) (hc : vwCl[ci]? = some (C, T, N)) (hin : ∀ w ∈ u_ws C T N, w ∈ zT) (hj : j < N) (hw : Cond.fieldLinkNest own index (T j).1 (T j).2.1 (T j).2.2.1 host ∈ zxW) (hv : fs[j]? = some v) (kk : zj G k n (pc + 3) L (v :: st) ws) : zj G k n pc L (.ref a :: st) ws := by
  obtain ⟨p, l, e, R, s, m, args, below, meth, c, K, A, nL, Q⟩ := G
  obtain ⟨hx, hb, hml, hown, hts, hK, hA, hZ, hlk, hst, rfl, rfl, rfl, rfl⟩ := F
  intro H locs ls hP hD hS hl
  exact va_getN hx hb hts hin hown hK hP q he hc j hj (va_Nw.use rfl (hZ.2.2.2 _ hw)) (fun _ h9 => h9) hv d (kk H locs ls hP hD hS hl)
theorem zj_put (F : zf G l K rm own cc nl) {C : String} {T : u_T} {N ci index a : Nat} {fs : List Value} {v : Value} {ty0 : Nat → FieldType} (d : decode cc pc = .ok (.putfield index, 3)) (q j : Nat) (he : ws[q]? = some (a, .inr (ci, fs))) (hc : vwCl[ci]? = some (C, T, N)) (hin : ∀ w ∈ u_ws C T N, w ∈ zT) (hty : ∀ k, k < N → parseFieldDescriptor (T k).2.2.1 = some (ty0 k)) (hnm : ∀ a, a < N → ∀ b, b < N → a ≠ b → (T a).2.1 ≠ (T b).2.1) (hj : j < N) (hw : Cond.fieldLink own index (T j).1 (T j).2.1 (T j).2.2.1 ∈ zT) (hfin : (T j).2.2.2 = false) (hn : narrow (ty0 j) v = v) (hfit : fits (ty0 j) v = true) (hl : j < fs.length) (hws : ws.set q (a, .inr (ci, fs.set j v)) = ws') (kk : zj G k n (pc + 3) L st ws') : zj G k n pc L (v :: .ref a :: st) ws := by
  obtain ⟨p, l, e, R, s, m, args, below, meth, c, K, A, nL, Q⟩ := G
  obtain ⟨hx, hb, hml, hown, hts, hK, hA, hZ, hlk, hst, rfl, rfl, rfl, rfl⟩ := F
  intro H locs ls hP hD hS hL
  subst hws
  exact va_put hx hb hts hin ty0 hty hnm hown hK hP hD hS q he hc j hj (hts _ hw) (fun _ h9 => h9) hfin (hty j hj) hn hfit hl d (fun H1 locs1 hP1 hD1 hS1 => kk H1 locs1 ls hP1 hD1 hS1 hL)
theorem zj_iald (F : zf G l K rm own cc nl) {t0 : ClassId} {N a : Nat} {f : Nat → Int32} {i z : Int32} (d : decode cc pc = .ok (.iaload, 1)) (q t j : Nat) (he : ws[q]? = some (a, .inl (t0, N, .inl f))) (ht : (zty K)[t]? = some (t0, .int)) (hi : i = nI j) (hj : j < N) (hN : N < 2 ^ 31) (hz : f j = z) (kk : zj G k n (pc + 1) L (.int z :: st) ws) : zj G k n pc L (.int i :: .ref a :: st) ws := by
  obtain ⟨p, l, e, R, s, m, args, below, meth, c, K, A, nL, Q⟩ := G
  obtain ⟨hx, hb, hml, hown, hts, hK, hA, hZ, hlk, hst, rfl, rfl, rfl, rfl⟩ := F
  intro H locs ls hP hD hS hl
  subst hi
  subst hz
  refine va_iald hx hb hK hP q t he ht (vp_in_nI hj hN) d ?_
  rw [nI_clamp (by omega)]
  exact (kk H locs ls hP hD hS hl)
theorem zj_bald (F : zf G l K rm own cc nl) {t0 : ClassId} {N a : Nat} {f : Nat → Int32} {i z : Int32} (d : decode cc pc = .ok (.baload, 1)) (q t j : Nat) (he : ws[q]? = some (a, .inl (t0, N, .inl f))) (ht : (zty K)[t]? = some (t0, .byte)) (hi : i = nI j) (hj : j < N) (hN : N < 2 ^ 31) (hz : f j = z) (kk : zj G k n (pc + 1) L (.int z :: st) ws) : zj G k n pc L (.int i :: .ref a :: st) ws := by
  obtain ⟨p, l, e, R, s, m, args, below, meth, c, K, A, nL, Q⟩ := G
  obtain ⟨hx, hb, hml, hown, hts, hK, hA, hZ, hlk, hst, rfl, rfl, rfl, rfl⟩ := F
  intro H locs ls hP hD hS hl
  subst hi
  subst hz
  refine va_bald hx hb hK hP q t he ht (vp_in_nI hj hN) d ?_
  rw [nI_clamp (by omega)]
  exact (kk H locs ls hP hD hS hl)
theorem zj_iast (F : zf G l K rm own cc nl) {t0 : ClassId} {N a : Nat} {f : Nat → Int32} {i x : Int32} (d : decode cc pc = .ok (.iastore, 1)) (q t j : Nat) (he : ws[q]? = some (a, .inl (t0, N, .inl f))) (ht : (zty K)[t]? = some (t0, .int)) (hi : i = nI j) (hj : j < N) (hN : N < 2 ^ 31) (hws : ws.set q (a, .inl (t0, N, .inl (upd f j x))) = ws') (kk : zj G k n (pc + 1) L st ws') : zj G k n pc L (.int x :: .int i :: .ref a :: st) ws := by
  obtain ⟨p, l, e, R, s, m, args, below, meth, c, K, A, nL, Q⟩ := G
  obtain ⟨hx, hb, hml, hown, hts, hK, hA, hZ, hlk, hst, rfl, rfl, rfl, rfl⟩ := F
  intro H locs ls hP hD hS hl
  subst hi
  subst hws
  refine va_iast hx hb hK hP hD hS q t he ht (vp_in_nI hj hN) d ?_
  rw [nI_clamp (by omega)]
  exact fun H1 locs1 hP1 hD1 hS1 => kk H1 locs1 ls hP1 hD1 hS1 hl
theorem zj_bast (F : zf G l K rm own cc nl) {t0 : ClassId} {N a : Nat} {f : Nat → Int32} {i x : Int32} (d : decode cc pc = .ok (.bastore, 1)) (q t j : Nat) (he : ws[q]? = some (a, .inl (t0, N, .inl f))) (ht : (zty K)[t]? = some (t0, .byte)) (hi : i = nI j) (hj : j < N) (hN : N < 2 ^ 31) (hws : ws.set q (a, .inl (t0, N, .inl (upd f j (vp_nar .byte x)))) = ws') (kk : zj G k n (pc + 1) L st ws') : zj G k n pc L (.int x :: .int i :: .ref a :: st) ws := by
  obtain ⟨p, l, e, R, s, m, args, below, meth, c, K, A, nL, Q⟩ := G
  obtain ⟨hx, hb, hml, hown, hts, hK, hA, hZ, hlk, hst, rfl, rfl, rfl, rfl⟩ := F
  intro H locs ls hP hD hS hl
  subst hi
  subst hws
  refine va_bast hx hb hK hP hD hS q t he ht (vp_in_nI hj hN) d ?_
  rw [nI_clamp (by omega)]
  exact fun H1 locs1 hP1 hD1 hS1 => kk H1 locs1 ls hP1 hD1 hS1 hl
theorem zj_alen (F : zf G l K rm own cc nl) {t0 : ClassId} {a : Nat} {x : vp_A} {ty : FieldType} (d : decode cc pc = .ok (.arraylength, 1)) (q t : Nat) (he : ws[q]? = some (a, .inl (t0, x))) (ht : (zty K)[t]? = some (t0, ty)) (kk : zj G k n (pc + 1) L (.int (nI x.1) :: st) ws) : zj G k n pc L (.ref a :: st) ws := by
  obtain ⟨p, l, e, R, s, m, args, below, meth, c, K, A, nL, Q⟩ := G
  obtain ⟨hx, hb, hml, hown, hts, hK, hA, hZ, hlk, hst, rfl, rfl, rfl, rfl⟩ := F
  intro H locs ls hP hD hS hl
  exact va_alen hx hb hK hP q t he ht rfl d (kk H locs ls hP hD hS hl)
theorem zj_gets (F : zf G l K rm own cc nl) {C nm : String} {xs : List Nat} {index : Nat} (d : decode cc pc = .ok (.getstatic index, 3)) (i : Nat) (hi : zst_tabs[i]? = some (C, nm, xs)) (hw : Cond.fieldLink own index C nm "[I" ∈ zT) (kk : zj G k n (pc + 3) L (.ref (K.2.2 i) :: st) ws) : zj G k n pc L st ws := by
  obtain ⟨p, l, e, R, s, m, args, below, meth, c, K, A, nL, Q⟩ := G
  obtain ⟨hx, hb, hml, hown, hts, hK, hA, hZ, hlk, hst, rfl, rfl, rfl, rfl⟩ := F
  intro H locs ls hP hD hS hl
  exact va_gets hx hb (hZ.2.2.1 i _ hi).1 hS hown (hts _ hw) (fun _ h9 => h9) d (kk H locs ls hP hD hS hl)
theorem zj_getsN (F : zf G l K rm own cc nl) {C nm host : String} {xs : List Nat} {index : Nat} (d : decode cc pc = .ok (.getstatic index, 3)) (i : Nat) (hi : zst_tabs[i]? = some (C, nm, xs)) (hw : Cond.fieldLinkNest own index C nm "[I" host ∈ zxW) (kk : zj G k n (pc + 3) L (.ref (K.2.2 i) :: st) ws) : zj G k n pc L st ws := by
  obtain ⟨p, l, e, R, s, m, args, below, meth, c, K, A, nL, Q⟩ := G
  obtain ⟨hx, hb, hml, hown, hts, hK, hA, hZ, hlk, hst, rfl, rfl, rfl, rfl⟩ := F
  intro H locs ls hP hD hS hl
  exact va_getsN hx hb (hZ.2.2.1 i _ hi).1 hS hown (va_Nw.use rfl (hZ.2.2.2 _ hw)) (fun _ h9 => h9) d (kk H locs ls hP hD hS hl)
theorem zj_tald (F : zf G l K rm own cc nl) {C nm : String} {xs : List Nat} {i : Int32} (d : decode cc pc = .ok (.iaload, 1)) (t j : Nat) (hi : zst_tabs[t]? = some (C, nm, xs)) (hj : i = nI j) (hlt : j < xs.length) (hN : xs.length < 2 ^ 31) (kk : zj G k n (pc + 1) L (.int (nI (xs.getD j 0)) :: st) ws) : zj G k n pc L (.int i :: .ref (K.2.2 t) :: st) ws := by
  obtain ⟨p, l, e, R, s, m, args, below, meth, c, K, A, nL, Q⟩ := G
  obtain ⟨hx, hb, hml, hown, hts, hK, hA, hZ, hlk, hst, rfl, rfl, rfl, rfl⟩ := F
  intro H locs ls hP hD hS hl
  subst hj
  refine va_ti hx hb (hZ.2.2.1 t _ hi).2 hS (vp_in_nI hlt hN) (v := .int (nI (xs.getD j 0))) ?_ d (kk H locs ls hP hD hS hl)
  rw [nI_clamp (by omega)]
end ZJ
