theorem zt1 : ∀ r ∈ zst_tabs, r.2.2.length < 2 ^ 31 := by decide +kernel
theorem zt2 : ∀ r ∈ zst_tabs, Cond.arrayOf (.static r.1 r.2.1 "[I") .int ∈ flatC (Jvm.Cond.and given_1 narrow_1) := by decide +kernel
theorem zt3 : ∀ r ∈ zst_tabs, Cond.eq (.length (.static r.1 r.2.1 "[I")) (.int (Int32.ofNat r.2.2.length)) ∈ flatC (Jvm.Cond.and given_1 narrow_1) := by decide +kernel
theorem zt4 : ∀ r ∈ zst_tabs, ∀ j, j < r.2.2.length → Cond.eq (.elem (.static r.1 r.2.1 "[I") (.int (Int32.ofNat j))) (.int (nI (r.2.2.getD j 0))) ∈ flatC (Jvm.Cond.and given_1 narrow_1) := by decide +kernel
theorem zt5 : ∀ r ∈ zst_tabs, Cond.laysStatic r.1 r.2.1 "[I" ∈ lw_tbl := by decide +kernel
theorem zt6 : ∀ r ∈ zst_tabs, Cond.initialized r.1 ∈ lw_tbl := by decide +kernel
theorem zt7 {w : Cond} {args : Array Value} {s : State} (hz : zok w = true) (h : w.before args s = true) : va_Nw w s := by
  cases w with
  | fieldLinkNest => exact va_Nw.of rfl h
  | methodLinkNest => exact va_Nw.of rfl h
  | castable => exact va_Nw.of rfl h
  | declares => exact va_Nw.of rfl h
  | stringRef => exact h
  | _ => exact absurd hz Bool.false_ne_true
theorem zw_start {args : Array Value} {s : State} (hts : ∀ w ∈ lw_tbl, w.before args s = true) (hgv : (Jvm.Cond.and given_1 narrow_1).before args s = true) : ∃ q : Nat → Nat, zst q (fun a => s.heap.size ≤ a) s s.heap := by
  have hs := flat_of_before _ hgv
  have hA : ∀ a : Nat, a < s.heap.size → ¬ (fun a => s.heap.size ≤ a) a := fun a h => Nat.not_le.mpr h
  have h0 : ∀ i : Nat, ∃ q : Nat, ∀ r, zst_tabs[i]? = some r → va_Z r.1 r.2.1 "[I" (.ref q) (fun a => s.heap.size ≤ a) s s.heap ∧ va_T .int q r.2.2.length (fun j => .int (nI (r.2.2.getD j 0))) (fun a => s.heap.size ≤ a) s s.heap := by
    intro i
    cases hi : zst_tabs[i]? with
    | none => exact ⟨0, fun r h => by cases h⟩
    | some r =>
      have hm := List.mem_of_getElem? hi
      obtain ⟨t, ht, hT⟩ := va_Tof (tm := .static r.1 r.2.1 "[I") (ty := .int) (N := r.2.2.length) (f := fun j => .int (nI (r.2.2.getD j 0))) (A := (fun a => s.heap.size ≤ a)) (zt1 r hm) (hs _ (zt2 r hm)) (va_eqt (hs _ (zt3 r hm))) (fun j hj => va_eqt (hs _ (zt4 r hm j hj))) hA
      exact ⟨t, fun r2 h2 => by cases h2; exact ⟨va_Zref (hts _ (zt5 r hm)) (hts _ (zt6 r hm)) ht hA, hT⟩⟩
  obtain ⟨q, hq⟩ := Classical.axiomOfChoice h0
  refine ⟨q, ⟨vx_Zqof (hts _ (by decide +kernel)) (hts _ (by decide +kernel)) (hs _ (by decide +kernel)) hA, va_Nc.of (hs _ (by decide +kernel))⟩, vx_Zqof (hts _ (by decide +kernel)) (hts _ (by decide +kernel)) (hs _ (by decide +kernel)) hA, hq, fun w hw => zt7 (List.mem_filter.mp hw).2 (hts w (List.mem_filter.mp hw).1)⟩
set_option maxHeartbeats 4000000 in
theorem zK_start {args : Array Value} {s : State} (hts : ∀ w ∈ lw_tbl, w.before args s = true) : ∃ (D : va_G) (cA : Nat → ClassId), ∀ q : Nat → Nat, va_K D vwCl (zty (D, cA, q)) s := by
  have hzT : ∀ w ∈ zT, w.before args s = true := fun w h => hts w (List.mem_filter.mp h).1
  obtain ⟨c0, i0, h0⟩ := u_known hzT in_BR (hts _ (List.mem_filter.mp q_32).1)
  obtain ⟨c1, i1, h1⟩ := u_known hzT in_CO (hts _ (List.mem_filter.mp q_49).1)
  obtain ⟨c2, i2, h2⟩ := u_known hzT in_PA (hts _ (List.mem_filter.mp q_110).1)
  obtain ⟨c3, i3, h3⟩ := u_known hzT in_UN (hts _ (List.mem_filter.mp q_26).1)
  obtain ⟨c4, i4, h4⟩ := u_known hzT in_ZB (hts _ (List.mem_filter.mp q_18).1)
  obtain ⟨c5, i5, h5⟩ := u_known hzT in_MC (hts _ (List.mem_filter.mp q_532).1)
  obtain ⟨c6, i6, h6⟩ := u_known hzT in_MO (hts _ (List.mem_filter.mp q_526).1)
  obtain ⟨a0, k0, p0, f0, g0, j0⟩ := Cond.arrayClass_spec (hts _ (List.mem_filter.mp q_47).1)
  obtain ⟨a1, k1, p1, f1, g1, j1⟩ := Cond.arrayClass_spec (hts _ (List.mem_filter.mp q_67).1)
  obtain ⟨a2, k2, p2, f2, g2, j2⟩ := Cond.arrayClass_spec (hts _ (List.mem_filter.mp q_760).1)
  refine ⟨(fun c => match c with | 0 => c0 | 1 => c1 | 2 => c2 | 3 => c3 | 4 => c4 | 5 => c5 | _ => c6, fun c => match c with | 0 => i0 | 1 => i1 | 2 => i2 | 3 => i3 | 4 => i4 | 5 => i5 | _ => i6), fun c => match c with | 0 => a0 | 1 => a1 | _ => a2, fun q => ⟨?_, ?_⟩⟩
  · intro c r hc
    match c, hc with
    | 0, hc => cases hc; exact h0
    | 1, hc => cases hc; exact h1
    | 2, hc => cases hc; exact h2
    | 3, hc => cases hc; exact h3
    | 4, hc => cases hc; exact h4
    | 5, hc => cases hc; exact h5
    | 6, hc => cases hc; exact h6
    | c + 7, hc => cases hc
  · intro k r hk
    match k, hk with
    | 0, hk => cases hk; exact ⟨fun n z => ⟨fun k h => (by cases h), k0, g0, p0, j0⟩, f0⟩
    | 1, hk => cases hk; exact ⟨fun n z => ⟨fun k h => (by cases h), k1, g1, p1, j1⟩, f1⟩
    | 2, hk => cases hk; exact ⟨fun n z => ⟨fun k h => (by cases h), k2, g2, p2, j2⟩, f2⟩
    | k + 3, hk => cases hk
theorem whole_start {p : Program} {e : Env} {s : State} {m : MethodId} {below : List Frame} {meth : Method} {c : Code} (l : Launch) (hl : l.stackTraces = false) {b L : Nat} {xs : Nat → Int32} (hL : L ≤ 3072) (C0 : lw_At p s m meth c b L xs) : W p l e room_1 s m #[Value.ref b] below meth c s.heap [] 0 0 (lw_Z below #[Value.ref b] s) (entryFrame m ([Value.ref b] : List Value).toArray 8) := by
  obtain ⟨hx, hb, hr, hml, hown, hts, hX, hbl, hlk, hgv⟩ := C0
  obtain ⟨q, hZ⟩ := zw_start hts hgv
  obtain ⟨D, cA, hK⟩ := zK_start hts
  have hl0 := lv_entry [Value.ref b] (n := 8) (Nat.le_of_ble_eq_true rfl)
  rw [lg_entry_eq]
  exact zlaw l hl (D, cA, q) (p, l, e, room_1, s, m, #[Value.ref b], below, meth, c, (D, cA, q), (fun a => s.heap.size ≤ a), 8, lw_Z below #[Value.ref b] s) b L xs hL ⟨hx, hb, hml, hown, fun w h => hts w (List.mem_filter.mp h).1, hK q, fun _ h => h, hZ, hlk, fun q h cell hc => absurd (Array.getElem?_eq_some_iff.mp hc).1 (Nat.not_lt.mpr h), rfl, rfl, rfl, rfl⟩ ⟨hX, hbl, Nat.not_le.mpr hbl⟩ ⟨b, rfl, rfl, rfl, hr, fun _ h => h⟩ s.heap [] _ (fun k q h => by cases h) ⟨fun i j p q h => (by cases h), fun k q h => (by cases h)⟩ va_S.rf hl0
set_option maxHeartbeats 4000000 in
theorem lw_walk (l : Launch) (hl : l.stackTraces = false) (b : Addr) (xs : List Int32) : MetFree l x (headSpec (Jvm.Cond.code x code maxLocals ret :: tables_1) room_1) (lw_P b xs) (fun _ _ _ _ _ => True) lw_Q := by
  refine MetFree.of_bodyS (code := code) (maxLocals := maxLocals) (ret := ret) (by decide) ?_ ?_
  · intro args s m h hn
    obtain ⟨meth, c, h1, h2, h3, h4, h5, h6, -, -⟩ := Cond.code_spec hn (atoms_spec (ws := Jvm.Cond.code x code maxLocals ret :: tables_1) h _ List.mem_cons_self)
    exact ⟨meth, c, h1, h2, h3, h4, h5, h6⟩
  · intro p e s m args below meth c s₁ B hml0 hP _
    obtain ⟨rfl, hx, hbd, hgv⟩ := hP
    obtain ⟨scr, harrAt, hlist, hof, hsmall⟩ := hx
    obtain ⟨hcb, hkn, -, -⟩ := State.arrayAt?_spec harrAt
    have hown : s.vm.findClass R_law = some m.cls := findClass_of_methodNamed B.named
    have hts0 : ∀ c ∈ (Jvm.Cond.code x code maxLocals ret :: tables_1), c.before #[Value.ref b] s = true := atoms_spec (ws := Jvm.Cond.code x code maxLocals ret :: tables_1) B.pre
    have hts : ∀ w ∈ lw_tbl, w.before #[Value.ref b] s = true := k2_hts_sels lw_privs (fun w hw => hts0 w (List.mem_cons_of_mem _ hw)) lw_privs_ok
    have hml : c.maxLocals = 8 := B.maxLocals_eq (hts0 _ List.mem_cons_self)
    have X₀ : Stand p l e room_1 s m #[Value.ref b] below meth c s₁ [] 0 0 := Stand.of_body B
    have hh0 : s₁.heap = s.heap := by rw [B.state]; rfl
    have hsz : scr.slots.size = xs.length := by rw [← Array.length_toList, hlist, List.length_map]
    have hval : ∀ j : Nat, j < xs.length → scr.slots[j]? = some (.int (xs.getD j 0)) := fun j hj => by
      rw [← Array.getElem?_toList, hlist]
      simp [hj]
    have hbl : b < s.heap.size := (Array.getElem?_eq_some_iff.mp hcb).1
    have hX : va_X b xs.length (fun j => xs.getD j 0) s s.heap := ⟨scr, hcb, hof, hkn, hsz, hval⟩
    have K : W p l e room_1 s m #[Value.ref b] below meth c s₁.heap [] 0 0 (lw_Z below #[Value.ref b] s) (entryFrame m ([Value.ref b] : List Value).toArray 8) := by
      rw [hh0]
      exact whole_start l hl hbd ⟨B.exec, B.bytes, B.returns, hml, hown, hts, hX, hbl, B.notSynchronized, hgv⟩
    obtain ⟨t, a1, o, b1, b2, b3⟩ := K s₁ rfl X₀
    exact ⟨t, o, a1, b1, b2, b3⟩
theorem lw_pre_spec {args : Array Value} {s : State} (h : (Jvm.Cond.and given_1 narrow_1).before args s = true) (hr : rest_1_c.before args s = true) : ∃ (b : Addr) (xs : List Int32), lw_P b xs args s := by
  have hs := flat_of_before _ h
  have hq := flat_of_before _ hr
  have hc : (Cond.count 1).before args s = true := hs _ (by decide +kernel)
  have harr : (Cond.arrayOf (.arg 0) .int).before args s = true := hs _ (by decide +kernel)
  have hle : (Cond.le (.length (.arg 0)) (.int 3072)).before args s = true := hs _ (by decide +kernel)
  have hlen : (Cond.isInt (.length (.arg 0))).before args s = true := hq _ (by decide +kernel)
  have hall : (Cond.all (.arg 0) (.isInt (.elem (.arg 0) (.index 0)))).before args s = true := hq _ (by decide +kernel)
  obtain ⟨b, xs, hb, hx⟩ := State.ints_of_pre rfl harr hlen hall
  have hsm : xs.length < 2 ^ 31 := hx.choose_spec.2.2.2
  have hev : (Term.length (.arg 0)).eval args s none [] s = some (.int xs.length.toInt32) := hx.length_eval hb
  have hv := Cond.le_ints hev (show (Term.int 3072).eval args s none [] s = some (.int 3072) from rfl)
  have hd : xs.length.toInt32 ≤ 3072 := by
    simpa [Cond.before, Cond.holds, hv] using hle
  have hN : xs.length ≤ 3072 := (Int32.ofNat_le_ofNat hsm (by decide)).mp (show Int32.ofNat xs.length ≤ Int32.ofNat 3072 from hd)
  exact ⟨b, xs, Cond.one_arg hc (show args[0]? = some (.ref b) from hb), hx, hN, h⟩
theorem lw_comes (l : Launch) (hl : l.stackTraces = false) : Comes l x (Jvm.Cond.code x code maxLocals ret :: tables_1) room_1 (fun tb e args s => Calls_1 tb e args s ∧ rest_1 tb e args s ∧ Pre_1 tb e args s)
    (fun _ _ args s o t => lw_Q args s o t) := by
  intro p e ha hc hk s m args below hf hfit hheap happ hpre
  obtain ⟨b, xs, hP⟩ := lw_pre_spec hpre.2.2 hpre.2.1
  obtain ⟨k, o, h1, h2, h3, hQ⟩ := lw_walk l hl b xs p e ha hc hk s m args below hf ((Spec.applies_iff_loose hf).mp happ).1 hP trivial
  exact ⟨k, o, h1, h2, h3, hQ⟩
theorem lw_frame {s t : State} {o : Outcome} {args : Array Value} (h : Framed s o t [] 601024 7293033) :
    Framed s o t (fieldLocs frame_1_writes args s ++ arrayLocs frame_1_arrays args s ++ staticLocs frame_1_statics s) 601024 7293033 := h
theorem lw_limb (L : Cond) (hL : ∀ (args : Array Value) (s t : State), L.after args s (.returned (some (.int 1))) t = true) :
    ArmFor flags0 classFile x code maxLocals ret World_1 tables_1 room_1 Calls_1 rest_1 Pre_1
      (fun tb e a s o t => postC L tb e a s o t ∧ Framed s o t (fieldLocs frame_1_writes a s ++ arrayLocs frame_1_arrays a s ++ staticLocs frame_1_statics s) 601024 7293033) := by
  intro l hl _ _ p e ha hc hk s m args below hf hfit hheap happ hpre
  obtain ⟨k, o, h1, h2, h3, rfl, hF⟩ := lw_comes l (by unfold Launch.stackTraces; rw [hl]; decide +kernel) p e ha hc hk s m args below hf hfit hheap happ hpre
  exact ⟨k, _, h1, h2, h3, hL args s _, lw_frame hF⟩
theorem i_vc : Claimed_1_1 ∧ Claimed_1_2 := ⟨lw_limb limb_1_1 (fun args s t => by simp [limb_1_1, Cond.after, Cond.holds, Cond.value]), lw_limb limb_1_2 (fun args s t => Cond.after_iff.mpr (by
  first | (rw [show limb_1_2 = Cond.eq .result (.int 1) from rfl, Cond.eq_ints (x := 1) (y := 1) rfl rfl]; simp; done) | (simp [limb_1_2, Cond.value, Term.eval]; done)))⟩
