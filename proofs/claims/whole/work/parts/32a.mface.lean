/-- the world of the reference: what it answered last, a tape of n bytes t, a result of rl bytes o -/
def zmw (K : zk) (m fc n rl : Nat) (t o : Nat → Nat) (w : va_W) : Prop := ∃ (ta re da ro li di lc la ou he ch lica lima dica dima lcca lcma : Nat) (dn rn ba os bb bc xl xd xc : Int32) (tm om dd rr lg ci gi cd gd cc gc oo hg cg : Nat → Nat), n ≤ 16384 ∧ rl ≤ 16384 ∧ (∀ j, t j < 256) ∧ (∀ j, tm j < 256) ∧ (∀ j, om j < 256) ∧ (∀ j, dd j < 256) ∧ (∀ j, rr j < 256) ∧ (∀ j, oo j < 256) ∧ (∀ j, j < n → tm j = t j) ∧ (∀ j, j < rl → om j = o j) ∧ w = [zO m 6 [.int (nI fc), .ref ta, .int (nI n), .ref re, .int (nI rl), .ref da, .int dn, .ref ro, .int rn, .int ba, .ref li, .ref di, .ref lc, .ref la, .ref ou, .int os, .int bb, .int bc, .ref he, .ref ch], zB K ta 16384 (zby tm), zB K re 16384 (zby om), zB K da 16384 (zby dd), zB K ro 16640 (zby rr), zI K la 640 (zna lg), zO lc 5 [.ref lcca, .ref lcma, .int xc], zI K lcca 16 (zna cc), zI K lcma 320 (zna gc), zO li 5 [.ref lica, .ref lima, .int xl], zI K lica 16 (zna ci), zI K lima 320 (zna gi), zO di 5 [.ref dica, .ref dima, .int xd], zI K dica 16 (zna cd), zI K dima 320 (zna gd), zB K ou 65536 (zby oo), zI K he 65536 (zm1 hg), zI K ch 16640 (zm1 cg)]
/-- what a call answers: its code, its value, the tape and the result behind it -/
abbrev zout : Type := Nat × Int64 × Nat × Nat × (Nat → Nat) × (Nat → Nat)
def zfd5 (t : Nat → Nat) (n : Nat) (v1 v2 v3 v4 v5 : Int32) : Nat → Nat := zint (zint (zint (zint (zint t n v1) (n + 4) v2) (n + 8) v3) (n + 12) v4) (n + 16) v5
def zsF (n rl : Nat) (t o : Nat → Nat) (v1 v2 v3 v4 v5 : Int32) (q : zout) : Prop := (n + 20 ≤ 16384 ∧ q = (0, (nI (n + 20)).toInt64, n + 20, rl, zfd5 t n v1 v2 v3 v4 v5, o)) ∨ (¬ n + 20 ≤ 16384 ∧ q = (1, 0, n, rl, t, o))
def zsE (n rl : Nat) (t o : Nat → Nat) (v : Int32) (q : zout) : Prop := (∃ c, v = nI c ∧ c ≤ n ∧ q = (0, (nI c).toInt64, c, rl, t, o)) ∨ ((v < 0 ∨ nI n < v) ∧ q = (1, 0, n, rl, t, o))
def zsC (n rl : Nat) (t o : Nat → Nat) (v : Int32) (q : zout) : Prop := (v = 0 ∧ q = (0, (nI n).toInt64, n, rl, t, o)) ∨ (¬ v = 0 ∧ v = nI 1 ∧ q = (0, (nI rl).toInt64, n, rl, t, o)) ∨ ((¬ v = 0 ∧ ¬ v = nI 1) ∧ q = (1, 0, n, rl, t, o))
/-- the bytes of the result from i on, k of them, as a number -/
def zwv (o : Nat → Nat) (rl i : Nat) : Nat → Nat
  | 0 => 0
  | k + 1 => zwv o rl i k * 256 + (if i + k < rl then o (i + k) else 0)
theorem zwv_s (o : Nat → Nat) (rl i k : Nat) : zwv o rl i (k + 1) = zwv o rl i k * 256 + (if i + k < rl then o (i + k) else 0) := rfl
def zsW (n rl : Nat) (t o : Nat → Nat) (v : Int32) (q : zout) : Prop := (∃ i, v = nI i ∧ i < rl ∧ q = (0, Int64.ofNat (zwv o rl i 8), n, rl, t, o)) ∨ ((v < 0 ∨ nI rl ≤ v) ∧ q = (1, 0, n, rl, t, o))
def zsU (n rl : Nat) (t o : Nat → Nat) (q : zout) : Prop := ∃ d : Nat → Nat, (∃ (o' : Nat → Nat) (w' : Nat), zunp t (8 * n) d = .ok (o', w') ∧ q = (0, (nI w').toInt64, 0, w', t, o')) ∨ (zunp t (8 * n) d = .error zU ∧ q = (1, 0, 0, rl, t, o)) ∨ (zunp t (8 * n) d = .error zY ∧ q = (2, 0, 0, rl, t, o))
def zsP (n rl : Nat) (t o : Nat → Nat) (q : zout) : Prop := ∃ d : Nat → Nat, (∀ j, d j < 256) ∧ (((zpack t n d).2 ≤ 16384 ∧ q = (0, (nI (zpack t n d).2).toInt64, n, (zpack t n d).2, t, (zpack t n d).1)) ∨ (16384 < (zpack t n d).2 ∧ q = (1, 0, n, rl, t, o)))
theorem zint_at (t : Nat → Nat) (p : Nat) (x : Int32) (j : Nat) : zint t p x j = if j = p + 3 then zlow x else if j = p + 2 then zlow (x >>> (nI 8 &&& 31)) else if j = p + 1 then zlow (x >>> (nI 16 &&& 31)) else if j = p then zlow (x >>> (nI 24 &&& 31)) else t j := rfl
theorem zint_ne {t : Nat → Nat} {p : Nat} {x : Int32} {j : Nat} (h : j < p ∨ p + 4 ≤ j) : zint t p x j = t j := by
  rw [zint_at, if_neg (by omega), if_neg (by omega), if_neg (by omega), if_neg (by omega)]
theorem zint_kk {t : Nat → Nat} {p n k : Nat} {x : Int32} (h1 : p ≤ n + k) (h2 : n + k < p + 4) (h3 : k % 4 = n + k - p) : zint t p x (n + k) = zlow (x >>> (nI (24 - 8 * (k % 4)) &&& 31)) := by
  rw [zint_at, h3]
  by_cases a : n + k = p + 3
  · rw [if_pos a, show 24 - 8 * (n + k - p) = 0 by omega, zI_shr0]
  · rw [if_neg a]
    by_cases b : n + k = p + 2
    · rw [if_pos b, show 24 - 8 * (n + k - p) = 8 by omega]
    · rw [if_neg b]
      by_cases c : n + k = p + 1
      · rw [if_pos c, show 24 - 8 * (n + k - p) = 16 by omega]
      · rw [if_neg c, if_pos (by omega), show 24 - 8 * (n + k - p) = 24 by omega]
theorem zfd5_lt {t : Nat → Nat} (h : ∀ j, t j < 256) (n : Nat) (v1 v2 v3 v4 v5 : Int32) : ∀ j, zfd5 t n v1 v2 v3 v4 v5 j < 256 := zint_lt (zint_lt (zint_lt (zint_lt (zint_lt h _ _) _ _) _ _) _ _) _ _
theorem zfd5_low {t : Nat → Nat} {n : Nat} {v1 v2 v3 v4 v5 : Int32} {j : Nat} (h : j < n) : zfd5 t n v1 v2 v3 v4 v5 j = t j := by
  unfold zfd5
  rw [zint_ne (Or.inl (by omega)), zint_ne (Or.inl (by omega)), zint_ne (Or.inl (by omega)), zint_ne (Or.inl (by omega)), zint_ne (Or.inl (by omega))]
theorem zag_cp {s f : Nat → Nat} {i : Nat} (hs : ∀ j, s j < 256) (h : ∀ j, j < i → f j = s j) : ∀ j, j < i + 1 → va_up f i (zlow (zby s i)) j = s j := by
  intro j hj
  by_cases e : j = i
  · subst e
    rw [va_up_self, zby_low (hs _)]
  · rw [va_up_ne _ _ e]
    exact h j (by omega)
theorem zcp_lt {o om t : Nat → Nat} {rl : Nat} (hre : ∀ j, j < rl → om j = o j) (hom : ∀ j, om j < 256) (hb : ∀ j, t j < 256) : ∀ j, va_cpy o t 0 0 rl j < 256 := by
  intro j
  rw [va_cpy_at]
  by_cases h : j < rl
  · rw [if_pos h, ← hre j h]
    exact hom j
  · rw [if_neg h]
    exact hb j
theorem zL_toI (a : Nat) : (Int64.ofNat a).toInt32 = nI a := by
  apply zI_inj
  show BitVec.signExtend 32 (BitVec.ofNat 64 a) = BitVec.ofNat 32 a
  apply BitVec.eq_of_getLsbD_eq
  intro i hi
  have h1 : i < 64 := by omega
  rw [BitVec.getLsbD_signExtend, BitVec.getLsbD_ofNat, BitVec.getLsbD_ofNat]
  simp [hi, h1]
theorem zm1_one : zm1 (fun _ => 1) = fun _ => 0 := by
  funext i
  show nI 1 - 1 = 0
  decide
theorem zI_01 {c : Nat} (h : c ≤ 1) : nI c = 0 ∨ nI c = nI 1 := by
  have : c = 0 ∨ c = 1 := by omega
  rcases this with rfl | rfl
  · exact Or.inl (by decide)
  · exact Or.inr rfl
theorem zpS_eq (d : Nat → Nat) : zpS d = zput (va_up (va_up d 0 120) 1 1, 2, 0, 0) 3 3 := by
  unfold zpS
  rw [zput_put]

set_option maxHeartbeats 4000000 in
set_option maxRecDepth 100000 in
/-- Codes() -/
theorem i_MC (l : Launch) (K : zk) (c : Nat) : zc l K y_MC_init w_MC_init { frames := 1, cells := 2, slots := 336, locals := 20 } 2 336 0 0 [.ref c] [zO c 5 [.null, .null, .int (nI 0)]] (fun r w1 => ∃ cca cma, r = none ∧ w1 = [zO c 5 [.ref cca, .ref cma, .int (nI 0)], zI K cca 16 (zna (fun _ => 0)), zI K cma 320 (zna (fun _ => 0))]) (fun _ _ => False) := by
  refine zc_ofN (cc := c_MC_init) (nl := 1) (ret := none) (by decide) (Nat.le_of_ble_eq_true rfl) (fun G F E Z => ?_)
  have F : zf G l K { frames := 1, cells := 2, slots := 336, locals := 20 } "ZlibBoxModel$Codes" c_MC_init 1 := F
  show zj G 0 0 0 [(0, .ref c)] [] [zO c 5 [.null, .null, .int (nI 0)]]
  refine zj_aload_n F d_MC_init_0 0 rfl rfl ?_
  refine zj_objInit F d_MC_init_1 q_536 (by decide) (by decide) ?_
  refine zj_aload_n F d_MC_init_4 0 rfl rfl ?_
  refine zj_bipush (v := nI 16) F d_MC_init_5 (by decide) ?_
  refine zj_newa (a0 := (16, .inl (zna (fun _ => 0)))) F d_MC_init_7 1 rfl rfl (Or.inr (Or.inl rfl)) q_67 (fun _ => rfl) rfl (by decide) (by decide) (by decide) (fun cca => ?_)
  show zj G 1 16 9 [(0, .ref c)] [.ref cca, .ref c] [zO c 5 [.null, .null, .int (nI 0)], zI K cca 16 (zna (fun _ => 0))]
  refine zj_putF (ws' := [zO c 5 [.ref cca, .null, .int (nI 0)], zI K cca 16 (zna (fun _ => 0))]) F Z d_MC_init_9 0 0 rfl rfl in_MC ty_MC nm_MC (by decide) q_537 rfl rfl rfl rfl (Nat.le_of_ble_eq_true rfl) rfl ?_
  refine zj_aload_n F d_MC_init_12 0 rfl rfl ?_
  refine zj_sipush (v := nI 320) F d_MC_init_13 (by decide) ?_
  refine zj_newa (a0 := (320, .inl (zna (fun _ => 0)))) F d_MC_init_16 1 rfl rfl (Or.inr (Or.inl rfl)) q_67 (fun _ => rfl) rfl (by decide) (by decide) (by decide) (fun cma => ?_)
  show zj G 2 336 18 [(0, .ref c)] [.ref cma, .ref c] [zO c 5 [.ref cca, .null, .int (nI 0)], zI K cca 16 (zna (fun _ => 0)), zI K cma 320 (zna (fun _ => 0))]
  refine zj_putF (ws' := [zO c 5 [.ref cca, .ref cma, .int (nI 0)], zI K cca 16 (zna (fun _ => 0)), zI K cma 320 (zna (fun _ => 0))]) F Z d_MC_init_18 0 1 rfl rfl in_MC ty_MC nm_MC (by decide) q_539 rfl rfl rfl rfl (Nat.le_of_ble_eq_true rfl) rfl ?_
  exact zj_vret F E d_MC_init_21 (Nat.le_refl _) (Nat.le_refl _) ⟨cca, cma, rfl, rfl⟩
set_option maxHeartbeats 4000000 in
set_option maxRecDepth 100000 in
/-- ZlibBoxModel() -/
theorem i_MO (l : Launch) (K : zk) (m : Nat) : zc l K y_MO_init w_MO_init { frames := 2, cells := 17, slots := 215161, locals := 50 } 17 215161 0 0 [.ref m] [zO m 6 [.int (nI 0), .null, .int (nI 0), .null, .int (nI 0), .null, .int (nI 0), .null, .int (nI 0), .int (nI 0), .null, .null, .null, .null, .null, .int (nI 0), .int (nI 0), .int (nI 0), .null, .null]] (fun r w1 => r = none ∧ zmw K m 0 0 0 (fun _ => 0) (fun _ => 0) w1) (fun _ _ => False) := by
  refine zc_ofN (cc := c_MO_init) (nl := 1) (ret := none) (by decide) (Nat.le_of_ble_eq_true rfl) (fun G F E Z => ?_)
  have F : zf G l K { frames := 2, cells := 17, slots := 215161, locals := 50 } "ZlibBoxModel" c_MO_init 1 := F
  show zj G 0 0 0 [(0, .ref m)] [] [zO m 6 [.int (nI 0), .null, .int (nI 0), .null, .int (nI 0), .null, .int (nI 0), .null, .int (nI 0), .int (nI 0), .null, .null, .null, .null, .null, .int (nI 0), .int (nI 0), .int (nI 0), .null, .null]]
  refine zj_aload_n F d_MO_init_0 0 rfl rfl ?_
  refine zj_objInit F d_MO_init_1 q_530 (by decide) (by decide) ?_
  refine zj_aload_n F d_MO_init_4 0 rfl rfl ?_
  refine zj_sipush (v := nI 16384) F d_MO_init_5 (by decide) ?_
  refine zj_newa (a0 := (16384, .inl (zby (fun _ => 0)))) F d_MO_init_8 0 rfl rfl (Or.inl rfl) q_47 (fun _ => rfl) rfl (by decide) (by decide) (by decide) (fun ta => ?_)
  show zj G 1 16384 10 [(0, .ref m)] [.ref ta, .ref m] [zO m 6 [.int (nI 0), .null, .int (nI 0), .null, .int (nI 0), .null, .int (nI 0), .null, .int (nI 0), .int (nI 0), .null, .null, .null, .null, .null, .int (nI 0), .int (nI 0), .int (nI 0), .null, .null], zB K ta 16384 (zby (fun _ => 0))]
  refine zj_putF (ws' := [zO m 6 [.int (nI 0), .ref ta, .int (nI 0), .null, .int (nI 0), .null, .int (nI 0), .null, .int (nI 0), .int (nI 0), .null, .null, .null, .null, .null, .int (nI 0), .int (nI 0), .int (nI 0), .null, .null], zB K ta 16384 (zby (fun _ => 0))]) F Z d_MO_init_10 0 1 rfl rfl in_MO ty_MO nm_MO (by decide) q_552 rfl rfl rfl rfl (Nat.le_of_ble_eq_true rfl) rfl ?_
  refine zj_aload_n F d_MO_init_13 0 rfl rfl ?_
  refine zj_sipush (v := nI 16384) F d_MO_init_14 (by decide) ?_
  refine zj_newa (a0 := (16384, .inl (zby (fun _ => 0)))) F d_MO_init_17 0 rfl rfl (Or.inl rfl) q_47 (fun _ => rfl) rfl (by decide) (by decide) (by decide) (fun re => ?_)
  show zj G 2 32768 19 [(0, .ref m)] [.ref re, .ref m] [zO m 6 [.int (nI 0), .ref ta, .int (nI 0), .null, .int (nI 0), .null, .int (nI 0), .null, .int (nI 0), .int (nI 0), .null, .null, .null, .null, .null, .int (nI 0), .int (nI 0), .int (nI 0), .null, .null], zB K ta 16384 (zby (fun _ => 0)), zB K re 16384 (zby (fun _ => 0))]
  refine zj_putF (ws' := [zO m 6 [.int (nI 0), .ref ta, .int (nI 0), .ref re, .int (nI 0), .null, .int (nI 0), .null, .int (nI 0), .int (nI 0), .null, .null, .null, .null, .null, .int (nI 0), .int (nI 0), .int (nI 0), .null, .null], zB K ta 16384 (zby (fun _ => 0)), zB K re 16384 (zby (fun _ => 0))]) F Z d_MO_init_19 0 3 rfl rfl in_MO ty_MO nm_MO (by decide) q_554 rfl rfl rfl rfl (Nat.le_of_ble_eq_true rfl) rfl ?_
  refine zj_aload_n F d_MO_init_22 0 rfl rfl ?_
  refine zj_sipush (v := nI 16384) F d_MO_init_23 (by decide) ?_
  refine zj_newa (a0 := (16384, .inl (zby (fun _ => 0)))) F d_MO_init_26 0 rfl rfl (Or.inl rfl) q_47 (fun _ => rfl) rfl (by decide) (by decide) (by decide) (fun da => ?_)
  show zj G 3 49152 28 [(0, .ref m)] [.ref da, .ref m] [zO m 6 [.int (nI 0), .ref ta, .int (nI 0), .ref re, .int (nI 0), .null, .int (nI 0), .null, .int (nI 0), .int (nI 0), .null, .null, .null, .null, .null, .int (nI 0), .int (nI 0), .int (nI 0), .null, .null], zB K ta 16384 (zby (fun _ => 0)), zB K re 16384 (zby (fun _ => 0)), zB K da 16384 (zby (fun _ => 0))]
  refine zj_put (ws' := [zO m 6 [.int (nI 0), .ref ta, .int (nI 0), .ref re, .int (nI 0), .ref da, .int (nI 0), .null, .int (nI 0), .int (nI 0), .null, .null, .null, .null, .null, .int (nI 0), .int (nI 0), .int (nI 0), .null, .null], zB K ta 16384 (zby (fun _ => 0)), zB K re 16384 (zby (fun _ => 0)), zB K da 16384 (zby (fun _ => 0))]) F d_MO_init_28 0 5 rfl rfl in_MO ty_MO nm_MO (by decide) q_556 rfl rfl rfl (Nat.le_of_ble_eq_true rfl) rfl ?_
  refine zj_aload_n F d_MO_init_31 0 rfl rfl ?_
  refine zj_sipush (v := nI 16640) F d_MO_init_32 (by decide) ?_
  refine zj_newa (a0 := (16640, .inl (zby (fun _ => 0)))) F d_MO_init_35 0 rfl rfl (Or.inl rfl) q_47 (fun _ => rfl) rfl (by decide) (by decide) (by decide) (fun ro => ?_)
  show zj G 4 65792 37 [(0, .ref m)] [.ref ro, .ref m] [zO m 6 [.int (nI 0), .ref ta, .int (nI 0), .ref re, .int (nI 0), .ref da, .int (nI 0), .null, .int (nI 0), .int (nI 0), .null, .null, .null, .null, .null, .int (nI 0), .int (nI 0), .int (nI 0), .null, .null], zB K ta 16384 (zby (fun _ => 0)), zB K re 16384 (zby (fun _ => 0)), zB K da 16384 (zby (fun _ => 0)), zB K ro 16640 (zby (fun _ => 0))]
  refine zj_putF (ws' := [zO m 6 [.int (nI 0), .ref ta, .int (nI 0), .ref re, .int (nI 0), .ref da, .int (nI 0), .ref ro, .int (nI 0), .int (nI 0), .null, .null, .null, .null, .null, .int (nI 0), .int (nI 0), .int (nI 0), .null, .null], zB K ta 16384 (zby (fun _ => 0)), zB K re 16384 (zby (fun _ => 0)), zB K da 16384 (zby (fun _ => 0)), zB K ro 16640 (zby (fun _ => 0))]) F Z d_MO_init_37 0 7 rfl rfl in_MO ty_MO nm_MO (by decide) q_558 rfl rfl rfl rfl (Nat.le_of_ble_eq_true rfl) rfl ?_
  refine zj_aload_n F d_MO_init_40 0 rfl rfl ?_
  refine zj_new (fs := [.null, .null, .int (nI 0)]) F d_MO_init_41 (ci := 5) rfl in_MC ty_MC q_531 q_532 q_8 (df_MC) (by decide) (by decide) (fun li => ?_)
  show zj G 5 65795 44 [(0, .ref m)] [.ref li, .ref m] [zO m 6 [.int (nI 0), .ref ta, .int (nI 0), .ref re, .int (nI 0), .ref da, .int (nI 0), .ref ro, .int (nI 0), .int (nI 0), .null, .null, .null, .null, .null, .int (nI 0), .int (nI 0), .int (nI 0), .null, .null], zB K ta 16384 (zby (fun _ => 0)), zB K re 16384 (zby (fun _ => 0)), zB K da 16384 (zby (fun _ => 0)), zB K ro 16640 (zby (fun _ => 0)), zO li 5 [.null, .null, .int (nI 0)]]
  refine zj_dup F d_MO_init_44 rfl ?_
  refine zj_call (maxL := 1) (wr := [zO m 6 [.int (nI 0), .ref ta, .int (nI 0), .ref re, .int (nI 0), .ref da, .int (nI 0), .ref ro, .int (nI 0), .int (nI 0), .null, .null, .null, .null, .null, .int (nI 0), .int (nI 0), .int (nI 0), .null, .null], zB K ta 16384 (zby (fun _ => 0)), zB K re 16384 (zby (fun _ => 0)), zB K da 16384 (zby (fun _ => 0)), zB K ro 16640 (zby (fun _ => 0))]) F E (i_MC l K li) (zi_IN (As := []) (rest := [.ref li, .ref m]) F d_MO_init_45 q_533 q_534 q_535 rfl rfl (by decide) (show Option.map (fun d => d.parameters.length) (parseMethodDescriptor y_MC_init.desc) = some 0 from by decide +kernel)) d_MO_init_45 q_535 (Or.inl ⟨_, _, rfl⟩) q_8 [5] [0, 1, 2, 3, 4] rfl rfl rfl rfl (by decide) ⟨by decide, by decide, by decide, by decide⟩ (Nat.le_of_ble_eq_true rfl) (fun v w1 hq => ?_) (fun X w1 hq => ?_)
  · obtain ⟨lica, lima, rfl, rfl⟩ := hq
    show zj G 7 66131 48 [(0, .ref m)] [.ref li, .ref m] [zO m 6 [.int (nI 0), .ref ta, .int (nI 0), .ref re, .int (nI 0), .ref da, .int (nI 0), .ref ro, .int (nI 0), .int (nI 0), .null, .null, .null, .null, .null, .int (nI 0), .int (nI 0), .int (nI 0), .null, .null], zB K ta 16384 (zby (fun _ => 0)), zB K re 16384 (zby (fun _ => 0)), zB K da 16384 (zby (fun _ => 0)), zB K ro 16640 (zby (fun _ => 0)), zO li 5 [.ref lica, .ref lima, .int (nI 0)], zI K lica 16 (zna (fun _ => 0)), zI K lima 320 (zna (fun _ => 0))]
    refine zj_putF (ws' := [zO m 6 [.int (nI 0), .ref ta, .int (nI 0), .ref re, .int (nI 0), .ref da, .int (nI 0), .ref ro, .int (nI 0), .int (nI 0), .ref li, .null, .null, .null, .null, .int (nI 0), .int (nI 0), .int (nI 0), .null, .null], zB K ta 16384 (zby (fun _ => 0)), zB K re 16384 (zby (fun _ => 0)), zB K da 16384 (zby (fun _ => 0)), zB K ro 16640 (zby (fun _ => 0)), zO li 5 [.ref lica, .ref lima, .int (nI 0)], zI K lica 16 (zna (fun _ => 0)), zI K lima 320 (zna (fun _ => 0))]) F Z d_MO_init_48 0 10 rfl rfl in_MO ty_MO nm_MO (by decide) q_561 rfl rfl rfl rfl (Nat.le_of_ble_eq_true rfl) rfl ?_
    refine zj_aload_n F d_MO_init_51 0 rfl rfl ?_
    refine zj_new (fs := [.null, .null, .int (nI 0)]) F d_MO_init_52 (ci := 5) rfl in_MC ty_MC q_531 q_532 q_8 (df_MC) (by decide) (by decide) (fun di => ?_)
    show zj G 8 66134 55 [(0, .ref m)] [.ref di, .ref m] [zO m 6 [.int (nI 0), .ref ta, .int (nI 0), .ref re, .int (nI 0), .ref da, .int (nI 0), .ref ro, .int (nI 0), .int (nI 0), .ref li, .null, .null, .null, .null, .int (nI 0), .int (nI 0), .int (nI 0), .null, .null], zB K ta 16384 (zby (fun _ => 0)), zB K re 16384 (zby (fun _ => 0)), zB K da 16384 (zby (fun _ => 0)), zB K ro 16640 (zby (fun _ => 0)), zO li 5 [.ref lica, .ref lima, .int (nI 0)], zI K lica 16 (zna (fun _ => 0)), zI K lima 320 (zna (fun _ => 0)), zO di 5 [.null, .null, .int (nI 0)]]
    refine zj_dup F d_MO_init_55 rfl ?_
    refine zj_call (maxL := 1) (wr := [zO m 6 [.int (nI 0), .ref ta, .int (nI 0), .ref re, .int (nI 0), .ref da, .int (nI 0), .ref ro, .int (nI 0), .int (nI 0), .ref li, .null, .null, .null, .null, .int (nI 0), .int (nI 0), .int (nI 0), .null, .null], zB K ta 16384 (zby (fun _ => 0)), zB K re 16384 (zby (fun _ => 0)), zB K da 16384 (zby (fun _ => 0)), zB K ro 16640 (zby (fun _ => 0)), zO li 5 [.ref lica, .ref lima, .int (nI 0)], zI K lica 16 (zna (fun _ => 0)), zI K lima 320 (zna (fun _ => 0))]) F E (i_MC l K di) (zi_IN (As := []) (rest := [.ref di, .ref m]) F d_MO_init_56 q_533 q_534 q_535 rfl rfl (by decide) (show Option.map (fun d => d.parameters.length) (parseMethodDescriptor y_MC_init.desc) = some 0 from by decide +kernel)) d_MO_init_56 q_535 (Or.inl ⟨_, _, rfl⟩) q_8 [8] [0, 1, 2, 3, 4, 5, 6, 7] rfl rfl rfl rfl (by decide) ⟨by decide, by decide, by decide, by decide⟩ (Nat.le_of_ble_eq_true rfl) (fun v w1 hq => ?_) (fun X w1 hq => ?_)
    · obtain ⟨dica, dima, rfl, rfl⟩ := hq
      show zj G 10 66470 59 [(0, .ref m)] [.ref di, .ref m] [zO m 6 [.int (nI 0), .ref ta, .int (nI 0), .ref re, .int (nI 0), .ref da, .int (nI 0), .ref ro, .int (nI 0), .int (nI 0), .ref li, .null, .null, .null, .null, .int (nI 0), .int (nI 0), .int (nI 0), .null, .null], zB K ta 16384 (zby (fun _ => 0)), zB K re 16384 (zby (fun _ => 0)), zB K da 16384 (zby (fun _ => 0)), zB K ro 16640 (zby (fun _ => 0)), zO li 5 [.ref lica, .ref lima, .int (nI 0)], zI K lica 16 (zna (fun _ => 0)), zI K lima 320 (zna (fun _ => 0)), zO di 5 [.ref dica, .ref dima, .int (nI 0)], zI K dica 16 (zna (fun _ => 0)), zI K dima 320 (zna (fun _ => 0))]
      refine zj_putF (ws' := [zO m 6 [.int (nI 0), .ref ta, .int (nI 0), .ref re, .int (nI 0), .ref da, .int (nI 0), .ref ro, .int (nI 0), .int (nI 0), .ref li, .ref di, .null, .null, .null, .int (nI 0), .int (nI 0), .int (nI 0), .null, .null], zB K ta 16384 (zby (fun _ => 0)), zB K re 16384 (zby (fun _ => 0)), zB K da 16384 (zby (fun _ => 0)), zB K ro 16640 (zby (fun _ => 0)), zO li 5 [.ref lica, .ref lima, .int (nI 0)], zI K lica 16 (zna (fun _ => 0)), zI K lima 320 (zna (fun _ => 0)), zO di 5 [.ref dica, .ref dima, .int (nI 0)], zI K dica 16 (zna (fun _ => 0)), zI K dima 320 (zna (fun _ => 0))]) F Z d_MO_init_59 0 11 rfl rfl in_MO ty_MO nm_MO (by decide) q_562 rfl rfl rfl rfl (Nat.le_of_ble_eq_true rfl) rfl ?_
      refine zj_aload_n F d_MO_init_62 0 rfl rfl ?_
      refine zj_new (fs := [.null, .null, .int (nI 0)]) F d_MO_init_63 (ci := 5) rfl in_MC ty_MC q_531 q_532 q_8 (df_MC) (by decide) (by decide) (fun lc => ?_)
      show zj G 11 66473 66 [(0, .ref m)] [.ref lc, .ref m] [zO m 6 [.int (nI 0), .ref ta, .int (nI 0), .ref re, .int (nI 0), .ref da, .int (nI 0), .ref ro, .int (nI 0), .int (nI 0), .ref li, .ref di, .null, .null, .null, .int (nI 0), .int (nI 0), .int (nI 0), .null, .null], zB K ta 16384 (zby (fun _ => 0)), zB K re 16384 (zby (fun _ => 0)), zB K da 16384 (zby (fun _ => 0)), zB K ro 16640 (zby (fun _ => 0)), zO li 5 [.ref lica, .ref lima, .int (nI 0)], zI K lica 16 (zna (fun _ => 0)), zI K lima 320 (zna (fun _ => 0)), zO di 5 [.ref dica, .ref dima, .int (nI 0)], zI K dica 16 (zna (fun _ => 0)), zI K dima 320 (zna (fun _ => 0)), zO lc 5 [.null, .null, .int (nI 0)]]
      refine zj_dup F d_MO_init_66 rfl ?_
      refine zj_call (maxL := 1) (wr := [zO m 6 [.int (nI 0), .ref ta, .int (nI 0), .ref re, .int (nI 0), .ref da, .int (nI 0), .ref ro, .int (nI 0), .int (nI 0), .ref li, .ref di, .null, .null, .null, .int (nI 0), .int (nI 0), .int (nI 0), .null, .null], zB K ta 16384 (zby (fun _ => 0)), zB K re 16384 (zby (fun _ => 0)), zB K da 16384 (zby (fun _ => 0)), zB K ro 16640 (zby (fun _ => 0)), zO li 5 [.ref lica, .ref lima, .int (nI 0)], zI K lica 16 (zna (fun _ => 0)), zI K lima 320 (zna (fun _ => 0)), zO di 5 [.ref dica, .ref dima, .int (nI 0)], zI K dica 16 (zna (fun _ => 0)), zI K dima 320 (zna (fun _ => 0))]) F E (i_MC l K lc) (zi_IN (As := []) (rest := [.ref lc, .ref m]) F d_MO_init_67 q_533 q_534 q_535 rfl rfl (by decide) (show Option.map (fun d => d.parameters.length) (parseMethodDescriptor y_MC_init.desc) = some 0 from by decide +kernel)) d_MO_init_67 q_535 (Or.inl ⟨_, _, rfl⟩) q_8 [11] [0, 1, 2, 3, 4, 5, 6, 7, 8, 9, 10] rfl rfl rfl rfl (by decide) ⟨by decide, by decide, by decide, by decide⟩ (Nat.le_of_ble_eq_true rfl) (fun v w1 hq => ?_) (fun X w1 hq => ?_)
      · obtain ⟨lcca, lcma, rfl, rfl⟩ := hq
        show zj G 13 66809 70 [(0, .ref m)] [.ref lc, .ref m] [zO m 6 [.int (nI 0), .ref ta, .int (nI 0), .ref re, .int (nI 0), .ref da, .int (nI 0), .ref ro, .int (nI 0), .int (nI 0), .ref li, .ref di, .null, .null, .null, .int (nI 0), .int (nI 0), .int (nI 0), .null, .null], zB K ta 16384 (zby (fun _ => 0)), zB K re 16384 (zby (fun _ => 0)), zB K da 16384 (zby (fun _ => 0)), zB K ro 16640 (zby (fun _ => 0)), zO li 5 [.ref lica, .ref lima, .int (nI 0)], zI K lica 16 (zna (fun _ => 0)), zI K lima 320 (zna (fun _ => 0)), zO di 5 [.ref dica, .ref dima, .int (nI 0)], zI K dica 16 (zna (fun _ => 0)), zI K dima 320 (zna (fun _ => 0)), zO lc 5 [.ref lcca, .ref lcma, .int (nI 0)], zI K lcca 16 (zna (fun _ => 0)), zI K lcma 320 (zna (fun _ => 0))]
        refine zj_putF (ws' := [zO m 6 [.int (nI 0), .ref ta, .int (nI 0), .ref re, .int (nI 0), .ref da, .int (nI 0), .ref ro, .int (nI 0), .int (nI 0), .ref li, .ref di, .ref lc, .null, .null, .int (nI 0), .int (nI 0), .int (nI 0), .null, .null], zB K ta 16384 (zby (fun _ => 0)), zB K re 16384 (zby (fun _ => 0)), zB K da 16384 (zby (fun _ => 0)), zB K ro 16640 (zby (fun _ => 0)), zO li 5 [.ref lica, .ref lima, .int (nI 0)], zI K lica 16 (zna (fun _ => 0)), zI K lima 320 (zna (fun _ => 0)), zO di 5 [.ref dica, .ref dima, .int (nI 0)], zI K dica 16 (zna (fun _ => 0)), zI K dima 320 (zna (fun _ => 0)), zO lc 5 [.ref lcca, .ref lcma, .int (nI 0)], zI K lcca 16 (zna (fun _ => 0)), zI K lcma 320 (zna (fun _ => 0))]) F Z d_MO_init_70 0 12 rfl rfl in_MO ty_MO nm_MO (by decide) q_563 rfl rfl rfl rfl (Nat.le_of_ble_eq_true rfl) rfl ?_
        refine zj_aload_n F d_MO_init_73 0 rfl rfl ?_
        refine zj_sipush (v := nI 640) F d_MO_init_74 (by decide) ?_
        refine zj_newa (a0 := (640, .inl (zna (fun _ => 0)))) F d_MO_init_77 1 rfl rfl (Or.inr (Or.inl rfl)) q_67 (fun _ => rfl) rfl (by decide) (by decide) (by decide) (fun la => ?_)
        show zj G 14 67449 79 [(0, .ref m)] [.ref la, .ref m] [zO m 6 [.int (nI 0), .ref ta, .int (nI 0), .ref re, .int (nI 0), .ref da, .int (nI 0), .ref ro, .int (nI 0), .int (nI 0), .ref li, .ref di, .ref lc, .null, .null, .int (nI 0), .int (nI 0), .int (nI 0), .null, .null], zB K ta 16384 (zby (fun _ => 0)), zB K re 16384 (zby (fun _ => 0)), zB K da 16384 (zby (fun _ => 0)), zB K ro 16640 (zby (fun _ => 0)), zO li 5 [.ref lica, .ref lima, .int (nI 0)], zI K lica 16 (zna (fun _ => 0)), zI K lima 320 (zna (fun _ => 0)), zO di 5 [.ref dica, .ref dima, .int (nI 0)], zI K dica 16 (zna (fun _ => 0)), zI K dima 320 (zna (fun _ => 0)), zO lc 5 [.ref lcca, .ref lcma, .int (nI 0)], zI K lcca 16 (zna (fun _ => 0)), zI K lcma 320 (zna (fun _ => 0)), zI K la 640 (zna (fun _ => 0))]
        refine zj_putF (ws' := [zO m 6 [.int (nI 0), .ref ta, .int (nI 0), .ref re, .int (nI 0), .ref da, .int (nI 0), .ref ro, .int (nI 0), .int (nI 0), .ref li, .ref di, .ref lc, .ref la, .null, .int (nI 0), .int (nI 0), .int (nI 0), .null, .null], zB K ta 16384 (zby (fun _ => 0)), zB K re 16384 (zby (fun _ => 0)), zB K da 16384 (zby (fun _ => 0)), zB K ro 16640 (zby (fun _ => 0)), zO li 5 [.ref lica, .ref lima, .int (nI 0)], zI K lica 16 (zna (fun _ => 0)), zI K lima 320 (zna (fun _ => 0)), zO di 5 [.ref dica, .ref dima, .int (nI 0)], zI K dica 16 (zna (fun _ => 0)), zI K dima 320 (zna (fun _ => 0)), zO lc 5 [.ref lcca, .ref lcma, .int (nI 0)], zI K lcca 16 (zna (fun _ => 0)), zI K lcma 320 (zna (fun _ => 0)), zI K la 640 (zna (fun _ => 0))]) F Z d_MO_init_79 0 13 rfl rfl in_MO ty_MO nm_MO (by decide) q_564 rfl rfl rfl rfl (Nat.le_of_ble_eq_true rfl) rfl ?_
        refine zj_aload_n F d_MO_init_82 0 rfl rfl ?_
        refine zj_ldc (v := nI 65536) F d_MO_init_83 q_550 ?_
        refine zj_newa (a0 := (65536, .inl (zby (fun _ => 0)))) F d_MO_init_85 0 rfl rfl (Or.inl rfl) q_47 (fun _ => rfl) rfl (by decide) (by decide) (by decide) (fun ou => ?_)
        show zj G 15 132985 87 [(0, .ref m)] [.ref ou, .ref m] [zO m 6 [.int (nI 0), .ref ta, .int (nI 0), .ref re, .int (nI 0), .ref da, .int (nI 0), .ref ro, .int (nI 0), .int (nI 0), .ref li, .ref di, .ref lc, .ref la, .null, .int (nI 0), .int (nI 0), .int (nI 0), .null, .null], zB K ta 16384 (zby (fun _ => 0)), zB K re 16384 (zby (fun _ => 0)), zB K da 16384 (zby (fun _ => 0)), zB K ro 16640 (zby (fun _ => 0)), zO li 5 [.ref lica, .ref lima, .int (nI 0)], zI K lica 16 (zna (fun _ => 0)), zI K lima 320 (zna (fun _ => 0)), zO di 5 [.ref dica, .ref dima, .int (nI 0)], zI K dica 16 (zna (fun _ => 0)), zI K dima 320 (zna (fun _ => 0)), zO lc 5 [.ref lcca, .ref lcma, .int (nI 0)], zI K lcca 16 (zna (fun _ => 0)), zI K lcma 320 (zna (fun _ => 0)), zI K la 640 (zna (fun _ => 0)), zB K ou 65536 (zby (fun _ => 0))]
        refine zj_putF (ws' := [zO m 6 [.int (nI 0), .ref ta, .int (nI 0), .ref re, .int (nI 0), .ref da, .int (nI 0), .ref ro, .int (nI 0), .int (nI 0), .ref li, .ref di, .ref lc, .ref la, .ref ou, .int (nI 0), .int (nI 0), .int (nI 0), .null, .null], zB K ta 16384 (zby (fun _ => 0)), zB K re 16384 (zby (fun _ => 0)), zB K da 16384 (zby (fun _ => 0)), zB K ro 16640 (zby (fun _ => 0)), zO li 5 [.ref lica, .ref lima, .int (nI 0)], zI K lica 16 (zna (fun _ => 0)), zI K lima 320 (zna (fun _ => 0)), zO di 5 [.ref dica, .ref dima, .int (nI 0)], zI K dica 16 (zna (fun _ => 0)), zI K dima 320 (zna (fun _ => 0)), zO lc 5 [.ref lcca, .ref lcma, .int (nI 0)], zI K lcca 16 (zna (fun _ => 0)), zI K lcma 320 (zna (fun _ => 0)), zI K la 640 (zna (fun _ => 0)), zB K ou 65536 (zby (fun _ => 0))]) F Z d_MO_init_87 0 14 rfl rfl in_MO ty_MO nm_MO (by decide) q_565 rfl rfl rfl rfl (Nat.le_of_ble_eq_true rfl) rfl ?_
        refine zj_aload_n F d_MO_init_90 0 rfl rfl ?_
        refine zj_ldc (v := nI 65536) F d_MO_init_91 q_550 ?_
        refine zj_newa (a0 := (65536, .inl (zm1 (fun _ => 1)))) F d_MO_init_93 1 rfl rfl (Or.inr (Or.inl rfl)) q_67 (fun _ => by rw [zm1_one]; rfl) rfl (by decide) (by decide) (by decide) (fun he => ?_)
        show zj G 16 198521 95 [(0, .ref m)] [.ref he, .ref m] [zO m 6 [.int (nI 0), .ref ta, .int (nI 0), .ref re, .int (nI 0), .ref da, .int (nI 0), .ref ro, .int (nI 0), .int (nI 0), .ref li, .ref di, .ref lc, .ref la, .ref ou, .int (nI 0), .int (nI 0), .int (nI 0), .null, .null], zB K ta 16384 (zby (fun _ => 0)), zB K re 16384 (zby (fun _ => 0)), zB K da 16384 (zby (fun _ => 0)), zB K ro 16640 (zby (fun _ => 0)), zO li 5 [.ref lica, .ref lima, .int (nI 0)], zI K lica 16 (zna (fun _ => 0)), zI K lima 320 (zna (fun _ => 0)), zO di 5 [.ref dica, .ref dima, .int (nI 0)], zI K dica 16 (zna (fun _ => 0)), zI K dima 320 (zna (fun _ => 0)), zO lc 5 [.ref lcca, .ref lcma, .int (nI 0)], zI K lcca 16 (zna (fun _ => 0)), zI K lcma 320 (zna (fun _ => 0)), zI K la 640 (zna (fun _ => 0)), zB K ou 65536 (zby (fun _ => 0)), zI K he 65536 (zm1 (fun _ => 1))]
        refine zj_putF (ws' := [zO m 6 [.int (nI 0), .ref ta, .int (nI 0), .ref re, .int (nI 0), .ref da, .int (nI 0), .ref ro, .int (nI 0), .int (nI 0), .ref li, .ref di, .ref lc, .ref la, .ref ou, .int (nI 0), .int (nI 0), .int (nI 0), .ref he, .null], zB K ta 16384 (zby (fun _ => 0)), zB K re 16384 (zby (fun _ => 0)), zB K da 16384 (zby (fun _ => 0)), zB K ro 16640 (zby (fun _ => 0)), zO li 5 [.ref lica, .ref lima, .int (nI 0)], zI K lica 16 (zna (fun _ => 0)), zI K lima 320 (zna (fun _ => 0)), zO di 5 [.ref dica, .ref dima, .int (nI 0)], zI K dica 16 (zna (fun _ => 0)), zI K dima 320 (zna (fun _ => 0)), zO lc 5 [.ref lcca, .ref lcma, .int (nI 0)], zI K lcca 16 (zna (fun _ => 0)), zI K lcma 320 (zna (fun _ => 0)), zI K la 640 (zna (fun _ => 0)), zB K ou 65536 (zby (fun _ => 0)), zI K he 65536 (zm1 (fun _ => 1))]) F Z d_MO_init_95 0 18 rfl rfl in_MO ty_MO nm_MO (by decide) q_569 rfl rfl rfl rfl (Nat.le_of_ble_eq_true rfl) rfl ?_
        refine zj_aload_n F d_MO_init_98 0 rfl rfl ?_
        refine zj_sipush (v := nI 16640) F d_MO_init_99 (by decide) ?_
        refine zj_newa (a0 := (16640, .inl (zm1 (fun _ => 1)))) F d_MO_init_102 1 rfl rfl (Or.inr (Or.inl rfl)) q_67 (fun _ => by rw [zm1_one]; rfl) rfl (by decide) (by decide) (by decide) (fun ch => ?_)
        show zj G 17 215161 104 [(0, .ref m)] [.ref ch, .ref m] [zO m 6 [.int (nI 0), .ref ta, .int (nI 0), .ref re, .int (nI 0), .ref da, .int (nI 0), .ref ro, .int (nI 0), .int (nI 0), .ref li, .ref di, .ref lc, .ref la, .ref ou, .int (nI 0), .int (nI 0), .int (nI 0), .ref he, .null], zB K ta 16384 (zby (fun _ => 0)), zB K re 16384 (zby (fun _ => 0)), zB K da 16384 (zby (fun _ => 0)), zB K ro 16640 (zby (fun _ => 0)), zO li 5 [.ref lica, .ref lima, .int (nI 0)], zI K lica 16 (zna (fun _ => 0)), zI K lima 320 (zna (fun _ => 0)), zO di 5 [.ref dica, .ref dima, .int (nI 0)], zI K dica 16 (zna (fun _ => 0)), zI K dima 320 (zna (fun _ => 0)), zO lc 5 [.ref lcca, .ref lcma, .int (nI 0)], zI K lcca 16 (zna (fun _ => 0)), zI K lcma 320 (zna (fun _ => 0)), zI K la 640 (zna (fun _ => 0)), zB K ou 65536 (zby (fun _ => 0)), zI K he 65536 (zm1 (fun _ => 1)), zI K ch 16640 (zm1 (fun _ => 1))]
        refine zj_putF (ws' := [zO m 6 [.int (nI 0), .ref ta, .int (nI 0), .ref re, .int (nI 0), .ref da, .int (nI 0), .ref ro, .int (nI 0), .int (nI 0), .ref li, .ref di, .ref lc, .ref la, .ref ou, .int (nI 0), .int (nI 0), .int (nI 0), .ref he, .ref ch], zB K ta 16384 (zby (fun _ => 0)), zB K re 16384 (zby (fun _ => 0)), zB K da 16384 (zby (fun _ => 0)), zB K ro 16640 (zby (fun _ => 0)), zO li 5 [.ref lica, .ref lima, .int (nI 0)], zI K lica 16 (zna (fun _ => 0)), zI K lima 320 (zna (fun _ => 0)), zO di 5 [.ref dica, .ref dima, .int (nI 0)], zI K dica 16 (zna (fun _ => 0)), zI K dima 320 (zna (fun _ => 0)), zO lc 5 [.ref lcca, .ref lcma, .int (nI 0)], zI K lcca 16 (zna (fun _ => 0)), zI K lcma 320 (zna (fun _ => 0)), zI K la 640 (zna (fun _ => 0)), zB K ou 65536 (zby (fun _ => 0)), zI K he 65536 (zm1 (fun _ => 1)), zI K ch 16640 (zm1 (fun _ => 1))]) F Z d_MO_init_104 0 19 rfl rfl in_MO ty_MO nm_MO (by decide) q_570 rfl rfl rfl rfl (Nat.le_of_ble_eq_true rfl) rfl ?_
        refine zj_wsub (ws' := [zO m 6 [.int (nI 0), .ref ta, .int (nI 0), .ref re, .int (nI 0), .ref da, .int (nI 0), .ref ro, .int (nI 0), .int (nI 0), .ref li, .ref di, .ref lc, .ref la, .ref ou, .int (nI 0), .int (nI 0), .int (nI 0), .ref he, .ref ch], zB K ta 16384 (zby (fun _ => 0)), zB K re 16384 (zby (fun _ => 0)), zB K da 16384 (zby (fun _ => 0)), zB K ro 16640 (zby (fun _ => 0)), zI K la 640 (zna (fun _ => 0)), zO lc 5 [.ref lcca, .ref lcma, .int (nI 0)], zI K lcca 16 (zna (fun _ => 0)), zI K lcma 320 (zna (fun _ => 0)), zO li 5 [.ref lica, .ref lima, .int (nI 0)], zI K lica 16 (zna (fun _ => 0)), zI K lima 320 (zna (fun _ => 0)), zO di 5 [.ref dica, .ref dima, .int (nI 0)], zI K dica 16 (zna (fun _ => 0)), zI K dima 320 (zna (fun _ => 0)), zB K ou 65536 (zby (fun _ => 0)), zI K he 65536 (zm1 (fun _ => 1)), zI K ch 16640 (zm1 (fun _ => 1))]) [0, 1, 2, 3, 4, 14, 11, 12, 13, 5, 6, 7, 8, 9, 10, 15, 16, 17] rfl rfl rfl ?_
        exact zj_vret F E d_MO_init_107 (Nat.le_refl _) (Nat.le_refl _) ⟨rfl, ⟨_, _, _, _, _, _, _, _, _, _, _, _, _, _, _, _, _, _, _, _, _, _, _, _, _, _, _, _, _, _, _, _, _, _, _, _, _, _, _, _, Nat.zero_le _, Nat.zero_le _, (fun _ => show 0 < 256 by decide), (fun _ => show 0 < 256 by decide), (fun _ => show 0 < 256 by decide), (fun _ => show 0 < 256 by decide), (fun _ => show 0 < 256 by decide), (fun _ => show 0 < 256 by decide), (fun _ _ => rfl), (fun _ _ => rfl), rfl⟩⟩
      · exact hq.elim
    · exact hq.elim
  · exact hq.elim
set_option maxHeartbeats 8000000 in
set_option maxRecDepth 100000 in
/-- thrown() -/
theorem m_MO_thr (l : Launch) (K : zk)  (m fc n rl : Nat) (t o : Nat → Nat) (wm : va_W) (hW : zmw K m fc n rl t o wm)  : zc l K y_MO_thrown w_MO_thrown { frames := 0, cells := 0, slots := 0, locals := 0 } 0 0 0 0 [.ref m] wm (fun r w1 => r = some (.int (nI fc)) ∧ zmw K m fc n rl t o w1) (fun _ _ => False) := by
  obtain ⟨ta, re, da, ro, li, di, lc, la, ou, he, ch, lica, lima, dica, dima, lcca, lcma, dn, rn, ba, os, bb, bc, xl, xd, xc, tm, om, dd, rr, lg, ci, gi, cd, gd, cc, gc, oo, hg, cg, hn, hrl, hb, htm, hom, hdd, hrr, hoo, hta, hre, rfl⟩ := hW
  refine zc_of (cc := c_MO_thrown) (nl := 1) (ret := (some .int)) (by decide) (Nat.le_of_ble_eq_true rfl) (fun G F E => ?_)
  have F : zf G l K { frames := 0, cells := 0, slots := 0, locals := 0 } "ZlibBoxModel" c_MO_thrown 1 := F
  show zj G 0 0 0 [(0, .ref m)] [] [zO m 6 [.int (nI fc), .ref ta, .int (nI n), .ref re, .int (nI rl), .ref da, .int dn, .ref ro, .int rn, .int ba, .ref li, .ref di, .ref lc, .ref la, .ref ou, .int os, .int bb, .int bc, .ref he, .ref ch], zB K ta 16384 (zby tm), zB K re 16384 (zby om), zB K da 16384 (zby dd), zB K ro 16640 (zby rr), zI K la 640 (zna lg), zO lc 5 [.ref lcca, .ref lcma, .int xc], zI K lcca 16 (zna cc), zI K lcma 320 (zna gc), zO li 5 [.ref lica, .ref lima, .int xl], zI K lica 16 (zna ci), zI K lima 320 (zna gi), zO di 5 [.ref dica, .ref dima, .int xd], zI K dica 16 (zna cd), zI K dima 320 (zna gd), zB K ou 65536 (zby oo), zI K he 65536 (zm1 hg), zI K ch 16640 (zm1 cg)]
  refine zj_aload_n F d_MO_thrown_0 0 rfl rfl ?_
  refine zj_get F d_MO_thrown_1 0 0 rfl rfl in_MO (by decide) q_551 rfl ?_
  exact zj_iret F E d_MO_thrown_4 (Nat.le_of_ble_eq_true rfl) (Nat.le_of_ble_eq_true rfl) ⟨rfl, ⟨_, _, _, _, _, _, _, _, _, _, _, _, _, _, _, _, _, _, _, _, _, _, _, _, _, _, _, _, _, _, _, _, _, _, _, _, _, _, _, _, hn, hrl, hb, htm, hom, hdd, hrr, hoo, hta, hre, rfl⟩⟩
theorem zag_w {F f : Nat → Nat} {w : Nat} (h : ∀ j, j < w → f j = F j) : ∀ j, j < w + 1 → va_up f w (F w) j = F j := by
  intro j hj
  by_cases e : j = w
  · subst e
    rw [va_up_self]
  · rw [va_up_ne _ _ e]
    exact h j (by omega)
set_option maxHeartbeats 8000000 in
set_option maxRecDepth 100000 in
/-- feed(a, b, c, d, e) -/
theorem m_MO_feed (l : Launch) (K : zk)  (m fc n rl : Nat) (t o : Nat → Nat) (wm : va_W) (hW : zmw K m fc n rl t o wm) (v1 v2 v3 v4 v5 : Int32) (q : zout) (hs : zsF n rl t o v1 v2 v3 v4 v5 q) : zc l K y_MO_feed w_MO_feed { frames := 1, cells := 0, slots := 0, locals := 21 } 0 0 0 0 [.ref m, .int v1, .int v2, .int v3, .int v4, .int v5] wm (fun r w1 => ∃ b : Int32, r = some (.int b) ∧ (q.1 = 0 → b.toInt64 = q.2.1) ∧ zmw K m q.1 q.2.2.1 q.2.2.2.1 q.2.2.2.2.1 q.2.2.2.2.2 w1) (fun _ _ => False) := by
  obtain ⟨ta, re, da, ro, li, di, lc, la, ou, he, ch, lica, lima, dica, dima, lcca, lcma, dn, rn, ba, os, bb, bc, xl, xd, xc, tm, om, dd, rr, lg, ci, gi, cd, gd, cc, gc, oo, hg, cg, hn, hrl, hb, htm, hom, hdd, hrr, hoo, hta, hre, rfl⟩ := hW
  refine zc_of (cc := c_MO_feed) (nl := 8) (ret := (some .int)) (by decide) (Nat.le_of_ble_eq_true rfl) (fun G F E => ?_)
  have F : zf G l K { frames := 1, cells := 0, slots := 0, locals := 21 } "ZlibBoxModel" c_MO_feed 8 := F
  show zj G 0 0 0 [(0, .ref m), (1, .int v1), (2, .int v2), (3, .int v3), (4, .int v4), (5, .int v5)] [] [zO m 6 [.int (nI fc), .ref ta, .int (nI n), .ref re, .int (nI rl), .ref da, .int dn, .ref ro, .int rn, .int ba, .ref li, .ref di, .ref lc, .ref la, .ref ou, .int os, .int bb, .int bc, .ref he, .ref ch], zB K ta 16384 (zby tm), zB K re 16384 (zby om), zB K da 16384 (zby dd), zB K ro 16640 (zby rr), zI K la 640 (zna lg), zO lc 5 [.ref lcca, .ref lcma, .int xc], zI K lcca 16 (zna cc), zI K lcma 320 (zna gc), zO li 5 [.ref lica, .ref lima, .int xl], zI K lica 16 (zna ci), zI K lima 320 (zna gi), zO di 5 [.ref dica, .ref dima, .int xd], zI K dica 16 (zna cd), zI K dima 320 (zna gd), zB K ou 65536 (zby oo), zI K he 65536 (zm1 hg), zI K ch 16640 (zm1 cg)]
  refine zj_aload_n F d_MO_feed_0 0 rfl rfl ?_
  refine zj_iconst (v := nI 0) F d_MO_feed_1 (by decide) ?_
  refine zj_put (ws' := [zO m 6 [.int (nI 0), .ref ta, .int (nI n), .ref re, .int (nI rl), .ref da, .int dn, .ref ro, .int rn, .int ba, .ref li, .ref di, .ref lc, .ref la, .ref ou, .int os, .int bb, .int bc, .ref he, .ref ch], zB K ta 16384 (zby tm), zB K re 16384 (zby om), zB K da 16384 (zby dd), zB K ro 16640 (zby rr), zI K la 640 (zna lg), zO lc 5 [.ref lcca, .ref lcma, .int xc], zI K lcca 16 (zna cc), zI K lcma 320 (zna gc), zO li 5 [.ref lica, .ref lima, .int xl], zI K lica 16 (zna ci), zI K lima 320 (zna gi), zO di 5 [.ref dica, .ref dima, .int xd], zI K dica 16 (zna cd), zI K dima 320 (zna gd), zB K ou 65536 (zby oo), zI K he 65536 (zm1 hg), zI K ch 16640 (zm1 cg)]) F d_MO_feed_2 0 0 rfl rfl in_MO ty_MO nm_MO (by decide) q_551 rfl rfl rfl (Nat.le_of_ble_eq_true rfl) rfl ?_
  refine zj_aload_n F d_MO_feed_5 0 rfl rfl ?_
  refine zj_get F d_MO_feed_6 0 2 rfl rfl in_MO (by decide) q_553 rfl ?_
  refine zj_bipush (v := nI 20) F d_MO_feed_9 (by decide) ?_
  refine zj_iadd F d_MO_feed_11 (nI_add _ _) ?_
  refine zj_sipush (v := nI 16384) F d_MO_feed_12 (by decide) ?_
  refine zj_icmp_le (tgt := 24) F d_MO_feed_15 (by decide) (nI_leI (by omega) (by omega)) (fun h15 => ?_) (fun h15 => ?_)
  · rcases hs with ⟨-, rfl⟩ | ⟨hs, rfl⟩
    · refine zj_iconst (v := nI 0) F d_MO_feed_24 (by decide) ?_
      refine zj_istore (L' := [(6, .int (nI 0)), (0, .ref m), (1, .int v1), (2, .int v2), (3, .int v3), (4, .int v4), (5, .int v5)]) F d_MO_feed_25 (by decide) rfl ?_
      have key : ∀ q k (f : Nat → Nat), k + q = 20 → (∀ j, f j < 256) → (∀ j, j < n + k → f j = zfd5 t n v1 v2 v3 v4 v5 j) → zj G 0 0 27 [(0, .ref m), (1, .int v1), (2, .int v2), (3, .int v3), (4, .int v4), (5, .int v5), (6, .int (nI k))] [] [zO m 6 [.int (nI 0), .ref ta, .int (nI (n + k)), .ref re, .int (nI rl), .ref da, .int dn, .ref ro, .int rn, .int ba, .ref li, .ref di, .ref lc, .ref la, .ref ou, .int os, .int bb, .int bc, .ref he, .ref ch], zB K ta 16384 (zby f), zB K re 16384 (zby om), zB K da 16384 (zby dd), zB K ro 16640 (zby rr), zI K la 640 (zna lg), zO lc 5 [.ref lcca, .ref lcma, .int xc], zI K lcca 16 (zna cc), zI K lcma 320 (zna gc), zO li 5 [.ref lica, .ref lima, .int xl], zI K lica 16 (zna ci), zI K lima 320 (zna gi), zO di 5 [.ref dica, .ref dima, .int xd], zI K dica 16 (zna cd), zI K dima 320 (zna gd), zB K ou 65536 (zby oo), zI K he 65536 (zm1 hg), zI K ch 16640 (zm1 cg)] := by
        intro q
        induction q with
        | zero =>
          intro k f k0 k1 k2
          have k3 : k = 20 := by omega
          subst k3
          show zj G 0 0 27 [(0, .ref m), (1, .int v1), (2, .int v2), (3, .int v3), (4, .int v4), (5, .int v5), (6, .int (nI 20))] [] [zO m 6 [.int (nI 0), .ref ta, .int (nI (n + 20)), .ref re, .int (nI rl), .ref da, .int dn, .ref ro, .int rn, .int ba, .ref li, .ref di, .ref lc, .ref la, .ref ou, .int os, .int bb, .int bc, .ref he, .ref ch], zB K ta 16384 (zby f), zB K re 16384 (zby om), zB K da 16384 (zby dd), zB K ro 16640 (zby rr), zI K la 640 (zna lg), zO lc 5 [.ref lcca, .ref lcma, .int xc], zI K lcca 16 (zna cc), zI K lcma 320 (zna gc), zO li 5 [.ref lica, .ref lima, .int xl], zI K lica 16 (zna ci), zI K lima 320 (zna gi), zO di 5 [.ref dica, .ref dima, .int xd], zI K dica 16 (zna cd), zI K dima 320 (zna gd), zB K ou 65536 (zby oo), zI K he 65536 (zm1 hg), zI K ch 16640 (zm1 cg)]
          refine zj_iload F d_MO_feed_27 6 rfl ?_
          refine zj_bipush (v := nI 20) F d_MO_feed_29 (by decide) ?_
          refine zj_icmp_ge (tgt := 121) F d_MO_feed_31 (by decide) (nI_leI (by omega) (by omega)) (fun h31 => ?_) (fun h31 => ?_)
          · refine zj_aload_n F d_MO_feed_121 0 rfl rfl ?_
            refine zj_get F d_MO_feed_122 0 2 rfl rfl in_MO (by decide) q_553 rfl ?_
            exact zj_iret F E d_MO_feed_125 (Nat.le_of_ble_eq_true rfl) (Nat.le_of_ble_eq_true rfl) ⟨_, rfl, fun _ => rfl, ⟨_, _, _, _, _, _, _, _, _, _, _, _, _, _, _, _, _, _, _, _, _, _, _, _, _, _, _, _, _, _, _, _, _, _, _, _, _, _, _, _, h15, hrl, (zfd5_lt hb _ _ _ _ _ _), k1, hom, hdd, hrr, hoo, k2, hre, rfl⟩⟩
          · exact absurd h31 (by omega)
        | succ q ih =>
          intro k f k0 k1 k2
          show zj G 0 0 27 [(0, .ref m), (1, .int v1), (2, .int v2), (3, .int v3), (4, .int v4), (5, .int v5), (6, .int (nI k))] [] [zO m 6 [.int (nI 0), .ref ta, .int (nI (n + k)), .ref re, .int (nI rl), .ref da, .int dn, .ref ro, .int rn, .int ba, .ref li, .ref di, .ref lc, .ref la, .ref ou, .int os, .int bb, .int bc, .ref he, .ref ch], zB K ta 16384 (zby f), zB K re 16384 (zby om), zB K da 16384 (zby dd), zB K ro 16640 (zby rr), zI K la 640 (zna lg), zO lc 5 [.ref lcca, .ref lcma, .int xc], zI K lcca 16 (zna cc), zI K lcma 320 (zna gc), zO li 5 [.ref lica, .ref lima, .int xl], zI K lica 16 (zna ci), zI K lima 320 (zna gi), zO di 5 [.ref dica, .ref dima, .int xd], zI K dica 16 (zna cd), zI K dima 320 (zna gd), zB K ou 65536 (zby oo), zI K he 65536 (zm1 hg), zI K ch 16640 (zm1 cg)]
          refine zj_iload F d_MO_feed_27 6 rfl ?_
          refine zj_bipush (v := nI 20) F d_MO_feed_29 (by decide) ?_
          refine zj_icmp_ge (tgt := 121) F d_MO_feed_31 (by decide) (nI_leI (by omega) (by omega)) (fun h31 => ?_) (fun h31 => ?_)
          · exact absurd h31 (by omega)
          · have at80 : ∀ w : Int32, zfd5 t n v1 v2 v3 v4 v5 (n + k) = zlow (w >>> (nI (24 - 8 * (k % 4)) &&& 31)) → zj G 0 0 80 [(0, .ref m), (1, .int v1), (2, .int v2), (3, .int v3), (4, .int v4), (5, .int v5), (6, .int (nI k))] [.int w] [zO m 6 [.int (nI 0), .ref ta, .int (nI (n + k)), .ref re, .int (nI rl), .ref da, .int dn, .ref ro, .int rn, .int ba, .ref li, .ref di, .ref lc, .ref la, .ref ou, .int os, .int bb, .int bc, .ref he, .ref ch], zB K ta 16384 (zby f), zB K re 16384 (zby om), zB K da 16384 (zby dd), zB K ro 16640 (zby rr), zI K la 640 (zna lg), zO lc 5 [.ref lcca, .ref lcma, .int xc], zI K lcca 16 (zna cc), zI K lcma 320 (zna gc), zO li 5 [.ref lica, .ref lima, .int xl], zI K lica 16 (zna ci), zI K lima 320 (zna gi), zO di 5 [.ref dica, .ref dima, .int xd], zI K dica 16 (zna cd), zI K dima 320 (zna gd), zB K ou 65536 (zby oo), zI K he 65536 (zm1 hg), zI K ch 16640 (zm1 cg)] := by
              intro w hw
              show zj G 0 0 80 [(0, .ref m), (1, .int v1), (2, .int v2), (3, .int v3), (4, .int v4), (5, .int v5), (6, .int (nI k))] [.int w] [zO m 6 [.int (nI 0), .ref ta, .int (nI (n + k)), .ref re, .int (nI rl), .ref da, .int dn, .ref ro, .int rn, .int ba, .ref li, .ref di, .ref lc, .ref la, .ref ou, .int os, .int bb, .int bc, .ref he, .ref ch], zB K ta 16384 (zby f), zB K re 16384 (zby om), zB K da 16384 (zby dd), zB K ro 16640 (zby rr), zI K la 640 (zna lg), zO lc 5 [.ref lcca, .ref lcma, .int xc], zI K lcca 16 (zna cc), zI K lcma 320 (zna gc), zO li 5 [.ref lica, .ref lima, .int xl], zI K lica 16 (zna ci), zI K lima 320 (zna gi), zO di 5 [.ref dica, .ref dima, .int xd], zI K dica 16 (zna cd), zI K dima 320 (zna gd), zB K ou 65536 (zby oo), zI K he 65536 (zm1 hg), zI K ch 16640 (zm1 cg)]
              refine zj_istore (L' := [(7, .int w), (0, .ref m), (1, .int v1), (2, .int v2), (3, .int v3), (4, .int v4), (5, .int v5), (6, .int (nI k))]) F d_MO_feed_80 (by decide) rfl ?_
              refine zj_aload_n F d_MO_feed_82 1 rfl rfl ?_
              refine zj_get F d_MO_feed_83 0 1 rfl rfl in_MO (by decide) q_552 rfl ?_
              refine zj_aload_n F d_MO_feed_86 1 rfl rfl ?_
              refine zj_get F d_MO_feed_87 0 2 rfl rfl in_MO (by decide) q_553 rfl ?_
              refine zj_iload F d_MO_feed_90 0 rfl ?_
              refine zj_bipush (v := nI 24) F d_MO_feed_92 (by decide) ?_
              refine zj_bipush (v := nI 8) F d_MO_feed_94 (by decide) ?_
              refine zj_iload F d_MO_feed_96 7 rfl ?_
              refine zj_iconst (v := nI 4) F d_MO_feed_98 (by decide) ?_
              refine zj_irem F d_MO_feed_99 (by decide) (pk_rem (by omega) (by decide) (by decide)) ?_
              refine zj_imul F d_MO_feed_100 (pk_mul _ _) ?_
              refine zj_isub F d_MO_feed_101 (pk_sub (by omega)) ?_
              refine zj_ishr F d_MO_feed_102 rfl ?_
              refine zj_i2b F d_MO_feed_103 rfl ?_
              refine zj_bast (ws' := [zO m 6 [.int (nI 0), .ref ta, .int (nI (n + k)), .ref re, .int (nI rl), .ref da, .int dn, .ref ro, .int rn, .int ba, .ref li, .ref di, .ref lc, .ref la, .ref ou, .int os, .int bb, .int bc, .ref he, .ref ch], zB K ta 16384 (zby (va_up f (n + k) (zlow (w >>> ((nI (24 - (8 * (k % 4)))) &&& 31))))), zB K re 16384 (zby om), zB K da 16384 (zby dd), zB K ro 16640 (zby rr), zI K la 640 (zna lg), zO lc 5 [.ref lcca, .ref lcma, .int xc], zI K lcca 16 (zna cc), zI K lcma 320 (zna gc), zO li 5 [.ref lica, .ref lima, .int xl], zI K lica 16 (zna ci), zI K lima 320 (zna gi), zO di 5 [.ref dica, .ref dima, .int xd], zI K dica 16 (zna cd), zI K dima 320 (zna gd), zB K ou 65536 (zby oo), zI K he 65536 (zm1 hg), zI K ch 16640 (zm1 cg)]) F d_MO_feed_104 1 0 (n + k) rfl rfl rfl (by omega) (by omega) (by rw [zby_updB]; rfl) ?_
              refine zj_aload_n F d_MO_feed_105 1 rfl rfl ?_
              refine zj_dup F d_MO_feed_106 rfl ?_
              refine zj_get F d_MO_feed_107 0 2 rfl rfl in_MO (by decide) q_553 rfl ?_
              refine zj_iconst (v := nI 1) F d_MO_feed_110 (by decide) ?_
              refine zj_iadd F d_MO_feed_111 (nI_add _ _) ?_
              refine zj_put (ws' := [zO m 6 [.int (nI 0), .ref ta, .int (nI ((n + k) + 1)), .ref re, .int (nI rl), .ref da, .int dn, .ref ro, .int rn, .int ba, .ref li, .ref di, .ref lc, .ref la, .ref ou, .int os, .int bb, .int bc, .ref he, .ref ch], zB K ta 16384 (zby (va_up f (n + k) (zlow (w >>> ((nI (24 - (8 * (k % 4)))) &&& 31))))), zB K re 16384 (zby om), zB K da 16384 (zby dd), zB K ro 16640 (zby rr), zI K la 640 (zna lg), zO lc 5 [.ref lcca, .ref lcma, .int xc], zI K lcca 16 (zna cc), zI K lcma 320 (zna gc), zO li 5 [.ref lica, .ref lima, .int xl], zI K lica 16 (zna ci), zI K lima 320 (zna gi), zO di 5 [.ref dica, .ref dima, .int xd], zI K dica 16 (zna cd), zI K dima 320 (zna gd), zB K ou 65536 (zby oo), zI K he 65536 (zm1 hg), zI K ch 16640 (zm1 cg)]) F d_MO_feed_112 0 2 rfl rfl in_MO ty_MO nm_MO (by decide) q_553 rfl rfl rfl (Nat.le_of_ble_eq_true rfl) rfl ?_
              refine zj_iinc (v := nI (k + 1)) (L' := [(6, .int (nI (k + 1))), (7, .int w), (0, .ref m), (1, .int v1), (2, .int v2), (3, .int v3), (4, .int v4), (5, .int v5)]) F d_MO_feed_115 7 rfl (nI_add _ _) (by decide) rfl ?_
              refine zj_goto F d_MO_feed_118 (tgt := 27) (by decide) ?_
              exact zj_sub [2, 3, 4, 5, 6, 7, 0] rfl (ih (k + 1) _ (by omega) (zby_lt k1 _ _) (by rw [← hw]; exact zag_w k2))
            refine zj_iload F d_MO_feed_34 6 rfl ?_
            refine zj_iconst (v := nI 4) F d_MO_feed_36 (by decide) ?_
            refine zj_icmp_ge (tgt := 44) F d_MO_feed_37 (by decide) (nI_leI (by omega) (by omega)) (fun h37 => ?_) (fun h37 => ?_)
            · refine zj_iload F d_MO_feed_44 6 rfl ?_
              refine zj_bipush (v := nI 8) F d_MO_feed_46 (by decide) ?_
              refine zj_icmp_ge (tgt := 55) F d_MO_feed_48 (by decide) (nI_leI (by omega) (by omega)) (fun h48 => ?_) (fun h48 => ?_)
              · refine zj_iload F d_MO_feed_55 6 rfl ?_
                refine zj_bipush (v := nI 12) F d_MO_feed_57 (by decide) ?_
                refine zj_icmp_ge (tgt := 66) F d_MO_feed_59 (by decide) (nI_leI (by omega) (by omega)) (fun h59 => ?_) (fun h59 => ?_)
                · refine zj_iload F d_MO_feed_66 6 rfl ?_
                  refine zj_bipush (v := nI 16) F d_MO_feed_68 (by decide) ?_
                  refine zj_icmp_ge (tgt := 78) F d_MO_feed_70 (by decide) (nI_leI (by omega) (by omega)) (fun h70 => ?_) (fun h70 => ?_)
                  · refine zj_iload F d_MO_feed_78 5 rfl ?_
                    exact zj_sub [0, 1, 2, 3, 4, 5, 6] rfl (at80 v5 (by unfold zfd5; rw [zint_kk (by omega) (by omega) (by omega)]))
                  · refine zj_iload F d_MO_feed_73 4 rfl ?_
                    refine zj_goto F d_MO_feed_75 (tgt := 80) (by decide) ?_
                    exact zj_sub [0, 1, 2, 3, 4, 5, 6] rfl (at80 v4 (by unfold zfd5; rw [zint_ne (Or.inl (by omega)), zint_kk (by omega) (by omega) (by omega)]))
                · refine zj_iload_n F d_MO_feed_62 3 rfl rfl ?_
                  refine zj_goto F d_MO_feed_63 (tgt := 80) (by decide) ?_
                  exact zj_sub [0, 1, 2, 3, 4, 5, 6] rfl (at80 v3 (by unfold zfd5; rw [zint_ne (Or.inl (by omega)), zint_ne (Or.inl (by omega)), zint_kk (by omega) (by omega) (by omega)]))
              · refine zj_iload_n F d_MO_feed_51 2 rfl rfl ?_
                refine zj_goto F d_MO_feed_52 (tgt := 80) (by decide) ?_
                exact zj_sub [0, 1, 2, 3, 4, 5, 6] rfl (at80 v2 (by unfold zfd5; rw [zint_ne (Or.inl (by omega)), zint_ne (Or.inl (by omega)), zint_ne (Or.inl (by omega)), zint_kk (by omega) (by omega) (by omega)]))
            · refine zj_iload_n F d_MO_feed_40 1 rfl rfl ?_
              refine zj_goto F d_MO_feed_41 (tgt := 80) (by decide) ?_
              exact zj_sub [0, 1, 2, 3, 4, 5, 6] rfl (at80 v1 (by unfold zfd5; rw [zint_ne (Or.inl (by omega)), zint_ne (Or.inl (by omega)), zint_ne (Or.inl (by omega)), zint_ne (Or.inl (by omega)), zint_kk (by omega) (by omega) (by omega)]))
      exact zj_sub [1, 2, 3, 4, 5, 6, 0] rfl (key 20 0 tm (by omega) htm (fun j hj => (hta j (by omega)).trans (zfd5_low (by omega)).symm))
    · exact absurd h15 hs
  · rcases hs with ⟨hs, rfl⟩ | ⟨-, rfl⟩
    · exact absurd hs h15
    · refine zj_aload_n F d_MO_feed_18 0 rfl rfl ?_
      refine zj_iconst (v := nI 1) F d_MO_feed_19 (by decide) ?_
      refine zj_call (maxL := 2) (wr := [zB K ta 16384 (zby tm), zB K re 16384 (zby om), zB K da 16384 (zby dd), zB K ro 16640 (zby rr), zI K la 640 (zna lg), zO lc 5 [.ref lcca, .ref lcma, .int xc], zI K lcca 16 (zna cc), zI K lcma 320 (zna gc), zO li 5 [.ref lica, .ref lima, .int xl], zI K lica 16 (zna ci), zI K lima 320 (zna gi), zO di 5 [.ref dica, .ref dima, .int xd], zI K dica 16 (zna cd), zI K dima 320 (zna gd), zB K ou 65536 (zby oo), zI K he 65536 (zm1 hg), zI K ch 16640 (zm1 cg)]) F E (m_MO_fail l K m ta re da ro li di lc la ou he ch (nI 0) (nI n) (nI rl) dn rn ba os bb bc (nI 1)) (zi_V (As := [.int (nI 1)]) (rest := []) F d_MO_feed_20 0 rfl rfl rfl q_689 q_691 sel_MO_fail q_692 (Or.inl ⟨_, _, rfl⟩) (by decide) (show Option.map (fun d => d.parameters.length) (parseMethodDescriptor y_MO_fail.desc) = some 1 from by decide +kernel)) d_MO_feed_20 q_692 (Or.inl ⟨_, _, rfl⟩) q_7 [0] [1, 2, 3, 4, 5, 6, 7, 8, 9, 10, 11, 12, 13, 14, 15, 16, 17] rfl rfl rfl rfl (by decide) ⟨by decide, by decide, by decide, by decide⟩ (Nat.le_of_ble_eq_true rfl) (fun v w1 hq => ?_) (fun X w1 hq => ?_)
      · obtain ⟨rfl, rfl⟩ := hq
        show zj G 0 0 23 [(0, .ref m), (1, .int v1), (2, .int v2), (3, .int v3), (4, .int v4), (5, .int v5)] [.int (nI 0)] [zB K ta 16384 (zby tm), zB K re 16384 (zby om), zB K da 16384 (zby dd), zB K ro 16640 (zby rr), zI K la 640 (zna lg), zO lc 5 [.ref lcca, .ref lcma, .int xc], zI K lcca 16 (zna cc), zI K lcma 320 (zna gc), zO li 5 [.ref lica, .ref lima, .int xl], zI K lica 16 (zna ci), zI K lima 320 (zna gi), zO di 5 [.ref dica, .ref dima, .int xd], zI K dica 16 (zna cd), zI K dima 320 (zna gd), zB K ou 65536 (zby oo), zI K he 65536 (zm1 hg), zI K ch 16640 (zm1 cg), zO m 6 [.int (nI 1), .ref ta, .int (nI n), .ref re, .int (nI rl), .ref da, .int dn, .ref ro, .int rn, .int ba, .ref li, .ref di, .ref lc, .ref la, .ref ou, .int os, .int bb, .int bc, .ref he, .ref ch]]
        refine zj_wsub (ws' := [zO m 6 [.int (nI 1), .ref ta, .int (nI n), .ref re, .int (nI rl), .ref da, .int dn, .ref ro, .int rn, .int ba, .ref li, .ref di, .ref lc, .ref la, .ref ou, .int os, .int bb, .int bc, .ref he, .ref ch], zB K ta 16384 (zby tm), zB K re 16384 (zby om), zB K da 16384 (zby dd), zB K ro 16640 (zby rr), zI K la 640 (zna lg), zO lc 5 [.ref lcca, .ref lcma, .int xc], zI K lcca 16 (zna cc), zI K lcma 320 (zna gc), zO li 5 [.ref lica, .ref lima, .int xl], zI K lica 16 (zna ci), zI K lima 320 (zna gi), zO di 5 [.ref dica, .ref dima, .int xd], zI K dica 16 (zna cd), zI K dima 320 (zna gd), zB K ou 65536 (zby oo), zI K he 65536 (zm1 hg), zI K ch 16640 (zm1 cg)]) [17, 0, 1, 2, 3, 4, 5, 6, 7, 8, 9, 10, 11, 12, 13, 14, 15, 16] rfl rfl rfl ?_
        exact zj_iret F E d_MO_feed_23 (Nat.le_of_ble_eq_true rfl) (Nat.le_of_ble_eq_true rfl) ⟨_, rfl, (fun z => absurd (show (1 : Nat) = 0 from z) (by decide)), ⟨_, _, _, _, _, _, _, _, _, _, _, _, _, _, _, _, _, _, _, _, _, _, _, _, _, _, _, _, _, _, _, _, _, _, _, _, _, _, _, _, hn, hrl, hb, htm, hom, hdd, hrr, hoo, hta, hre, rfl⟩⟩
      · exact hq.elim
set_option maxHeartbeats 8000000 in
set_option maxRecDepth 100000 in
/-- end(n) -/
theorem m_MO_end (l : Launch) (K : zk)  (m fc n rl : Nat) (t o : Nat → Nat) (wm : va_W) (hW : zmw K m fc n rl t o wm) (v : Int32) (q : zout) (hs : zsE n rl t o v q) : zc l K y_MO_end w_MO_end { frames := 1, cells := 0, slots := 0, locals := 21 } 0 0 0 0 [.ref m, .int v] wm (fun r w1 => ∃ b : Int32, r = some (.int b) ∧ (q.1 = 0 → b.toInt64 = q.2.1) ∧ zmw K m q.1 q.2.2.1 q.2.2.2.1 q.2.2.2.2.1 q.2.2.2.2.2 w1) (fun _ _ => False) := by
  obtain ⟨ta, re, da, ro, li, di, lc, la, ou, he, ch, lica, lima, dica, dima, lcca, lcma, dn, rn, ba, os, bb, bc, xl, xd, xc, tm, om, dd, rr, lg, ci, gi, cd, gd, cc, gc, oo, hg, cg, hn, hrl, hb, htm, hom, hdd, hrr, hoo, hta, hre, rfl⟩ := hW
  refine zc_of (cc := c_MO_end) (nl := 2) (ret := (some .int)) (by decide) (Nat.le_of_ble_eq_true rfl) (fun G F E => ?_)
  have F : zf G l K { frames := 1, cells := 0, slots := 0, locals := 21 } "ZlibBoxModel" c_MO_end 2 := F
  show zj G 0 0 0 [(0, .ref m), (1, .int v)] [] [zO m 6 [.int (nI fc), .ref ta, .int (nI n), .ref re, .int (nI rl), .ref da, .int dn, .ref ro, .int rn, .int ba, .ref li, .ref di, .ref lc, .ref la, .ref ou, .int os, .int bb, .int bc, .ref he, .ref ch], zB K ta 16384 (zby tm), zB K re 16384 (zby om), zB K da 16384 (zby dd), zB K ro 16640 (zby rr), zI K la 640 (zna lg), zO lc 5 [.ref lcca, .ref lcma, .int xc], zI K lcca 16 (zna cc), zI K lcma 320 (zna gc), zO li 5 [.ref lica, .ref lima, .int xl], zI K lica 16 (zna ci), zI K lima 320 (zna gi), zO di 5 [.ref dica, .ref dima, .int xd], zI K dica 16 (zna cd), zI K dima 320 (zna gd), zB K ou 65536 (zby oo), zI K he 65536 (zm1 hg), zI K ch 16640 (zm1 cg)]
  refine zj_aload_n F d_MO_end_0 0 rfl rfl ?_
  refine zj_iconst (v := nI 0) F d_MO_end_1 (by decide) ?_
  refine zj_put (ws' := [zO m 6 [.int (nI 0), .ref ta, .int (nI n), .ref re, .int (nI rl), .ref da, .int dn, .ref ro, .int rn, .int ba, .ref li, .ref di, .ref lc, .ref la, .ref ou, .int os, .int bb, .int bc, .ref he, .ref ch], zB K ta 16384 (zby tm), zB K re 16384 (zby om), zB K da 16384 (zby dd), zB K ro 16640 (zby rr), zI K la 640 (zna lg), zO lc 5 [.ref lcca, .ref lcma, .int xc], zI K lcca 16 (zna cc), zI K lcma 320 (zna gc), zO li 5 [.ref lica, .ref lima, .int xl], zI K lica 16 (zna ci), zI K lima 320 (zna gi), zO di 5 [.ref dica, .ref dima, .int xd], zI K dica 16 (zna cd), zI K dima 320 (zna gd), zB K ou 65536 (zby oo), zI K he 65536 (zm1 hg), zI K ch 16640 (zm1 cg)]) F d_MO_end_2 0 0 rfl rfl in_MO ty_MO nm_MO (by decide) q_551 rfl rfl rfl (Nat.le_of_ble_eq_true rfl) rfl ?_
  refine zj_iload_n F d_MO_end_5 1 rfl rfl ?_
  refine zj_if_lt (tgt := 17) F d_MO_end_6 (by decide) Iff.rfl (fun h6 => ?_) (fun h6 => ?_)
  · rcases hs with ⟨c, rfl, hc, rfl⟩ | ⟨-, rfl⟩
    · exact absurd h6 (nI_pos (by omega))
    · refine zj_aload_n F d_MO_end_17 0 rfl rfl ?_
      refine zj_iconst (v := nI 1) F d_MO_end_18 (by decide) ?_
      refine zj_call (maxL := 2) (wr := [zB K ta 16384 (zby tm), zB K re 16384 (zby om), zB K da 16384 (zby dd), zB K ro 16640 (zby rr), zI K la 640 (zna lg), zO lc 5 [.ref lcca, .ref lcma, .int xc], zI K lcca 16 (zna cc), zI K lcma 320 (zna gc), zO li 5 [.ref lica, .ref lima, .int xl], zI K lica 16 (zna ci), zI K lima 320 (zna gi), zO di 5 [.ref dica, .ref dima, .int xd], zI K dica 16 (zna cd), zI K dima 320 (zna gd), zB K ou 65536 (zby oo), zI K he 65536 (zm1 hg), zI K ch 16640 (zm1 cg)]) F E (m_MO_fail l K m ta re da ro li di lc la ou he ch (nI 0) (nI n) (nI rl) dn rn ba os bb bc (nI 1)) (zi_V (As := [.int (nI 1)]) (rest := []) F d_MO_end_19 0 rfl rfl rfl q_689 q_691 sel_MO_fail q_692 (Or.inl ⟨_, _, rfl⟩) (by decide) (show Option.map (fun d => d.parameters.length) (parseMethodDescriptor y_MO_fail.desc) = some 1 from by decide +kernel)) d_MO_end_19 q_692 (Or.inl ⟨_, _, rfl⟩) q_7 [0] [1, 2, 3, 4, 5, 6, 7, 8, 9, 10, 11, 12, 13, 14, 15, 16, 17] rfl rfl rfl rfl (by decide) ⟨by decide, by decide, by decide, by decide⟩ (Nat.le_of_ble_eq_true rfl) (fun v w1 hq => ?_) (fun X w1 hq => ?_)
      · obtain ⟨rfl, rfl⟩ := hq
        show zj G 0 0 22 [(0, .ref m), (1, .int v)] [.int (nI 0)] [zB K ta 16384 (zby tm), zB K re 16384 (zby om), zB K da 16384 (zby dd), zB K ro 16640 (zby rr), zI K la 640 (zna lg), zO lc 5 [.ref lcca, .ref lcma, .int xc], zI K lcca 16 (zna cc), zI K lcma 320 (zna gc), zO li 5 [.ref lica, .ref lima, .int xl], zI K lica 16 (zna ci), zI K lima 320 (zna gi), zO di 5 [.ref dica, .ref dima, .int xd], zI K dica 16 (zna cd), zI K dima 320 (zna gd), zB K ou 65536 (zby oo), zI K he 65536 (zm1 hg), zI K ch 16640 (zm1 cg), zO m 6 [.int (nI 1), .ref ta, .int (nI n), .ref re, .int (nI rl), .ref da, .int dn, .ref ro, .int rn, .int ba, .ref li, .ref di, .ref lc, .ref la, .ref ou, .int os, .int bb, .int bc, .ref he, .ref ch]]
        refine zj_wsub (ws' := [zO m 6 [.int (nI 1), .ref ta, .int (nI n), .ref re, .int (nI rl), .ref da, .int dn, .ref ro, .int rn, .int ba, .ref li, .ref di, .ref lc, .ref la, .ref ou, .int os, .int bb, .int bc, .ref he, .ref ch], zB K ta 16384 (zby tm), zB K re 16384 (zby om), zB K da 16384 (zby dd), zB K ro 16640 (zby rr), zI K la 640 (zna lg), zO lc 5 [.ref lcca, .ref lcma, .int xc], zI K lcca 16 (zna cc), zI K lcma 320 (zna gc), zO li 5 [.ref lica, .ref lima, .int xl], zI K lica 16 (zna ci), zI K lima 320 (zna gi), zO di 5 [.ref dica, .ref dima, .int xd], zI K dica 16 (zna cd), zI K dima 320 (zna gd), zB K ou 65536 (zby oo), zI K he 65536 (zm1 hg), zI K ch 16640 (zm1 cg)]) [17, 0, 1, 2, 3, 4, 5, 6, 7, 8, 9, 10, 11, 12, 13, 14, 15, 16] rfl rfl rfl ?_
        exact zj_iret F E d_MO_end_22 (Nat.le_of_ble_eq_true rfl) (Nat.le_of_ble_eq_true rfl) ⟨_, rfl, (fun z => absurd (show (1 : Nat) = 0 from z) (by decide)), ⟨_, _, _, _, _, _, _, _, _, _, _, _, _, _, _, _, _, _, _, _, _, _, _, _, _, _, _, _, _, _, _, _, _, _, _, _, _, _, _, _, hn, hrl, hb, htm, hom, hdd, hrr, hoo, hta, hre, rfl⟩⟩
      · exact hq.elim
  · obtain ⟨c, hc, rfl⟩ := nI_of h6
    refine zj_iload_n F d_MO_end_9 1 rfl rfl ?_
    refine zj_aload_n F d_MO_end_10 0 rfl rfl ?_
    refine zj_get F d_MO_end_11 0 2 rfl rfl in_MO (by decide) q_553 rfl ?_
    refine zj_icmp_le (tgt := 23) F d_MO_end_14 (by decide) (nI_leI (by omega) (by omega)) (fun h14 => ?_) (fun h14 => ?_)
    · rcases hs with ⟨d, hE, hd, rfl⟩ | ⟨hs, rfl⟩
      · have hE := (nI_eq (by omega) (by omega)).mp hE
        subst hE
        refine zj_aload_n F d_MO_end_23 0 rfl rfl ?_
        refine zj_iload_n F d_MO_end_24 1 rfl rfl ?_
        refine zj_put (ws' := [zO m 6 [.int (nI 0), .ref ta, .int (nI c), .ref re, .int (nI rl), .ref da, .int dn, .ref ro, .int rn, .int ba, .ref li, .ref di, .ref lc, .ref la, .ref ou, .int os, .int bb, .int bc, .ref he, .ref ch], zB K ta 16384 (zby tm), zB K re 16384 (zby om), zB K da 16384 (zby dd), zB K ro 16640 (zby rr), zI K la 640 (zna lg), zO lc 5 [.ref lcca, .ref lcma, .int xc], zI K lcca 16 (zna cc), zI K lcma 320 (zna gc), zO li 5 [.ref lica, .ref lima, .int xl], zI K lica 16 (zna ci), zI K lima 320 (zna gi), zO di 5 [.ref dica, .ref dima, .int xd], zI K dica 16 (zna cd), zI K dima 320 (zna gd), zB K ou 65536 (zby oo), zI K he 65536 (zm1 hg), zI K ch 16640 (zm1 cg)]) F d_MO_end_25 0 2 rfl rfl in_MO ty_MO nm_MO (by decide) q_553 rfl rfl rfl (Nat.le_of_ble_eq_true rfl) rfl ?_
        refine zj_iload_n F d_MO_end_28 1 rfl rfl ?_
        exact zj_iret F E d_MO_end_29 (Nat.le_of_ble_eq_true rfl) (Nat.le_of_ble_eq_true rfl) ⟨_, rfl, fun _ => rfl, ⟨_, _, _, _, _, _, _, _, _, _, _, _, _, _, _, _, _, _, _, _, _, _, _, _, _, _, _, _, _, _, _, _, _, _, _, _, _, _, _, _, (Nat.le_trans (show c ≤ n from h14) hn), hrl, hb, htm, hom, hdd, hrr, hoo, (fun j hj => hta j (Nat.lt_of_lt_of_le (show j < c from hj) h14)), hre, rfl⟩⟩
      · exact hs.elim (fun z => absurd z h6) (fun z => absurd ((nI_ltI (by omega) (by omega)).mp z) (by omega))
    · rcases hs with ⟨d, hE, hd, rfl⟩ | ⟨-, rfl⟩
      · exact absurd ((nI_eq (by omega) (by omega)).mp hE) (by omega)
      · refine zj_aload_n F d_MO_end_17 0 rfl rfl ?_
        refine zj_iconst (v := nI 1) F d_MO_end_18 (by decide) ?_
        refine zj_call (maxL := 2) (wr := [zB K ta 16384 (zby tm), zB K re 16384 (zby om), zB K da 16384 (zby dd), zB K ro 16640 (zby rr), zI K la 640 (zna lg), zO lc 5 [.ref lcca, .ref lcma, .int xc], zI K lcca 16 (zna cc), zI K lcma 320 (zna gc), zO li 5 [.ref lica, .ref lima, .int xl], zI K lica 16 (zna ci), zI K lima 320 (zna gi), zO di 5 [.ref dica, .ref dima, .int xd], zI K dica 16 (zna cd), zI K dima 320 (zna gd), zB K ou 65536 (zby oo), zI K he 65536 (zm1 hg), zI K ch 16640 (zm1 cg)]) F E (m_MO_fail l K m ta re da ro li di lc la ou he ch (nI 0) (nI n) (nI rl) dn rn ba os bb bc (nI 1)) (zi_V (As := [.int (nI 1)]) (rest := []) F d_MO_end_19 0 rfl rfl rfl q_689 q_691 sel_MO_fail q_692 (Or.inl ⟨_, _, rfl⟩) (by decide) (show Option.map (fun d => d.parameters.length) (parseMethodDescriptor y_MO_fail.desc) = some 1 from by decide +kernel)) d_MO_end_19 q_692 (Or.inl ⟨_, _, rfl⟩) q_7 [0] [1, 2, 3, 4, 5, 6, 7, 8, 9, 10, 11, 12, 13, 14, 15, 16, 17] rfl rfl rfl rfl (by decide) ⟨by decide, by decide, by decide, by decide⟩ (Nat.le_of_ble_eq_true rfl) (fun v w1 hq => ?_) (fun X w1 hq => ?_)
        · obtain ⟨rfl, rfl⟩ := hq
          show zj G 0 0 22 [(0, .ref m), (1, .int (nI c))] [.int (nI 0)] [zB K ta 16384 (zby tm), zB K re 16384 (zby om), zB K da 16384 (zby dd), zB K ro 16640 (zby rr), zI K la 640 (zna lg), zO lc 5 [.ref lcca, .ref lcma, .int xc], zI K lcca 16 (zna cc), zI K lcma 320 (zna gc), zO li 5 [.ref lica, .ref lima, .int xl], zI K lica 16 (zna ci), zI K lima 320 (zna gi), zO di 5 [.ref dica, .ref dima, .int xd], zI K dica 16 (zna cd), zI K dima 320 (zna gd), zB K ou 65536 (zby oo), zI K he 65536 (zm1 hg), zI K ch 16640 (zm1 cg), zO m 6 [.int (nI 1), .ref ta, .int (nI n), .ref re, .int (nI rl), .ref da, .int dn, .ref ro, .int rn, .int ba, .ref li, .ref di, .ref lc, .ref la, .ref ou, .int os, .int bb, .int bc, .ref he, .ref ch]]
          refine zj_wsub (ws' := [zO m 6 [.int (nI 1), .ref ta, .int (nI n), .ref re, .int (nI rl), .ref da, .int dn, .ref ro, .int rn, .int ba, .ref li, .ref di, .ref lc, .ref la, .ref ou, .int os, .int bb, .int bc, .ref he, .ref ch], zB K ta 16384 (zby tm), zB K re 16384 (zby om), zB K da 16384 (zby dd), zB K ro 16640 (zby rr), zI K la 640 (zna lg), zO lc 5 [.ref lcca, .ref lcma, .int xc], zI K lcca 16 (zna cc), zI K lcma 320 (zna gc), zO li 5 [.ref lica, .ref lima, .int xl], zI K lica 16 (zna ci), zI K lima 320 (zna gi), zO di 5 [.ref dica, .ref dima, .int xd], zI K dica 16 (zna cd), zI K dima 320 (zna gd), zB K ou 65536 (zby oo), zI K he 65536 (zm1 hg), zI K ch 16640 (zm1 cg)]) [17, 0, 1, 2, 3, 4, 5, 6, 7, 8, 9, 10, 11, 12, 13, 14, 15, 16] rfl rfl rfl ?_
          exact zj_iret F E d_MO_end_22 (Nat.le_of_ble_eq_true rfl) (Nat.le_of_ble_eq_true rfl) ⟨_, rfl, (fun z => absurd (show (1 : Nat) = 0 from z) (by decide)), ⟨_, _, _, _, _, _, _, _, _, _, _, _, _, _, _, _, _, _, _, _, _, _, _, _, _, _, _, _, _, _, _, _, _, _, _, _, _, _, _, _, hn, hrl, hb, htm, hom, hdd, hrr, hoo, hta, hre, rfl⟩⟩
        · exact hq.elim
set_option maxHeartbeats 8000000 in
set_option maxRecDepth 100000 in
/-- count(what) -/
theorem m_MO_count (l : Launch) (K : zk)  (m fc n rl : Nat) (t o : Nat → Nat) (wm : va_W) (hW : zmw K m fc n rl t o wm) (v : Int32) (q : zout) (hs : zsC n rl t o v q) : zc l K y_MO_count w_MO_count { frames := 1, cells := 0, slots := 0, locals := 21 } 0 0 0 0 [.ref m, .int v] wm (fun r w1 => ∃ b : Int32, r = some (.int b) ∧ (q.1 = 0 → b.toInt64 = q.2.1) ∧ zmw K m q.1 q.2.2.1 q.2.2.2.1 q.2.2.2.2.1 q.2.2.2.2.2 w1) (fun _ _ => False) := by
  obtain ⟨ta, re, da, ro, li, di, lc, la, ou, he, ch, lica, lima, dica, dima, lcca, lcma, dn, rn, ba, os, bb, bc, xl, xd, xc, tm, om, dd, rr, lg, ci, gi, cd, gd, cc, gc, oo, hg, cg, hn, hrl, hb, htm, hom, hdd, hrr, hoo, hta, hre, rfl⟩ := hW
  refine zc_of (cc := c_MO_count) (nl := 2) (ret := (some .int)) (by decide) (Nat.le_of_ble_eq_true rfl) (fun G F E => ?_)
  have F : zf G l K { frames := 1, cells := 0, slots := 0, locals := 21 } "ZlibBoxModel" c_MO_count 2 := F
  show zj G 0 0 0 [(0, .ref m), (1, .int v)] [] [zO m 6 [.int (nI fc), .ref ta, .int (nI n), .ref re, .int (nI rl), .ref da, .int dn, .ref ro, .int rn, .int ba, .ref li, .ref di, .ref lc, .ref la, .ref ou, .int os, .int bb, .int bc, .ref he, .ref ch], zB K ta 16384 (zby tm), zB K re 16384 (zby om), zB K da 16384 (zby dd), zB K ro 16640 (zby rr), zI K la 640 (zna lg), zO lc 5 [.ref lcca, .ref lcma, .int xc], zI K lcca 16 (zna cc), zI K lcma 320 (zna gc), zO li 5 [.ref lica, .ref lima, .int xl], zI K lica 16 (zna ci), zI K lima 320 (zna gi), zO di 5 [.ref dica, .ref dima, .int xd], zI K dica 16 (zna cd), zI K dima 320 (zna gd), zB K ou 65536 (zby oo), zI K he 65536 (zm1 hg), zI K ch 16640 (zm1 cg)]
  refine zj_aload_n F d_MO_count_0 0 rfl rfl ?_
  refine zj_iconst (v := nI 0) F d_MO_count_1 (by decide) ?_
  refine zj_put (ws' := [zO m 6 [.int (nI 0), .ref ta, .int (nI n), .ref re, .int (nI rl), .ref da, .int dn, .ref ro, .int rn, .int ba, .ref li, .ref di, .ref lc, .ref la, .ref ou, .int os, .int bb, .int bc, .ref he, .ref ch], zB K ta 16384 (zby tm), zB K re 16384 (zby om), zB K da 16384 (zby dd), zB K ro 16640 (zby rr), zI K la 640 (zna lg), zO lc 5 [.ref lcca, .ref lcma, .int xc], zI K lcca 16 (zna cc), zI K lcma 320 (zna gc), zO li 5 [.ref lica, .ref lima, .int xl], zI K lica 16 (zna ci), zI K lima 320 (zna gi), zO di 5 [.ref dica, .ref dima, .int xd], zI K dica 16 (zna cd), zI K dima 320 (zna gd), zB K ou 65536 (zby oo), zI K he 65536 (zm1 hg), zI K ch 16640 (zm1 cg)]) F d_MO_count_2 0 0 rfl rfl in_MO ty_MO nm_MO (by decide) q_551 rfl rfl rfl (Nat.le_of_ble_eq_true rfl) rfl ?_
  refine zj_iload_n F d_MO_count_5 1 rfl rfl ?_
  refine zj_if_lt (tgt := 14) F d_MO_count_6 (by decide) Iff.rfl (fun h6 => ?_) (fun h6 => ?_)
  · rcases hs with ⟨rfl, -⟩ | ⟨-, rfl, -⟩ | ⟨-, rfl⟩
    · exact absurd h6 (by decide)
    · exact absurd h6 (by decide)
    · refine zj_aload_n F d_MO_count_14 0 rfl rfl ?_
      refine zj_iconst (v := nI 1) F d_MO_count_15 (by decide) ?_
      refine zj_call (maxL := 2) (wr := [zB K ta 16384 (zby tm), zB K re 16384 (zby om), zB K da 16384 (zby dd), zB K ro 16640 (zby rr), zI K la 640 (zna lg), zO lc 5 [.ref lcca, .ref lcma, .int xc], zI K lcca 16 (zna cc), zI K lcma 320 (zna gc), zO li 5 [.ref lica, .ref lima, .int xl], zI K lica 16 (zna ci), zI K lima 320 (zna gi), zO di 5 [.ref dica, .ref dima, .int xd], zI K dica 16 (zna cd), zI K dima 320 (zna gd), zB K ou 65536 (zby oo), zI K he 65536 (zm1 hg), zI K ch 16640 (zm1 cg)]) F E (m_MO_fail l K m ta re da ro li di lc la ou he ch (nI 0) (nI n) (nI rl) dn rn ba os bb bc (nI 1)) (zi_V (As := [.int (nI 1)]) (rest := []) F d_MO_count_16 0 rfl rfl rfl q_689 q_691 sel_MO_fail q_692 (Or.inl ⟨_, _, rfl⟩) (by decide) (show Option.map (fun d => d.parameters.length) (parseMethodDescriptor y_MO_fail.desc) = some 1 from by decide +kernel)) d_MO_count_16 q_692 (Or.inl ⟨_, _, rfl⟩) q_7 [0] [1, 2, 3, 4, 5, 6, 7, 8, 9, 10, 11, 12, 13, 14, 15, 16, 17] rfl rfl rfl rfl (by decide) ⟨by decide, by decide, by decide, by decide⟩ (Nat.le_of_ble_eq_true rfl) (fun v w1 hq => ?_) (fun X w1 hq => ?_)
      · obtain ⟨rfl, rfl⟩ := hq
        show zj G 0 0 19 [(0, .ref m), (1, .int v)] [.int (nI 0)] [zB K ta 16384 (zby tm), zB K re 16384 (zby om), zB K da 16384 (zby dd), zB K ro 16640 (zby rr), zI K la 640 (zna lg), zO lc 5 [.ref lcca, .ref lcma, .int xc], zI K lcca 16 (zna cc), zI K lcma 320 (zna gc), zO li 5 [.ref lica, .ref lima, .int xl], zI K lica 16 (zna ci), zI K lima 320 (zna gi), zO di 5 [.ref dica, .ref dima, .int xd], zI K dica 16 (zna cd), zI K dima 320 (zna gd), zB K ou 65536 (zby oo), zI K he 65536 (zm1 hg), zI K ch 16640 (zm1 cg), zO m 6 [.int (nI 1), .ref ta, .int (nI n), .ref re, .int (nI rl), .ref da, .int dn, .ref ro, .int rn, .int ba, .ref li, .ref di, .ref lc, .ref la, .ref ou, .int os, .int bb, .int bc, .ref he, .ref ch]]
        refine zj_goto F d_MO_count_19 (tgt := 37) (by decide) ?_
        refine zj_wsub (ws' := [zO m 6 [.int (nI 1), .ref ta, .int (nI n), .ref re, .int (nI rl), .ref da, .int dn, .ref ro, .int rn, .int ba, .ref li, .ref di, .ref lc, .ref la, .ref ou, .int os, .int bb, .int bc, .ref he, .ref ch], zB K ta 16384 (zby tm), zB K re 16384 (zby om), zB K da 16384 (zby dd), zB K ro 16640 (zby rr), zI K la 640 (zna lg), zO lc 5 [.ref lcca, .ref lcma, .int xc], zI K lcca 16 (zna cc), zI K lcma 320 (zna gc), zO li 5 [.ref lica, .ref lima, .int xl], zI K lica 16 (zna ci), zI K lima 320 (zna gi), zO di 5 [.ref dica, .ref dima, .int xd], zI K dica 16 (zna cd), zI K dima 320 (zna gd), zB K ou 65536 (zby oo), zI K he 65536 (zm1 hg), zI K ch 16640 (zm1 cg)]) [17, 0, 1, 2, 3, 4, 5, 6, 7, 8, 9, 10, 11, 12, 13, 14, 15, 16] rfl rfl rfl ?_
        exact zj_iret F E d_MO_count_37 (Nat.le_of_ble_eq_true rfl) (Nat.le_of_ble_eq_true rfl) ⟨_, rfl, (fun z => absurd (show (1 : Nat) = 0 from z) (by decide)), ⟨_, _, _, _, _, _, _, _, _, _, _, _, _, _, _, _, _, _, _, _, _, _, _, _, _, _, _, _, _, _, _, _, _, _, _, _, _, _, _, _, hn, hrl, hb, htm, hom, hdd, hrr, hoo, hta, hre, rfl⟩⟩
      · exact hq.elim
  · obtain ⟨c, hc, rfl⟩ := nI_of h6
    refine zj_iload_n F d_MO_count_9 1 rfl rfl ?_
    refine zj_iconst (v := nI 1) F d_MO_count_10 (by decide) ?_
    refine zj_icmp_le (tgt := 22) F d_MO_count_11 (by decide) (nI_leI (by omega) (by omega)) (fun h11 => ?_) (fun h11 => ?_)
    · refine zj_iload_n F d_MO_count_22 1 rfl rfl ?_
      refine zj_if_ne (tgt := 33) F d_MO_count_23 (by decide) (zI_eq0 (by omega)) (fun h23 => ?_) (fun h23 => ?_)
      · rcases hs with ⟨hE, -⟩ | ⟨-, -, rfl⟩ | ⟨hE, -⟩
        · exact absurd ((zI_eq0 (by omega)).mp hE) h23
        · refine zj_aload_n F d_MO_count_33 0 rfl rfl ?_
          refine zj_get F d_MO_count_34 0 4 rfl rfl in_MO (by decide) q_555 rfl ?_
          exact zj_iret F E d_MO_count_37 (Nat.le_of_ble_eq_true rfl) (Nat.le_of_ble_eq_true rfl) ⟨_, rfl, fun _ => rfl, ⟨_, _, _, _, _, _, _, _, _, _, _, _, _, _, _, _, _, _, _, _, _, _, _, _, _, _, _, _, _, _, _, _, _, _, _, _, _, _, _, _, hn, hrl, hb, htm, hom, hdd, hrr, hoo, hta, hre, rfl⟩⟩
        · exact (zI_01 h11).elim (fun z => absurd z hE.1) (fun z => absurd z hE.2)
      · rcases hs with ⟨-, rfl⟩ | ⟨hE, -⟩ | ⟨hE, -⟩
        · refine zj_aload_n F d_MO_count_26 0 rfl rfl ?_
          refine zj_get F d_MO_count_27 0 2 rfl rfl in_MO (by decide) q_553 rfl ?_
          refine zj_goto F d_MO_count_30 (tgt := 37) (by decide) ?_
          exact zj_iret F E d_MO_count_37 (Nat.le_of_ble_eq_true rfl) (Nat.le_of_ble_eq_true rfl) ⟨_, rfl, fun _ => rfl, ⟨_, _, _, _, _, _, _, _, _, _, _, _, _, _, _, _, _, _, _, _, _, _, _, _, _, _, _, _, _, _, _, _, _, _, _, _, _, _, _, _, hn, hrl, hb, htm, hom, hdd, hrr, hoo, hta, hre, rfl⟩⟩
        · exact absurd ((zI_eq0 (by omega)).mpr h23) hE
        · exact absurd ((zI_eq0 (by omega)).mpr h23) hE.1
    · rcases hs with ⟨hE, -⟩ | ⟨-, hE, -⟩ | ⟨-, rfl⟩
      · exact absurd ((zI_eq0 (by omega)).mp hE) (by omega)
      · exact absurd ((nI_eq (by omega) (by omega)).mp hE) (by omega)
      · refine zj_aload_n F d_MO_count_14 0 rfl rfl ?_
        refine zj_iconst (v := nI 1) F d_MO_count_15 (by decide) ?_
        refine zj_call (maxL := 2) (wr := [zB K ta 16384 (zby tm), zB K re 16384 (zby om), zB K da 16384 (zby dd), zB K ro 16640 (zby rr), zI K la 640 (zna lg), zO lc 5 [.ref lcca, .ref lcma, .int xc], zI K lcca 16 (zna cc), zI K lcma 320 (zna gc), zO li 5 [.ref lica, .ref lima, .int xl], zI K lica 16 (zna ci), zI K lima 320 (zna gi), zO di 5 [.ref dica, .ref dima, .int xd], zI K dica 16 (zna cd), zI K dima 320 (zna gd), zB K ou 65536 (zby oo), zI K he 65536 (zm1 hg), zI K ch 16640 (zm1 cg)]) F E (m_MO_fail l K m ta re da ro li di lc la ou he ch (nI 0) (nI n) (nI rl) dn rn ba os bb bc (nI 1)) (zi_V (As := [.int (nI 1)]) (rest := []) F d_MO_count_16 0 rfl rfl rfl q_689 q_691 sel_MO_fail q_692 (Or.inl ⟨_, _, rfl⟩) (by decide) (show Option.map (fun d => d.parameters.length) (parseMethodDescriptor y_MO_fail.desc) = some 1 from by decide +kernel)) d_MO_count_16 q_692 (Or.inl ⟨_, _, rfl⟩) q_7 [0] [1, 2, 3, 4, 5, 6, 7, 8, 9, 10, 11, 12, 13, 14, 15, 16, 17] rfl rfl rfl rfl (by decide) ⟨by decide, by decide, by decide, by decide⟩ (Nat.le_of_ble_eq_true rfl) (fun v w1 hq => ?_) (fun X w1 hq => ?_)
        · obtain ⟨rfl, rfl⟩ := hq
          show zj G 0 0 19 [(0, .ref m), (1, .int (nI c))] [.int (nI 0)] [zB K ta 16384 (zby tm), zB K re 16384 (zby om), zB K da 16384 (zby dd), zB K ro 16640 (zby rr), zI K la 640 (zna lg), zO lc 5 [.ref lcca, .ref lcma, .int xc], zI K lcca 16 (zna cc), zI K lcma 320 (zna gc), zO li 5 [.ref lica, .ref lima, .int xl], zI K lica 16 (zna ci), zI K lima 320 (zna gi), zO di 5 [.ref dica, .ref dima, .int xd], zI K dica 16 (zna cd), zI K dima 320 (zna gd), zB K ou 65536 (zby oo), zI K he 65536 (zm1 hg), zI K ch 16640 (zm1 cg), zO m 6 [.int (nI 1), .ref ta, .int (nI n), .ref re, .int (nI rl), .ref da, .int dn, .ref ro, .int rn, .int ba, .ref li, .ref di, .ref lc, .ref la, .ref ou, .int os, .int bb, .int bc, .ref he, .ref ch]]
          refine zj_goto F d_MO_count_19 (tgt := 37) (by decide) ?_
          refine zj_wsub (ws' := [zO m 6 [.int (nI 1), .ref ta, .int (nI n), .ref re, .int (nI rl), .ref da, .int dn, .ref ro, .int rn, .int ba, .ref li, .ref di, .ref lc, .ref la, .ref ou, .int os, .int bb, .int bc, .ref he, .ref ch], zB K ta 16384 (zby tm), zB K re 16384 (zby om), zB K da 16384 (zby dd), zB K ro 16640 (zby rr), zI K la 640 (zna lg), zO lc 5 [.ref lcca, .ref lcma, .int xc], zI K lcca 16 (zna cc), zI K lcma 320 (zna gc), zO li 5 [.ref lica, .ref lima, .int xl], zI K lica 16 (zna ci), zI K lima 320 (zna gi), zO di 5 [.ref dica, .ref dima, .int xd], zI K dica 16 (zna cd), zI K dima 320 (zna gd), zB K ou 65536 (zby oo), zI K he 65536 (zm1 hg), zI K ch 16640 (zm1 cg)]) [17, 0, 1, 2, 3, 4, 5, 6, 7, 8, 9, 10, 11, 12, 13, 14, 15, 16] rfl rfl rfl ?_
          exact zj_iret F E d_MO_count_37 (Nat.le_of_ble_eq_true rfl) (Nat.le_of_ble_eq_true rfl) ⟨_, rfl, (fun z => absurd (show (1 : Nat) = 0 from z) (by decide)), ⟨_, _, _, _, _, _, _, _, _, _, _, _, _, _, _, _, _, _, _, _, _, _, _, _, _, _, _, _, _, _, _, _, _, _, _, _, _, _, _, _, hn, hrl, hb, htm, hom, hdd, hrr, hoo, hta, hre, rfl⟩⟩
        · exact hq.elim
set_option maxHeartbeats 8000000 in
set_option maxRecDepth 100000 in
/-- adler() -/
theorem m_MO_adl (l : Launch) (K : zk)  (m fc n rl : Nat) (t o : Nat → Nat) (wm : va_W) (hW : zmw K m fc n rl t o wm)  : zc l K y_MO_adler2 w_MO_adler2 { frames := 1, cells := 0, slots := 0, locals := 24 } 0 0 0 0 [.ref m] wm (fun r w1 => r = some (.int (nI (zadl t n))) ∧ zmw K m 0 n rl t o w1) (fun _ _ => False) := by
  obtain ⟨ta, re, da, ro, li, di, lc, la, ou, he, ch, lica, lima, dica, dima, lcca, lcma, dn, rn, ba, os, bb, bc, xl, xd, xc, tm, om, dd, rr, lg, ci, gi, cd, gd, cc, gc, oo, hg, cg, hn, hrl, hb, htm, hom, hdd, hrr, hoo, hta, hre, rfl⟩ := hW
  refine zc_of (cc := c_MO_adler2) (nl := 1) (ret := (some .int)) (by decide) (Nat.le_of_ble_eq_true rfl) (fun G F E => ?_)
  have F : zf G l K { frames := 1, cells := 0, slots := 0, locals := 24 } "ZlibBoxModel" c_MO_adler2 1 := F
  show zj G 0 0 0 [(0, .ref m)] [] [zO m 6 [.int (nI fc), .ref ta, .int (nI n), .ref re, .int (nI rl), .ref da, .int dn, .ref ro, .int rn, .int ba, .ref li, .ref di, .ref lc, .ref la, .ref ou, .int os, .int bb, .int bc, .ref he, .ref ch], zB K ta 16384 (zby tm), zB K re 16384 (zby om), zB K da 16384 (zby dd), zB K ro 16640 (zby rr), zI K la 640 (zna lg), zO lc 5 [.ref lcca, .ref lcma, .int xc], zI K lcca 16 (zna cc), zI K lcma 320 (zna gc), zO li 5 [.ref lica, .ref lima, .int xl], zI K lica 16 (zna ci), zI K lima 320 (zna gi), zO di 5 [.ref dica, .ref dima, .int xd], zI K dica 16 (zna cd), zI K dima 320 (zna gd), zB K ou 65536 (zby oo), zI K he 65536 (zm1 hg), zI K ch 16640 (zm1 cg)]
  refine zj_aload_n F d_MO_adler2_0 0 rfl rfl ?_
  refine zj_iconst (v := nI 0) F d_MO_adler2_1 (by decide) ?_
  refine zj_put (ws' := [zO m 6 [.int (nI 0), .ref ta, .int (nI n), .ref re, .int (nI rl), .ref da, .int dn, .ref ro, .int rn, .int ba, .ref li, .ref di, .ref lc, .ref la, .ref ou, .int os, .int bb, .int bc, .ref he, .ref ch], zB K ta 16384 (zby tm), zB K re 16384 (zby om), zB K da 16384 (zby dd), zB K ro 16640 (zby rr), zI K la 640 (zna lg), zO lc 5 [.ref lcca, .ref lcma, .int xc], zI K lcca 16 (zna cc), zI K lcma 320 (zna gc), zO li 5 [.ref lica, .ref lima, .int xl], zI K lica 16 (zna ci), zI K lima 320 (zna gi), zO di 5 [.ref dica, .ref dima, .int xd], zI K dica 16 (zna cd), zI K dima 320 (zna gd), zB K ou 65536 (zby oo), zI K he 65536 (zm1 hg), zI K ch 16640 (zm1 cg)]) F d_MO_adler2_2 0 0 rfl rfl in_MO ty_MO nm_MO (by decide) q_551 rfl rfl rfl (Nat.le_of_ble_eq_true rfl) rfl ?_
  refine zj_aload_n F d_MO_adler2_5 0 rfl rfl ?_
  refine zj_get F d_MO_adler2_6 0 1 rfl rfl in_MO (by decide) q_552 rfl ?_
  refine zj_aload_n F d_MO_adler2_9 0 rfl rfl ?_
  refine zj_get F d_MO_adler2_10 0 2 rfl rfl in_MO (by decide) q_553 rfl ?_
  refine zj_call (maxL := 5) (wr := [zO m 6 [.int (nI 0), .ref ta, .int (nI n), .ref re, .int (nI rl), .ref da, .int dn, .ref ro, .int rn, .int ba, .ref li, .ref di, .ref lc, .ref la, .ref ou, .int os, .int bb, .int bc, .ref he, .ref ch], zB K re 16384 (zby om), zB K da 16384 (zby dd), zB K ro 16640 (zby rr), zI K la 640 (zna lg), zO lc 5 [.ref lcca, .ref lcma, .int xc], zI K lcca 16 (zna cc), zI K lcma 320 (zna gc), zO li 5 [.ref lica, .ref lima, .int xl], zI K lica 16 (zna ci), zI K lima 320 (zna gi), zO di 5 [.ref dica, .ref dima, .int xd], zI K dica 16 (zna cd), zI K dima 320 (zna gd), zB K ou 65536 (zby oo), zI K he 65536 (zm1 hg), zI K ch 16640 (zm1 cg)]) F E (m_MO_adlerOf l K ta 16384 n t tm hb hta (by decide) hn) (zi_S (As := [.ref ta, .int (nI n)]) (rest := []) F d_MO_adler2_13 q_684 q_685 q_7 q_686 (Or.inl ⟨_, _, rfl⟩) (by decide) (show Option.map (fun d => d.parameters.length) (parseMethodDescriptor y_MO_adler.desc) = some 2 from by decide +kernel)) d_MO_adler2_13 q_686 (Or.inl ⟨_, _, rfl⟩) q_7 [1] [0, 2, 3, 4, 5, 6, 7, 8, 9, 10, 11, 12, 13, 14, 15, 16, 17] rfl rfl rfl rfl (by decide) ⟨by decide, by decide, by decide, by decide⟩ (Nat.le_of_ble_eq_true rfl) (fun v w1 hq => ?_) (fun X w1 hq => ?_)
  · obtain ⟨rfl, rfl⟩ := hq
    show zj G 0 0 16 [(0, .ref m)] [.long (Int64.ofNat (zadl t n))] [zO m 6 [.int (nI 0), .ref ta, .int (nI n), .ref re, .int (nI rl), .ref da, .int dn, .ref ro, .int rn, .int ba, .ref li, .ref di, .ref lc, .ref la, .ref ou, .int os, .int bb, .int bc, .ref he, .ref ch], zB K re 16384 (zby om), zB K da 16384 (zby dd), zB K ro 16640 (zby rr), zI K la 640 (zna lg), zO lc 5 [.ref lcca, .ref lcma, .int xc], zI K lcca 16 (zna cc), zI K lcma 320 (zna gc), zO li 5 [.ref lica, .ref lima, .int xl], zI K lica 16 (zna ci), zI K lima 320 (zna gi), zO di 5 [.ref dica, .ref dima, .int xd], zI K dica 16 (zna cd), zI K dima 320 (zna gd), zB K ou 65536 (zby oo), zI K he 65536 (zm1 hg), zI K ch 16640 (zm1 cg), zB K ta 16384 (zby tm)]
    refine zj_l2i F d_MO_adler2_16 (zL_toI _) ?_
    refine zj_wsub (ws' := [zO m 6 [.int (nI 0), .ref ta, .int (nI n), .ref re, .int (nI rl), .ref da, .int dn, .ref ro, .int rn, .int ba, .ref li, .ref di, .ref lc, .ref la, .ref ou, .int os, .int bb, .int bc, .ref he, .ref ch], zB K ta 16384 (zby tm), zB K re 16384 (zby om), zB K da 16384 (zby dd), zB K ro 16640 (zby rr), zI K la 640 (zna lg), zO lc 5 [.ref lcca, .ref lcma, .int xc], zI K lcca 16 (zna cc), zI K lcma 320 (zna gc), zO li 5 [.ref lica, .ref lima, .int xl], zI K lica 16 (zna ci), zI K lima 320 (zna gi), zO di 5 [.ref dica, .ref dima, .int xd], zI K dica 16 (zna cd), zI K dima 320 (zna gd), zB K ou 65536 (zby oo), zI K he 65536 (zm1 hg), zI K ch 16640 (zm1 cg)]) [0, 17, 1, 2, 3, 4, 5, 6, 7, 8, 9, 10, 11, 12, 13, 14, 15, 16] rfl rfl rfl ?_
    exact zj_iret F E d_MO_adler2_17 (Nat.le_of_ble_eq_true rfl) (Nat.le_of_ble_eq_true rfl) ⟨rfl, ⟨_, _, _, _, _, _, _, _, _, _, _, _, _, _, _, _, _, _, _, _, _, _, _, _, _, _, _, _, _, _, _, _, _, _, _, _, _, _, _, _, hn, hrl, hb, htm, hom, hdd, hrr, hoo, hta, hre, rfl⟩⟩
  · exact hq.elim
set_option maxHeartbeats 8000000 in
set_option maxRecDepth 100000 in
/-- again() -/
theorem m_MO_again (l : Launch) (K : zk)  (m fc n rl : Nat) (t o : Nat → Nat) (wm : va_W) (hW : zmw K m fc n rl t o wm)  : zc l K y_MO_again w_MO_again { frames := 0, cells := 0, slots := 0, locals := 0 } 0 0 0 0 [.ref m] wm (fun r w1 => r = some (.int (nI rl)) ∧ zmw K m 0 rl rl (va_cpy o t 0 0 rl) o w1) (fun _ _ => False) := by
  obtain ⟨ta, re, da, ro, li, di, lc, la, ou, he, ch, lica, lima, dica, dima, lcca, lcma, dn, rn, ba, os, bb, bc, xl, xd, xc, tm, om, dd, rr, lg, ci, gi, cd, gd, cc, gc, oo, hg, cg, hn, hrl, hb, htm, hom, hdd, hrr, hoo, hta, hre, rfl⟩ := hW
  refine zc_of (cc := c_MO_again) (nl := 2) (ret := (some .int)) (by decide) (Nat.le_of_ble_eq_true rfl) (fun G F E => ?_)
  have F : zf G l K { frames := 0, cells := 0, slots := 0, locals := 0 } "ZlibBoxModel" c_MO_again 2 := F
  show zj G 0 0 0 [(0, .ref m)] [] [zO m 6 [.int (nI fc), .ref ta, .int (nI n), .ref re, .int (nI rl), .ref da, .int dn, .ref ro, .int rn, .int ba, .ref li, .ref di, .ref lc, .ref la, .ref ou, .int os, .int bb, .int bc, .ref he, .ref ch], zB K ta 16384 (zby tm), zB K re 16384 (zby om), zB K da 16384 (zby dd), zB K ro 16640 (zby rr), zI K la 640 (zna lg), zO lc 5 [.ref lcca, .ref lcma, .int xc], zI K lcca 16 (zna cc), zI K lcma 320 (zna gc), zO li 5 [.ref lica, .ref lima, .int xl], zI K lica 16 (zna ci), zI K lima 320 (zna gi), zO di 5 [.ref dica, .ref dima, .int xd], zI K dica 16 (zna cd), zI K dima 320 (zna gd), zB K ou 65536 (zby oo), zI K he 65536 (zm1 hg), zI K ch 16640 (zm1 cg)]
  refine zj_aload_n F d_MO_again_0 0 rfl rfl ?_
  refine zj_iconst (v := nI 0) F d_MO_again_1 (by decide) ?_
  refine zj_put (ws' := [zO m 6 [.int (nI 0), .ref ta, .int (nI n), .ref re, .int (nI rl), .ref da, .int dn, .ref ro, .int rn, .int ba, .ref li, .ref di, .ref lc, .ref la, .ref ou, .int os, .int bb, .int bc, .ref he, .ref ch], zB K ta 16384 (zby tm), zB K re 16384 (zby om), zB K da 16384 (zby dd), zB K ro 16640 (zby rr), zI K la 640 (zna lg), zO lc 5 [.ref lcca, .ref lcma, .int xc], zI K lcca 16 (zna cc), zI K lcma 320 (zna gc), zO li 5 [.ref lica, .ref lima, .int xl], zI K lica 16 (zna ci), zI K lima 320 (zna gi), zO di 5 [.ref dica, .ref dima, .int xd], zI K dica 16 (zna cd), zI K dima 320 (zna gd), zB K ou 65536 (zby oo), zI K he 65536 (zm1 hg), zI K ch 16640 (zm1 cg)]) F d_MO_again_2 0 0 rfl rfl in_MO ty_MO nm_MO (by decide) q_551 rfl rfl rfl (Nat.le_of_ble_eq_true rfl) rfl ?_
  refine zj_iconst (v := nI 0) F d_MO_again_5 (by decide) ?_
  refine zj_istore_n (L' := [(1, .int (nI 0)), (0, .ref m)]) F d_MO_again_6 rfl (by decide) rfl ?_
  have fin : ∀ f : Nat → Nat, (∀ j, f j < 256) → (∀ j, j < rl → f j = om j) → zj G 0 0 33 [(0, .ref m)] [] [zO m 6 [.int (nI 0), .ref ta, .int (nI n), .ref re, .int (nI rl), .ref da, .int dn, .ref ro, .int rn, .int ba, .ref li, .ref di, .ref lc, .ref la, .ref ou, .int os, .int bb, .int bc, .ref he, .ref ch], zB K ta 16384 (zby f), zB K re 16384 (zby om), zB K da 16384 (zby dd), zB K ro 16640 (zby rr), zI K la 640 (zna lg), zO lc 5 [.ref lcca, .ref lcma, .int xc], zI K lcca 16 (zna cc), zI K lcma 320 (zna gc), zO li 5 [.ref lica, .ref lima, .int xl], zI K lica 16 (zna ci), zI K lima 320 (zna gi), zO di 5 [.ref dica, .ref dima, .int xd], zI K dica 16 (zna cd), zI K dima 320 (zna gd), zB K ou 65536 (zby oo), zI K he 65536 (zm1 hg), zI K ch 16640 (zm1 cg)] := by
    intro f f1 f2
    show zj G 0 0 33 [(0, .ref m)] [] [zO m 6 [.int (nI 0), .ref ta, .int (nI n), .ref re, .int (nI rl), .ref da, .int dn, .ref ro, .int rn, .int ba, .ref li, .ref di, .ref lc, .ref la, .ref ou, .int os, .int bb, .int bc, .ref he, .ref ch], zB K ta 16384 (zby f), zB K re 16384 (zby om), zB K da 16384 (zby dd), zB K ro 16640 (zby rr), zI K la 640 (zna lg), zO lc 5 [.ref lcca, .ref lcma, .int xc], zI K lcca 16 (zna cc), zI K lcma 320 (zna gc), zO li 5 [.ref lica, .ref lima, .int xl], zI K lica 16 (zna ci), zI K lima 320 (zna gi), zO di 5 [.ref dica, .ref dima, .int xd], zI K dica 16 (zna cd), zI K dima 320 (zna gd), zB K ou 65536 (zby oo), zI K he 65536 (zm1 hg), zI K ch 16640 (zm1 cg)]
    refine zj_aload_n F d_MO_again_33 0 rfl rfl ?_
    refine zj_aload_n F d_MO_again_34 0 rfl rfl ?_
    refine zj_get F d_MO_again_35 0 4 rfl rfl in_MO (by decide) q_555 rfl ?_
    refine zj_put (ws' := [zO m 6 [.int (nI 0), .ref ta, .int (nI rl), .ref re, .int (nI rl), .ref da, .int dn, .ref ro, .int rn, .int ba, .ref li, .ref di, .ref lc, .ref la, .ref ou, .int os, .int bb, .int bc, .ref he, .ref ch], zB K ta 16384 (zby f), zB K re 16384 (zby om), zB K da 16384 (zby dd), zB K ro 16640 (zby rr), zI K la 640 (zna lg), zO lc 5 [.ref lcca, .ref lcma, .int xc], zI K lcca 16 (zna cc), zI K lcma 320 (zna gc), zO li 5 [.ref lica, .ref lima, .int xl], zI K lica 16 (zna ci), zI K lima 320 (zna gi), zO di 5 [.ref dica, .ref dima, .int xd], zI K dica 16 (zna cd), zI K dima 320 (zna gd), zB K ou 65536 (zby oo), zI K he 65536 (zm1 hg), zI K ch 16640 (zm1 cg)]) F d_MO_again_38 0 2 rfl rfl in_MO ty_MO nm_MO (by decide) q_553 rfl rfl rfl (Nat.le_of_ble_eq_true rfl) rfl ?_
    refine zj_aload_n F d_MO_again_41 0 rfl rfl ?_
    refine zj_get F d_MO_again_42 0 2 rfl rfl in_MO (by decide) q_553 rfl ?_
    exact zj_iret F E d_MO_again_45 (Nat.le_of_ble_eq_true rfl) (Nat.le_of_ble_eq_true rfl) ⟨rfl, ⟨_, _, _, _, _, _, _, _, _, _, _, _, _, _, _, _, _, _, _, _, _, _, _, _, _, _, _, _, _, _, _, _, _, _, _, _, _, _, _, _, hrl, hrl, (zcp_lt hre hom hb), f1, hom, hdd, hrr, hoo, (fun j hj => by rw [va_cpy_at, if_pos hj, f2 j hj, hre j hj]), hre, rfl⟩⟩
  have key : ∀ q i (f : Nat → Nat), i + q = rl → (∀ j, f j < 256) → (∀ j, j < i → f j = om j) → zj G 0 0 7 [(0, .ref m), (1, .int (nI i))] [] [zO m 6 [.int (nI 0), .ref ta, .int (nI n), .ref re, .int (nI rl), .ref da, .int dn, .ref ro, .int rn, .int ba, .ref li, .ref di, .ref lc, .ref la, .ref ou, .int os, .int bb, .int bc, .ref he, .ref ch], zB K ta 16384 (zby f), zB K re 16384 (zby om), zB K da 16384 (zby dd), zB K ro 16640 (zby rr), zI K la 640 (zna lg), zO lc 5 [.ref lcca, .ref lcma, .int xc], zI K lcca 16 (zna cc), zI K lcma 320 (zna gc), zO li 5 [.ref lica, .ref lima, .int xl], zI K lica 16 (zna ci), zI K lima 320 (zna gi), zO di 5 [.ref dica, .ref dima, .int xd], zI K dica 16 (zna cd), zI K dima 320 (zna gd), zB K ou 65536 (zby oo), zI K he 65536 (zm1 hg), zI K ch 16640 (zm1 cg)] := by
    intro q
    induction q with
    | zero =>
      intro i f k0 k1 k2
      show zj G 0 0 7 [(0, .ref m), (1, .int (nI i))] [] [zO m 6 [.int (nI 0), .ref ta, .int (nI n), .ref re, .int (nI rl), .ref da, .int dn, .ref ro, .int rn, .int ba, .ref li, .ref di, .ref lc, .ref la, .ref ou, .int os, .int bb, .int bc, .ref he, .ref ch], zB K ta 16384 (zby f), zB K re 16384 (zby om), zB K da 16384 (zby dd), zB K ro 16640 (zby rr), zI K la 640 (zna lg), zO lc 5 [.ref lcca, .ref lcma, .int xc], zI K lcca 16 (zna cc), zI K lcma 320 (zna gc), zO li 5 [.ref lica, .ref lima, .int xl], zI K lica 16 (zna ci), zI K lima 320 (zna gi), zO di 5 [.ref dica, .ref dima, .int xd], zI K dica 16 (zna cd), zI K dima 320 (zna gd), zB K ou 65536 (zby oo), zI K he 65536 (zm1 hg), zI K ch 16640 (zm1 cg)]
      refine zj_iload_n F d_MO_again_7 1 rfl rfl ?_
      refine zj_aload_n F d_MO_again_8 0 rfl rfl ?_
      refine zj_get F d_MO_again_9 0 4 rfl rfl in_MO (by decide) q_555 rfl ?_
      refine zj_icmp_ge (tgt := 33) F d_MO_again_12 (by decide) (nI_leI (by omega) (by omega)) (fun h12 => ?_) (fun h12 => ?_)
      · exact zj_sub [0] rfl (fin f k1 (fun j hj => k2 j (by omega)))
      · exact absurd h12 (by omega)
    | succ q ih =>
      intro i f k0 k1 k2
      show zj G 0 0 7 [(0, .ref m), (1, .int (nI i))] [] [zO m 6 [.int (nI 0), .ref ta, .int (nI n), .ref re, .int (nI rl), .ref da, .int dn, .ref ro, .int rn, .int ba, .ref li, .ref di, .ref lc, .ref la, .ref ou, .int os, .int bb, .int bc, .ref he, .ref ch], zB K ta 16384 (zby f), zB K re 16384 (zby om), zB K da 16384 (zby dd), zB K ro 16640 (zby rr), zI K la 640 (zna lg), zO lc 5 [.ref lcca, .ref lcma, .int xc], zI K lcca 16 (zna cc), zI K lcma 320 (zna gc), zO li 5 [.ref lica, .ref lima, .int xl], zI K lica 16 (zna ci), zI K lima 320 (zna gi), zO di 5 [.ref dica, .ref dima, .int xd], zI K dica 16 (zna cd), zI K dima 320 (zna gd), zB K ou 65536 (zby oo), zI K he 65536 (zm1 hg), zI K ch 16640 (zm1 cg)]
      refine zj_iload_n F d_MO_again_7 1 rfl rfl ?_
      refine zj_aload_n F d_MO_again_8 0 rfl rfl ?_
      refine zj_get F d_MO_again_9 0 4 rfl rfl in_MO (by decide) q_555 rfl ?_
      refine zj_icmp_ge (tgt := 33) F d_MO_again_12 (by decide) (nI_leI (by omega) (by omega)) (fun h12 => ?_) (fun h12 => ?_)
      · exact absurd h12 (by omega)
      · refine zj_aload_n F d_MO_again_15 0 rfl rfl ?_
        refine zj_get F d_MO_again_16 0 1 rfl rfl in_MO (by decide) q_552 rfl ?_
        refine zj_iload_n F d_MO_again_19 1 rfl rfl ?_
        refine zj_aload_n F d_MO_again_20 0 rfl rfl ?_
        refine zj_get F d_MO_again_21 0 3 rfl rfl in_MO (by decide) q_554 rfl ?_
        refine zj_iload_n F d_MO_again_24 1 rfl rfl ?_
        refine zj_bald F d_MO_again_25 2 0 i rfl rfl rfl (by omega) (by omega) rfl ?_
        refine zj_bast (ws' := [zO m 6 [.int (nI 0), .ref ta, .int (nI n), .ref re, .int (nI rl), .ref da, .int dn, .ref ro, .int rn, .int ba, .ref li, .ref di, .ref lc, .ref la, .ref ou, .int os, .int bb, .int bc, .ref he, .ref ch], zB K ta 16384 (zby (va_up f i (zlow ((zby om) i)))), zB K re 16384 (zby om), zB K da 16384 (zby dd), zB K ro 16640 (zby rr), zI K la 640 (zna lg), zO lc 5 [.ref lcca, .ref lcma, .int xc], zI K lcca 16 (zna cc), zI K lcma 320 (zna gc), zO li 5 [.ref lica, .ref lima, .int xl], zI K lica 16 (zna ci), zI K lima 320 (zna gi), zO di 5 [.ref dica, .ref dima, .int xd], zI K dica 16 (zna cd), zI K dima 320 (zna gd), zB K ou 65536 (zby oo), zI K he 65536 (zm1 hg), zI K ch 16640 (zm1 cg)]) F d_MO_again_26 1 0 i rfl rfl rfl (by omega) (by omega) (by rw [zby_upd]; rfl) ?_
        refine zj_iinc (v := nI (i + 1)) (L' := [(1, .int (nI (i + 1))), (0, .ref m)]) F d_MO_again_27 1 rfl (nI_add _ _) (by decide) rfl ?_
        refine zj_goto F d_MO_again_30 (tgt := 7) (by decide) ?_
        exact zj_sub [1, 0] rfl (ih (i + 1) _ (by omega) (zby_lt k1 _ _) (zag_cp hom k2))
  exact zj_sub [1, 0] rfl (key rl 0 tm (by omega) htm (fun j hj => absurd hj (Nat.not_lt_zero j)))
set_option maxHeartbeats 8000000 in
set_option maxRecDepth 100000 in
/-- word(i) -/
theorem m_MO_word (l : Launch) (K : zk)  (m fc n rl : Nat) (t o : Nat → Nat) (wm : va_W) (hW : zmw K m fc n rl t o wm) (v : Int32) (q : zout) (hs : zsW n rl t o v q) : zc l K y_MO_word w_MO_word { frames := 1, cells := 0, slots := 0, locals := 21 } 0 0 0 0 [.ref m, .int v] wm (fun r w1 => ∃ b : Int64, r = some (.long b) ∧ (q.1 = 0 → b = q.2.1) ∧ zmw K m q.1 q.2.2.1 q.2.2.2.1 q.2.2.2.2.1 q.2.2.2.2.2 w1) (fun _ _ => False) := by
  obtain ⟨ta, re, da, ro, li, di, lc, la, ou, he, ch, lica, lima, dica, dima, lcca, lcma, dn, rn, ba, os, bb, bc, xl, xd, xc, tm, om, dd, rr, lg, ci, gi, cd, gd, cc, gc, oo, hg, cg, hn, hrl, hb, htm, hom, hdd, hrr, hoo, hta, hre, rfl⟩ := hW
  refine zc_of (cc := c_MO_word) (nl := 5) (ret := (some .long)) (by decide) (Nat.le_of_ble_eq_true rfl) (fun G F E => ?_)
  have F : zf G l K { frames := 1, cells := 0, slots := 0, locals := 21 } "ZlibBoxModel" c_MO_word 5 := F
  show zj G 0 0 0 [(0, .ref m), (1, .int v)] [] [zO m 6 [.int (nI fc), .ref ta, .int (nI n), .ref re, .int (nI rl), .ref da, .int dn, .ref ro, .int rn, .int ba, .ref li, .ref di, .ref lc, .ref la, .ref ou, .int os, .int bb, .int bc, .ref he, .ref ch], zB K ta 16384 (zby tm), zB K re 16384 (zby om), zB K da 16384 (zby dd), zB K ro 16640 (zby rr), zI K la 640 (zna lg), zO lc 5 [.ref lcca, .ref lcma, .int xc], zI K lcca 16 (zna cc), zI K lcma 320 (zna gc), zO li 5 [.ref lica, .ref lima, .int xl], zI K lica 16 (zna ci), zI K lima 320 (zna gi), zO di 5 [.ref dica, .ref dima, .int xd], zI K dica 16 (zna cd), zI K dima 320 (zna gd), zB K ou 65536 (zby oo), zI K he 65536 (zm1 hg), zI K ch 16640 (zm1 cg)]
  refine zj_aload_n F d_MO_word_0 0 rfl rfl ?_
  refine zj_iconst (v := nI 0) F d_MO_word_1 (by decide) ?_
  refine zj_put (ws' := [zO m 6 [.int (nI 0), .ref ta, .int (nI n), .ref re, .int (nI rl), .ref da, .int dn, .ref ro, .int rn, .int ba, .ref li, .ref di, .ref lc, .ref la, .ref ou, .int os, .int bb, .int bc, .ref he, .ref ch], zB K ta 16384 (zby tm), zB K re 16384 (zby om), zB K da 16384 (zby dd), zB K ro 16640 (zby rr), zI K la 640 (zna lg), zO lc 5 [.ref lcca, .ref lcma, .int xc], zI K lcca 16 (zna cc), zI K lcma 320 (zna gc), zO li 5 [.ref lica, .ref lima, .int xl], zI K lica 16 (zna ci), zI K lima 320 (zna gi), zO di 5 [.ref dica, .ref dima, .int xd], zI K dica 16 (zna cd), zI K dima 320 (zna gd), zB K ou 65536 (zby oo), zI K he 65536 (zm1 hg), zI K ch 16640 (zm1 cg)]) F d_MO_word_2 0 0 rfl rfl in_MO ty_MO nm_MO (by decide) q_551 rfl rfl rfl (Nat.le_of_ble_eq_true rfl) rfl ?_
  refine zj_iload_n F d_MO_word_5 1 rfl rfl ?_
  refine zj_if_lt (tgt := 17) F d_MO_word_6 (by decide) Iff.rfl (fun h6 => ?_) (fun h6 => ?_)
  · rcases hs with ⟨c, rfl, hc, rfl⟩ | ⟨-, rfl⟩
    · exact absurd h6 (nI_pos (by omega))
    · refine zj_aload_n F d_MO_word_17 0 rfl rfl ?_
      refine zj_iconst (v := nI 1) F d_MO_word_18 (by decide) ?_
      refine zj_call (maxL := 2) (wr := [zB K ta 16384 (zby tm), zB K re 16384 (zby om), zB K da 16384 (zby dd), zB K ro 16640 (zby rr), zI K la 640 (zna lg), zO lc 5 [.ref lcca, .ref lcma, .int xc], zI K lcca 16 (zna cc), zI K lcma 320 (zna gc), zO li 5 [.ref lica, .ref lima, .int xl], zI K lica 16 (zna ci), zI K lima 320 (zna gi), zO di 5 [.ref dica, .ref dima, .int xd], zI K dica 16 (zna cd), zI K dima 320 (zna gd), zB K ou 65536 (zby oo), zI K he 65536 (zm1 hg), zI K ch 16640 (zm1 cg)]) F E (m_MO_fail l K m ta re da ro li di lc la ou he ch (nI 0) (nI n) (nI rl) dn rn ba os bb bc (nI 1)) (zi_V (As := [.int (nI 1)]) (rest := []) F d_MO_word_19 0 rfl rfl rfl q_689 q_691 sel_MO_fail q_692 (Or.inl ⟨_, _, rfl⟩) (by decide) (show Option.map (fun d => d.parameters.length) (parseMethodDescriptor y_MO_fail.desc) = some 1 from by decide +kernel)) d_MO_word_19 q_692 (Or.inl ⟨_, _, rfl⟩) q_7 [0] [1, 2, 3, 4, 5, 6, 7, 8, 9, 10, 11, 12, 13, 14, 15, 16, 17] rfl rfl rfl rfl (by decide) ⟨by decide, by decide, by decide, by decide⟩ (Nat.le_of_ble_eq_true rfl) (fun v w1 hq => ?_) (fun X w1 hq => ?_)
      · obtain ⟨rfl, rfl⟩ := hq
        show zj G 0 0 22 [(0, .ref m), (1, .int v)] [.int (nI 0)] [zB K ta 16384 (zby tm), zB K re 16384 (zby om), zB K da 16384 (zby dd), zB K ro 16640 (zby rr), zI K la 640 (zna lg), zO lc 5 [.ref lcca, .ref lcma, .int xc], zI K lcca 16 (zna cc), zI K lcma 320 (zna gc), zO li 5 [.ref lica, .ref lima, .int xl], zI K lica 16 (zna ci), zI K lima 320 (zna gi), zO di 5 [.ref dica, .ref dima, .int xd], zI K dica 16 (zna cd), zI K dima 320 (zna gd), zB K ou 65536 (zby oo), zI K he 65536 (zm1 hg), zI K ch 16640 (zm1 cg), zO m 6 [.int (nI 1), .ref ta, .int (nI n), .ref re, .int (nI rl), .ref da, .int dn, .ref ro, .int rn, .int ba, .ref li, .ref di, .ref lc, .ref la, .ref ou, .int os, .int bb, .int bc, .ref he, .ref ch]]
        refine zj_i2l F d_MO_word_22 rfl ?_
        refine zj_wsub (ws' := [zO m 6 [.int (nI 1), .ref ta, .int (nI n), .ref re, .int (nI rl), .ref da, .int dn, .ref ro, .int rn, .int ba, .ref li, .ref di, .ref lc, .ref la, .ref ou, .int os, .int bb, .int bc, .ref he, .ref ch], zB K ta 16384 (zby tm), zB K re 16384 (zby om), zB K da 16384 (zby dd), zB K ro 16640 (zby rr), zI K la 640 (zna lg), zO lc 5 [.ref lcca, .ref lcma, .int xc], zI K lcca 16 (zna cc), zI K lcma 320 (zna gc), zO li 5 [.ref lica, .ref lima, .int xl], zI K lica 16 (zna ci), zI K lima 320 (zna gi), zO di 5 [.ref dica, .ref dima, .int xd], zI K dica 16 (zna cd), zI K dima 320 (zna gd), zB K ou 65536 (zby oo), zI K he 65536 (zm1 hg), zI K ch 16640 (zm1 cg)]) [17, 0, 1, 2, 3, 4, 5, 6, 7, 8, 9, 10, 11, 12, 13, 14, 15, 16] rfl rfl rfl ?_
        exact zj_lret F E d_MO_word_23 (Nat.le_of_ble_eq_true rfl) (Nat.le_of_ble_eq_true rfl) ⟨_, rfl, (fun z => absurd (show (1 : Nat) = 0 from z) (by decide)), ⟨_, _, _, _, _, _, _, _, _, _, _, _, _, _, _, _, _, _, _, _, _, _, _, _, _, _, _, _, _, _, _, _, _, _, _, _, _, _, _, _, hn, hrl, hb, htm, hom, hdd, hrr, hoo, hta, hre, rfl⟩⟩
      · exact hq.elim
  · obtain ⟨i, hi, rfl⟩ := nI_of h6
    refine zj_iload_n F d_MO_word_9 1 rfl rfl ?_
    refine zj_aload_n F d_MO_word_10 0 rfl rfl ?_
    refine zj_get F d_MO_word_11 0 4 rfl rfl in_MO (by decide) q_555 rfl ?_
    refine zj_icmp_lt (tgt := 24) F d_MO_word_14 (by decide) (nI_ltI (by omega) (by omega)) (fun h14 => ?_) (fun h14 => ?_)
    · rcases hs with ⟨d, hE, hd, rfl⟩ | ⟨hs, rfl⟩
      · have hE := (nI_eq (by omega) (by omega)).mp hE
        subst hE
        refine zj_lconst (v := Int64.ofNat 0) F d_MO_word_24 rfl ?_
        refine zj_lstore_n (L' := [(2, .long (Int64.ofNat 0)), (0, .ref m), (1, .int (nI i))]) F d_MO_word_25 rfl (by decide) rfl ?_
        refine zj_iload_n F d_MO_word_26 2 rfl rfl ?_
        refine zj_istore (L' := [(4, .int (nI i)), (2, .long (Int64.ofNat 0)), (0, .ref m), (1, .int (nI i))]) F d_MO_word_27 (by decide) rfl ?_
        have key : ∀ k, k ≤ 8 → zj G 0 0 29 [(0, .ref m), (1, .int (nI i)), (2, .long (Int64.ofNat (zwv o rl i k))), (4, .int (nI (i + k)))] [] [zO m 6 [.int (nI 0), .ref ta, .int (nI n), .ref re, .int (nI rl), .ref da, .int dn, .ref ro, .int rn, .int ba, .ref li, .ref di, .ref lc, .ref la, .ref ou, .int os, .int bb, .int bc, .ref he, .ref ch], zB K ta 16384 (zby tm), zB K re 16384 (zby om), zB K da 16384 (zby dd), zB K ro 16640 (zby rr), zI K la 640 (zna lg), zO lc 5 [.ref lcca, .ref lcma, .int xc], zI K lcca 16 (zna cc), zI K lcma 320 (zna gc), zO li 5 [.ref lica, .ref lima, .int xl], zI K lica 16 (zna ci), zI K lima 320 (zna gi), zO di 5 [.ref dica, .ref dima, .int xd], zI K dica 16 (zna cd), zI K dima 320 (zna gd), zB K ou 65536 (zby oo), zI K he 65536 (zm1 hg), zI K ch 16640 (zm1 cg)] := by
          refine zdown 8 ?_ ?_
          · show zj G 0 0 29 [(0, .ref m), (1, .int (nI i)), (2, .long (Int64.ofNat (zwv o rl i 8))), (4, .int (nI (i + 8)))] [] [zO m 6 [.int (nI 0), .ref ta, .int (nI n), .ref re, .int (nI rl), .ref da, .int dn, .ref ro, .int rn, .int ba, .ref li, .ref di, .ref lc, .ref la, .ref ou, .int os, .int bb, .int bc, .ref he, .ref ch], zB K ta 16384 (zby tm), zB K re 16384 (zby om), zB K da 16384 (zby dd), zB K ro 16640 (zby rr), zI K la 640 (zna lg), zO lc 5 [.ref lcca, .ref lcma, .int xc], zI K lcca 16 (zna cc), zI K lcma 320 (zna gc), zO li 5 [.ref lica, .ref lima, .int xl], zI K lica 16 (zna ci), zI K lima 320 (zna gi), zO di 5 [.ref dica, .ref dima, .int xd], zI K dica 16 (zna cd), zI K dima 320 (zna gd), zB K ou 65536 (zby oo), zI K he 65536 (zm1 hg), zI K ch 16640 (zm1 cg)]
            refine zj_iload F d_MO_word_29 3 rfl ?_
            refine zj_iload_n F d_MO_word_31 1 rfl rfl ?_
            refine zj_bipush (v := nI 8) F d_MO_word_32 (by decide) ?_
            refine zj_iadd F d_MO_word_34 (nI_add _ _) ?_
            refine zj_icmp_ge (tgt := 76) F d_MO_word_35 (by decide) (nI_leI (by omega) (by omega)) (fun h35 => ?_) (fun h35 => ?_)
            · refine zj_lload_n F d_MO_word_76 2 rfl rfl ?_
              exact zj_lret F E d_MO_word_77 (Nat.le_of_ble_eq_true rfl) (Nat.le_of_ble_eq_true rfl) ⟨_, rfl, fun _ => rfl, ⟨_, _, _, _, _, _, _, _, _, _, _, _, _, _, _, _, _, _, _, _, _, _, _, _, _, _, _, _, _, _, _, _, _, _, _, _, _, _, _, _, hn, hrl, hb, htm, hom, hdd, hrr, hoo, hta, hre, rfl⟩⟩
            · exact absurd h35 (by omega)
          · intro k k1 ih
            show zj G 0 0 29 [(0, .ref m), (1, .int (nI i)), (2, .long (Int64.ofNat (zwv o rl i k))), (4, .int (nI (i + k)))] [] [zO m 6 [.int (nI 0), .ref ta, .int (nI n), .ref re, .int (nI rl), .ref da, .int dn, .ref ro, .int rn, .int ba, .ref li, .ref di, .ref lc, .ref la, .ref ou, .int os, .int bb, .int bc, .ref he, .ref ch], zB K ta 16384 (zby tm), zB K re 16384 (zby om), zB K da 16384 (zby dd), zB K ro 16640 (zby rr), zI K la 640 (zna lg), zO lc 5 [.ref lcca, .ref lcma, .int xc], zI K lcca 16 (zna cc), zI K lcma 320 (zna gc), zO li 5 [.ref lica, .ref lima, .int xl], zI K lica 16 (zna ci), zI K lima 320 (zna gi), zO di 5 [.ref dica, .ref dima, .int xd], zI K dica 16 (zna cd), zI K dima 320 (zna gd), zB K ou 65536 (zby oo), zI K he 65536 (zm1 hg), zI K ch 16640 (zm1 cg)]
            refine zj_iload F d_MO_word_29 3 rfl ?_
            refine zj_iload_n F d_MO_word_31 1 rfl rfl ?_
            refine zj_bipush (v := nI 8) F d_MO_word_32 (by decide) ?_
            refine zj_iadd F d_MO_word_34 (nI_add _ _) ?_
            refine zj_icmp_ge (tgt := 76) F d_MO_word_35 (by decide) (nI_leI (by omega) (by omega)) (fun h35 => ?_) (fun h35 => ?_)
            · exact absurd h35 (by omega)
            · refine zj_lload_n F d_MO_word_38 2 rfl rfl ?_
              refine zj_ldc2 (v := Int64.ofNat 256) F d_MO_word_39 q_683 ?_
              refine zj_lmul (z := Int64.ofNat (zwv o rl i k) * Int64.ofNat 256) F d_MO_word_42 rfl ?_
              refine zj_iload F d_MO_word_43 3 rfl ?_
              refine zj_aload_n F d_MO_word_45 0 rfl rfl ?_
              refine zj_get F d_MO_word_46 0 4 rfl rfl in_MO (by decide) q_555 rfl ?_
              refine zj_icmp_ge (tgt := 66) F d_MO_word_49 (by decide) (nI_leI (by omega) (by omega)) (fun h49 => ?_) (fun h49 => ?_)
              · refine zj_iconst (v := nI 0) F d_MO_word_66 (by decide) ?_
                refine zj_i2l F d_MO_word_67 rfl ?_
                refine zj_ladd (z := Int64.ofNat (zwv o rl i (k + 1))) F d_MO_word_68 ((zL_ma (by decide) 256).trans (by rw [zwv_s, if_neg (by omega)])) ?_
                refine zj_lstore_n (L' := [(2, .long (Int64.ofNat (zwv o rl i (k + 1)))), (0, .ref m), (1, .int (nI i)), (4, .int (nI (i + k)))]) F d_MO_word_69 rfl (by decide) rfl ?_
                refine zj_iinc (v := nI ((i + k) + 1)) (L' := [(4, .int (nI ((i + k) + 1))), (2, .long (Int64.ofNat (zwv o rl i (k + 1)))), (0, .ref m), (1, .int (nI i))]) F d_MO_word_70 3 rfl (nI_add _ _) (by decide) rfl ?_
                refine zj_goto F d_MO_word_73 (tgt := 29) (by decide) ?_
                exact zj_sub [2, 3, 1, 0] rfl ih
              · have e0 := hre (i + k) (by omega)
                have e1 := hom (i + k)
                refine zj_aload_n F d_MO_word_52 0 rfl rfl ?_
                refine zj_get F d_MO_word_53 0 3 rfl rfl in_MO (by decide) q_554 rfl ?_
                refine zj_iload F d_MO_word_56 3 rfl ?_
                refine zj_bald F d_MO_word_58 2 0 (i + k) rfl rfl rfl (by omega) (by omega) rfl ?_
                refine zj_sipush (v := nI 255) F d_MO_word_59 (by decide) ?_
                refine zj_iand (z := nI (om (i + k))) F d_MO_word_62 (zby_and (hom _)) ?_
                refine zj_goto F d_MO_word_63 (tgt := 67) (by decide) ?_
                refine zj_i2l F d_MO_word_67 rfl ?_
                refine zj_ladd (z := Int64.ofNat (zwv o rl i (k + 1))) F d_MO_word_68 ((zL_ma (by omega) 256).trans (by rw [zwv_s, if_pos (by omega), e0])) ?_
                refine zj_lstore_n (L' := [(2, .long (Int64.ofNat (zwv o rl i (k + 1)))), (0, .ref m), (1, .int (nI i)), (4, .int (nI (i + k)))]) F d_MO_word_69 rfl (by decide) rfl ?_
                refine zj_iinc (v := nI ((i + k) + 1)) (L' := [(4, .int (nI ((i + k) + 1))), (2, .long (Int64.ofNat (zwv o rl i (k + 1)))), (0, .ref m), (1, .int (nI i))]) F d_MO_word_70 3 rfl (nI_add _ _) (by decide) rfl ?_
                refine zj_goto F d_MO_word_73 (tgt := 29) (by decide) ?_
                exact zj_sub [2, 3, 1, 0] rfl ih
        exact zj_sub [2, 3, 1, 0] rfl (key 0 (by decide))
      · exact hs.elim (fun z => absurd z h6) (fun z => absurd ((nI_leI (by omega) (by omega)).mp z) (by omega))
    · rcases hs with ⟨d, hE, hd, rfl⟩ | ⟨-, rfl⟩
      · exact absurd ((nI_eq (by omega) (by omega)).mp hE) (by omega)
      · refine zj_aload_n F d_MO_word_17 0 rfl rfl ?_
        refine zj_iconst (v := nI 1) F d_MO_word_18 (by decide) ?_
        refine zj_call (maxL := 2) (wr := [zB K ta 16384 (zby tm), zB K re 16384 (zby om), zB K da 16384 (zby dd), zB K ro 16640 (zby rr), zI K la 640 (zna lg), zO lc 5 [.ref lcca, .ref lcma, .int xc], zI K lcca 16 (zna cc), zI K lcma 320 (zna gc), zO li 5 [.ref lica, .ref lima, .int xl], zI K lica 16 (zna ci), zI K lima 320 (zna gi), zO di 5 [.ref dica, .ref dima, .int xd], zI K dica 16 (zna cd), zI K dima 320 (zna gd), zB K ou 65536 (zby oo), zI K he 65536 (zm1 hg), zI K ch 16640 (zm1 cg)]) F E (m_MO_fail l K m ta re da ro li di lc la ou he ch (nI 0) (nI n) (nI rl) dn rn ba os bb bc (nI 1)) (zi_V (As := [.int (nI 1)]) (rest := []) F d_MO_word_19 0 rfl rfl rfl q_689 q_691 sel_MO_fail q_692 (Or.inl ⟨_, _, rfl⟩) (by decide) (show Option.map (fun d => d.parameters.length) (parseMethodDescriptor y_MO_fail.desc) = some 1 from by decide +kernel)) d_MO_word_19 q_692 (Or.inl ⟨_, _, rfl⟩) q_7 [0] [1, 2, 3, 4, 5, 6, 7, 8, 9, 10, 11, 12, 13, 14, 15, 16, 17] rfl rfl rfl rfl (by decide) ⟨by decide, by decide, by decide, by decide⟩ (Nat.le_of_ble_eq_true rfl) (fun v w1 hq => ?_) (fun X w1 hq => ?_)
        · obtain ⟨rfl, rfl⟩ := hq
          show zj G 0 0 22 [(0, .ref m), (1, .int (nI i))] [.int (nI 0)] [zB K ta 16384 (zby tm), zB K re 16384 (zby om), zB K da 16384 (zby dd), zB K ro 16640 (zby rr), zI K la 640 (zna lg), zO lc 5 [.ref lcca, .ref lcma, .int xc], zI K lcca 16 (zna cc), zI K lcma 320 (zna gc), zO li 5 [.ref lica, .ref lima, .int xl], zI K lica 16 (zna ci), zI K lima 320 (zna gi), zO di 5 [.ref dica, .ref dima, .int xd], zI K dica 16 (zna cd), zI K dima 320 (zna gd), zB K ou 65536 (zby oo), zI K he 65536 (zm1 hg), zI K ch 16640 (zm1 cg), zO m 6 [.int (nI 1), .ref ta, .int (nI n), .ref re, .int (nI rl), .ref da, .int dn, .ref ro, .int rn, .int ba, .ref li, .ref di, .ref lc, .ref la, .ref ou, .int os, .int bb, .int bc, .ref he, .ref ch]]
          refine zj_i2l F d_MO_word_22 rfl ?_
          refine zj_wsub (ws' := [zO m 6 [.int (nI 1), .ref ta, .int (nI n), .ref re, .int (nI rl), .ref da, .int dn, .ref ro, .int rn, .int ba, .ref li, .ref di, .ref lc, .ref la, .ref ou, .int os, .int bb, .int bc, .ref he, .ref ch], zB K ta 16384 (zby tm), zB K re 16384 (zby om), zB K da 16384 (zby dd), zB K ro 16640 (zby rr), zI K la 640 (zna lg), zO lc 5 [.ref lcca, .ref lcma, .int xc], zI K lcca 16 (zna cc), zI K lcma 320 (zna gc), zO li 5 [.ref lica, .ref lima, .int xl], zI K lica 16 (zna ci), zI K lima 320 (zna gi), zO di 5 [.ref dica, .ref dima, .int xd], zI K dica 16 (zna cd), zI K dima 320 (zna gd), zB K ou 65536 (zby oo), zI K he 65536 (zm1 hg), zI K ch 16640 (zm1 cg)]) [17, 0, 1, 2, 3, 4, 5, 6, 7, 8, 9, 10, 11, 12, 13, 14, 15, 16] rfl rfl rfl ?_
          exact zj_lret F E d_MO_word_23 (Nat.le_of_ble_eq_true rfl) (Nat.le_of_ble_eq_true rfl) ⟨_, rfl, (fun z => absurd (show (1 : Nat) = 0 from z) (by decide)), ⟨_, _, _, _, _, _, _, _, _, _, _, _, _, _, _, _, _, _, _, _, _, _, _, _, _, _, _, _, _, _, _, _, _, _, _, _, _, _, _, _, hn, hrl, hb, htm, hom, hdd, hrr, hoo, hta, hre, rfl⟩⟩
        · exact hq.elim
