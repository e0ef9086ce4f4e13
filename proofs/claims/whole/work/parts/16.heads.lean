theorem zdec_congr {t : Nat → Nat} {e : Nat} {cn cn' : Nat → Nat} {mf : Nat → Nat → Nat} (h : ∀ l, 1 ≤ l → l ≤ 15 → cn l = cn' l) : ∀ (fuel len code first p : Nat), 1 ≤ len → fuel + len ≤ 16 → zdec t e cn mf fuel len code first p = zdec t e cn' mf fuel len code first p
  | 0, _, _, _, _, _, _ => rfl
  | fuel + 1, len, code, first, p, h1, h2 => by
    unfold zdec
    rw [h len h1 (by omega), zdec_congr h fuel (len + 1) _ _ _ (by omega) (by omega)]
theorem zlen_congr {t : Nat → Nat} {e : Nat} {cn cn' : Nat → Nat} {mf : Nat → Nat → Nat} (h : ∀ l, 1 ≤ l → l ≤ 15 → cn l = cn' l) (total : Nat) : ∀ f, zlen t e cn mf total f = zlen t e cn' mf total f
  | 0 => rfl
  | f + 1 => by
    show zlenS t e cn mf total (zlen t e cn mf total f) = zlenS t e cn' mf total (zlen t e cn' mf total f)
    rw [zlen_congr h total f]
    funext p c k
    unfold zlenS
    rw [zdec_congr h 15 1 0 0 p (by decide) (by decide)]
theorem zcop_congr {t : Nat → Nat} {e : Nat} {cn cn' : Nat → Nat} {mf : Nat → Nat → Nat} (h : ∀ l, 1 ≤ l → l ≤ 15 → cn l = cn' l) (kind p : Nat) (o : Nat → Nat) (w : Nat) : zcop t e cn mf kind p o w = zcop t e cn' mf kind p o w := by
  unfold zcop
  rw [zdec_congr h 15 1 0 0 _ (by decide) (by decide)]
theorem zcod_congr {t : Nat → Nat} {e : Nat} {cl cl' cd cd' : Nat → Nat} {ml md : Nat → Nat → Nat} (h : ∀ l, 1 ≤ l → l ≤ 15 → cl l = cl' l) (h2 : ∀ l, 1 ≤ l → l ≤ 15 → cd l = cd' l) : ∀ f, zcod t e cl ml cd md f = zcod t e cl' ml cd' md f
  | 0 => rfl
  | f + 1 => by
    show zcodS t e cl ml cd md (zcod t e cl ml cd md f) = zcodS t e cl' ml cd' md (zcod t e cl' ml cd' md f)
    rw [zcod_congr h h2 f]
    funext p o w
    unfold zcodS
    rw [zdec_congr h 15 1 0 0 p (by decide) (by decide)]
    cases zdec t e cl' ml 15 1 0 0 p with
    | none => rfl
    | some x =>
      obtain ⟨sym, p1⟩ := x
      dsimp only
      rw [zcop_congr h2]
/-- told codes: the place behind them, the lengths, how many are for literals, for distances -/
def ztoldE (c : Nat → Nat) (L D p : Nat) : Except String (Nat × (Nat → Nat) × Nat × Nat) :=
  if ¬ c 256 = 0 ∧ zuse c 0 L = 32768 then
    if zuse c L D = 32768 ∨ zuse c L D = 0 ∨ (zuse c L D = 16384 ∧ zcnt c L 1 D = 1) then .ok (p, c, L, D) else .error zU
  else .error zU
def ztoldL (t : Nat → Nat) (e L D T p : Nat) : Except String (Nat × (Nat → Nat) × Nat × Nat) :=
  if L ≤ 286 ∧ D ≤ 30 then
    match zlcF t e T p with
    | .error X => .error X
    | .ok (p1, c0) =>
      match zlen t e (fun l => zcnt c0 0 l 19) (fun l r => zth c0 0 l 19 r) (L + D) (L + D) p1 (fun _ => 0) 0 with
      | .error X => .error X
      | .ok (p2, c, _) => ztoldE c L D p2
  else .error zU
def ztold (t : Nat → Nat) (e p : Nat) : Except String (Nat × (Nat → Nat) × Nat × Nat) :=
  if p + 5 ≤ e then
    if p + 5 + 5 ≤ e then
      if p + 5 + 5 + 4 ≤ e then ztoldL t e (znum t p 5 + 257) (znum t (p + 5) 5 + 1) (znum t (p + 5 + 5) 4 + 4) (p + 5 + 5 + 4)
      else .error zU
    else .error zU
  else .error zU
/-- ZLIB's head -/
def zhead (t : Nat → Nat) (e p : Nat) : Except String Nat :=
  if p + 8 ≤ e then
    if p + 8 + 8 ≤ e then
      if (znum t p 8 % 16 = 8 ∧ znum t p 8 / 16 ≤ 7) ∧ ((256 * znum t p 8 + znum t (p + 8) 8) % 31 = 0 ∧ znum t (p + 8) 8 / 32 % 2 = 0) then .ok (p + 8 + 8) else .error zU
    else .error zU
  else .error zU
/-- i bytes, the highest first -/
def zbig (t : Nat → Nat) (p : Nat) : Nat → Nat
  | 0 => 0
  | i + 1 => zbig t p i * 2 ^ 8 + znum t (p + 8 * i) 8
theorem zbig_lt (t : Nat → Nat) (p : Nat) : ∀ i, zbig t p i < 256 ^ i
  | 0 => Nat.one_pos
  | i + 1 => by
    have h1 := zbig_lt t p i
    have h2 := znum_lt t (p + 8 * i) 8
    show zbig t p i * 2 ^ 8 + znum t (p + 8 * i) 8 < 256 ^ (i + 1)
    rw [Nat.pow_succ]
    omega
/-- ZLIB's end -/
def ztail (t : Nat → Nat) (e p : Nat) (o : Nat → Nat) (w : Nat) : Except String Nat :=
  if (p + 7) / 8 * 8 + 32 ≤ e then
    if zbig t ((p + 7) / 8 * 8) 4 = zadl o w ∧ e ≤ (p + 7) / 8 * 8 + 32 then .ok ((p + 7) / 8 * 8 + 32) else .error zU
  else .error zU
set_option maxHeartbeats 4000000 in
set_option maxRecDepth 100000 in
/-- readHead() -/
theorem m_UN_head (l : Launch) (hl : l.stackTraces = false) (K : zk) (u r fl fd li di lc la ob w : Nat) (b Nb e p : Nat) (t : Nat → Nat) (R : Except String Nat) (hb : ∀ j, t j < 256) (hN : Nb ≤ 16384) (he : e % 8 = 0 ∧ e ≤ 8 * Nb) (hp : p ≤ e) (hR : zhead t e p = R) : zc l K y_UN_readHead w_UN_readHead { frames := 7, cells := 1, slots := 6, locals := 123 } 0 0 1 6 [.ref u] [zO u 3 [.ref r, .ref fl, .ref fd, .ref li, .ref di, .ref lc, .ref la, .ref ob, .int (nI w)], zO r 0 [.ref b, .int (nI e), .int (nI p)], zB K b Nb (zby t)] (fun v w1 => ∃ p', R = .ok p' ∧ p' ≤ e ∧ v = none ∧ w1 = [zO u 3 [.ref r, .ref fl, .ref fd, .ref li, .ref di, .ref lc, .ref la, .ref ob, .int (nI w)], zO r 0 [.ref b, .int (nI e), .int (nI p')], zB K b Nb (zby t)]) (fun X w1 => R = .error X ∧ ∃ p', w1 = [zO u 3 [.ref r, .ref fl, .ref fd, .ref li, .ref di, .ref lc, .ref la, .ref ob, .int (nI w)], zO r 0 [.ref b, .int (nI e), .int (nI p')], zB K b Nb (zby t)]) := by
  refine zc_of (cc := c_UN_readHead) (nl := 5) (ret := none) (by decide) (Nat.le_of_ble_eq_true rfl) (fun G F E => ?_)
  have F : zf G l K { frames := 7, cells := 1, slots := 6, locals := 123 } "ZlibBox$Unpacker" c_UN_readHead 5 := F
  show zj G 0 0 0 [(0, .ref u)] [] [zO u 3 [.ref r, .ref fl, .ref fd, .ref li, .ref di, .ref lc, .ref la, .ref ob, .int (nI w)], zO r 0 [.ref b, .int (nI e), .int (nI p)], zB K b Nb (zby t)]
  have hN2 : Nb < 2 ^ 24 := by omega
  have he2 : e ≤ 8 * Nb := by omega
  refine zj_aload_n F d_UN_readHead_0 0 rfl rfl ?_
  refine zj_get F d_UN_readHead_1 0 0 rfl rfl in_UN (by decide) q_81 rfl ?_
  refine zj_bipush (v := nI 8) F d_UN_readHead_4 (by decide) ?_
  refine zj_call (maxL := 4) (wr := [zO u 3 [.ref r, .ref fl, .ref fd, .ref li, .ref di, .ref lc, .ref la, .ref ob, .int (nI w)]]) F E (m_BR_number l hl K r b Nb e p 8 t hb hN2 he2 (by decide) hp) (zi_V (As := [.int (nI 8)]) (rest := []) F d_UN_readHead_6 1 rfl rfl rfl q_306 q_307 q_308 q_309 (Or.inl ⟨_, _, rfl⟩) (by decide) (show Option.map (fun d => d.parameters.length) (parseMethodDescriptor y_BR_number.desc) = some 1 from by decide +kernel)) d_UN_readHead_6 q_309 (Or.inl ⟨_, _, rfl⟩) q_3 [1, 2] [0] rfl rfl rfl rfl (by decide) ⟨by decide, by decide, by decide, by decide⟩ (Nat.le_of_ble_eq_true rfl) (fun v w1 hq => ?_) (fun X w1 hq => ?_)
  · obtain ⟨hq1, rfl, rfl⟩ := hq
    show zj G 0 0 9 [(0, .ref u)] [.int (nI (znum t p 8))] [zO u 3 [.ref r, .ref fl, .ref fd, .ref li, .ref di, .ref lc, .ref la, .ref ob, .int (nI w)], zO r 0 [.ref b, .int (nI e), .int (nI (p + 8))], zB K b Nb (zby t)]
    have hq1a := hq1
    refine zj_istore_n (L' := [(1, .int (nI (znum t p 8))), (0, .ref u)]) F d_UN_readHead_9 rfl (by decide) rfl ?_
    refine zj_aload_n F d_UN_readHead_10 1 rfl rfl ?_
    refine zj_get F d_UN_readHead_11 0 0 rfl rfl in_UN (by decide) q_81 rfl ?_
    refine zj_bipush (v := nI 8) F d_UN_readHead_14 (by decide) ?_
    refine zj_call (maxL := 4) (wr := [zO u 3 [.ref r, .ref fl, .ref fd, .ref li, .ref di, .ref lc, .ref la, .ref ob, .int (nI w)]]) F E (m_BR_number l hl K r b Nb e (p + 8) 8 t hb hN2 he2 (by decide) hq1) (zi_V (As := [.int (nI 8)]) (rest := []) F d_UN_readHead_16 1 rfl rfl rfl q_306 q_307 q_308 q_309 (Or.inl ⟨_, _, rfl⟩) (by decide) (show Option.map (fun d => d.parameters.length) (parseMethodDescriptor y_BR_number.desc) = some 1 from by decide +kernel)) d_UN_readHead_16 q_309 (Or.inl ⟨_, _, rfl⟩) q_3 [1, 2] [0] rfl rfl rfl rfl (by decide) ⟨by decide, by decide, by decide, by decide⟩ (Nat.le_of_ble_eq_true rfl) (fun v w1 hq => ?_) (fun X w1 hq => ?_)
    · obtain ⟨hq1, rfl, rfl⟩ := hq
      show zj G 0 0 19 [(1, .int (nI (znum t p 8))), (0, .ref u)] [.int (nI (znum t (p + 8) 8))] [zO u 3 [.ref r, .ref fl, .ref fd, .ref li, .ref di, .ref lc, .ref la, .ref ob, .int (nI w)], zO r 0 [.ref b, .int (nI e), .int (nI (p + 8 + 8))], zB K b Nb (zby t)]
      have hn1 := znum_lt t p 8
      have hn2 := znum_lt t (p + 8) 8
      generalize hc9 : znum t p 8 = c9 at hn1 ⊢
      generalize hf9 : znum t (p + 8) 8 = f9 at hn2 ⊢
      have hR2 : (if (c9 % 16 = 8 ∧ c9 / 16 ≤ 7) ∧ ((256 * c9 + f9) % 31 = 0 ∧ f9 / 32 % 2 = 0) then .ok (p + 8 + 8) else .error zU) = R := by rw [← hR, ← hc9, ← hf9]; unfold zhead; rw [if_pos hq1a, if_pos hq1]
      have fin : ∀ x3 x4, (x3 = if c9 % 16 = 8 ∧ c9 / 16 ≤ 7 then 1 else 0) → (x4 = if (256 * c9 + f9) % 31 = 0 ∧ f9 / 32 % 2 = 0 then 1 else 0) → zj G 0 0 73 [(0, .ref u), (3, .int (nI x3)), (4, .int (nI x4))] [] [zO u 3 [.ref r, .ref fl, .ref fd, .ref li, .ref di, .ref lc, .ref la, .ref ob, .int (nI w)], zO r 0 [.ref b, .int (nI e), .int (nI (p + 8 + 8))], zB K b Nb (zby t)] := by
        intro x3 x4 e3 e4
        have b3 : x3 < 2 := by rw [e3]; by_cases hq : c9 % 16 = 8 ∧ c9 / 16 ≤ 7 <;> simp [hq]
        have b4 : x4 < 2 := by rw [e4]; by_cases hq : (256 * c9 + f9) % 31 = 0 ∧ f9 / 32 % 2 = 0 <;> simp [hq]
        show zj G 0 0 73 [(0, .ref u), (3, .int (nI x3)), (4, .int (nI x4))] [] [zO u 3 [.ref r, .ref fl, .ref fd, .ref li, .ref di, .ref lc, .ref la, .ref ob, .int (nI w)], zO r 0 [.ref b, .int (nI e), .int (nI (p + 8 + 8))], zB K b Nb (zby t)]
        refine zj_iload_n F d_UN_readHead_73 1 rfl rfl ?_
        refine zj_if_eq (tgt := 82) F d_UN_readHead_74 (by decide) (zI_eq0 (by omega)) (fun h74 => ?_) (fun h74 => ?_)
        · rw [if_neg (fun q => by rw [if_pos q.1] at e3; omega)] at hR2
          exact zj_throwS (names := zt_up) F E hl d_UN_readHead_82 d_UN_readHead_85 d_UN_readHead_86 d_UN_readHead_88 d_UN_readHead_91 (by decide +kernel) (by decide +kernel) q_327 (at_UN_83) ⟨by decide, by decide, by decide, by decide⟩ rfl (by decide) (by decide) ⟨hR2.symm, _, rfl⟩
        · refine zj_iload F d_UN_readHead_77 2 rfl ?_
          refine zj_if_ne (tgt := 92) F d_UN_readHead_79 (by decide) (zI_eq0 (by omega)) (fun h79 => ?_) (fun h79 => ?_)
          · have k3 : c9 % 16 = 8 ∧ c9 / 16 ≤ 7 := Decidable.byContradiction (fun q => h74 (by rw [e3, if_neg q]))
            have k4 : (256 * c9 + f9) % 31 = 0 ∧ f9 / 32 % 2 = 0 := Decidable.byContradiction (fun q => h79 (by rw [e4, if_neg q]))
            rw [if_pos ⟨k3, k4⟩] at hR2
            exact zj_vret F E d_UN_readHead_92 (Nat.le_refl _) (Nat.le_refl _) ⟨_, hR2.symm, hq1, rfl, rfl⟩
          · rw [if_neg (fun q => by rw [if_pos q.2] at e4; omega)] at hR2
            exact zj_throwS (names := zt_up) F E hl d_UN_readHead_82 d_UN_readHead_85 d_UN_readHead_86 d_UN_readHead_88 d_UN_readHead_91 (by decide +kernel) (by decide +kernel) q_327 (at_UN_83) ⟨by decide, by decide, by decide, by decide⟩ rfl (by decide) (by decide) ⟨hR2.symm, _, rfl⟩
      have mid : ∀ x3, (x3 = if c9 % 16 = 8 ∧ c9 / 16 ≤ 7 then 1 else 0) → zj G 0 0 44 [(0, .ref u), (1, .int (nI c9)), (2, .int (nI f9)), (3, .int (nI x3))] [] [zO u 3 [.ref r, .ref fl, .ref fd, .ref li, .ref di, .ref lc, .ref la, .ref ob, .int (nI w)], zO r 0 [.ref b, .int (nI e), .int (nI (p + 8 + 8))], zB K b Nb (zby t)] := by
        intro x3 e3
        show zj G 0 0 44 [(0, .ref u), (1, .int (nI c9)), (2, .int (nI f9)), (3, .int (nI x3))] [] [zO u 3 [.ref r, .ref fl, .ref fd, .ref li, .ref di, .ref lc, .ref la, .ref ob, .int (nI w)], zO r 0 [.ref b, .int (nI e), .int (nI (p + 8 + 8))], zB K b Nb (zby t)]
        refine zj_sipush (v := nI 256) F d_UN_readHead_44 (by decide) ?_
        refine zj_iload_n F d_UN_readHead_47 1 rfl rfl ?_
        refine zj_imul F d_UN_readHead_48 (pk_mul _ _) ?_
        refine zj_iload_n F d_UN_readHead_49 2 rfl rfl ?_
        refine zj_iadd F d_UN_readHead_50 (nI_add _ _) ?_
        refine zj_bipush (v := nI 31) F d_UN_readHead_51 (by decide) ?_
        refine zj_irem F d_UN_readHead_53 (by decide) (pk_rem (by omega) (by decide) (by decide)) ?_
        refine zj_if_ne (tgt := 70) F d_UN_readHead_54 (by decide) (zI_eq0 (by omega)) (fun h54 => ?_) (fun h54 => ?_)
        · refine zj_iconst (v := nI 0) F d_UN_readHead_70 (by decide) ?_
          refine zj_istore (L' := [(4, .int (nI 0)), (0, .ref u), (1, .int (nI c9)), (2, .int (nI f9)), (3, .int (nI x3))]) F d_UN_readHead_71 (by decide) rfl ?_
          exact zj_sub [1, 4, 0] rfl (fin x3 _ e3 (by rw [if_neg (fun q => h54 q.1)]))
        · refine zj_iload_n F d_UN_readHead_57 2 rfl rfl ?_
          refine zj_bipush (v := nI 32) F d_UN_readHead_58 (by decide) ?_
          refine zj_idiv F d_UN_readHead_60 (by decide) (pk_div (by omega) (by decide) (by decide)) ?_
          refine zj_iconst (v := nI 2) F d_UN_readHead_61 (by decide) ?_
          refine zj_irem F d_UN_readHead_62 (by decide) (pk_rem (by omega) (by decide) (by decide)) ?_
          refine zj_if_ne (tgt := 70) F d_UN_readHead_63 (by decide) (zI_eq0 (by omega)) (fun h63 => ?_) (fun h63 => ?_)
          · refine zj_iconst (v := nI 0) F d_UN_readHead_70 (by decide) ?_
            refine zj_istore (L' := [(4, .int (nI 0)), (0, .ref u), (1, .int (nI c9)), (2, .int (nI f9)), (3, .int (nI x3))]) F d_UN_readHead_71 (by decide) rfl ?_
            exact zj_sub [1, 4, 0] rfl (fin x3 _ e3 (by rw [if_neg (fun q => h63 q.2)]))
          · refine zj_iconst (v := nI 1) F d_UN_readHead_66 (by decide) ?_
            refine zj_goto F d_UN_readHead_67 (tgt := 71) (by decide) ?_
            refine zj_istore (L' := [(4, .int (nI 1)), (0, .ref u), (1, .int (nI c9)), (2, .int (nI f9)), (3, .int (nI x3))]) F d_UN_readHead_71 (by decide) rfl ?_
            exact zj_sub [1, 4, 0] rfl (fin x3 _ e3 (by rw [if_pos ⟨h54, h63⟩]))
      show zj G 0 0 19 [(1, .int (nI c9)), (0, .ref u)] [.int (nI f9)] [zO u 3 [.ref r, .ref fl, .ref fd, .ref li, .ref di, .ref lc, .ref la, .ref ob, .int (nI w)], zO r 0 [.ref b, .int (nI e), .int (nI (p + 8 + 8))], zB K b Nb (zby t)]
      refine zj_istore_n (L' := [(2, .int (nI f9)), (1, .int (nI c9)), (0, .ref u)]) F d_UN_readHead_19 rfl (by decide) rfl ?_
      refine zj_iload_n F d_UN_readHead_20 1 rfl rfl ?_
      refine zj_bipush (v := nI 16) F d_UN_readHead_21 (by decide) ?_
      refine zj_irem F d_UN_readHead_23 (by decide) (pk_rem (by omega) (by decide) (by decide)) ?_
      refine zj_bipush (v := nI 8) F d_UN_readHead_24 (by decide) ?_
      refine zj_icmp_ne (tgt := 42) F d_UN_readHead_26 (by decide) (nI_eq (by omega) (by omega)) (fun h26 => ?_) (fun h26 => ?_)
      · refine zj_iconst (v := nI 0) F d_UN_readHead_42 (by decide) ?_
        refine zj_istore_n (L' := [(3, .int (nI 0)), (2, .int (nI f9)), (1, .int (nI c9)), (0, .ref u)]) F d_UN_readHead_43 rfl (by decide) rfl ?_
        exact zj_sub [3, 2, 1, 0] rfl (mid _ (by rw [if_neg (fun q => h26 q.1)]))
      · refine zj_iload_n F d_UN_readHead_29 1 rfl rfl ?_
        refine zj_bipush (v := nI 16) F d_UN_readHead_30 (by decide) ?_
        refine zj_idiv F d_UN_readHead_32 (by decide) (pk_div (by omega) (by decide) (by decide)) ?_
        refine zj_bipush (v := nI 7) F d_UN_readHead_33 (by decide) ?_
        refine zj_icmp_gt (tgt := 42) F d_UN_readHead_35 (by decide) (nI_ltI (by omega) (by omega)) (fun h35 => ?_) (fun h35 => ?_)
        · refine zj_iconst (v := nI 0) F d_UN_readHead_42 (by decide) ?_
          refine zj_istore_n (L' := [(3, .int (nI 0)), (2, .int (nI f9)), (1, .int (nI c9)), (0, .ref u)]) F d_UN_readHead_43 rfl (by decide) rfl ?_
          exact zj_sub [3, 2, 1, 0] rfl (mid _ (by rw [if_neg (fun q => absurd q.2 (by omega))]))
        · refine zj_iconst (v := nI 1) F d_UN_readHead_38 (by decide) ?_
          refine zj_goto F d_UN_readHead_39 (tgt := 43) (by decide) ?_
          refine zj_istore_n (L' := [(3, .int (nI 1)), (2, .int (nI f9)), (1, .int (nI c9)), (0, .ref u)]) F d_UN_readHead_43 rfl (by decide) rfl ?_
          exact zj_sub [3, 2, 1, 0] rfl (mid _ (by rw [if_pos ⟨h26, by omega⟩]))
    · obtain ⟨hx1, rfl, rfl⟩ := hq
      exact ⟨rfl, by decide, by decide, [0, 1, 2], [zO u 3 [.ref r, .ref fl, .ref fd, .ref li, .ref di, .ref lc, .ref la, .ref ob, .int (nI w)], zO r 0 [.ref b, .int (nI e), .int (nI (p + 8))], zB K b Nb (zby t)], rfl, rfl, ⟨hR.symm.trans (by unfold zhead; rw [if_pos hq1a, if_neg hx1]), _, rfl⟩⟩
  · obtain ⟨hx1, rfl, rfl⟩ := hq
    exact ⟨rfl, by decide, by decide, [0, 1, 2], [zO u 3 [.ref r, .ref fl, .ref fd, .ref li, .ref di, .ref lc, .ref la, .ref ob, .int (nI w)], zO r 0 [.ref b, .int (nI e), .int (nI p)], zB K b Nb (zby t)], rfl, rfl, ⟨hR.symm.trans (by unfold zhead; rw [if_neg hx1]), _, rfl⟩⟩
set_option maxHeartbeats 4000000 in
set_option maxRecDepth 100000 in
/-- readTail() -/
theorem m_UN_tail (l : Launch) (hl : l.stackTraces = false) (K : zk) (u r fl fd li di lc la ob w : Nat) (b Nb e p : Nat) (t : Nat → Nat) (o : Nat → Nat) (R : Except String Nat) (hb : ∀ j, t j < 256) (hN : Nb ≤ 16384) (he : e % 8 = 0 ∧ e ≤ 8 * Nb) (hp : p ≤ e) (ho : ∀ j, o j < 256) (hw : w ≤ 16384) (hR : ztail t e p o w = R) : zc l K y_UN_readTail w_UN_readTail { frames := 7, cells := 1, slots := 6, locals := 123 } 0 0 1 6 [.ref u] [zO u 3 [.ref r, .ref fl, .ref fd, .ref li, .ref di, .ref lc, .ref la, .ref ob, .int (nI w)], zO r 0 [.ref b, .int (nI e), .int (nI p)], zB K b Nb (zby t), zB K ob 16384 (zby o)] (fun v w1 => ∃ p', R = .ok p' ∧ p' ≤ e ∧ v = none ∧ w1 = [zO u 3 [.ref r, .ref fl, .ref fd, .ref li, .ref di, .ref lc, .ref la, .ref ob, .int (nI w)], zO r 0 [.ref b, .int (nI e), .int (nI p')], zB K b Nb (zby t), zB K ob 16384 (zby o)]) (fun X w1 => R = .error X ∧ ∃ p', w1 = [zO u 3 [.ref r, .ref fl, .ref fd, .ref li, .ref di, .ref lc, .ref la, .ref ob, .int (nI w)], zO r 0 [.ref b, .int (nI e), .int (nI p')], zB K b Nb (zby t), zB K ob 16384 (zby o)]) := by
  refine zc_of (cc := c_UN_readTail) (nl := 3) (ret := none) (by decide) (Nat.le_of_ble_eq_true rfl) (fun G F E => ?_)
  have F : zf G l K { frames := 7, cells := 1, slots := 6, locals := 123 } "ZlibBox$Unpacker" c_UN_readTail 3 := F
  show zj G 0 0 0 [(0, .ref u)] [] [zO u 3 [.ref r, .ref fl, .ref fd, .ref li, .ref di, .ref lc, .ref la, .ref ob, .int (nI w)], zO r 0 [.ref b, .int (nI e), .int (nI p)], zB K b Nb (zby t), zB K ob 16384 (zby o)]
  have hN2 : Nb < 2 ^ 24 := by omega
  have he2 : e ≤ 8 * Nb := by omega
  refine zj_aload_n F d_UN_readTail_0 0 rfl rfl ?_
  refine zj_get F d_UN_readTail_1 0 0 rfl rfl in_UN (by decide) q_81 rfl ?_
  refine zj_call (maxL := 1) (wr := [zO u 3 [.ref r, .ref fl, .ref fd, .ref li, .ref di, .ref lc, .ref la, .ref ob, .int (nI w)], zB K ob 16384 (zby o)]) F E (m_BR_skip l K r b Nb e p t (by omega)) (zi_V (As := []) (rest := []) F d_UN_readTail_4 1 rfl rfl rfl q_342 q_343 q_344 q_345 (Or.inl ⟨_, _, rfl⟩) (by decide) (show Option.map (fun d => d.parameters.length) (parseMethodDescriptor y_BR_skipToByte.desc) = some 0 from by decide +kernel)) d_UN_readTail_4 q_345 (Or.inl ⟨_, _, rfl⟩) q_3 [1, 2] [0, 3] rfl rfl rfl rfl (by decide) ⟨by decide, by decide, by decide, by decide⟩ (Nat.le_of_ble_eq_true rfl) (fun v w1 hq => ?_) (fun X w1 hq => ?_)
  · obtain ⟨rfl, rfl⟩ := hq
    show zj G 0 0 7 [(0, .ref u)] [] [zO u 3 [.ref r, .ref fl, .ref fd, .ref li, .ref di, .ref lc, .ref la, .ref ob, .int (nI w)], zB K ob 16384 (zby o), zO r 0 [.ref b, .int (nI e), .int (nI ((p + 7) / 8 * 8))], zB K b Nb (zby t)]
    have hp8 : (p + 7) / 8 * 8 ≤ e := by omega
    have hb4 := zbig_lt t ((p + 7) / 8 * 8) 4
    unfold ztail at hR
    generalize hP8 : (p + 7) / 8 * 8 = P at hR hp8 hb4 ⊢
    show zj G 0 0 7 [(0, .ref u)] [] [zO u 3 [.ref r, .ref fl, .ref fd, .ref li, .ref di, .ref lc, .ref la, .ref ob, .int (nI w)], zB K ob 16384 (zby o), zO r 0 [.ref b, .int (nI e), .int (nI P)], zB K b Nb (zby t)]
    refine zj_iconst (v := nI 0) F d_UN_readTail_7 (by decide) ?_
    refine zj_istore_n (L' := [(1, .int (nI 0)), (0, .ref u)]) F d_UN_readTail_8 rfl (by decide) rfl ?_
    refine zj_iconst (v := nI 0) F d_UN_readTail_9 (by decide) ?_
    refine zj_istore_n (L' := [(2, .int (nI 0)), (1, .int (nI 0)), (0, .ref u)]) F d_UN_readTail_10 rfl (by decide) rfl ?_
    refine zj_wsub (ws' := [zO u 3 [.ref r, .ref fl, .ref fd, .ref li, .ref di, .ref lc, .ref la, .ref ob, .int (nI w)], zO r 0 [.ref b, .int (nI e), .int (nI P)], zB K b Nb (zby t), zB K ob 16384 (zby o)]) [0, 2, 3, 1] rfl rfl rfl ?_
    have fin : P + 32 ≤ e → zj G 0 0 37 [(0, .ref u), (1, .int (nI (zbig t P 4)))] [] [zO u 3 [.ref r, .ref fl, .ref fd, .ref li, .ref di, .ref lc, .ref la, .ref ob, .int (nI w)], zO r 0 [.ref b, .int (nI e), .int (nI (P + 32))], zB K b Nb (zby t), zB K ob 16384 (zby o)] := by
      intro hP
      rw [if_pos hP] at hR
      have hal := zadl_lt o w
      show zj G 0 0 37 [(0, .ref u), (1, .int (nI (zbig t P 4)))] [] [zO u 3 [.ref r, .ref fl, .ref fd, .ref li, .ref di, .ref lc, .ref la, .ref ob, .int (nI w)], zO r 0 [.ref b, .int (nI e), .int (nI (P + 32))], zB K b Nb (zby t), zB K ob 16384 (zby o)]
      refine zj_iload_n F d_UN_readTail_37 1 rfl rfl ?_
      refine zj_aload_n F d_UN_readTail_38 0 rfl rfl ?_
      refine zj_get F d_UN_readTail_39 0 7 rfl rfl in_UN (by decide) q_88 rfl ?_
      refine zj_aload_n F d_UN_readTail_42 0 rfl rfl ?_
      refine zj_get F d_UN_readTail_43 0 8 rfl rfl in_UN (by decide) q_89 rfl ?_
      refine zj_call (maxL := 5) (wr := [zO u 3 [.ref r, .ref fl, .ref fd, .ref li, .ref di, .ref lc, .ref la, .ref ob, .int (nI w)], zO r 0 [.ref b, .int (nI e), .int (nI (P + 32))], zB K b Nb (zby t)]) F E (m_adlerOf l K ob 16384 w o ho (by decide) hw) (zi_SN (As := [.ref ob, .int (nI w)]) (rest := [.int (nI (zbig t P 4))]) F d_UN_readTail_46 q_419 q_180 q_1 q_181 (Or.inl ⟨_, _, rfl⟩) (by decide) (show Option.map (fun d => d.parameters.length) (parseMethodDescriptor y_ZB_adlerOf.desc) = some 2 from by decide +kernel)) d_UN_readTail_46 q_181 (Or.inl ⟨_, _, rfl⟩) q_1 [3] [0, 1, 2] rfl rfl rfl rfl (by decide) ⟨by decide, by decide, by decide, by decide⟩ (Nat.le_of_ble_eq_true rfl) (fun v w1 hq => ?_) (fun X w1 hq => ?_)
      · obtain ⟨rfl, rfl⟩ := hq
        show zj G 0 0 49 [(0, .ref u), (1, .int (nI (zbig t P 4)))] [.int (nI (zadl o w)), .int (nI (zbig t P 4))] [zO u 3 [.ref r, .ref fl, .ref fd, .ref li, .ref di, .ref lc, .ref la, .ref ob, .int (nI w)], zO r 0 [.ref b, .int (nI e), .int (nI (P + 32))], zB K b Nb (zby t), zB K ob 16384 (zby o)]
        refine zj_icmp_ne (tgt := 62) F d_UN_readTail_49 (by decide) (zI_eq32 (by omega) hal) (fun h49 => ?_) (fun h49 => ?_)
        · rw [if_neg (fun q => h49 q.1)] at hR
          exact zj_throwS (names := zt_up) F E hl d_UN_readTail_62 d_UN_readTail_65 d_UN_readTail_66 d_UN_readTail_68 d_UN_readTail_71 (by decide +kernel) (by decide +kernel) q_424 (at_UN_83) ⟨by decide, by decide, by decide, by decide⟩ rfl (by decide) (by decide) ⟨hR.symm, _, rfl⟩
        · refine zj_aload_n F d_UN_readTail_52 0 rfl rfl ?_
          refine zj_get F d_UN_readTail_53 0 0 rfl rfl in_UN (by decide) q_81 rfl ?_
          refine zj_call (maxL := 1) (wr := [zO u 3 [.ref r, .ref fl, .ref fd, .ref li, .ref di, .ref lc, .ref la, .ref ob, .int (nI w)], zB K ob 16384 (zby o)]) F E (m_BR_atEnd l K r b Nb e (P + 32) t (by omega) (by omega)) (zi_V (As := []) (rest := []) F d_UN_readTail_56 1 rfl rfl rfl q_420 q_421 q_422 q_423 (Or.inl ⟨_, _, rfl⟩) (by decide) (show Option.map (fun d => d.parameters.length) (parseMethodDescriptor y_BR_atEnd.desc) = some 0 from by decide +kernel)) d_UN_readTail_56 q_423 (Or.inl ⟨_, _, rfl⟩) q_3 [1, 2] [0, 3] rfl rfl rfl rfl (by decide) ⟨by decide, by decide, by decide, by decide⟩ (Nat.le_of_ble_eq_true rfl) (fun v w1 hq => ?_) (fun X w1 hq => ?_)
          · obtain ⟨rfl, rfl⟩ := hq
            show zj G 0 0 59 [(0, .ref u), (1, .int (nI (zbig t P 4)))] [.int (nI (if e ≤ P + 32 then 1 else 0))] [zO u 3 [.ref r, .ref fl, .ref fd, .ref li, .ref di, .ref lc, .ref la, .ref ob, .int (nI w)], zB K ob 16384 (zby o), zO r 0 [.ref b, .int (nI e), .int (nI (P + 32))], zB K b Nb (zby t)]
            have hi2 : (if e ≤ P + 32 then 1 else 0) < 2 ^ 31 := by by_cases hq : e ≤ P + 32 <;> simp [hq]
            refine zj_if_ne (tgt := 72) F d_UN_readTail_59 (by decide) (zI_eq0 hi2) (fun h59 => ?_) (fun h59 => ?_)
            · have hq : e ≤ P + 32 := Decidable.byContradiction (fun q => h59 (if_neg q))
              rw [if_pos ⟨h49, hq⟩] at hR
              refine zj_wsub (ws' := [zO u 3 [.ref r, .ref fl, .ref fd, .ref li, .ref di, .ref lc, .ref la, .ref ob, .int (nI w)], zO r 0 [.ref b, .int (nI e), .int (nI (P + 32))], zB K b Nb (zby t), zB K ob 16384 (zby o)]) [0, 2, 3, 1] rfl rfl rfl ?_
              exact zj_vret F E d_UN_readTail_72 (Nat.le_refl _) (Nat.le_refl _) ⟨_, hR.symm, hP, rfl, rfl⟩
            · rw [if_neg (fun q => by rw [if_pos q.2] at h59; cases h59)] at hR
              refine zj_wsub (ws' := [zO u 3 [.ref r, .ref fl, .ref fd, .ref li, .ref di, .ref lc, .ref la, .ref ob, .int (nI w)], zO r 0 [.ref b, .int (nI e), .int (nI (P + 32))], zB K b Nb (zby t), zB K ob 16384 (zby o)]) [0, 2, 3, 1] rfl rfl rfl ?_
              exact zj_throwS (names := zt_up) F E hl d_UN_readTail_62 d_UN_readTail_65 d_UN_readTail_66 d_UN_readTail_68 d_UN_readTail_71 (by decide +kernel) (by decide +kernel) q_424 (at_UN_83) ⟨by decide, by decide, by decide, by decide⟩ rfl (by decide) (by decide) ⟨hR.symm, _, rfl⟩
          · exact hq.elim
      · exact hq.elim
    have key : ∀ i, i ≤ 4 → P + 8 * i ≤ e → zj G 0 0 11 [(0, .ref u), (1, .int (nI (zbig t P i))), (2, .int (nI i))] [] [zO u 3 [.ref r, .ref fl, .ref fd, .ref li, .ref di, .ref lc, .ref la, .ref ob, .int (nI w)], zO r 0 [.ref b, .int (nI e), .int (nI (P + 8 * i))], zB K b Nb (zby t), zB K ob 16384 (zby o)] := by
      refine zdown 4 ?_ ?_
      · intro hP
        show zj G 0 0 11 [(0, .ref u), (1, .int (nI (zbig t P 4))), (2, .int (nI 4))] [] [zO u 3 [.ref r, .ref fl, .ref fd, .ref li, .ref di, .ref lc, .ref la, .ref ob, .int (nI w)], zO r 0 [.ref b, .int (nI e), .int (nI (P + 8 * 4))], zB K b Nb (zby t), zB K ob 16384 (zby o)]
        refine zj_iload_n F d_UN_readTail_11 2 rfl rfl ?_
        refine zj_iconst (v := nI 4) F d_UN_readTail_12 (by decide) ?_
        refine zj_icmp_ge (tgt := 37) F d_UN_readTail_13 (by decide) (nI_leI (by omega) (by omega)) (fun h13 => ?_) (fun h13 => ?_)
        · exact zj_sub [0, 1] rfl (fin hP)
        · exact absurd (Nat.le_refl 4) h13
      · intro i hi ih hP
        have hbi := zbig_lt t P i
        show zj G 0 0 11 [(0, .ref u), (1, .int (nI (zbig t P i))), (2, .int (nI i))] [] [zO u 3 [.ref r, .ref fl, .ref fd, .ref li, .ref di, .ref lc, .ref la, .ref ob, .int (nI w)], zO r 0 [.ref b, .int (nI e), .int (nI (P + 8 * i))], zB K b Nb (zby t), zB K ob 16384 (zby o)]
        refine zj_iload_n F d_UN_readTail_11 2 rfl rfl ?_
        refine zj_iconst (v := nI 4) F d_UN_readTail_12 (by decide) ?_
        refine zj_icmp_ge (tgt := 37) F d_UN_readTail_13 (by decide) (nI_leI (by omega) (by omega)) (fun h13 => ?_) (fun h13 => ?_)
        · exact absurd h13 (by omega)
        · refine zj_iload_n F d_UN_readTail_16 1 rfl rfl ?_
          refine zj_bipush (v := nI 8) F d_UN_readTail_17 (by decide) ?_
          refine zj_ishl (z := nI (zbig t P i * 2 ^ 8)) F d_UN_readTail_19 (zI_shl (by decide)) ?_
          refine zj_aload_n F d_UN_readTail_20 0 rfl rfl ?_
          refine zj_get F d_UN_readTail_21 0 0 rfl rfl in_UN (by decide) q_81 rfl ?_
          refine zj_bipush (v := nI 8) F d_UN_readTail_24 (by decide) ?_
          refine zj_call (maxL := 4) (wr := [zO u 3 [.ref r, .ref fl, .ref fd, .ref li, .ref di, .ref lc, .ref la, .ref ob, .int (nI w)], zB K ob 16384 (zby o)]) F E (m_BR_number l hl K r b Nb e (P + 8 * i) 8 t hb hN2 he2 (by decide) hP) (zi_V (As := [.int (nI 8)]) (rest := [.int (nI (zbig t P i * 2 ^ 8))]) F d_UN_readTail_26 1 rfl rfl rfl q_306 q_307 q_308 q_309 (Or.inl ⟨_, _, rfl⟩) (by decide) (show Option.map (fun d => d.parameters.length) (parseMethodDescriptor y_BR_number.desc) = some 1 from by decide +kernel)) d_UN_readTail_26 q_309 (Or.inl ⟨_, _, rfl⟩) q_3 [1, 2] [0, 3] rfl rfl rfl rfl (by decide) ⟨by decide, by decide, by decide, by decide⟩ (Nat.le_of_ble_eq_true rfl) (fun v w1 hq => ?_) (fun X w1 hq => ?_)
          · obtain ⟨hq1, rfl, rfl⟩ := hq
            show zj G 0 0 29 [(0, .ref u), (1, .int (nI (zbig t P i))), (2, .int (nI i))] [.int (nI (znum t (P + 8 * i) 8)), .int (nI (zbig t P i * 2 ^ 8))] [zO u 3 [.ref r, .ref fl, .ref fd, .ref li, .ref di, .ref lc, .ref la, .ref ob, .int (nI w)], zB K ob 16384 (zby o), zO r 0 [.ref b, .int (nI e), .int (nI (P + 8 * i + 8))], zB K b Nb (zby t)]
            have hn := znum_lt t (P + 8 * i) 8
            refine zj_ior (z := nI (zbig t P (i + 1))) F d_UN_readTail_29 (zI_or3 8 hn) ?_
            refine zj_istore_n (L' := [(1, .int (nI (zbig t P (i + 1)))), (0, .ref u), (2, .int (nI i))]) F d_UN_readTail_30 rfl (by decide) rfl ?_
            refine zj_iinc (v := nI (i + 1)) (L' := [(2, .int (nI (i + 1))), (1, .int (nI (zbig t P (i + 1)))), (0, .ref u)]) F d_UN_readTail_31 2 rfl (nI_add _ _) (by decide) rfl ?_
            refine zj_goto F d_UN_readTail_34 (tgt := 11) (by decide) ?_
            refine zj_wsub (ws' := [zO u 3 [.ref r, .ref fl, .ref fd, .ref li, .ref di, .ref lc, .ref la, .ref ob, .int (nI w)], zO r 0 [.ref b, .int (nI e), .int (nI (P + 8 * i + 8))], zB K b Nb (zby t), zB K ob 16384 (zby o)]) [0, 2, 3, 1] rfl rfl rfl ?_
            exact zj_sub [2, 1, 0] rfl (ih (by omega))
          · obtain ⟨hx1, rfl, rfl⟩ := hq
            exact ⟨rfl, by decide, by decide, [0, 2, 3, 1], [zO u 3 [.ref r, .ref fl, .ref fd, .ref li, .ref di, .ref lc, .ref la, .ref ob, .int (nI w)], zO r 0 [.ref b, .int (nI e), .int (nI (P + 8 * i))], zB K b Nb (zby t), zB K ob 16384 (zby o)], rfl, rfl, ⟨hR.symm.trans (by rw [if_neg (by omega)]), _, rfl⟩⟩
    exact zj_sub [2, 1, 0] rfl (key 0 (by decide) (by omega))
  · exact hq.elim
set_option maxHeartbeats 4000000 in
set_option maxRecDepth 100000 in
/-- readToldCodes() -/
theorem m_UN_told (l : Launch) (hl : l.stackTraces = false) (K : zk) (u r fl fd li di lc la ob w : Nat) (b Nb e p : Nat) (t : Nat → Nat) (lcca lcma lcpa lica lima lipa dica dima dipa lu iu du : Nat) (g cc gc pc ci gi pi cd gd pd : Nat → Nat) (R : Except String (Nat × (Nat → Nat) × Nat × Nat)) (hb : ∀ j, t j < 256) (hN : Nb ≤ 16384) (he : e % 8 = 0 ∧ e ≤ 8 * Nb) (hp : p ≤ e) (hlu : lu < 2 ^ 31) (hR : ztold t e p = R) : zc l K y_UN_readToldCodes w_UN_readToldCodes { frames := 9, cells := 1, slots := 6, locals := 173 } 0 0 1 6 [.ref u] [zO u 3 [.ref r, .ref fl, .ref fd, .ref li, .ref di, .ref lc, .ref la, .ref ob, .int (nI w)], zO r 0 [.ref b, .int (nI e), .int (nI p)], zB K b Nb (zby t), zI K la 316 (zna g), zO lc 1 [.ref lcca, .ref lcma, .ref lcpa, .int (nI lu)], zI K lcca 16 (zna cc), zI K lcma 288 (zna gc), zI K lcpa 16 (zna pc), zO li 1 [.ref lica, .ref lima, .ref lipa, .int (nI iu)], zI K lica 16 (zna ci), zI K lima 288 (zna gi), zI K lipa 16 (zna pi), zO di 1 [.ref dica, .ref dima, .ref dipa, .int (nI du)], zI K dica 16 (zna cd), zI K dima 288 (zna gd), zI K dipa 16 (zna pd)] (fun v w1 => ∃ p' c' L D g' cc' gc' pc' iu' ci' gi' pi' du' cd' gd' pd', R = .ok (p', c', L, D) ∧ p' ≤ e ∧ zCS ci' gi' (fun l r => zth c' 0 l L r) ∧ (∀ l, l ≤ 15 → ci' l = zcnt c' 0 l L) ∧ zCS cd' gd' (fun l r => zth c' L l D r) ∧ (∀ l, l ≤ 15 → cd' l = zcnt c' L l D) ∧ v = none ∧ w1 = [zO u 3 [.ref r, .ref fl, .ref fd, .ref li, .ref di, .ref lc, .ref la, .ref ob, .int (nI w)], zO r 0 [.ref b, .int (nI e), .int (nI p')], zB K b Nb (zby t), zI K la 316 (zna g'), zO lc 1 [.ref lcca, .ref lcma, .ref lcpa, .int (nI 32768)], zI K lcca 16 (zna cc'), zI K lcma 288 (zna gc'), zI K lcpa 16 (zna pc'), zO li 1 [.ref lica, .ref lima, .ref lipa, .int (nI iu')], zI K lica 16 (zna ci'), zI K lima 288 (zna gi'), zI K lipa 16 (zna pi'), zO di 1 [.ref dica, .ref dima, .ref dipa, .int (nI du')], zI K dica 16 (zna cd'), zI K dima 288 (zna gd'), zI K dipa 16 (zna pd')]) (fun X w1 => R = .error X ∧ ∃ p' g' lu' cc' gc' pc' iu' ci' gi' pi' du' cd' gd' pd', lu' < 2 ^ 31 ∧ w1 = [zO u 3 [.ref r, .ref fl, .ref fd, .ref li, .ref di, .ref lc, .ref la, .ref ob, .int (nI w)], zO r 0 [.ref b, .int (nI e), .int (nI p')], zB K b Nb (zby t), zI K la 316 (zna g'), zO lc 1 [.ref lcca, .ref lcma, .ref lcpa, .int (nI lu')], zI K lcca 16 (zna cc'), zI K lcma 288 (zna gc'), zI K lcpa 16 (zna pc'), zO li 1 [.ref lica, .ref lima, .ref lipa, .int (nI iu')], zI K lica 16 (zna ci'), zI K lima 288 (zna gi'), zI K lipa 16 (zna pi'), zO di 1 [.ref dica, .ref dima, .ref dipa, .int (nI du')], zI K dica 16 (zna cd'), zI K dima 288 (zna gd'), zI K dipa 16 (zna pd')]) := by
  refine zc_of (cc := c_UN_readToldCodes) (nl := 4) (ret := none) (by decide) (Nat.le_of_ble_eq_true rfl) (fun G F E => ?_)
  have F : zf G l K { frames := 9, cells := 1, slots := 6, locals := 173 } "ZlibBox$Unpacker" c_UN_readToldCodes 4 := F
  show zj G 0 0 0 [(0, .ref u)] [] [zO u 3 [.ref r, .ref fl, .ref fd, .ref li, .ref di, .ref lc, .ref la, .ref ob, .int (nI w)], zO r 0 [.ref b, .int (nI e), .int (nI p)], zB K b Nb (zby t), zI K la 316 (zna g), zO lc 1 [.ref lcca, .ref lcma, .ref lcpa, .int (nI lu)], zI K lcca 16 (zna cc), zI K lcma 288 (zna gc), zI K lcpa 16 (zna pc), zO li 1 [.ref lica, .ref lima, .ref lipa, .int (nI iu)], zI K lica 16 (zna ci), zI K lima 288 (zna gi), zI K lipa 16 (zna pi), zO di 1 [.ref dica, .ref dima, .ref dipa, .int (nI du)], zI K dica 16 (zna cd), zI K dima 288 (zna gd), zI K dipa 16 (zna pd)]
  have hN2 : Nb < 2 ^ 24 := by omega
  have he2 : e ≤ 8 * Nb := by omega
  refine zj_aload_n F d_UN_readToldCodes_0 0 rfl rfl ?_
  refine zj_get F d_UN_readToldCodes_1 0 0 rfl rfl in_UN (by decide) q_81 rfl ?_
  refine zj_iconst (v := nI 5) F d_UN_readToldCodes_4 (by decide) ?_
  refine zj_call (maxL := 4) (wr := [zO u 3 [.ref r, .ref fl, .ref fd, .ref li, .ref di, .ref lc, .ref la, .ref ob, .int (nI w)], zI K la 316 (zna g), zO lc 1 [.ref lcca, .ref lcma, .ref lcpa, .int (nI lu)], zI K lcca 16 (zna cc), zI K lcma 288 (zna gc), zI K lcpa 16 (zna pc), zO li 1 [.ref lica, .ref lima, .ref lipa, .int (nI iu)], zI K lica 16 (zna ci), zI K lima 288 (zna gi), zI K lipa 16 (zna pi), zO di 1 [.ref dica, .ref dima, .ref dipa, .int (nI du)], zI K dica 16 (zna cd), zI K dima 288 (zna gd), zI K dipa 16 (zna pd)]) F E (m_BR_number l hl K r b Nb e p 5 t hb hN2 he2 (by decide) hp) (zi_V (As := [.int (nI 5)]) (rest := []) F d_UN_readToldCodes_5 1 rfl rfl rfl q_306 q_307 q_308 q_309 (Or.inl ⟨_, _, rfl⟩) (by decide) (show Option.map (fun d => d.parameters.length) (parseMethodDescriptor y_BR_number.desc) = some 1 from by decide +kernel)) d_UN_readToldCodes_5 q_309 (Or.inl ⟨_, _, rfl⟩) q_3 [1, 2] [0, 3, 4, 5, 6, 7, 8, 9, 10, 11, 12, 13, 14, 15] rfl rfl rfl rfl (by decide) ⟨by decide, by decide, by decide, by decide⟩ (Nat.le_of_ble_eq_true rfl) (fun v w1 hq => ?_) (fun X w1 hq => ?_)
  · obtain ⟨hq1, rfl, rfl⟩ := hq
    show zj G 0 0 8 [(0, .ref u)] [.int (nI (znum t p 5))] [zO u 3 [.ref r, .ref fl, .ref fd, .ref li, .ref di, .ref lc, .ref la, .ref ob, .int (nI w)], zI K la 316 (zna g), zO lc 1 [.ref lcca, .ref lcma, .ref lcpa, .int (nI lu)], zI K lcca 16 (zna cc), zI K lcma 288 (zna gc), zI K lcpa 16 (zna pc), zO li 1 [.ref lica, .ref lima, .ref lipa, .int (nI iu)], zI K lica 16 (zna ci), zI K lima 288 (zna gi), zI K lipa 16 (zna pi), zO di 1 [.ref dica, .ref dima, .ref dipa, .int (nI du)], zI K dica 16 (zna cd), zI K dima 288 (zna gd), zI K dipa 16 (zna pd), zO r 0 [.ref b, .int (nI e), .int (nI (p + 5))], zB K b Nb (zby t)]
    have hq1a := hq1
    refine zj_sipush (v := nI 257) F d_UN_readToldCodes_8 (by decide) ?_
    refine zj_iadd F d_UN_readToldCodes_11 (nI_add _ _) ?_
    refine zj_istore_n (L' := [(1, .int (nI ((znum t p 5) + 257))), (0, .ref u)]) F d_UN_readToldCodes_12 rfl (by decide) rfl ?_
    refine zj_aload_n F d_UN_readToldCodes_13 1 rfl rfl ?_
    refine zj_get F d_UN_readToldCodes_14 0 0 rfl rfl in_UN (by decide) q_81 rfl ?_
    refine zj_iconst (v := nI 5) F d_UN_readToldCodes_17 (by decide) ?_
    refine zj_call (maxL := 4) (wr := [zO u 3 [.ref r, .ref fl, .ref fd, .ref li, .ref di, .ref lc, .ref la, .ref ob, .int (nI w)], zI K la 316 (zna g), zO lc 1 [.ref lcca, .ref lcma, .ref lcpa, .int (nI lu)], zI K lcca 16 (zna cc), zI K lcma 288 (zna gc), zI K lcpa 16 (zna pc), zO li 1 [.ref lica, .ref lima, .ref lipa, .int (nI iu)], zI K lica 16 (zna ci), zI K lima 288 (zna gi), zI K lipa 16 (zna pi), zO di 1 [.ref dica, .ref dima, .ref dipa, .int (nI du)], zI K dica 16 (zna cd), zI K dima 288 (zna gd), zI K dipa 16 (zna pd)]) F E (m_BR_number l hl K r b Nb e (p + 5) 5 t hb hN2 he2 (by decide) hq1) (zi_V (As := [.int (nI 5)]) (rest := []) F d_UN_readToldCodes_18 14 rfl rfl rfl q_306 q_307 q_308 q_309 (Or.inl ⟨_, _, rfl⟩) (by decide) (show Option.map (fun d => d.parameters.length) (parseMethodDescriptor y_BR_number.desc) = some 1 from by decide +kernel)) d_UN_readToldCodes_18 q_309 (Or.inl ⟨_, _, rfl⟩) q_3 [14, 15] [0, 1, 2, 3, 4, 5, 6, 7, 8, 9, 10, 11, 12, 13] rfl rfl rfl rfl (by decide) ⟨by decide, by decide, by decide, by decide⟩ (Nat.le_of_ble_eq_true rfl) (fun v w1 hq => ?_) (fun X w1 hq => ?_)
    · obtain ⟨hq1, rfl, rfl⟩ := hq
      show zj G 0 0 21 [(1, .int (nI ((znum t p 5) + 257))), (0, .ref u)] [.int (nI (znum t (p + 5) 5))] [zO u 3 [.ref r, .ref fl, .ref fd, .ref li, .ref di, .ref lc, .ref la, .ref ob, .int (nI w)], zI K la 316 (zna g), zO lc 1 [.ref lcca, .ref lcma, .ref lcpa, .int (nI lu)], zI K lcca 16 (zna cc), zI K lcma 288 (zna gc), zI K lcpa 16 (zna pc), zO li 1 [.ref lica, .ref lima, .ref lipa, .int (nI iu)], zI K lica 16 (zna ci), zI K lima 288 (zna gi), zI K lipa 16 (zna pi), zO di 1 [.ref dica, .ref dima, .ref dipa, .int (nI du)], zI K dica 16 (zna cd), zI K dima 288 (zna gd), zI K dipa 16 (zna pd), zO r 0 [.ref b, .int (nI e), .int (nI (p + 5 + 5))], zB K b Nb (zby t)]
      have hq1b := hq1
      refine zj_iconst (v := nI 1) F d_UN_readToldCodes_21 (by decide) ?_
      refine zj_iadd F d_UN_readToldCodes_22 (nI_add _ _) ?_
      refine zj_istore_n (L' := [(2, .int (nI ((znum t (p + 5) 5) + 1))), (1, .int (nI ((znum t p 5) + 257))), (0, .ref u)]) F d_UN_readToldCodes_23 rfl (by decide) rfl ?_
      refine zj_aload_n F d_UN_readToldCodes_24 2 rfl rfl ?_
      refine zj_get F d_UN_readToldCodes_25 0 0 rfl rfl in_UN (by decide) q_81 rfl ?_
      refine zj_iconst (v := nI 4) F d_UN_readToldCodes_28 (by decide) ?_
      refine zj_call (maxL := 4) (wr := [zO u 3 [.ref r, .ref fl, .ref fd, .ref li, .ref di, .ref lc, .ref la, .ref ob, .int (nI w)], zI K la 316 (zna g), zO lc 1 [.ref lcca, .ref lcma, .ref lcpa, .int (nI lu)], zI K lcca 16 (zna cc), zI K lcma 288 (zna gc), zI K lcpa 16 (zna pc), zO li 1 [.ref lica, .ref lima, .ref lipa, .int (nI iu)], zI K lica 16 (zna ci), zI K lima 288 (zna gi), zI K lipa 16 (zna pi), zO di 1 [.ref dica, .ref dima, .ref dipa, .int (nI du)], zI K dica 16 (zna cd), zI K dima 288 (zna gd), zI K dipa 16 (zna pd)]) F E (m_BR_number l hl K r b Nb e (p + 5 + 5) 4 t hb hN2 he2 (by decide) hq1) (zi_V (As := [.int (nI 4)]) (rest := []) F d_UN_readToldCodes_29 14 rfl rfl rfl q_306 q_307 q_308 q_309 (Or.inl ⟨_, _, rfl⟩) (by decide) (show Option.map (fun d => d.parameters.length) (parseMethodDescriptor y_BR_number.desc) = some 1 from by decide +kernel)) d_UN_readToldCodes_29 q_309 (Or.inl ⟨_, _, rfl⟩) q_3 [14, 15] [0, 1, 2, 3, 4, 5, 6, 7, 8, 9, 10, 11, 12, 13] rfl rfl rfl rfl (by decide) ⟨by decide, by decide, by decide, by decide⟩ (Nat.le_of_ble_eq_true rfl) (fun v w1 hq => ?_) (fun X w1 hq => ?_)
      · obtain ⟨hq1, rfl, rfl⟩ := hq
        show zj G 0 0 32 [(2, .int (nI ((znum t (p + 5) 5) + 1))), (1, .int (nI ((znum t p 5) + 257))), (0, .ref u)] [.int (nI (znum t (p + 5 + 5) 4))] [zO u 3 [.ref r, .ref fl, .ref fd, .ref li, .ref di, .ref lc, .ref la, .ref ob, .int (nI w)], zI K la 316 (zna g), zO lc 1 [.ref lcca, .ref lcma, .ref lcpa, .int (nI lu)], zI K lcca 16 (zna cc), zI K lcma 288 (zna gc), zI K lcpa 16 (zna pc), zO li 1 [.ref lica, .ref lima, .ref lipa, .int (nI iu)], zI K lica 16 (zna ci), zI K lima 288 (zna gi), zI K lipa 16 (zna pi), zO di 1 [.ref dica, .ref dima, .ref dipa, .int (nI du)], zI K dica 16 (zna cd), zI K dima 288 (zna gd), zI K dipa 16 (zna pd), zO r 0 [.ref b, .int (nI e), .int (nI (p + 5 + 5 + 4))], zB K b Nb (zby t)]
        have hn1 := znum_lt t p 5
        have hn2 := znum_lt t (p + 5) 5
        have hn3 := znum_lt t (p + 5 + 5) 4
        unfold ztold at hR
        rw [if_pos hq1a, if_pos hq1b, if_pos hq1] at hR
        refine zj_iconst (v := nI 4) F d_UN_readToldCodes_32 (by decide) ?_
        refine zj_iadd F d_UN_readToldCodes_33 (nI_add _ _) ?_
        refine zj_istore_n (L' := [(3, .int (nI ((znum t (p + 5 + 5) 4) + 4))), (2, .int (nI ((znum t (p + 5) 5) + 1))), (1, .int (nI ((znum t p 5) + 257))), (0, .ref u)]) F d_UN_readToldCodes_34 rfl (by decide) rfl ?_
        generalize hL9 : znum t p 5 + 257 = L at hR ⊢
        generalize hD9 : znum t (p + 5) 5 + 1 = D at hR ⊢
        generalize hT9 : znum t (p + 5 + 5) 4 + 4 = T at hR ⊢
        show zj G 0 0 35 [(3, .int (nI T)), (2, .int (nI D)), (1, .int (nI L)), (0, .ref u)] [] [zO u 3 [.ref r, .ref fl, .ref fd, .ref li, .ref di, .ref lc, .ref la, .ref ob, .int (nI w)], zI K la 316 (zna g), zO lc 1 [.ref lcca, .ref lcma, .ref lcpa, .int (nI lu)], zI K lcca 16 (zna cc), zI K lcma 288 (zna gc), zI K lcpa 16 (zna pc), zO li 1 [.ref lica, .ref lima, .ref lipa, .int (nI iu)], zI K lica 16 (zna ci), zI K lima 288 (zna gi), zI K lipa 16 (zna pi), zO di 1 [.ref dica, .ref dima, .ref dipa, .int (nI du)], zI K dica 16 (zna cd), zI K dima 288 (zna gd), zI K dipa 16 (zna pd), zO r 0 [.ref b, .int (nI e), .int (nI (p + 5 + 5 + 4))], zB K b Nb (zby t)]
        have hLb : 257 ≤ L ∧ L ≤ 288 := by omega
        have hDb : 1 ≤ D ∧ D ≤ 32 := by omega
        have hTb : T ≤ 19 := by omega
        refine zj_iload_n F d_UN_readToldCodes_35 2 rfl rfl ?_
        refine zj_sipush (v := nI 286) F d_UN_readToldCodes_36 (by decide) ?_
        refine zj_icmp_gt (tgt := 48) F d_UN_readToldCodes_39 (by decide) (nI_ltI (by omega) (by omega)) (fun h39 => ?_) (fun h39 => ?_)
        · unfold ztoldL at hR
          rw [if_neg (by omega)] at hR
          refine zj_wsub (ws' := [zO u 3 [.ref r, .ref fl, .ref fd, .ref li, .ref di, .ref lc, .ref la, .ref ob, .int (nI w)], zO r 0 [.ref b, .int (nI e), .int (nI (p + 5 + 5 + 4))], zB K b Nb (zby t), zI K la 316 (zna g), zO lc 1 [.ref lcca, .ref lcma, .ref lcpa, .int (nI lu)], zI K lcca 16 (zna cc), zI K lcma 288 (zna gc), zI K lcpa 16 (zna pc), zO li 1 [.ref lica, .ref lima, .ref lipa, .int (nI iu)], zI K lica 16 (zna ci), zI K lima 288 (zna gi), zI K lipa 16 (zna pi), zO di 1 [.ref dica, .ref dima, .ref dipa, .int (nI du)], zI K dica 16 (zna cd), zI K dima 288 (zna gd), zI K dipa 16 (zna pd)]) [0, 14, 15, 1, 2, 3, 4, 5, 6, 7, 8, 9, 10, 11, 12, 13] rfl rfl rfl ?_
          exact zj_throwS (names := zt_up) F E hl d_UN_readToldCodes_48 d_UN_readToldCodes_51 d_UN_readToldCodes_52 d_UN_readToldCodes_54 d_UN_readToldCodes_57 (by decide +kernel) (by decide +kernel) q_386 (at_UN_83) ⟨by decide, by decide, by decide, by decide⟩ rfl (by decide) (by decide) ⟨hR.symm, _, _, _, _, _, _, _, _, _, _, _, _, _, _, hlu, rfl⟩
        · refine zj_iload_n F d_UN_readToldCodes_42 1 rfl rfl ?_
          refine zj_bipush (v := nI 30) F d_UN_readToldCodes_43 (by decide) ?_
          refine zj_icmp_le (tgt := 58) F d_UN_readToldCodes_45 (by decide) (nI_leI (by omega) (by omega)) (fun h45 => ?_) (fun h45 => ?_)
          · unfold ztoldL at hR
            rw [if_pos ⟨by omega, h45⟩] at hR
            refine zj_aload_n F d_UN_readToldCodes_58 3 rfl rfl ?_
            refine zj_iload_n F d_UN_readToldCodes_59 0 rfl rfl ?_
            refine zj_call (maxL := 3) (wr := [zO li 1 [.ref lica, .ref lima, .ref lipa, .int (nI iu)], zI K lica 16 (zna ci), zI K lima 288 (zna gi), zI K lipa 16 (zna pi), zO di 1 [.ref dica, .ref dima, .ref dipa, .int (nI du)], zI K dica 16 (zna cd), zI K dima 288 (zna gd), zI K dipa 16 (zna pd)]) F E (m_UN_lengthCodes l hl K u r fl fd li di lc la ob w b Nb e (p + 5 + 5 + 4) t lcca lcma lcpa lu T g cc gc pc _ hb hN he hq1 hlu hTb rfl) (zi_V (As := [.int (nI T)]) (rest := []) F d_UN_readToldCodes_60 0 rfl rfl rfl q_387 q_389 sel_UN_readLengthCodes q_390 (Or.inl ⟨_, _, rfl⟩) (by decide) (show Option.map (fun d => d.parameters.length) (parseMethodDescriptor y_UN_readLengthCodes.desc) = some 1 from by decide +kernel)) d_UN_readToldCodes_60 q_390 (Or.inl ⟨_, _, rfl⟩) q_2 [0, 14, 15, 1, 2, 3, 4, 5] [6, 7, 8, 9, 10, 11, 12, 13] rfl rfl rfl rfl (by decide) ⟨by decide, by decide, by decide, by decide⟩ (Nat.le_of_ble_eq_true rfl) (fun v w1 hq => ?_) (fun X w1 hq => ?_)
            · obtain ⟨p1, c0, g1, cc1, gc1, pc1, hA1, hA2, hA3, hA4, rfl, rfl⟩ := hq
              show zj G 0 0 63 [(3, .int (nI T)), (2, .int (nI D)), (1, .int (nI L)), (0, .ref u)] [] [zO li 1 [.ref lica, .ref lima, .ref lipa, .int (nI iu)], zI K lica 16 (zna ci), zI K lima 288 (zna gi), zI K lipa 16 (zna pi), zO di 1 [.ref dica, .ref dima, .ref dipa, .int (nI du)], zI K dica 16 (zna cd), zI K dima 288 (zna gd), zI K dipa 16 (zna pd), zO u 3 [.ref r, .ref fl, .ref fd, .ref li, .ref di, .ref lc, .ref la, .ref ob, .int (nI w)], zO r 0 [.ref b, .int (nI e), .int (nI p1)], zB K b Nb (zby t), zI K la 316 (zna g1), zO lc 1 [.ref lcca, .ref lcma, .ref lcpa, .int (nI 32768)], zI K lcca 16 (zna cc1), zI K lcma 288 (zna gc1), zI K lcpa 16 (zna pc1)]
              rw [hA1] at hR
              dsimp only at hR
              rw [zlen_congr (fun l h1 h2 => (hA4 l h2).symm) (L + D) (L + D)] at hR
              refine zj_aload_n F d_UN_readToldCodes_63 3 rfl rfl ?_
              refine zj_iload_n F d_UN_readToldCodes_64 2 rfl rfl ?_
              refine zj_iload_n F d_UN_readToldCodes_65 1 rfl rfl ?_
              refine zj_iadd F d_UN_readToldCodes_66 (nI_add _ _) ?_
              refine zj_call (maxL := 5) (wr := [zO li 1 [.ref lica, .ref lima, .ref lipa, .int (nI iu)], zI K lica 16 (zna ci), zI K lima 288 (zna gi), zI K lipa 16 (zna pi), zO di 1 [.ref dica, .ref dima, .ref dipa, .int (nI du)], zI K dica 16 (zna cd), zI K dima 288 (zna gd), zI K dipa 16 (zna pd), zI K lcpa 16 (zna pc1)]) F E (m_UN_lengths l hl K u r fl fd li di lc la ob w b Nb e p1 t lcca lcma lcpa 32768 (L + D) g1 cc1 gc1 _ _ hb hN he hA2 hA3 (by omega) rfl) (zi_V (As := [.int (nI (L + D))]) (rest := []) F d_UN_readToldCodes_67 8 rfl rfl rfl q_398 q_400 sel_UN_readLengths q_401 (Or.inl ⟨_, _, rfl⟩) (by decide) (show Option.map (fun d => d.parameters.length) (parseMethodDescriptor y_UN_readLengths.desc) = some 1 from by decide +kernel)) d_UN_readToldCodes_67 q_401 (Or.inl ⟨_, _, rfl⟩) q_2 [8, 9, 10, 11, 12, 13, 14] [0, 1, 2, 3, 4, 5, 6, 7, 15] rfl rfl rfl rfl (by decide) ⟨by decide, by decide, by decide, by decide⟩ (Nat.le_of_ble_eq_true rfl) (fun v w1 hq => ?_) (fun X w1 hq => ?_)
              · obtain ⟨p2, c2, g2, hB1, hB2, hB3, hB4, rfl, rfl⟩ := hq
                show zj G 0 0 70 [(3, .int (nI T)), (2, .int (nI D)), (1, .int (nI L)), (0, .ref u)] [] [zO li 1 [.ref lica, .ref lima, .ref lipa, .int (nI iu)], zI K lica 16 (zna ci), zI K lima 288 (zna gi), zI K lipa 16 (zna pi), zO di 1 [.ref dica, .ref dima, .ref dipa, .int (nI du)], zI K dica 16 (zna cd), zI K dima 288 (zna gd), zI K dipa 16 (zna pd), zI K lcpa 16 (zna pc1), zO u 3 [.ref r, .ref fl, .ref fd, .ref li, .ref di, .ref lc, .ref la, .ref ob, .int (nI w)], zO r 0 [.ref b, .int (nI e), .int (nI p2)], zB K b Nb (zby t), zI K la 316 (zna g2), zO lc 1 [.ref lcca, .ref lcma, .ref lcpa, .int (nI 32768)], zI K lcca 16 (zna cc1), zI K lcma 288 (zna gc1)]
                rw [hB1] at hR
                dsimp only at hR
                unfold ztoldE at hR
                refine zj_aload_n F d_UN_readToldCodes_70 3 rfl rfl ?_
                refine zj_get F d_UN_readToldCodes_71 9 3 rfl rfl in_UN (by decide) q_84 rfl ?_
                refine zj_aload_n F d_UN_readToldCodes_74 3 rfl rfl ?_
                refine zj_get F d_UN_readToldCodes_75 9 6 rfl rfl in_UN (by decide) q_87 rfl ?_
                refine zj_iconst (v := nI 0) F d_UN_readToldCodes_78 (by decide) ?_
                refine zj_iload_n F d_UN_readToldCodes_79 2 rfl rfl ?_
                refine zj_call (maxL := 6) (wr := [zO di 1 [.ref dica, .ref dima, .ref dipa, .int (nI du)], zI K dica 16 (zna cd), zI K dima 288 (zna gd), zI K dipa 16 (zna pd), zI K lcpa 16 (zna pc1), zO u 3 [.ref r, .ref fl, .ref fd, .ref li, .ref di, .ref lc, .ref la, .ref ob, .int (nI w)], zO r 0 [.ref b, .int (nI e), .int (nI p2)], zB K b Nb (zby t), zO lc 1 [.ref lcca, .ref lcma, .ref lcpa, .int (nI 32768)], zI K lcca 16 (zna cc1), zI K lcma 288 (zna gc1)]) F E (m_CO_make l K li lica lima lipa la 316 iu 0 L g2 ci gi pi (by decide) (by omega) (by omega) (fun i hi => by rw [Nat.zero_add, hB3 i (by omega)]; exact hB4 i (by omega))) (zi_V (As := [.ref la, .int (nI 0), .int (nI L)]) (rest := []) F d_UN_readToldCodes_80 0 rfl rfl rfl q_72 q_73 q_74 q_75 (Or.inl ⟨_, _, rfl⟩) (by decide) (show Option.map (fun d => d.parameters.length) (parseMethodDescriptor y_CO_make.desc) = some 3 from by decide +kernel)) d_UN_readToldCodes_80 q_75 (Or.inl ⟨_, _, rfl⟩) q_4 [0, 1, 2, 3, 12] [4, 5, 6, 7, 8, 9, 10, 11, 13, 14, 15] rfl rfl rfl rfl (by decide) ⟨by decide, by decide, by decide, by decide⟩ (Nat.le_of_ble_eq_true rfl) (fun v w1 hq => ?_) (fun X w1 hq => ?_)
                · obtain ⟨rfl, ci1, gi1, pi1, hm1, hm2, hm3, rfl⟩ := hq
                  show zj G 0 0 83 [(3, .int (nI T)), (2, .int (nI D)), (1, .int (nI L)), (0, .ref u)] [] [zO di 1 [.ref dica, .ref dima, .ref dipa, .int (nI du)], zI K dica 16 (zna cd), zI K dima 288 (zna gd), zI K dipa 16 (zna pd), zI K lcpa 16 (zna pc1), zO u 3 [.ref r, .ref fl, .ref fd, .ref li, .ref di, .ref lc, .ref la, .ref ob, .int (nI w)], zO r 0 [.ref b, .int (nI e), .int (nI p2)], zB K b Nb (zby t), zO lc 1 [.ref lcca, .ref lcma, .ref lcpa, .int (nI 32768)], zI K lcca 16 (zna cc1), zI K lcma 288 (zna gc1), zO li 1 [.ref lica, .ref lima, .ref lipa, .int (nI (zuse g2 0 L))], zI K lica 16 (zna ci1), zI K lima 288 (zna gi1), zI K lipa 16 (zna pi1), zI K la 316 (zna g2)]
                  refine zj_aload_n F d_UN_readToldCodes_83 3 rfl rfl ?_
                  refine zj_get F d_UN_readToldCodes_84 5 4 rfl rfl in_UN (by decide) q_85 rfl ?_
                  refine zj_aload_n F d_UN_readToldCodes_87 3 rfl rfl ?_
                  refine zj_get F d_UN_readToldCodes_88 5 6 rfl rfl in_UN (by decide) q_87 rfl ?_
                  refine zj_iload_n F d_UN_readToldCodes_91 2 rfl rfl ?_
                  refine zj_iload_n F d_UN_readToldCodes_92 1 rfl rfl ?_
                  refine zj_call (maxL := 6) (wr := [zI K lcpa 16 (zna pc1), zO u 3 [.ref r, .ref fl, .ref fd, .ref li, .ref di, .ref lc, .ref la, .ref ob, .int (nI w)], zO r 0 [.ref b, .int (nI e), .int (nI p2)], zB K b Nb (zby t), zO lc 1 [.ref lcca, .ref lcma, .ref lcpa, .int (nI 32768)], zI K lcca 16 (zna cc1), zI K lcma 288 (zna gc1), zO li 1 [.ref lica, .ref lima, .ref lipa, .int (nI (zuse g2 0 L))], zI K lica 16 (zna ci1), zI K lima 288 (zna gi1), zI K lipa 16 (zna pi1)]) F E (m_CO_make l K di dica dima dipa la 316 du L D g2 cd gd pd (by decide) (by omega) (by omega) (fun i hi => by rw [hB3 (L + i) (by omega)]; exact hB4 (L + i) (by omega))) (zi_V (As := [.ref la, .int (nI L), .int (nI D)]) (rest := []) F d_UN_readToldCodes_93 0 rfl rfl rfl q_72 q_73 q_74 q_75 (Or.inl ⟨_, _, rfl⟩) (by decide) (show Option.map (fun d => d.parameters.length) (parseMethodDescriptor y_CO_make.desc) = some 3 from by decide +kernel)) d_UN_readToldCodes_93 q_75 (Or.inl ⟨_, _, rfl⟩) q_4 [0, 1, 2, 3, 15] [4, 5, 6, 7, 8, 9, 10, 11, 12, 13, 14] rfl rfl rfl rfl (by decide) ⟨by decide, by decide, by decide, by decide⟩ (Nat.le_of_ble_eq_true rfl) (fun v w1 hq => ?_) (fun X w1 hq => ?_)
                  · obtain ⟨rfl, cd1, gd1, pd1, hn1', hn2', hn3', rfl⟩ := hq
                    show zj G 0 0 96 [(3, .int (nI T)), (2, .int (nI D)), (1, .int (nI L)), (0, .ref u)] [] [zI K lcpa 16 (zna pc1), zO u 3 [.ref r, .ref fl, .ref fd, .ref li, .ref di, .ref lc, .ref la, .ref ob, .int (nI w)], zO r 0 [.ref b, .int (nI e), .int (nI p2)], zB K b Nb (zby t), zO lc 1 [.ref lcca, .ref lcma, .ref lcpa, .int (nI 32768)], zI K lcca 16 (zna cc1), zI K lcma 288 (zna gc1), zO li 1 [.ref lica, .ref lima, .ref lipa, .int (nI (zuse g2 0 L))], zI K lica 16 (zna ci1), zI K lima 288 (zna gi1), zI K lipa 16 (zna pi1), zO di 1 [.ref dica, .ref dima, .ref dipa, .int (nI (zuse g2 L D))], zI K dica 16 (zna cd1), zI K dima 288 (zna gd1), zI K dipa 16 (zna pd1), zI K la 316 (zna g2)]
                    have hz0 : ∀ i, i < L → g2 (0 + i) = c2 (0 + i) := fun i hi => by rw [Nat.zero_add]; exact hB3 i (by omega)
                    have hz1 : ∀ i, i < D → g2 (L + i) = c2 (L + i) := fun i hi => hB3 (L + i) (by omega)
                    have hu0 := zuse_congr L hz0
                    have hu1 := zuse_congr D hz1
                    have hl0 := zuse_le g2 0 L
                    have hl1 := zuse_le g2 L D
                    have hc256 := hB3 256 (by omega)
                    have h15 := hB4 256 (by omega)
                    refine zj_aload_n F d_UN_readToldCodes_96 3 rfl rfl ?_
                    refine zj_get F d_UN_readToldCodes_97 1 6 rfl rfl in_UN (by decide) q_87 rfl ?_
                    refine zj_sipush (v := nI 256) F d_UN_readToldCodes_100 (by decide) ?_
                    refine zj_iald (z := nI (c2 256)) F d_UN_readToldCodes_103 15 1 256 rfl rfl rfl (by omega) (by omega) (by unfold zna; rw [hc256]) ?_
                    refine zj_if_eq (tgt := 117) F d_UN_readToldCodes_104 (by decide) (zI_eq0 (by omega)) (fun h104 => ?_) (fun h104 => ?_)
                    · rw [if_neg (fun q => q.1 h104)] at hR
                      refine zj_wsub (ws' := [zO u 3 [.ref r, .ref fl, .ref fd, .ref li, .ref di, .ref lc, .ref la, .ref ob, .int (nI w)], zO r 0 [.ref b, .int (nI e), .int (nI p2)], zB K b Nb (zby t), zI K la 316 (zna g2), zO lc 1 [.ref lcca, .ref lcma, .ref lcpa, .int (nI 32768)], zI K lcca 16 (zna cc1), zI K lcma 288 (zna gc1), zI K lcpa 16 (zna pc1), zO li 1 [.ref lica, .ref lima, .ref lipa, .int (nI (zuse g2 0 L))], zI K lica 16 (zna ci1), zI K lima 288 (zna gi1), zI K lipa 16 (zna pi1), zO di 1 [.ref dica, .ref dima, .ref dipa, .int (nI (zuse g2 L D))], zI K dica 16 (zna cd1), zI K dima 288 (zna gd1), zI K dipa 16 (zna pd1)]) [1, 2, 3, 15, 4, 5, 6, 0, 7, 8, 9, 10, 11, 12, 13, 14] rfl rfl rfl ?_
                      exact zj_throwS (names := zt_up) F E hl d_UN_readToldCodes_117 d_UN_readToldCodes_120 d_UN_readToldCodes_121 d_UN_readToldCodes_123 d_UN_readToldCodes_126 (by decide +kernel) (by decide +kernel) q_408 (at_UN_83) ⟨by decide, by decide, by decide, by decide⟩ rfl (by decide) (by decide) ⟨hR.symm, _, _, _, _, _, _, _, _, _, _, _, _, _, _, by decide, rfl⟩
                    · refine zj_aload_n F d_UN_readToldCodes_107 3 rfl rfl ?_
                      refine zj_get F d_UN_readToldCodes_108 1 3 rfl rfl in_UN (by decide) q_84 rfl ?_
                      refine zj_call (maxL := 1) (wr := [zI K lcpa 16 (zna pc1), zO u 3 [.ref r, .ref fl, .ref fd, .ref li, .ref di, .ref lc, .ref la, .ref ob, .int (nI w)], zO r 0 [.ref b, .int (nI e), .int (nI p2)], zB K b Nb (zby t), zO lc 1 [.ref lcca, .ref lcma, .ref lcpa, .int (nI 32768)], zI K lcca 16 (zna cc1), zI K lcma 288 (zna gc1), zI K lica 16 (zna ci1), zI K lima 288 (zna gi1), zI K lipa 16 (zna pi1), zO di 1 [.ref dica, .ref dima, .ref dipa, .int (nI (zuse g2 L D))], zI K dica 16 (zna cd1), zI K dima 288 (zna gd1), zI K dipa 16 (zna pd1), zI K la 316 (zna g2)]) F E (m_CO_useAll l K li lica lima lipa (zuse g2 0 L) (by omega)) (zi_V (As := []) (rest := []) F d_UN_readToldCodes_111 7 rfl rfl rfl q_393 q_394 q_395 q_396 (Or.inl ⟨_, _, rfl⟩) (by decide) (show Option.map (fun d => d.parameters.length) (parseMethodDescriptor y_CO_useAllWords.desc) = some 0 from by decide +kernel)) d_UN_readToldCodes_111 q_396 (Or.inl ⟨_, _, rfl⟩) q_4 [7] [0, 1, 2, 3, 4, 5, 6, 8, 9, 10, 11, 12, 13, 14, 15] rfl rfl rfl rfl (by decide) ⟨by decide, by decide, by decide, by decide⟩ (Nat.le_of_ble_eq_true rfl) (fun v w1 hq => ?_) (fun X w1 hq => ?_)
                      · obtain ⟨rfl, rfl⟩ := hq
                        show zj G 0 0 114 [(3, .int (nI T)), (2, .int (nI D)), (1, .int (nI L)), (0, .ref u)] [.int (nI (if zuse g2 0 L = 32768 then 1 else 0))] [zI K lcpa 16 (zna pc1), zO u 3 [.ref r, .ref fl, .ref fd, .ref li, .ref di, .ref lc, .ref la, .ref ob, .int (nI w)], zO r 0 [.ref b, .int (nI e), .int (nI p2)], zB K b Nb (zby t), zO lc 1 [.ref lcca, .ref lcma, .ref lcpa, .int (nI 32768)], zI K lcca 16 (zna cc1), zI K lcma 288 (zna gc1), zI K lica 16 (zna ci1), zI K lima 288 (zna gi1), zI K lipa 16 (zna pi1), zO di 1 [.ref dica, .ref dima, .ref dipa, .int (nI (zuse g2 L D))], zI K dica 16 (zna cd1), zI K dima 288 (zna gd1), zI K dipa 16 (zna pd1), zI K la 316 (zna g2), zO li 1 [.ref lica, .ref lima, .ref lipa, .int (nI (zuse g2 0 L))]]
                        have hi2 : (if zuse g2 0 L = 32768 then 1 else 0) < 2 ^ 31 := by by_cases hq : zuse g2 0 L = 32768 <;> simp [hq]
                        refine zj_if_ne (tgt := 127) F d_UN_readToldCodes_114 (by decide) (zI_eq0 hi2) (fun h114 => ?_) (fun h114 => ?_)
                        · have hqL : zuse g2 0 L = 32768 := Decidable.byContradiction (fun q => h114 (if_neg q))
                          rw [if_pos ⟨h104, by rw [← hu0]; exact hqL⟩] at hR
                          refine zj_aload_n F d_UN_readToldCodes_127 3 rfl rfl ?_
                          refine zj_get F d_UN_readToldCodes_128 1 4 rfl rfl in_UN (by decide) q_85 rfl ?_
                          refine zj_call (maxL := 1) (wr := [zI K lcpa 16 (zna pc1), zO u 3 [.ref r, .ref fl, .ref fd, .ref li, .ref di, .ref lc, .ref la, .ref ob, .int (nI w)], zO r 0 [.ref b, .int (nI e), .int (nI p2)], zB K b Nb (zby t), zO lc 1 [.ref lcca, .ref lcma, .ref lcpa, .int (nI 32768)], zI K lcca 16 (zna cc1), zI K lcma 288 (zna gc1), zI K lica 16 (zna ci1), zI K lima 288 (zna gi1), zI K lipa 16 (zna pi1), zI K dica 16 (zna cd1), zI K dima 288 (zna gd1), zI K dipa 16 (zna pd1), zI K la 316 (zna g2), zO li 1 [.ref lica, .ref lima, .ref lipa, .int (nI (zuse g2 0 L))]]) F E (m_CO_useAll l K di dica dima dipa (zuse g2 L D) (by omega)) (zi_V (As := []) (rest := []) F d_UN_readToldCodes_131 10 rfl rfl rfl q_393 q_394 q_395 q_396 (Or.inl ⟨_, _, rfl⟩) (by decide) (show Option.map (fun d => d.parameters.length) (parseMethodDescriptor y_CO_useAllWords.desc) = some 0 from by decide +kernel)) d_UN_readToldCodes_131 q_396 (Or.inl ⟨_, _, rfl⟩) q_4 [10] [0, 1, 2, 3, 4, 5, 6, 7, 8, 9, 11, 12, 13, 14, 15] rfl rfl rfl rfl (by decide) ⟨by decide, by decide, by decide, by decide⟩ (Nat.le_of_ble_eq_true rfl) (fun v w1 hq => ?_) (fun X w1 hq => ?_)
                          · obtain ⟨rfl, rfl⟩ := hq
                            show zj G 0 0 134 [(3, .int (nI T)), (2, .int (nI D)), (1, .int (nI L)), (0, .ref u)] [.int (nI (if zuse g2 L D = 32768 then 1 else 0))] [zI K lcpa 16 (zna pc1), zO u 3 [.ref r, .ref fl, .ref fd, .ref li, .ref di, .ref lc, .ref la, .ref ob, .int (nI w)], zO r 0 [.ref b, .int (nI e), .int (nI p2)], zB K b Nb (zby t), zO lc 1 [.ref lcca, .ref lcma, .ref lcpa, .int (nI 32768)], zI K lcca 16 (zna cc1), zI K lcma 288 (zna gc1), zI K lica 16 (zna ci1), zI K lima 288 (zna gi1), zI K lipa 16 (zna pi1), zI K dica 16 (zna cd1), zI K dima 288 (zna gd1), zI K dipa 16 (zna pd1), zI K la 316 (zna g2), zO li 1 [.ref lica, .ref lima, .ref lipa, .int (nI (zuse g2 0 L))], zO di 1 [.ref dica, .ref dima, .ref dipa, .int (nI (zuse g2 L D))]]
                            have hi3 : (if zuse g2 L D = 32768 then 1 else 0) < 2 ^ 31 := by by_cases hq : zuse g2 L D = 32768 <;> simp [hq]
                            refine zj_if_ne (tgt := 157) F d_UN_readToldCodes_134 (by decide) (zI_eq0 hi3) (fun h134 => ?_) (fun h134 => ?_)
                            · rw [if_pos (Or.inl (by rw [← hu1]; exact Decidable.byContradiction (fun q => h134 (if_neg q))))] at hR
                              refine zj_wsub (ws' := [zO u 3 [.ref r, .ref fl, .ref fd, .ref li, .ref di, .ref lc, .ref la, .ref ob, .int (nI w)], zO r 0 [.ref b, .int (nI e), .int (nI p2)], zB K b Nb (zby t), zI K la 316 (zna g2), zO lc 1 [.ref lcca, .ref lcma, .ref lcpa, .int (nI 32768)], zI K lcca 16 (zna cc1), zI K lcma 288 (zna gc1), zI K lcpa 16 (zna pc1), zO li 1 [.ref lica, .ref lima, .ref lipa, .int (nI (zuse g2 0 L))], zI K lica 16 (zna ci1), zI K lima 288 (zna gi1), zI K lipa 16 (zna pi1), zO di 1 [.ref dica, .ref dima, .ref dipa, .int (nI (zuse g2 L D))], zI K dica 16 (zna cd1), zI K dima 288 (zna gd1), zI K dipa 16 (zna pd1)]) [1, 2, 3, 13, 4, 5, 6, 0, 14, 7, 8, 9, 15, 10, 11, 12] rfl rfl rfl ?_
                              exact zj_vret F E d_UN_readToldCodes_157 (Nat.le_refl _) (Nat.le_refl _) ⟨_, _, _, _, _, _, _, _, _, _, _, _, _, _, _, _, hR.symm, hB2, ⟨Nat.le_trans hm2 (by omega), fun l h1 h2 r hr => (hm3 l h1 h2 r hr).trans (zth_congr L hz0 r), fun l r => Nat.lt_of_lt_of_le (zth_lt c2 0 l L r (by omega)) (by omega)⟩, fun l hl => (hm1 l hl).trans (zcnt_congr L hz0), ⟨Nat.le_trans hn2' (by omega), fun l h1 h2 r hr => (hn3' l h1 h2 r hr).trans (zth_congr D hz1 r), fun l r => Nat.lt_of_lt_of_le (zth_lt c2 L l D r (by omega)) (by omega)⟩, fun l hl => (hn1' l hl).trans (zcnt_congr D hz1), rfl, rfl⟩
                            · have hqD : ¬ zuse g2 L D = 32768 := fun q => by rw [if_pos q] at h134; cases h134
                              refine zj_aload_n F d_UN_readToldCodes_137 3 rfl rfl ?_
                              refine zj_get F d_UN_readToldCodes_138 1 4 rfl rfl in_UN (by decide) q_85 rfl ?_
                              have hcd1 : cd1 1 ≤ 288 := by rw [hn1' 1 (by decide)]; exact Nat.le_trans (zcnt_le g2 L 1 D) (by omega)
                              refine zj_call (maxL := 1) (wr := [zI K lcpa 16 (zna pc1), zO u 3 [.ref r, .ref fl, .ref fd, .ref li, .ref di, .ref lc, .ref la, .ref ob, .int (nI w)], zO r 0 [.ref b, .int (nI e), .int (nI p2)], zB K b Nb (zby t), zO lc 1 [.ref lcca, .ref lcma, .ref lcpa, .int (nI 32768)], zI K lcca 16 (zna cc1), zI K lcma 288 (zna gc1), zI K lica 16 (zna ci1), zI K lima 288 (zna gi1), zI K lipa 16 (zna pi1), zI K dima 288 (zna gd1), zI K dipa 16 (zna pd1), zI K la 316 (zna g2), zO li 1 [.ref lica, .ref lima, .ref lipa, .int (nI (zuse g2 0 L))]]) F E (m_CO_one l K di dica dima dipa (zuse g2 L D) cd1 (by omega) (by omega)) (zi_V (As := []) (rest := []) F d_UN_readToldCodes_141 15 rfl rfl rfl q_409 q_410 q_411 q_412 (Or.inl ⟨_, _, rfl⟩) (by decide) (show Option.map (fun d => d.parameters.length) (parseMethodDescriptor y_CO_areOneOfOneBitOrNone.desc) = some 0 from by decide +kernel)) d_UN_readToldCodes_141 q_412 (Or.inl ⟨_, _, rfl⟩) q_4 [15, 10] [0, 1, 2, 3, 4, 5, 6, 7, 8, 9, 11, 12, 13, 14] rfl rfl rfl rfl (by decide) ⟨by decide, by decide, by decide, by decide⟩ (Nat.le_of_ble_eq_true rfl) (fun v w1 hq => ?_) (fun X w1 hq => ?_)
                              · obtain ⟨rfl, rfl⟩ := hq
                                show zj G 0 0 144 [(3, .int (nI T)), (2, .int (nI D)), (1, .int (nI L)), (0, .ref u)] [.int (nI (if zuse g2 L D = 0 ∨ (zuse g2 L D = 16384 ∧ cd1 1 = 1) then 1 else 0))] [zI K lcpa 16 (zna pc1), zO u 3 [.ref r, .ref fl, .ref fd, .ref li, .ref di, .ref lc, .ref la, .ref ob, .int (nI w)], zO r 0 [.ref b, .int (nI e), .int (nI p2)], zB K b Nb (zby t), zO lc 1 [.ref lcca, .ref lcma, .ref lcpa, .int (nI 32768)], zI K lcca 16 (zna cc1), zI K lcma 288 (zna gc1), zI K lica 16 (zna ci1), zI K lima 288 (zna gi1), zI K lipa 16 (zna pi1), zI K dima 288 (zna gd1), zI K dipa 16 (zna pd1), zI K la 316 (zna g2), zO li 1 [.ref lica, .ref lima, .ref lipa, .int (nI (zuse g2 0 L))], zO di 1 [.ref dica, .ref dima, .ref dipa, .int (nI (zuse g2 L D))], zI K dica 16 (zna cd1)]
                                have hi4 : (if zuse g2 L D = 0 ∨ (zuse g2 L D = 16384 ∧ cd1 1 = 1) then 1 else 0) < 2 ^ 31 := by by_cases hq : zuse g2 L D = 0 ∨ (zuse g2 L D = 16384 ∧ cd1 1 = 1) <;> simp [hq]
                                have hcc1 : cd1 1 = zcnt c2 L 1 D := (hn1' 1 (by decide)).trans (zcnt_congr D hz1)
                                refine zj_if_ne (tgt := 157) F d_UN_readToldCodes_144 (by decide) (zI_eq0 hi4) (fun h144 => ?_) (fun h144 => ?_)
                                · rw [if_pos (by rw [← hu1, ← hcc1]; exact Or.inr (Decidable.byContradiction (fun q => h144 (if_neg q))))] at hR
                                  refine zj_wsub (ws' := [zO u 3 [.ref r, .ref fl, .ref fd, .ref li, .ref di, .ref lc, .ref la, .ref ob, .int (nI w)], zO r 0 [.ref b, .int (nI e), .int (nI p2)], zB K b Nb (zby t), zI K la 316 (zna g2), zO lc 1 [.ref lcca, .ref lcma, .ref lcpa, .int (nI 32768)], zI K lcca 16 (zna cc1), zI K lcma 288 (zna gc1), zI K lcpa 16 (zna pc1), zO li 1 [.ref lica, .ref lima, .ref lipa, .int (nI (zuse g2 0 L))], zI K lica 16 (zna ci1), zI K lima 288 (zna gi1), zI K lipa 16 (zna pi1), zO di 1 [.ref dica, .ref dima, .ref dipa, .int (nI (zuse g2 L D))], zI K dica 16 (zna cd1), zI K dima 288 (zna gd1), zI K dipa 16 (zna pd1)]) [1, 2, 3, 12, 4, 5, 6, 0, 13, 7, 8, 9, 14, 15, 10, 11] rfl rfl rfl ?_
                                  exact zj_vret F E d_UN_readToldCodes_157 (Nat.le_refl _) (Nat.le_refl _) ⟨_, _, _, _, _, _, _, _, _, _, _, _, _, _, _, _, hR.symm, hB2, ⟨Nat.le_trans hm2 (by omega), fun l h1 h2 r hr => (hm3 l h1 h2 r hr).trans (zth_congr L hz0 r), fun l r => Nat.lt_of_lt_of_le (zth_lt c2 0 l L r (by omega)) (by omega)⟩, fun l hl => (hm1 l hl).trans (zcnt_congr L hz0), ⟨Nat.le_trans hn2' (by omega), fun l h1 h2 r hr => (hn3' l h1 h2 r hr).trans (zth_congr D hz1 r), fun l r => Nat.lt_of_lt_of_le (zth_lt c2 L l D r (by omega)) (by omega)⟩, fun l hl => (hn1' l hl).trans (zcnt_congr D hz1), rfl, rfl⟩
                                · have hq4 : ¬ (zuse g2 L D = 0 ∨ (zuse g2 L D = 16384 ∧ cd1 1 = 1)) := fun q => by rw [if_pos q] at h144; cases h144
                                  rw [if_neg (by rw [← hu1, ← hcc1]; exact fun q => q.elim hqD hq4)] at hR
                                  refine zj_wsub (ws' := [zO u 3 [.ref r, .ref fl, .ref fd, .ref li, .ref di, .ref lc, .ref la, .ref ob, .int (nI w)], zO r 0 [.ref b, .int (nI e), .int (nI p2)], zB K b Nb (zby t), zI K la 316 (zna g2), zO lc 1 [.ref lcca, .ref lcma, .ref lcpa, .int (nI 32768)], zI K lcca 16 (zna cc1), zI K lcma 288 (zna gc1), zI K lcpa 16 (zna pc1), zO li 1 [.ref lica, .ref lima, .ref lipa, .int (nI (zuse g2 0 L))], zI K lica 16 (zna ci1), zI K lima 288 (zna gi1), zI K lipa 16 (zna pi1), zO di 1 [.ref dica, .ref dima, .ref dipa, .int (nI (zuse g2 L D))], zI K dica 16 (zna cd1), zI K dima 288 (zna gd1), zI K dipa 16 (zna pd1)]) [1, 2, 3, 12, 4, 5, 6, 0, 13, 7, 8, 9, 14, 15, 10, 11] rfl rfl rfl ?_
                                  exact zj_throwS (names := zt_up) F E hl d_UN_readToldCodes_147 d_UN_readToldCodes_150 d_UN_readToldCodes_151 d_UN_readToldCodes_153 d_UN_readToldCodes_156 (by decide +kernel) (by decide +kernel) q_413 (at_UN_83) ⟨by decide, by decide, by decide, by decide⟩ rfl (by decide) (by decide) ⟨hR.symm, _, _, _, _, _, _, _, _, _, _, _, _, _, _, by decide, rfl⟩
                              · exact hq.elim
                          · exact hq.elim
                        · rw [if_neg (fun q => by rw [← hu0] at q; rw [if_pos q.2] at h114; cases h114)] at hR
                          refine zj_wsub (ws' := [zO u 3 [.ref r, .ref fl, .ref fd, .ref li, .ref di, .ref lc, .ref la, .ref ob, .int (nI w)], zO r 0 [.ref b, .int (nI e), .int (nI p2)], zB K b Nb (zby t), zI K la 316 (zna g2), zO lc 1 [.ref lcca, .ref lcma, .ref lcpa, .int (nI 32768)], zI K lcca 16 (zna cc1), zI K lcma 288 (zna gc1), zI K lcpa 16 (zna pc1), zO li 1 [.ref lica, .ref lima, .ref lipa, .int (nI (zuse g2 0 L))], zI K lica 16 (zna ci1), zI K lima 288 (zna gi1), zI K lipa 16 (zna pi1), zO di 1 [.ref dica, .ref dima, .ref dipa, .int (nI (zuse g2 L D))], zI K dica 16 (zna cd1), zI K dima 288 (zna gd1), zI K dipa 16 (zna pd1)]) [1, 2, 3, 14, 4, 5, 6, 0, 15, 7, 8, 9, 10, 11, 12, 13] rfl rfl rfl ?_
                          exact zj_throwS (names := zt_up) F E hl d_UN_readToldCodes_117 d_UN_readToldCodes_120 d_UN_readToldCodes_121 d_UN_readToldCodes_123 d_UN_readToldCodes_126 (by decide +kernel) (by decide +kernel) q_408 (at_UN_83) ⟨by decide, by decide, by decide, by decide⟩ rfl (by decide) (by decide) ⟨hR.symm, _, _, _, _, _, _, _, _, _, _, _, _, _, _, by decide, rfl⟩
                      · exact hq.elim
                  · exact hq.elim
                · exact hq.elim
              · obtain ⟨hx1, p9, g9, rfl⟩ := hq
                exact ⟨rfl, by decide, by decide, [9, 10, 11, 12, 13, 14, 15, 8, 0, 1, 2, 3, 4, 5, 6, 7], [zO u 3 [.ref r, .ref fl, .ref fd, .ref li, .ref di, .ref lc, .ref la, .ref ob, .int (nI w)], zO r 0 [.ref b, .int (nI e), .int (nI p9)], zB K b Nb (zby t), zI K la 316 (zna g9), zO lc 1 [.ref lcca, .ref lcma, .ref lcpa, .int (nI 32768)], zI K lcca 16 (zna cc1), zI K lcma 288 (zna gc1), zI K lcpa 16 (zna pc1), zO li 1 [.ref lica, .ref lima, .ref lipa, .int (nI iu)], zI K lica 16 (zna ci), zI K lima 288 (zna gi), zI K lipa 16 (zna pi), zO di 1 [.ref dica, .ref dima, .ref dipa, .int (nI du)], zI K dica 16 (zna cd), zI K dima 288 (zna gd), zI K dipa 16 (zna pd)], rfl, rfl, ⟨hR.symm.trans (by rw [hx1]), _, _, _, _, _, _, _, _, _, _, _, _, _, _, by decide, rfl⟩⟩
            · obtain ⟨hx1, p9, g9, lu9, cc9, gc9, pc9, hlu9, rfl⟩ := hq
              exact ⟨rfl, by decide, by decide, [8, 9, 10, 11, 12, 13, 14, 15, 0, 1, 2, 3, 4, 5, 6, 7], [zO u 3 [.ref r, .ref fl, .ref fd, .ref li, .ref di, .ref lc, .ref la, .ref ob, .int (nI w)], zO r 0 [.ref b, .int (nI e), .int (nI p9)], zB K b Nb (zby t), zI K la 316 (zna g9), zO lc 1 [.ref lcca, .ref lcma, .ref lcpa, .int (nI lu9)], zI K lcca 16 (zna cc9), zI K lcma 288 (zna gc9), zI K lcpa 16 (zna pc9), zO li 1 [.ref lica, .ref lima, .ref lipa, .int (nI iu)], zI K lica 16 (zna ci), zI K lima 288 (zna gi), zI K lipa 16 (zna pi), zO di 1 [.ref dica, .ref dima, .ref dipa, .int (nI du)], zI K dica 16 (zna cd), zI K dima 288 (zna gd), zI K dipa 16 (zna pd)], rfl, rfl, ⟨hR.symm.trans (by rw [hx1]), _, _, _, _, _, _, _, _, _, _, _, _, _, _, hlu9, rfl⟩⟩
          · unfold ztoldL at hR
            rw [if_neg (by omega)] at hR
            refine zj_wsub (ws' := [zO u 3 [.ref r, .ref fl, .ref fd, .ref li, .ref di, .ref lc, .ref la, .ref ob, .int (nI w)], zO r 0 [.ref b, .int (nI e), .int (nI (p + 5 + 5 + 4))], zB K b Nb (zby t), zI K la 316 (zna g), zO lc 1 [.ref lcca, .ref lcma, .ref lcpa, .int (nI lu)], zI K lcca 16 (zna cc), zI K lcma 288 (zna gc), zI K lcpa 16 (zna pc), zO li 1 [.ref lica, .ref lima, .ref lipa, .int (nI iu)], zI K lica 16 (zna ci), zI K lima 288 (zna gi), zI K lipa 16 (zna pi), zO di 1 [.ref dica, .ref dima, .ref dipa, .int (nI du)], zI K dica 16 (zna cd), zI K dima 288 (zna gd), zI K dipa 16 (zna pd)]) [0, 14, 15, 1, 2, 3, 4, 5, 6, 7, 8, 9, 10, 11, 12, 13] rfl rfl rfl ?_
            exact zj_throwS (names := zt_up) F E hl d_UN_readToldCodes_48 d_UN_readToldCodes_51 d_UN_readToldCodes_52 d_UN_readToldCodes_54 d_UN_readToldCodes_57 (by decide +kernel) (by decide +kernel) q_386 (at_UN_83) ⟨by decide, by decide, by decide, by decide⟩ rfl (by decide) (by decide) ⟨hR.symm, _, _, _, _, _, _, _, _, _, _, _, _, _, _, hlu, rfl⟩
      · obtain ⟨hx1, rfl, rfl⟩ := hq
        exact ⟨rfl, by decide, by decide, [0, 14, 15, 1, 2, 3, 4, 5, 6, 7, 8, 9, 10, 11, 12, 13], [zO u 3 [.ref r, .ref fl, .ref fd, .ref li, .ref di, .ref lc, .ref la, .ref ob, .int (nI w)], zO r 0 [.ref b, .int (nI e), .int (nI (p + 5 + 5))], zB K b Nb (zby t), zI K la 316 (zna g), zO lc 1 [.ref lcca, .ref lcma, .ref lcpa, .int (nI lu)], zI K lcca 16 (zna cc), zI K lcma 288 (zna gc), zI K lcpa 16 (zna pc), zO li 1 [.ref lica, .ref lima, .ref lipa, .int (nI iu)], zI K lica 16 (zna ci), zI K lima 288 (zna gi), zI K lipa 16 (zna pi), zO di 1 [.ref dica, .ref dima, .ref dipa, .int (nI du)], zI K dica 16 (zna cd), zI K dima 288 (zna gd), zI K dipa 16 (zna pd)], rfl, rfl, ⟨hR.symm.trans (by unfold ztold; rw [if_pos hq1a, if_pos hq1b, if_neg hx1]), _, _, _, _, _, _, _, _, _, _, _, _, _, _, hlu, rfl⟩⟩
    · obtain ⟨hx1, rfl, rfl⟩ := hq
      exact ⟨rfl, by decide, by decide, [0, 14, 15, 1, 2, 3, 4, 5, 6, 7, 8, 9, 10, 11, 12, 13], [zO u 3 [.ref r, .ref fl, .ref fd, .ref li, .ref di, .ref lc, .ref la, .ref ob, .int (nI w)], zO r 0 [.ref b, .int (nI e), .int (nI (p + 5))], zB K b Nb (zby t), zI K la 316 (zna g), zO lc 1 [.ref lcca, .ref lcma, .ref lcpa, .int (nI lu)], zI K lcca 16 (zna cc), zI K lcma 288 (zna gc), zI K lcpa 16 (zna pc), zO li 1 [.ref lica, .ref lima, .ref lipa, .int (nI iu)], zI K lica 16 (zna ci), zI K lima 288 (zna gi), zI K lipa 16 (zna pi), zO di 1 [.ref dica, .ref dima, .ref dipa, .int (nI du)], zI K dica 16 (zna cd), zI K dima 288 (zna gd), zI K dipa 16 (zna pd)], rfl, rfl, ⟨hR.symm.trans (by unfold ztold; rw [if_pos hq1a, if_neg hx1]), _, _, _, _, _, _, _, _, _, _, _, _, _, _, hlu, rfl⟩⟩
  · obtain ⟨hx1, rfl, rfl⟩ := hq
    exact ⟨rfl, by decide, by decide, [0, 14, 15, 1, 2, 3, 4, 5, 6, 7, 8, 9, 10, 11, 12, 13], [zO u 3 [.ref r, .ref fl, .ref fd, .ref li, .ref di, .ref lc, .ref la, .ref ob, .int (nI w)], zO r 0 [.ref b, .int (nI e), .int (nI p)], zB K b Nb (zby t), zI K la 316 (zna g), zO lc 1 [.ref lcca, .ref lcma, .ref lcpa, .int (nI lu)], zI K lcca 16 (zna cc), zI K lcma 288 (zna gc), zI K lcpa 16 (zna pc), zO li 1 [.ref lica, .ref lima, .ref lipa, .int (nI iu)], zI K lica 16 (zna ci), zI K lima 288 (zna gi), zI K lipa 16 (zna pi), zO di 1 [.ref dica, .ref dima, .ref dipa, .int (nI du)], zI K dica 16 (zna cd), zI K dima 288 (zna gd), zI K dipa 16 (zna pd)], rfl, rfl, ⟨hR.symm.trans (by unfold ztold; rw [if_neg hx1]), _, _, _, _, _, _, _, _, _, _, _, _, _, _, hlu, rfl⟩⟩
