theorem zby_low {o : Nat → Nat} {j : Nat} (h : o j < 256) : zlow (zby o j) = o j := zlow_sb _ h
theorem zup_lt {o : Nat → Nat} (h : ∀ j, o j < 256) (k : Nat) {v : Nat} (hv : v < 256) : ∀ j, va_up o k v j < 256 := by
  intro j
  unfold va_up
  by_cases hj : j = k
  · simp only [hj, if_true]; exact hv
  · simp only [hj, if_false]; exact h j
theorem ztab_len : ∀ k, k < 29 → ztab 1 k ≤ 5 ∧ ztab 0 k ≤ 258 ∧ 3 ≤ ztab 0 k := by decide +kernel
theorem ztab_dis : ∀ k, k < 30 → ztab 3 k ≤ 13 ∧ ztab 2 k ≤ 24577 ∧ 1 ≤ ztab 2 k := by decide +kernel
/-- a set of codes: how many of each length, and what they mean, as the arrays hold it -/
def zCS (cn mg : Nat → Nat) (mf : Nat → Nat → Nat) : Prop := zbas cn 16 ≤ 288 ∧ (∀ l, 1 ≤ l → l ≤ 15 → ∀ r, r < cn l → mg (zbas cn l + r) = mf l r) ∧ ∀ l r, mf l r < 288
theorem zdec_val {t : Nat → Nat} {e : Nat} {cn : Nat → Nat} {mf : Nat → Nat → Nat} (hm : ∀ l r, mf l r < 288) : ∀ (fuel len code first p x p' : Nat), zdec t e cn mf fuel len code first p = some (x, p') → x < 288
  | 0, _, _, _, _, _, _, h => by cases h
  | fuel + 1, len, code, first, p, x, p', h => by
    unfold zdec at h
    by_cases h1 : p < e
    · rw [if_pos h1] at h
      by_cases h2 : 2 * code + zbit t p < first + cn len
      · rw [if_pos h2] at h; cases h; exact hm _ _
      · rw [if_neg h2] at h
        exact zdec_val hm fuel _ _ _ _ _ _ h
    · rw [if_neg h1] at h; cases h
/-- stored bytes -/
def zsto (t : Nat → Nat) (e : Nat) : Nat → Nat → (Nat → Nat) → Nat → Except String (Nat × (Nat → Nat) × Nat)
  | 0, p, o, w => .ok (p, o, w)
  | n + 1, p, o, w => if p + 8 ≤ e then (if w < 16384 then zsto t e n (p + 8) (va_up o w (znum t p 8)) (w + 1) else .error zY) else .error zU
/-- a stored block -/
def zstb (t : Nat → Nat) (e p : Nat) (o : Nat → Nat) (w : Nat) : Except String (Nat × (Nat → Nat) × Nat) :=
  if (p + 7) / 8 * 8 + 16 ≤ e then
    if (p + 7) / 8 * 8 + 16 + 16 ≤ e then
      if znum t ((p + 7) / 8 * 8 + 16) 16 = 65535 - znum t ((p + 7) / 8 * 8) 16 then zsto t e (znum t ((p + 7) / 8 * 8) 16) ((p + 7) / 8 * 8 + 16 + 16) o w
      else .error zU
    else .error zU
  else .error zU
/-- bytes copied out of the result -/
def zcpy (dist : Nat) : Nat → (Nat → Nat) → Nat → Except String ((Nat → Nat) × Nat)
  | 0, o, w => .ok (o, w)
  | n + 1, o, w => if w < 16384 then zcpy dist n (va_up o w (o (w - dist))) (w + 1) else .error zY
def zcop (t : Nat → Nat) (e : Nat) (cd : Nat → Nat) (md : Nat → Nat → Nat) (kind p : Nat) (o : Nat → Nat) (w : Nat) : Except String (Nat × (Nat → Nat) × Nat) :=
  if kind < 29 then
    if p + ztab 1 kind ≤ e then
      match zdec t e cd md 15 1 0 0 (p + ztab 1 kind) with
      | none => .error zU
      | some (far, p2) =>
        if far < 30 then
          if p2 + ztab 3 far ≤ e then
            if ztab 2 far + znum t p2 (ztab 3 far) ≤ w then
              match zcpy (ztab 2 far + znum t p2 (ztab 3 far)) (ztab 0 kind + znum t p (ztab 1 kind)) o w with
              | .error X => .error X
              | .ok (o', w') => .ok (p2 + ztab 3 far, o', w')
            else .error zU
          else .error zU
        else .error zU
    else .error zU
  else .error zU
/-- a coded block: one symbol, then k -/
def zcodS (t : Nat → Nat) (e : Nat) (cl : Nat → Nat) (ml : Nat → Nat → Nat) (cd : Nat → Nat) (md : Nat → Nat → Nat) (k : Nat → (Nat → Nat) → Nat → Except String (Nat × (Nat → Nat) × Nat)) (p : Nat) (o : Nat → Nat) (w : Nat) : Except String (Nat × (Nat → Nat) × Nat) :=
  match zdec t e cl ml 15 1 0 0 p with
  | none => .error zU
  | some (sym, p1) =>
    if sym = 256 then .ok (p1, o, w)
    else if sym < 256 then (if w < 16384 then k p1 (va_up o w sym) (w + 1) else .error zY)
    else match zcop t e cd md (sym - 257) p1 o w with
      | .error X => .error X
      | .ok (p2, o2, w2) => k p2 o2 w2
def zcod (t : Nat → Nat) (e : Nat) (cl : Nat → Nat) (ml : Nat → Nat → Nat) (cd : Nat → Nat) (md : Nat → Nat → Nat) : Nat → Nat → (Nat → Nat) → Nat → Except String (Nat × (Nat → Nat) × Nat)
  | 0 => fun p o w => .ok (p, o, w)
  | f + 1 => zcodS t e cl ml cd md (zcod t e cl ml cd md f)
theorem zcod_s (t : Nat → Nat) (e : Nat) (cl : Nat → Nat) (ml : Nat → Nat → Nat) (cd : Nat → Nat) (md : Nat → Nat → Nat) (f p : Nat) (o : Nat → Nat) (w : Nat) : zcod t e cl ml cd md (f + 1) p o w = zcodS t e cl ml cd md (zcod t e cl ml cd md f) p o w := rfl
/-- more than all bits of a tape -/
def zfu : Nat := 131072
theorem zfu_eq : zfu = 131072 := rfl
set_option maxHeartbeats 4000000 in
set_option maxRecDepth 100000 in
/-- put(value) -/
theorem m_UN_put (l : Launch) (hl : l.stackTraces = false) (K : zk) (u r fl fd li di lc la ob : Nat) (w : Nat) (o : Nat → Nat) (x : Int32) (hw : w ≤ 16384) : zc l K y_UN_put w_UN_put { frames := 6, cells := 1, slots := 6, locals := 100 } 0 0 1 6 [.ref u, .int x] [zO u 3 [.ref r, .ref fl, .ref fd, .ref li, .ref di, .ref lc, .ref la, .ref ob, .int (nI w)], zB K ob 16384 (zby o)] (fun v w1 => w < 16384 ∧ v = none ∧ w1 = [zO u 3 [.ref r, .ref fl, .ref fd, .ref li, .ref di, .ref lc, .ref la, .ref ob, .int (nI (w + 1))], zB K ob 16384 (zby (va_up o w (zlow x)))]) (fun X w1 => ¬ w < 16384 ∧ X = zY ∧ w1 = [zO u 3 [.ref r, .ref fl, .ref fd, .ref li, .ref di, .ref lc, .ref la, .ref ob, .int (nI w)], zB K ob 16384 (zby o)]) := by
  refine zc_of (cc := c_UN_put) (nl := 2) (ret := none) (by decide) (Nat.le_of_ble_eq_true rfl) (fun G F E => ?_)
  have F : zf G l K { frames := 6, cells := 1, slots := 6, locals := 100 } "ZlibBox$Unpacker" c_UN_put 2 := F
  show zj G 0 0 0 [(0, .ref u), (1, .int x)] [] [zO u 3 [.ref r, .ref fl, .ref fd, .ref li, .ref di, .ref lc, .ref la, .ref ob, .int (nI w)], zB K ob 16384 (zby o)]
  refine zj_aload_n F d_UN_put_0 0 rfl rfl ?_
  refine zj_get F d_UN_put_1 0 8 rfl rfl in_UN (by decide) q_89 rfl ?_
  refine zj_sipush (v := nI 16384) F d_UN_put_4 (by decide) ?_
  refine zj_icmp_lt (tgt := 20) F d_UN_put_7 (by decide) (nI_ltI (by omega) (by omega)) (fun h7 => ?_) (fun h7 => ?_)
  · refine zj_aload_n F d_UN_put_20 0 rfl rfl ?_
    refine zj_get F d_UN_put_21 0 7 rfl rfl in_UN (by decide) q_88 rfl ?_
    refine zj_aload_n F d_UN_put_24 0 rfl rfl ?_
    refine zj_get F d_UN_put_25 0 8 rfl rfl in_UN (by decide) q_89 rfl ?_
    refine zj_iload_n F d_UN_put_28 1 rfl rfl ?_
    refine zj_i2b F d_UN_put_29 rfl ?_
    refine zj_bast (ws' := [zO u 3 [.ref r, .ref fl, .ref fd, .ref li, .ref di, .ref lc, .ref la, .ref ob, .int (nI w)], zB K ob 16384 (zby (va_up o w (zlow (x))))]) F d_UN_put_30 1 0 w rfl rfl rfl (by omega) (by omega) (by rw [zby_updB]; rfl) ?_
    refine zj_aload_n F d_UN_put_31 0 rfl rfl ?_
    refine zj_dup F d_UN_put_32 rfl ?_
    refine zj_get F d_UN_put_33 0 8 rfl rfl in_UN (by decide) q_89 rfl ?_
    refine zj_iconst (v := nI 1) F d_UN_put_36 (by decide) ?_
    refine zj_iadd F d_UN_put_37 (nI_add _ _) ?_
    refine zj_put (ws' := [zO u 3 [.ref r, .ref fl, .ref fd, .ref li, .ref di, .ref lc, .ref la, .ref ob, .int (nI (w + 1))], zB K ob 16384 (zby (va_up o w (zlow (x))))]) F d_UN_put_38 0 8 rfl rfl in_UN ty_UN nm_UN (by decide) q_89 rfl rfl rfl (Nat.le_of_ble_eq_true rfl) rfl ?_
    exact zj_vret F E d_UN_put_41 (Nat.le_refl _) (Nat.le_refl _) ⟨h7, rfl, rfl⟩
  · exact zj_throwS (names := zt_up) F E hl d_UN_put_10 d_UN_put_13 d_UN_put_14 d_UN_put_16 d_UN_put_19 (by decide +kernel) (by decide +kernel) q_353 (at_UN_184) ⟨by decide, by decide, by decide, by decide⟩ rfl (by decide) (by decide) ⟨h7, rfl, rfl⟩
set_option maxHeartbeats 4000000 in
set_option maxRecDepth 100000 in
/-- readStored() -/
theorem m_UN_stored (l : Launch) (hl : l.stackTraces = false) (K : zk) (u r fl fd li di lc la ob : Nat) (b Nb e p w : Nat) (t o : Nat → Nat) (R : Except String (Nat × (Nat → Nat) × Nat)) (hb : ∀ j, t j < 256) (hN : Nb ≤ 16384) (he : e % 8 = 0 ∧ e ≤ 8 * Nb) (hp : p ≤ e) (ho : ∀ j, o j < 256) (hw : w ≤ 16384) (hR : zstb t e p o w = R) : zc l K y_UN_readStored w_UN_readStored { frames := 7, cells := 1, slots := 6, locals := 123 } 0 0 1 6 [.ref u] [zO u 3 [.ref r, .ref fl, .ref fd, .ref li, .ref di, .ref lc, .ref la, .ref ob, .int (nI w)], zO r 0 [.ref b, .int (nI e), .int (nI p)], zB K b Nb (zby t), zB K ob 16384 (zby o)] (fun v w1 => ∃ p' o' w', R = .ok (p', o', w') ∧ p' ≤ e ∧ w' ≤ 16384 ∧ (∀ j, o' j < 256) ∧ v = none ∧ w1 = [zO u 3 [.ref r, .ref fl, .ref fd, .ref li, .ref di, .ref lc, .ref la, .ref ob, .int (nI w')], zO r 0 [.ref b, .int (nI e), .int (nI p')], zB K b Nb (zby t), zB K ob 16384 (zby o')]) (fun X w1 => R = .error X ∧ ∃ p' o' w', w' ≤ 16384 ∧ (∀ j, o' j < 256) ∧ w1 = [zO u 3 [.ref r, .ref fl, .ref fd, .ref li, .ref di, .ref lc, .ref la, .ref ob, .int (nI w')], zO r 0 [.ref b, .int (nI e), .int (nI p')], zB K b Nb (zby t), zB K ob 16384 (zby o')]) := by
  refine zc_of (cc := c_UN_readStored) (nl := 3) (ret := none) (by decide) (Nat.le_of_ble_eq_true rfl) (fun G F E => ?_)
  have F : zf G l K { frames := 7, cells := 1, slots := 6, locals := 123 } "ZlibBox$Unpacker" c_UN_readStored 3 := F
  show zj G 0 0 0 [(0, .ref u)] [] [zO u 3 [.ref r, .ref fl, .ref fd, .ref li, .ref di, .ref lc, .ref la, .ref ob, .int (nI w)], zO r 0 [.ref b, .int (nI e), .int (nI p)], zB K b Nb (zby t), zB K ob 16384 (zby o)]
  have hN2 : Nb < 2 ^ 24 := by omega
  have he2 : e ≤ 8 * Nb := by omega
  refine zj_aload_n F d_UN_readStored_0 0 rfl rfl ?_
  refine zj_get F d_UN_readStored_1 0 0 rfl rfl in_UN (by decide) q_81 rfl ?_
  refine zj_call (maxL := 1) (wr := [zO u 3 [.ref r, .ref fl, .ref fd, .ref li, .ref di, .ref lc, .ref la, .ref ob, .int (nI w)], zB K ob 16384 (zby o)]) F E (m_BR_skip l K r b Nb e p t (by omega)) (zi_V (As := []) (rest := []) F d_UN_readStored_4 1 rfl rfl rfl q_342 q_343 q_344 q_345 (Or.inl ⟨_, _, rfl⟩) (by decide) (show Option.map (fun d => d.parameters.length) (parseMethodDescriptor y_BR_skipToByte.desc) = some 0 from by decide +kernel)) d_UN_readStored_4 q_345 (Or.inl ⟨_, _, rfl⟩) q_3 [1, 2] [0, 3] rfl rfl rfl rfl (by decide) ⟨by decide, by decide, by decide, by decide⟩ (Nat.le_of_ble_eq_true rfl) (fun v w1 hq => ?_) (fun X w1 hq => ?_)
  · obtain ⟨rfl, rfl⟩ := hq
    show zj G 0 0 7 [(0, .ref u)] [] [zO u 3 [.ref r, .ref fl, .ref fd, .ref li, .ref di, .ref lc, .ref la, .ref ob, .int (nI w)], zB K ob 16384 (zby o), zO r 0 [.ref b, .int (nI e), .int (nI ((p + 7) / 8 * 8))], zB K b Nb (zby t)]
    refine zj_aload_n F d_UN_readStored_7 0 rfl rfl ?_
    refine zj_get F d_UN_readStored_8 0 0 rfl rfl in_UN (by decide) q_81 rfl ?_
    refine zj_bipush (v := nI 16) F d_UN_readStored_11 (by decide) ?_
    refine zj_call (maxL := 4) (wr := [zO u 3 [.ref r, .ref fl, .ref fd, .ref li, .ref di, .ref lc, .ref la, .ref ob, .int (nI w)], zB K ob 16384 (zby o)]) F E (m_BR_number l hl K r b Nb e ((p + 7) / 8 * 8) 16 t hb hN2 he2 (by decide) (by omega)) (zi_V (As := [.int (nI 16)]) (rest := []) F d_UN_readStored_13 2 rfl rfl rfl q_306 q_307 q_308 q_309 (Or.inl ⟨_, _, rfl⟩) (by decide) (show Option.map (fun d => d.parameters.length) (parseMethodDescriptor y_BR_number.desc) = some 1 from by decide +kernel)) d_UN_readStored_13 q_309 (Or.inl ⟨_, _, rfl⟩) q_3 [2, 3] [0, 1] rfl rfl rfl rfl (by decide) ⟨by decide, by decide, by decide, by decide⟩ (Nat.le_of_ble_eq_true rfl) (fun v w1 hq => ?_) (fun X w1 hq => ?_)
    · obtain ⟨hq1, rfl, rfl⟩ := hq
      show zj G 0 0 16 [(0, .ref u)] [.int (nI (znum t ((p + 7) / 8 * 8) 16))] [zO u 3 [.ref r, .ref fl, .ref fd, .ref li, .ref di, .ref lc, .ref la, .ref ob, .int (nI w)], zB K ob 16384 (zby o), zO r 0 [.ref b, .int (nI e), .int (nI ((p + 7) / 8 * 8 + 16))], zB K b Nb (zby t)]
      have hq1a := hq1
      refine zj_istore_n (L' := [(1, .int (nI (znum t ((p + 7) / 8 * 8) 16))), (0, .ref u)]) F d_UN_readStored_16 rfl (by decide) rfl ?_
      refine zj_aload_n F d_UN_readStored_17 1 rfl rfl ?_
      refine zj_get F d_UN_readStored_18 0 0 rfl rfl in_UN (by decide) q_81 rfl ?_
      refine zj_bipush (v := nI 16) F d_UN_readStored_21 (by decide) ?_
      refine zj_call (maxL := 4) (wr := [zO u 3 [.ref r, .ref fl, .ref fd, .ref li, .ref di, .ref lc, .ref la, .ref ob, .int (nI w)], zB K ob 16384 (zby o)]) F E (m_BR_number l hl K r b Nb e ((p + 7) / 8 * 8 + 16) 16 t hb hN2 he2 (by decide) hq1) (zi_V (As := [.int (nI 16)]) (rest := []) F d_UN_readStored_23 2 rfl rfl rfl q_306 q_307 q_308 q_309 (Or.inl ⟨_, _, rfl⟩) (by decide) (show Option.map (fun d => d.parameters.length) (parseMethodDescriptor y_BR_number.desc) = some 1 from by decide +kernel)) d_UN_readStored_23 q_309 (Or.inl ⟨_, _, rfl⟩) q_3 [2, 3] [0, 1] rfl rfl rfl rfl (by decide) ⟨by decide, by decide, by decide, by decide⟩ (Nat.le_of_ble_eq_true rfl) (fun v w1 hq => ?_) (fun X w1 hq => ?_)
      · obtain ⟨hq1, rfl, rfl⟩ := hq
        show zj G 0 0 26 [(1, .int (nI (znum t ((p + 7) / 8 * 8) 16))), (0, .ref u)] [.int (nI (znum t ((p + 7) / 8 * 8 + 16) 16))] [zO u 3 [.ref r, .ref fl, .ref fd, .ref li, .ref di, .ref lc, .ref la, .ref ob, .int (nI w)], zB K ob 16384 (zby o), zO r 0 [.ref b, .int (nI e), .int (nI ((p + 7) / 8 * 8 + 16 + 16))], zB K b Nb (zby t)]
        have hn1 := znum_lt t ((p + 7) / 8 * 8) 16
        have hn2 := znum_lt t ((p + 7) / 8 * 8 + 16) 16
        refine zj_ldc (v := nI 65535) F d_UN_readStored_26 q_346 ?_
        refine zj_iload_n F d_UN_readStored_28 0 rfl rfl ?_
        refine zj_isub F d_UN_readStored_29 (pk_sub (by omega)) ?_
        refine zj_icmp_eq (tgt := 43) F d_UN_readStored_30 (by decide) (nI_eq (by omega) (by omega)) (fun h30 => ?_) (fun h30 => ?_)
        · unfold zstb at hR
          rw [if_pos hq1a, if_pos hq1, if_pos h30] at hR
          generalize hnn : znum t ((p + 7) / 8 * 8) 16 = nn at hR hn1 h30 ⊢
          refine zj_iconst (v := nI 0) F d_UN_readStored_43 (by decide) ?_
          refine zj_istore_n (L' := [(2, .int (nI 0)), (1, .int (nI nn)), (0, .ref u)]) F d_UN_readStored_44 rfl (by decide) rfl ?_
          refine zj_wsub (ws' := [zO u 3 [.ref r, .ref fl, .ref fd, .ref li, .ref di, .ref lc, .ref la, .ref ob, .int (nI w)], zO r 0 [.ref b, .int (nI e), .int (nI ((p + 7) / 8 * 8 + 16 + 16))], zB K b Nb (zby t), zB K ob 16384 (zby o)]) [0, 2, 3, 1] rfl rfl rfl ?_
          have key : ∀ d i p1 o1 w1, i + d = nn → p1 ≤ e → w1 ≤ 16384 → (∀ j, o1 j < 256) → zsto t e d p1 o1 w1 = R → zj G 0 0 45 [(0, .ref u), (1, .int (nI nn)), (2, .int (nI i))] [] [zO u 3 [.ref r, .ref fl, .ref fd, .ref li, .ref di, .ref lc, .ref la, .ref ob, .int (nI w1)], zO r 0 [.ref b, .int (nI e), .int (nI p1)], zB K b Nb (zby t), zB K ob 16384 (zby o1)] := by
            intro d
            induction d with
            | zero =>
              intro i p1 o1 w1 h1 hp1 hw1 ho1 h6
              show zj G 0 0 45 [(0, .ref u), (1, .int (nI nn)), (2, .int (nI i))] [] [zO u 3 [.ref r, .ref fl, .ref fd, .ref li, .ref di, .ref lc, .ref la, .ref ob, .int (nI w1)], zO r 0 [.ref b, .int (nI e), .int (nI p1)], zB K b Nb (zby t), zB K ob 16384 (zby o1)]
              refine zj_iload_n F d_UN_readStored_45 2 rfl rfl ?_
              refine zj_iload_n F d_UN_readStored_46 1 rfl rfl ?_
              refine zj_icmp_ge (tgt := 69) F d_UN_readStored_47 (by decide) (nI_leI (by omega) (by omega)) (fun h47 => ?_) (fun h47 => ?_)
              · exact zj_vret F E d_UN_readStored_69 (Nat.le_refl _) (Nat.le_refl _) ⟨_, _, _, h6.symm, hp1, hw1, ho1, rfl, rfl⟩
              · exact absurd h47 (by omega)
            | succ d ih =>
              intro i p1 o1 w1 h1 hp1 hw1 ho1 h6
              show zj G 0 0 45 [(0, .ref u), (1, .int (nI nn)), (2, .int (nI i))] [] [zO u 3 [.ref r, .ref fl, .ref fd, .ref li, .ref di, .ref lc, .ref la, .ref ob, .int (nI w1)], zO r 0 [.ref b, .int (nI e), .int (nI p1)], zB K b Nb (zby t), zB K ob 16384 (zby o1)]
              refine zj_iload_n F d_UN_readStored_45 2 rfl rfl ?_
              refine zj_iload_n F d_UN_readStored_46 1 rfl rfl ?_
              refine zj_icmp_ge (tgt := 69) F d_UN_readStored_47 (by decide) (nI_leI (by omega) (by omega)) (fun h47 => ?_) (fun h47 => ?_)
              · exact absurd h47 (by omega)
              · refine zj_aload_n F d_UN_readStored_50 0 rfl rfl ?_
                refine zj_aload_n F d_UN_readStored_51 0 rfl rfl ?_
                refine zj_get F d_UN_readStored_52 0 0 rfl rfl in_UN (by decide) q_81 rfl ?_
                refine zj_bipush (v := nI 8) F d_UN_readStored_55 (by decide) ?_
                refine zj_call (maxL := 4) (wr := [zO u 3 [.ref r, .ref fl, .ref fd, .ref li, .ref di, .ref lc, .ref la, .ref ob, .int (nI w1)], zB K ob 16384 (zby o1)]) F E (m_BR_number l hl K r b Nb e p1 8 t hb hN2 he2 (by decide) hp1) (zi_V (As := [.int (nI 8)]) (rest := [.ref u]) F d_UN_readStored_57 1 rfl rfl rfl q_306 q_307 q_308 q_309 (Or.inl ⟨_, _, rfl⟩) (by decide) (show Option.map (fun d => d.parameters.length) (parseMethodDescriptor y_BR_number.desc) = some 1 from by decide +kernel)) d_UN_readStored_57 q_309 (Or.inl ⟨_, _, rfl⟩) q_3 [1, 2] [0, 3] rfl rfl rfl rfl (by decide) ⟨by decide, by decide, by decide, by decide⟩ (Nat.le_of_ble_eq_true rfl) (fun v w1 hq => ?_) (fun X w1 hq => ?_)
                · obtain ⟨hq2, rfl, rfl⟩ := hq
                  show zj G 0 0 60 [(0, .ref u), (1, .int (nI nn)), (2, .int (nI i))] [.int (nI (znum t p1 8)), .ref u] [zO u 3 [.ref r, .ref fl, .ref fd, .ref li, .ref di, .ref lc, .ref la, .ref ob, .int (nI w1)], zB K ob 16384 (zby o1), zO r 0 [.ref b, .int (nI e), .int (nI (p1 + 8))], zB K b Nb (zby t)]
                  have hn3 := znum_lt t p1 8
                  refine zj_call (maxL := 2) (wr := [zO r 0 [.ref b, .int (nI e), .int (nI (p1 + 8))], zB K b Nb (zby t)]) F E (m_UN_put l hl K u r fl fd li di lc la ob w1 o1 (nI (znum t p1 8)) hw1) (zi_V (As := [.int (nI (znum t p1 8))]) (rest := []) F d_UN_readStored_60 0 rfl rfl rfl q_348 q_350 sel_UN_put q_351 (Or.inl ⟨_, _, rfl⟩) (by decide) (show Option.map (fun d => d.parameters.length) (parseMethodDescriptor y_UN_put.desc) = some 1 from by decide +kernel)) d_UN_readStored_60 q_351 (Or.inl ⟨_, _, rfl⟩) q_2 [0, 1] [2, 3] rfl rfl rfl rfl (by decide) ⟨by decide, by decide, by decide, by decide⟩ (Nat.le_of_ble_eq_true rfl) (fun v w1 hq => ?_) (fun X w1 hq => ?_)
                  · obtain ⟨hq3, rfl, rfl⟩ := hq
                    rw [zlow_nI, Nat.mod_eq_of_lt (show znum t p1 8 < 256 from hn3)]
                    show zj G 0 0 63 [(0, .ref u), (1, .int (nI nn)), (2, .int (nI i))] [] [zO r 0 [.ref b, .int (nI e), .int (nI (p1 + 8))], zB K b Nb (zby t), zO u 3 [.ref r, .ref fl, .ref fd, .ref li, .ref di, .ref lc, .ref la, .ref ob, .int (nI (w1 + 1))], zB K ob 16384 (zby (va_up o1 w1 (znum t p1 8)))]
                    refine zj_iinc (v := nI (i + 1)) (L' := [(2, .int (nI (i + 1))), (0, .ref u), (1, .int (nI nn))]) F d_UN_readStored_63 2 rfl (nI_add _ _) (by decide) rfl ?_
                    refine zj_goto F d_UN_readStored_66 (tgt := 45) (by decide) ?_
                    unfold zsto at h6
                    rw [if_pos hq2, if_pos hq3] at h6
                    refine zj_wsub (ws' := [zO u 3 [.ref r, .ref fl, .ref fd, .ref li, .ref di, .ref lc, .ref la, .ref ob, .int (nI (w1 + 1))], zO r 0 [.ref b, .int (nI e), .int (nI (p1 + 8))], zB K b Nb (zby t), zB K ob 16384 (zby (va_up o1 w1 (znum t p1 8)))]) [2, 0, 1, 3] rfl rfl rfl ?_
                    exact zj_sub [1, 2, 0] rfl (ih (i + 1) _ _ _ (by omega) (by omega) (by omega) (zup_lt ho1 _ hn3) h6)
                  · obtain ⟨hx1, rfl, rfl⟩ := hq
                    exact ⟨rfl, by decide, by decide, [2, 0, 1, 3], [zO u 3 [.ref r, .ref fl, .ref fd, .ref li, .ref di, .ref lc, .ref la, .ref ob, .int (nI w1)], zO r 0 [.ref b, .int (nI e), .int (nI (p1 + 8))], zB K b Nb (zby t), zB K ob 16384 (zby o1)], rfl, rfl, ⟨h6.symm.trans (by unfold zsto; rw [if_pos hq2, if_neg hx1]), _, _, _, hw1, ho1, rfl⟩⟩
                · obtain ⟨hx1, rfl, rfl⟩ := hq
                  exact ⟨rfl, by decide, by decide, [0, 2, 3, 1], [zO u 3 [.ref r, .ref fl, .ref fd, .ref li, .ref di, .ref lc, .ref la, .ref ob, .int (nI w1)], zO r 0 [.ref b, .int (nI e), .int (nI p1)], zB K b Nb (zby t), zB K ob 16384 (zby o1)], rfl, rfl, ⟨h6.symm.trans (by unfold zsto; rw [if_neg hx1]), _, _, _, hw1, ho1, rfl⟩⟩
          exact zj_sub [2, 1, 0] rfl (key nn 0 _ _ _ (by omega) hq1 hw ho hR)
        · refine zj_wsub (ws' := [zO u 3 [.ref r, .ref fl, .ref fd, .ref li, .ref di, .ref lc, .ref la, .ref ob, .int (nI w)], zO r 0 [.ref b, .int (nI e), .int (nI ((p + 7) / 8 * 8 + 16 + 16))], zB K b Nb (zby t), zB K ob 16384 (zby o)]) [0, 2, 3, 1] rfl rfl rfl ?_
          exact zj_throwS (names := zt_up) F E hl d_UN_readStored_33 d_UN_readStored_36 d_UN_readStored_37 d_UN_readStored_39 d_UN_readStored_42 (by decide +kernel) (by decide +kernel) q_347 (at_UN_83) ⟨by decide, by decide, by decide, by decide⟩ rfl (by decide) (by decide) ⟨hR.symm.trans (by unfold zstb; rw [if_pos hq1a, if_pos hq1, if_neg h30]), _, _, _, hw, ho, rfl⟩
      · obtain ⟨hx1, rfl, rfl⟩ := hq
        exact ⟨rfl, by decide, by decide, [0, 2, 3, 1], [zO u 3 [.ref r, .ref fl, .ref fd, .ref li, .ref di, .ref lc, .ref la, .ref ob, .int (nI w)], zO r 0 [.ref b, .int (nI e), .int (nI ((p + 7) / 8 * 8 + 16))], zB K b Nb (zby t), zB K ob 16384 (zby o)], rfl, rfl, ⟨hR.symm.trans (by unfold zstb; rw [if_pos hq1a, if_neg hx1]), _, _, _, hw, ho, rfl⟩⟩
    · obtain ⟨hx1, rfl, rfl⟩ := hq
      exact ⟨rfl, by decide, by decide, [0, 2, 3, 1], [zO u 3 [.ref r, .ref fl, .ref fd, .ref li, .ref di, .ref lc, .ref la, .ref ob, .int (nI w)], zO r 0 [.ref b, .int (nI e), .int (nI ((p + 7) / 8 * 8))], zB K b Nb (zby t), zB K ob 16384 (zby o)], rfl, rfl, ⟨hR.symm.trans (by unfold zstb; rw [if_neg hx1]), _, _, _, hw, ho, rfl⟩⟩
  · exact hq.elim
set_option maxHeartbeats 4000000 in
set_option maxRecDepth 100000 in
/-- readCopy(kind, forDistances) -/
theorem m_UN_copy (l : Launch) (hl : l.stackTraces = false) (K : zk) (u r fl fd li di lc la ob : Nat) (b Nb e p w : Nat) (t o : Nat → Nat) (d dca dma dpa du : Nat) (cd gd : Nat → Nat) (md : Nat → Nat → Nat) (kind : Nat) (R : Except String (Nat × (Nat → Nat) × Nat)) (hb : ∀ j, t j < 256) (hN : Nb ≤ 16384) (he : e % 8 = 0 ∧ e ≤ 8 * Nb) (hp : p ≤ e) (ho : ∀ j, o j < 256) (hw : w ≤ 16384) (hD : zCS cd gd md) (hkd : kind < 2 ^ 30) (hR : zcop t e cd md kind p o w = R) : zc l K y_UN_readCopy w_UN_readCopy { frames := 8, cells := 1, slots := 6, locals := 147 } 0 0 1 6 [.ref u, .int (nI kind), .ref d] [zO u 3 [.ref r, .ref fl, .ref fd, .ref li, .ref di, .ref lc, .ref la, .ref ob, .int (nI w)], zO r 0 [.ref b, .int (nI e), .int (nI p)], zB K b Nb (zby t), zB K ob 16384 (zby o), zO d 1 [.ref dca, .ref dma, .ref dpa, .int (nI du)], zI K dca 16 (zna cd), zI K dma 288 (zna gd)] (fun v w1 => ∃ p' o' w', R = .ok (p', o', w') ∧ p' ≤ e ∧ w' ≤ 16384 ∧ (∀ j, o' j < 256) ∧ v = none ∧ w1 = [zO u 3 [.ref r, .ref fl, .ref fd, .ref li, .ref di, .ref lc, .ref la, .ref ob, .int (nI w')], zO r 0 [.ref b, .int (nI e), .int (nI p')], zB K b Nb (zby t), zB K ob 16384 (zby o'), zO d 1 [.ref dca, .ref dma, .ref dpa, .int (nI du)], zI K dca 16 (zna cd), zI K dma 288 (zna gd)]) (fun X w1 => R = .error X ∧ ∃ p' o' w', w' ≤ 16384 ∧ (∀ j, o' j < 256) ∧ w1 = [zO u 3 [.ref r, .ref fl, .ref fd, .ref li, .ref di, .ref lc, .ref la, .ref ob, .int (nI w')], zO r 0 [.ref b, .int (nI e), .int (nI p')], zB K b Nb (zby t), zB K ob 16384 (zby o'), zO d 1 [.ref dca, .ref dma, .ref dpa, .int (nI du)], zI K dca 16 (zna cd), zI K dma 288 (zna gd)]) := by
  refine zc_of (cc := c_UN_readCopy) (nl := 7) (ret := none) (by decide) (Nat.le_of_ble_eq_true rfl) (fun G F E => ?_)
  have F : zf G l K { frames := 8, cells := 1, slots := 6, locals := 147 } "ZlibBox$Unpacker" c_UN_readCopy 7 := F
  show zj G 0 0 0 [(0, .ref u), (1, .int (nI kind)), (2, .ref d)] [] [zO u 3 [.ref r, .ref fl, .ref fd, .ref li, .ref di, .ref lc, .ref la, .ref ob, .int (nI w)], zO r 0 [.ref b, .int (nI e), .int (nI p)], zB K b Nb (zby t), zB K ob 16384 (zby o), zO d 1 [.ref dca, .ref dma, .ref dpa, .int (nI du)], zI K dca 16 (zna cd), zI K dma 288 (zna gd)]
  have hN2 : Nb < 2 ^ 24 := by omega
  have he2 : e ≤ 8 * Nb := by omega
  refine zj_iload_n F d_UN_readCopy_0 1 rfl rfl ?_
  refine zj_getsN F d_UN_readCopy_1 0 rfl q_371 ?_
  refine zj_tlen F d_UN_readCopy_4 0 rfl ?_
  change zj G 0 0 5 [(0, .ref u), (1, .int (nI kind)), (2, .ref d)] [.int (nI 29), .int (nI kind)] [zO u 3 [.ref r, .ref fl, .ref fd, .ref li, .ref di, .ref lc, .ref la, .ref ob, .int (nI w)], zO r 0 [.ref b, .int (nI e), .int (nI p)], zB K b Nb (zby t), zB K ob 16384 (zby o), zO d 1 [.ref dca, .ref dma, .ref dpa, .int (nI du)], zI K dca 16 (zna cd), zI K dma 288 (zna gd)]
  refine zj_icmp_lt (tgt := 18) F d_UN_readCopy_5 (by decide) (nI_ltI (by omega) (by omega)) (fun h5 => ?_) (fun h5 => ?_)
  · obtain ⟨ht1, ht2, ht3⟩ := ztab_len kind h5
    refine zj_getsN F d_UN_readCopy_18 0 rfl q_371 ?_
    refine zj_iload_n F d_UN_readCopy_21 1 rfl rfl ?_
    refine zj_tald F d_UN_readCopy_22 0 kind rfl rfl (show kind < 29 by omega) (by decide) ?_
    change zj G 0 0 23 [(0, .ref u), (1, .int (nI kind)), (2, .ref d)] [.int (nI (ztab 0 kind))] [zO u 3 [.ref r, .ref fl, .ref fd, .ref li, .ref di, .ref lc, .ref la, .ref ob, .int (nI w)], zO r 0 [.ref b, .int (nI e), .int (nI p)], zB K b Nb (zby t), zB K ob 16384 (zby o), zO d 1 [.ref dca, .ref dma, .ref dpa, .int (nI du)], zI K dca 16 (zna cd), zI K dma 288 (zna gd)]
    refine zj_aload_n F d_UN_readCopy_23 0 rfl rfl ?_
    refine zj_get F d_UN_readCopy_24 0 0 rfl rfl in_UN (by decide) q_81 rfl ?_
    refine zj_getsN F d_UN_readCopy_27 1 rfl q_374 ?_
    refine zj_iload_n F d_UN_readCopy_30 1 rfl rfl ?_
    refine zj_tald F d_UN_readCopy_31 1 kind rfl rfl (show kind < 29 by omega) (by decide) ?_
    change zj G 0 0 32 [(0, .ref u), (1, .int (nI kind)), (2, .ref d)] [.int (nI (ztab 1 kind)), .ref r, .int (nI (ztab 0 kind))] [zO u 3 [.ref r, .ref fl, .ref fd, .ref li, .ref di, .ref lc, .ref la, .ref ob, .int (nI w)], zO r 0 [.ref b, .int (nI e), .int (nI p)], zB K b Nb (zby t), zB K ob 16384 (zby o), zO d 1 [.ref dca, .ref dma, .ref dpa, .int (nI du)], zI K dca 16 (zna cd), zI K dma 288 (zna gd)]
    refine zj_call (maxL := 4) (wr := [zO u 3 [.ref r, .ref fl, .ref fd, .ref li, .ref di, .ref lc, .ref la, .ref ob, .int (nI w)], zB K ob 16384 (zby o), zO d 1 [.ref dca, .ref dma, .ref dpa, .int (nI du)], zI K dca 16 (zna cd), zI K dma 288 (zna gd)]) F E (m_BR_number l hl K r b Nb e p (ztab 1 kind) t hb hN2 he2 (by omega) hp) (zi_V (As := [.int (nI (ztab 1 kind))]) (rest := [.int (nI (ztab 0 kind))]) F d_UN_readCopy_32 1 rfl rfl rfl q_306 q_307 q_308 q_309 (Or.inl ⟨_, _, rfl⟩) (by decide) (show Option.map (fun d => d.parameters.length) (parseMethodDescriptor y_BR_number.desc) = some 1 from by decide +kernel)) d_UN_readCopy_32 q_309 (Or.inl ⟨_, _, rfl⟩) q_3 [1, 2] [0, 3, 4, 5, 6] rfl rfl rfl rfl (by decide) ⟨by decide, by decide, by decide, by decide⟩ (Nat.le_of_ble_eq_true rfl) (fun v w1 hq => ?_) (fun X w1 hq => ?_)
    · obtain ⟨hq1, rfl, rfl⟩ := hq
      show zj G 0 0 35 [(0, .ref u), (1, .int (nI kind)), (2, .ref d)] [.int (nI (znum t p (ztab 1 kind))), .int (nI (ztab 0 kind))] [zO u 3 [.ref r, .ref fl, .ref fd, .ref li, .ref di, .ref lc, .ref la, .ref ob, .int (nI w)], zB K ob 16384 (zby o), zO d 1 [.ref dca, .ref dma, .ref dpa, .int (nI du)], zI K dca 16 (zna cd), zI K dma 288 (zna gd), zO r 0 [.ref b, .int (nI e), .int (nI (p + ztab 1 kind))], zB K b Nb (zby t)]
      have hn1 := znum_lt t p (ztab 1 kind)
      have hn1b : znum t p (ztab 1 kind) < 2 ^ 5 := Nat.lt_of_lt_of_le hn1 (Nat.pow_le_pow_right (by decide) ht1)
      refine zj_iadd F d_UN_readCopy_35 (nI_add _ _) ?_
      refine zj_istore_n (L' := [(3, .int (nI ((ztab 0 kind) + (znum t p (ztab 1 kind))))), (0, .ref u), (1, .int (nI kind)), (2, .ref d)]) F d_UN_readCopy_36 rfl (by decide) rfl ?_
      refine zj_aload_n F d_UN_readCopy_37 3 rfl rfl ?_
      refine zj_aload_n F d_UN_readCopy_38 1 rfl rfl ?_
      refine zj_get F d_UN_readCopy_39 0 0 rfl rfl in_UN (by decide) q_81 rfl ?_
      refine zj_call (maxL := 7) (wr := [zO u 3 [.ref r, .ref fl, .ref fd, .ref li, .ref di, .ref lc, .ref la, .ref ob, .int (nI w)], zB K ob 16384 (zby o)]) F E (m_CO_read l hl K d dca dma dpa du r b Nb e (p + ztab 1 kind) t cd gd md hb hN2 he2 hq1 hD.1 hD.2.1) (zi_V (As := [.ref r]) (rest := []) F d_UN_readCopy_42 2 rfl rfl rfl q_359 q_360 q_361 q_362 (Or.inl ⟨_, _, rfl⟩) (by decide) (show Option.map (fun d => d.parameters.length) (parseMethodDescriptor y_CO_read.desc) = some 1 from by decide +kernel)) d_UN_readCopy_42 q_362 (Or.inl ⟨_, _, rfl⟩) q_4 [2, 3, 4, 5, 6] [0, 1] rfl rfl rfl rfl (by decide) ⟨by decide, by decide, by decide, by decide⟩ (Nat.le_of_ble_eq_true rfl) (fun v w1 hq => ?_) (fun X w1 hq => ?_)
      · obtain ⟨far, p2, hq2, rfl, rfl⟩ := hq
        show zj G 0 0 45 [(3, .int (nI ((ztab 0 kind) + (znum t p (ztab 1 kind))))), (0, .ref u), (1, .int (nI kind)), (2, .ref d)] [.int (nI far)] [zO u 3 [.ref r, .ref fl, .ref fd, .ref li, .ref di, .ref lc, .ref la, .ref ob, .int (nI w)], zB K ob 16384 (zby o), zO d 1 [.ref dca, .ref dma, .ref dpa, .int (nI du)], zI K dca 16 (zna cd), zI K dma 288 (zna gd), zO r 0 [.ref b, .int (nI e), .int (nI p2)], zB K b Nb (zby t)]
        obtain ⟨hp2a, hp2b⟩ := zdec_le _ _ _ _ _ _ _ hq2
        have hfar := zdec_val hD.2.2 _ _ _ _ _ _ _ hq2
        refine zj_istore (L' := [(4, .int (nI far)), (3, .int (nI ((ztab 0 kind) + (znum t p (ztab 1 kind))))), (0, .ref u), (1, .int (nI kind)), (2, .ref d)]) F d_UN_readCopy_45 (by decide) rfl ?_
        refine zj_iload F d_UN_readCopy_47 0 rfl ?_
        refine zj_getsN F d_UN_readCopy_49 2 rfl q_376 ?_
        refine zj_tlen F d_UN_readCopy_52 2 rfl ?_
        change zj G 0 0 53 [(4, .int (nI far)), (3, .int (nI ((ztab 0 kind) + (znum t p (ztab 1 kind))))), (0, .ref u), (1, .int (nI kind)), (2, .ref d)] [.int (nI 30), .int (nI far)] [zO u 3 [.ref r, .ref fl, .ref fd, .ref li, .ref di, .ref lc, .ref la, .ref ob, .int (nI w)], zB K ob 16384 (zby o), zO d 1 [.ref dca, .ref dma, .ref dpa, .int (nI du)], zI K dca 16 (zna cd), zI K dma 288 (zna gd), zO r 0 [.ref b, .int (nI e), .int (nI p2)], zB K b Nb (zby t)]
        refine zj_icmp_lt (tgt := 66) F d_UN_readCopy_53 (by decide) (nI_ltI (by omega) (by omega)) (fun h53 => ?_) (fun h53 => ?_)
        · obtain ⟨hd1, hd2, hd3⟩ := ztab_dis far h53
          refine zj_getsN F d_UN_readCopy_66 2 rfl q_376 ?_
          refine zj_iload F d_UN_readCopy_69 0 rfl ?_
          refine zj_tald F d_UN_readCopy_71 2 far rfl rfl (show far < 30 by omega) (by decide) ?_
          change zj G 0 0 72 [(4, .int (nI far)), (3, .int (nI ((ztab 0 kind) + (znum t p (ztab 1 kind))))), (0, .ref u), (1, .int (nI kind)), (2, .ref d)] [.int (nI (ztab 2 far))] [zO u 3 [.ref r, .ref fl, .ref fd, .ref li, .ref di, .ref lc, .ref la, .ref ob, .int (nI w)], zB K ob 16384 (zby o), zO d 1 [.ref dca, .ref dma, .ref dpa, .int (nI du)], zI K dca 16 (zna cd), zI K dma 288 (zna gd), zO r 0 [.ref b, .int (nI e), .int (nI p2)], zB K b Nb (zby t)]
          refine zj_aload_n F d_UN_readCopy_72 2 rfl rfl ?_
          refine zj_get F d_UN_readCopy_73 0 0 rfl rfl in_UN (by decide) q_81 rfl ?_
          refine zj_getsN F d_UN_readCopy_76 3 rfl q_379 ?_
          refine zj_iload F d_UN_readCopy_79 0 rfl ?_
          refine zj_tald F d_UN_readCopy_81 3 far rfl rfl (show far < 30 by omega) (by decide) ?_
          change zj G 0 0 82 [(4, .int (nI far)), (3, .int (nI ((ztab 0 kind) + (znum t p (ztab 1 kind))))), (0, .ref u), (1, .int (nI kind)), (2, .ref d)] [.int (nI (ztab 3 far)), .ref r, .int (nI (ztab 2 far))] [zO u 3 [.ref r, .ref fl, .ref fd, .ref li, .ref di, .ref lc, .ref la, .ref ob, .int (nI w)], zB K ob 16384 (zby o), zO d 1 [.ref dca, .ref dma, .ref dpa, .int (nI du)], zI K dca 16 (zna cd), zI K dma 288 (zna gd), zO r 0 [.ref b, .int (nI e), .int (nI p2)], zB K b Nb (zby t)]
          refine zj_call (maxL := 4) (wr := [zO u 3 [.ref r, .ref fl, .ref fd, .ref li, .ref di, .ref lc, .ref la, .ref ob, .int (nI w)], zB K ob 16384 (zby o), zO d 1 [.ref dca, .ref dma, .ref dpa, .int (nI du)], zI K dca 16 (zna cd), zI K dma 288 (zna gd)]) F E (m_BR_number l hl K r b Nb e p2 (ztab 3 far) t hb hN2 he2 (by omega) hp2b) (zi_V (As := [.int (nI (ztab 3 far))]) (rest := [.int (nI (ztab 2 far))]) F d_UN_readCopy_82 5 rfl rfl rfl q_306 q_307 q_308 q_309 (Or.inl ⟨_, _, rfl⟩) (by decide) (show Option.map (fun d => d.parameters.length) (parseMethodDescriptor y_BR_number.desc) = some 1 from by decide +kernel)) d_UN_readCopy_82 q_309 (Or.inl ⟨_, _, rfl⟩) q_3 [5, 6] [0, 1, 2, 3, 4] rfl rfl rfl rfl (by decide) ⟨by decide, by decide, by decide, by decide⟩ (Nat.le_of_ble_eq_true rfl) (fun v w1 hq => ?_) (fun X w1 hq => ?_)
          · obtain ⟨hq3, rfl, rfl⟩ := hq
            show zj G 0 0 85 [(4, .int (nI far)), (3, .int (nI ((ztab 0 kind) + (znum t p (ztab 1 kind))))), (0, .ref u), (1, .int (nI kind)), (2, .ref d)] [.int (nI (znum t p2 (ztab 3 far))), .int (nI (ztab 2 far))] [zO u 3 [.ref r, .ref fl, .ref fd, .ref li, .ref di, .ref lc, .ref la, .ref ob, .int (nI w)], zB K ob 16384 (zby o), zO d 1 [.ref dca, .ref dma, .ref dpa, .int (nI du)], zI K dca 16 (zna cd), zI K dma 288 (zna gd), zO r 0 [.ref b, .int (nI e), .int (nI (p2 + ztab 3 far))], zB K b Nb (zby t)]
            have hn2 := znum_lt t p2 (ztab 3 far)
            have hn2b : znum t p2 (ztab 3 far) < 2 ^ 13 := Nat.lt_of_lt_of_le hn2 (Nat.pow_le_pow_right (by decide) hd1)
            refine zj_iadd F d_UN_readCopy_85 (nI_add _ _) ?_
            refine zj_istore (L' := [(5, .int (nI ((ztab 2 far) + (znum t p2 (ztab 3 far))))), (4, .int (nI far)), (3, .int (nI ((ztab 0 kind) + (znum t p (ztab 1 kind))))), (0, .ref u), (1, .int (nI kind)), (2, .ref d)]) F d_UN_readCopy_86 (by decide) rfl ?_
            refine zj_iload F d_UN_readCopy_88 0 rfl ?_
            refine zj_aload_n F d_UN_readCopy_90 3 rfl rfl ?_
            refine zj_get F d_UN_readCopy_91 0 8 rfl rfl in_UN (by decide) q_89 rfl ?_
            refine zj_icmp_le (tgt := 107) F d_UN_readCopy_94 (by decide) (nI_leI (by omega) (by omega)) (fun h94 => ?_) (fun h94 => ?_)
            · unfold zcop at hR
              rw [if_pos h5, if_pos hq1, hq2] at hR
              dsimp only at hR
              rw [if_pos h53, if_pos hq3, if_pos h94] at hR
              generalize hdist : ztab 2 far + znum t p2 (ztab 3 far) = dist at hR h94 ⊢
              generalize hlen : ztab 0 kind + znum t p (ztab 1 kind) = len at hR ⊢
              have hdb : 1 ≤ dist ∧ dist < 2 ^ 20 := by omega
              have hlb : len < 2 ^ 20 := by omega
              refine zj_iconst (v := nI 0) F d_UN_readCopy_107 (by decide) ?_
              refine zj_istore (L' := [(6, .int (nI 0)), (5, .int (nI dist)), (4, .int (nI far)), (3, .int (nI len)), (0, .ref u), (1, .int (nI kind)), (2, .ref d)]) F d_UN_readCopy_108 (by decide) rfl ?_
              refine zj_wsub (ws' := [zO u 3 [.ref r, .ref fl, .ref fd, .ref li, .ref di, .ref lc, .ref la, .ref ob, .int (nI w)], zO r 0 [.ref b, .int (nI e), .int (nI (p2 + ztab 3 far))], zB K b Nb (zby t), zB K ob 16384 (zby o), zO d 1 [.ref dca, .ref dma, .ref dpa, .int (nI du)], zI K dca 16 (zna cd), zI K dma 288 (zna gd)]) [0, 5, 6, 1, 2, 3, 4] rfl rfl rfl ?_
              have key : ∀ q i o1 w1, i + q = len → dist ≤ w1 → w1 ≤ 16384 → (∀ j, o1 j < 256) → (match zcpy dist q o1 w1 with | .error X => .error X | .ok (o', w') => .ok (p2 + ztab 3 far, o', w')) = R → zj G 0 0 110 [(0, .ref u), (3, .int (nI len)), (5, .int (nI dist)), (6, .int (nI i))] [] [zO u 3 [.ref r, .ref fl, .ref fd, .ref li, .ref di, .ref lc, .ref la, .ref ob, .int (nI w1)], zO r 0 [.ref b, .int (nI e), .int (nI (p2 + ztab 3 far))], zB K b Nb (zby t), zB K ob 16384 (zby o1), zO d 1 [.ref dca, .ref dma, .ref dpa, .int (nI du)], zI K dca 16 (zna cd), zI K dma 288 (zna gd)] := by
                intro q
                induction q with
                | zero =>
                  intro i o1 w1 h1 hdw hw1 ho1 h6
                  show zj G 0 0 110 [(0, .ref u), (3, .int (nI len)), (5, .int (nI dist)), (6, .int (nI i))] [] [zO u 3 [.ref r, .ref fl, .ref fd, .ref li, .ref di, .ref lc, .ref la, .ref ob, .int (nI w1)], zO r 0 [.ref b, .int (nI e), .int (nI (p2 + ztab 3 far))], zB K b Nb (zby t), zB K ob 16384 (zby o1), zO d 1 [.ref dca, .ref dma, .ref dpa, .int (nI du)], zI K dca 16 (zna cd), zI K dma 288 (zna gd)]
                  refine zj_iload F d_UN_readCopy_110 3 rfl ?_
                  refine zj_iload_n F d_UN_readCopy_112 1 rfl rfl ?_
                  refine zj_icmp_ge (tgt := 138) F d_UN_readCopy_113 (by decide) (nI_leI (by omega) (by omega)) (fun h113 => ?_) (fun h113 => ?_)
                  · exact zj_vret F E d_UN_readCopy_138 (Nat.le_refl _) (Nat.le_refl _) ⟨_, _, _, h6.symm, hq3, hw1, ho1, rfl, rfl⟩
                  · exact absurd h113 (by omega)
                | succ q ih =>
                  intro i o1 w1 h1 hdw hw1 ho1 h6
                  show zj G 0 0 110 [(0, .ref u), (3, .int (nI len)), (5, .int (nI dist)), (6, .int (nI i))] [] [zO u 3 [.ref r, .ref fl, .ref fd, .ref li, .ref di, .ref lc, .ref la, .ref ob, .int (nI w1)], zO r 0 [.ref b, .int (nI e), .int (nI (p2 + ztab 3 far))], zB K b Nb (zby t), zB K ob 16384 (zby o1), zO d 1 [.ref dca, .ref dma, .ref dpa, .int (nI du)], zI K dca 16 (zna cd), zI K dma 288 (zna gd)]
                  refine zj_iload F d_UN_readCopy_110 3 rfl ?_
                  refine zj_iload_n F d_UN_readCopy_112 1 rfl rfl ?_
                  refine zj_icmp_ge (tgt := 138) F d_UN_readCopy_113 (by decide) (nI_leI (by omega) (by omega)) (fun h113 => ?_) (fun h113 => ?_)
                  · exact absurd h113 (by omega)
                  · refine zj_aload_n F d_UN_readCopy_116 0 rfl rfl ?_
                    refine zj_aload_n F d_UN_readCopy_117 0 rfl rfl ?_
                    refine zj_get F d_UN_readCopy_118 0 7 rfl rfl in_UN (by decide) q_88 rfl ?_
                    refine zj_aload_n F d_UN_readCopy_121 0 rfl rfl ?_
                    refine zj_get F d_UN_readCopy_122 0 8 rfl rfl in_UN (by decide) q_89 rfl ?_
                    refine zj_iload F d_UN_readCopy_125 2 rfl ?_
                    refine zj_isub F d_UN_readCopy_127 (pk_sub (by omega)) ?_
                    refine zj_bald (z := zby o1 (w1 - dist)) F d_UN_readCopy_128 3 0 (w1 - dist) rfl rfl rfl (by omega) (by omega) rfl ?_
                    refine zj_call (maxL := 2) (wr := [zO r 0 [.ref b, .int (nI e), .int (nI (p2 + ztab 3 far))], zB K b Nb (zby t), zO d 1 [.ref dca, .ref dma, .ref dpa, .int (nI du)], zI K dca 16 (zna cd), zI K dma 288 (zna gd)]) F E (m_UN_put l hl K u r fl fd li di lc la ob w1 o1 (zby o1 (w1 - dist)) hw1) (zi_V (As := [.int (zby o1 (w1 - dist))]) (rest := []) F d_UN_readCopy_129 0 rfl rfl rfl q_348 q_350 sel_UN_put q_351 (Or.inl ⟨_, _, rfl⟩) (by decide) (show Option.map (fun d => d.parameters.length) (parseMethodDescriptor y_UN_put.desc) = some 1 from by decide +kernel)) d_UN_readCopy_129 q_351 (Or.inl ⟨_, _, rfl⟩) q_2 [0, 3] [1, 2, 4, 5, 6] rfl rfl rfl rfl (by decide) ⟨by decide, by decide, by decide, by decide⟩ (Nat.le_of_ble_eq_true rfl) (fun v w1 hq => ?_) (fun X w1 hq => ?_)
                    · obtain ⟨hq4, rfl, rfl⟩ := hq
                      rw [zby_low (ho1 _)]
                      show zj G 0 0 132 [(0, .ref u), (3, .int (nI len)), (5, .int (nI dist)), (6, .int (nI i))] [] [zO r 0 [.ref b, .int (nI e), .int (nI (p2 + ztab 3 far))], zB K b Nb (zby t), zO d 1 [.ref dca, .ref dma, .ref dpa, .int (nI du)], zI K dca 16 (zna cd), zI K dma 288 (zna gd), zO u 3 [.ref r, .ref fl, .ref fd, .ref li, .ref di, .ref lc, .ref la, .ref ob, .int (nI (w1 + 1))], zB K ob 16384 (zby (va_up o1 w1 (o1 (w1 - dist))))]
                      refine zj_iinc (v := nI (i + 1)) (L' := [(6, .int (nI (i + 1))), (0, .ref u), (3, .int (nI len)), (5, .int (nI dist))]) F d_UN_readCopy_132 3 rfl (nI_add _ _) (by decide) rfl ?_
                      refine zj_goto F d_UN_readCopy_135 (tgt := 110) (by decide) ?_
                      unfold zcpy at h6
                      rw [if_pos hq4] at h6
                      refine zj_wsub (ws' := [zO u 3 [.ref r, .ref fl, .ref fd, .ref li, .ref di, .ref lc, .ref la, .ref ob, .int (nI (w1 + 1))], zO r 0 [.ref b, .int (nI e), .int (nI (p2 + ztab 3 far))], zB K b Nb (zby t), zB K ob 16384 (zby (va_up o1 w1 (o1 (w1 - dist)))), zO d 1 [.ref dca, .ref dma, .ref dpa, .int (nI du)], zI K dca 16 (zna cd), zI K dma 288 (zna gd)]) [5, 0, 1, 6, 2, 3, 4] rfl rfl rfl ?_
                      exact zj_sub [1, 2, 3, 0] rfl (ih (i + 1) _ _ (by omega) (by omega) (by omega) (zup_lt ho1 _ (ho1 _)) h6)
                    · obtain ⟨hx1, rfl, rfl⟩ := hq
                      exact ⟨rfl, by decide, by decide, [5, 0, 1, 6, 2, 3, 4], [zO u 3 [.ref r, .ref fl, .ref fd, .ref li, .ref di, .ref lc, .ref la, .ref ob, .int (nI w1)], zO r 0 [.ref b, .int (nI e), .int (nI (p2 + ztab 3 far))], zB K b Nb (zby t), zB K ob 16384 (zby o1), zO d 1 [.ref dca, .ref dma, .ref dpa, .int (nI du)], zI K dca 16 (zna cd), zI K dma 288 (zna gd)], rfl, rfl, ⟨h6.symm.trans (by unfold zcpy; rw [if_neg hx1]), _, _, _, hw1, ho1, rfl⟩⟩
              exact zj_sub [4, 3, 1, 0] rfl (key len 0 _ _ (by omega) h94 hw ho hR)
            · refine zj_wsub (ws' := [zO u 3 [.ref r, .ref fl, .ref fd, .ref li, .ref di, .ref lc, .ref la, .ref ob, .int (nI w)], zO r 0 [.ref b, .int (nI e), .int (nI (p2 + ztab 3 far))], zB K b Nb (zby t), zB K ob 16384 (zby o), zO d 1 [.ref dca, .ref dma, .ref dpa, .int (nI du)], zI K dca 16 (zna cd), zI K dma 288 (zna gd)]) [0, 5, 6, 1, 2, 3, 4] rfl rfl rfl ?_
              exact zj_throwS (names := zt_up) F E hl d_UN_readCopy_97 d_UN_readCopy_100 d_UN_readCopy_101 d_UN_readCopy_103 d_UN_readCopy_106 (by decide +kernel) (by decide +kernel) q_381 (at_UN_83) ⟨by decide, by decide, by decide, by decide⟩ rfl (by decide) (by decide) ⟨hR.symm.trans (by unfold zcop; rw [if_pos h5, if_pos hq1, hq2]; dsimp only; rw [if_pos h53, if_pos hq3, if_neg h94]), _, _, _, hw, ho, rfl⟩
          · obtain ⟨hx1, rfl, rfl⟩ := hq
            exact ⟨rfl, by decide, by decide, [0, 5, 6, 1, 2, 3, 4], [zO u 3 [.ref r, .ref fl, .ref fd, .ref li, .ref di, .ref lc, .ref la, .ref ob, .int (nI w)], zO r 0 [.ref b, .int (nI e), .int (nI p2)], zB K b Nb (zby t), zB K ob 16384 (zby o), zO d 1 [.ref dca, .ref dma, .ref dpa, .int (nI du)], zI K dca 16 (zna cd), zI K dma 288 (zna gd)], rfl, rfl, ⟨hR.symm.trans (by unfold zcop; rw [if_pos h5, if_pos hq1, hq2]; dsimp only; rw [if_pos h53, if_neg hx1]), _, _, _, hw, ho, rfl⟩⟩
        · refine zj_wsub (ws' := [zO u 3 [.ref r, .ref fl, .ref fd, .ref li, .ref di, .ref lc, .ref la, .ref ob, .int (nI w)], zO r 0 [.ref b, .int (nI e), .int (nI p2)], zB K b Nb (zby t), zB K ob 16384 (zby o), zO d 1 [.ref dca, .ref dma, .ref dpa, .int (nI du)], zI K dca 16 (zna cd), zI K dma 288 (zna gd)]) [0, 5, 6, 1, 2, 3, 4] rfl rfl rfl ?_
          exact zj_throwS (names := zt_up) F E hl d_UN_readCopy_56 d_UN_readCopy_59 d_UN_readCopy_60 d_UN_readCopy_62 d_UN_readCopy_65 (by decide +kernel) (by decide +kernel) q_378 (at_UN_83) ⟨by decide, by decide, by decide, by decide⟩ rfl (by decide) (by decide) ⟨hR.symm.trans (by unfold zcop; rw [if_pos h5, if_pos hq1, hq2]; dsimp only; rw [if_neg h53]), _, _, _, hw, ho, rfl⟩
      · obtain ⟨hx1, rfl, p9, rfl⟩ := hq
        exact ⟨rfl, by decide, by decide, [0, 5, 6, 1, 2, 3, 4], [zO u 3 [.ref r, .ref fl, .ref fd, .ref li, .ref di, .ref lc, .ref la, .ref ob, .int (nI w)], zO r 0 [.ref b, .int (nI e), .int (nI p9)], zB K b Nb (zby t), zB K ob 16384 (zby o), zO d 1 [.ref dca, .ref dma, .ref dpa, .int (nI du)], zI K dca 16 (zna cd), zI K dma 288 (zna gd)], rfl, rfl, ⟨hR.symm.trans (by unfold zcop; rw [if_pos h5, if_pos hq1, hx1]), _, _, _, hw, ho, rfl⟩⟩
    · obtain ⟨hx1, rfl, rfl⟩ := hq
      exact ⟨rfl, by decide, by decide, [0, 5, 6, 1, 2, 3, 4], [zO u 3 [.ref r, .ref fl, .ref fd, .ref li, .ref di, .ref lc, .ref la, .ref ob, .int (nI w)], zO r 0 [.ref b, .int (nI e), .int (nI p)], zB K b Nb (zby t), zB K ob 16384 (zby o), zO d 1 [.ref dca, .ref dma, .ref dpa, .int (nI du)], zI K dca 16 (zna cd), zI K dma 288 (zna gd)], rfl, rfl, ⟨hR.symm.trans (by unfold zcop; rw [if_pos h5, if_neg hx1]), _, _, _, hw, ho, rfl⟩⟩
  · exact zj_throwS (names := zt_up) F E hl d_UN_readCopy_8 d_UN_readCopy_11 d_UN_readCopy_12 d_UN_readCopy_14 d_UN_readCopy_17 (by decide +kernel) (by decide +kernel) q_373 (at_UN_83) ⟨by decide, by decide, by decide, by decide⟩ rfl (by decide) (by decide) ⟨hR.symm.trans (by unfold zcop; rw [if_neg h5]), _, _, _, hw, ho, rfl⟩
set_option maxHeartbeats 4000000 in
set_option maxRecDepth 100000 in
/-- readCoded(forLiterals, forDistances) -/
theorem m_UN_coded (l : Launch) (hl : l.stackTraces = false) (K : zk) (u r fl fd li di lc la ob : Nat) (b Nb e p w : Nat) (t o : Nat → Nat) (d dca dma dpa du : Nat) (cd gd : Nat → Nat) (md : Nat → Nat → Nat) (c ca ma pa cu : Nat) (cl gl : Nat → Nat) (ml : Nat → Nat → Nat) (R : Except String (Nat × (Nat → Nat) × Nat)) (hb : ∀ j, t j < 256) (hN : Nb ≤ 16384) (he : e % 8 = 0 ∧ e ≤ 8 * Nb) (hp : p ≤ e) (ho : ∀ j, o j < 256) (hw : w ≤ 16384) (hD : zCS cd gd md) (hL : zCS cl gl ml) (hR : zcod t e cl ml cd md zfu p o w = R) : zc l K y_UN_readCoded w_UN_readCoded { frames := 9, cells := 1, slots := 6, locals := 173 } 0 0 1 6 [.ref u, .ref c, .ref d] [zO u 3 [.ref r, .ref fl, .ref fd, .ref li, .ref di, .ref lc, .ref la, .ref ob, .int (nI w)], zO r 0 [.ref b, .int (nI e), .int (nI p)], zB K b Nb (zby t), zB K ob 16384 (zby o), zO d 1 [.ref dca, .ref dma, .ref dpa, .int (nI du)], zI K dca 16 (zna cd), zI K dma 288 (zna gd), zO c 1 [.ref ca, .ref ma, .ref pa, .int (nI cu)], zI K ca 16 (zna cl), zI K ma 288 (zna gl)] (fun v w1 => ∃ p' o' w', R = .ok (p', o', w') ∧ p' ≤ e ∧ w' ≤ 16384 ∧ (∀ j, o' j < 256) ∧ v = none ∧ w1 = [zO u 3 [.ref r, .ref fl, .ref fd, .ref li, .ref di, .ref lc, .ref la, .ref ob, .int (nI w')], zO r 0 [.ref b, .int (nI e), .int (nI p')], zB K b Nb (zby t), zB K ob 16384 (zby o'), zO d 1 [.ref dca, .ref dma, .ref dpa, .int (nI du)], zI K dca 16 (zna cd), zI K dma 288 (zna gd), zO c 1 [.ref ca, .ref ma, .ref pa, .int (nI cu)], zI K ca 16 (zna cl), zI K ma 288 (zna gl)]) (fun X w1 => R = .error X ∧ ∃ p' o' w', w' ≤ 16384 ∧ (∀ j, o' j < 256) ∧ w1 = [zO u 3 [.ref r, .ref fl, .ref fd, .ref li, .ref di, .ref lc, .ref la, .ref ob, .int (nI w')], zO r 0 [.ref b, .int (nI e), .int (nI p')], zB K b Nb (zby t), zB K ob 16384 (zby o'), zO d 1 [.ref dca, .ref dma, .ref dpa, .int (nI du)], zI K dca 16 (zna cd), zI K dma 288 (zna gd), zO c 1 [.ref ca, .ref ma, .ref pa, .int (nI cu)], zI K ca 16 (zna cl), zI K ma 288 (zna gl)]) := by
  refine zc_of (cc := c_UN_readCoded) (nl := 5) (ret := none) (by decide) (Nat.le_of_ble_eq_true rfl) (fun G F E => ?_)
  have F : zf G l K { frames := 9, cells := 1, slots := 6, locals := 173 } "ZlibBox$Unpacker" c_UN_readCoded 5 := F
  show zj G 0 0 0 [(0, .ref u), (1, .ref c), (2, .ref d)] [] [zO u 3 [.ref r, .ref fl, .ref fd, .ref li, .ref di, .ref lc, .ref la, .ref ob, .int (nI w)], zO r 0 [.ref b, .int (nI e), .int (nI p)], zB K b Nb (zby t), zB K ob 16384 (zby o), zO d 1 [.ref dca, .ref dma, .ref dpa, .int (nI du)], zI K dca 16 (zna cd), zI K dma 288 (zna gd), zO c 1 [.ref ca, .ref ma, .ref pa, .int (nI cu)], zI K ca 16 (zna cl), zI K ma 288 (zna gl)]
  have hzf := zfu_eq
  have hN2 : Nb < 2 ^ 24 := by omega
  have he2 : e ≤ 8 * Nb := by omega
  refine zj_iconst (v := nI 0) F d_UN_readCoded_0 (by decide) ?_
  refine zj_istore_n (L' := [(3, .int (nI 0)), (0, .ref u), (1, .ref c), (2, .ref d)]) F d_UN_readCoded_1 rfl (by decide) rfl ?_
  have key : ∀ q i p1 o1 w1, i + q = zfu → p1 ≤ e → w1 ≤ 16384 → (∀ j, o1 j < 256) → zcod t e cl ml cd md q p1 o1 w1 = R → zj G 0 0 2 [(0, .ref u), (1, .ref c), (2, .ref d), (3, .int (nI i))] [] [zO u 3 [.ref r, .ref fl, .ref fd, .ref li, .ref di, .ref lc, .ref la, .ref ob, .int (nI w1)], zO r 0 [.ref b, .int (nI e), .int (nI p1)], zB K b Nb (zby t), zB K ob 16384 (zby o1), zO d 1 [.ref dca, .ref dma, .ref dpa, .int (nI du)], zI K dca 16 (zna cd), zI K dma 288 (zna gd), zO c 1 [.ref ca, .ref ma, .ref pa, .int (nI cu)], zI K ca 16 (zna cl), zI K ma 288 (zna gl)] := by
    clear hR
    intro q
    induction q with
    | zero =>
      intro i p1 o1 w1 h1 hp1 hw1 ho1 h6
      show zj G 0 0 2 [(0, .ref u), (1, .ref c), (2, .ref d), (3, .int (nI i))] [] [zO u 3 [.ref r, .ref fl, .ref fd, .ref li, .ref di, .ref lc, .ref la, .ref ob, .int (nI w1)], zO r 0 [.ref b, .int (nI e), .int (nI p1)], zB K b Nb (zby t), zB K ob 16384 (zby o1), zO d 1 [.ref dca, .ref dma, .ref dpa, .int (nI du)], zI K dca 16 (zna cd), zI K dma 288 (zna gd), zO c 1 [.ref ca, .ref ma, .ref pa, .int (nI cu)], zI K ca 16 (zna cl), zI K ma 288 (zna gl)]
      refine zj_iload_n F d_UN_readCoded_2 3 rfl rfl ?_
      refine zj_ldc (v := nI 131072) F d_UN_readCoded_3 q_333 ?_
      refine zj_icmp_ge (tgt := 61) F d_UN_readCoded_5 (by decide) (nI_leI (by omega) (by omega)) (fun h5 => ?_) (fun h5 => ?_)
      · exact zj_vret F E d_UN_readCoded_61 (Nat.le_refl _) (Nat.le_refl _) ⟨_, _, _, h6.symm, hp1, hw1, ho1, rfl, rfl⟩
      · exact absurd h5 (by omega)
    | succ q ih =>
      intro i p1 o1 w1 h1 hp1 hw1 ho1 h6
      show zj G 0 0 2 [(0, .ref u), (1, .ref c), (2, .ref d), (3, .int (nI i))] [] [zO u 3 [.ref r, .ref fl, .ref fd, .ref li, .ref di, .ref lc, .ref la, .ref ob, .int (nI w1)], zO r 0 [.ref b, .int (nI e), .int (nI p1)], zB K b Nb (zby t), zB K ob 16384 (zby o1), zO d 1 [.ref dca, .ref dma, .ref dpa, .int (nI du)], zI K dca 16 (zna cd), zI K dma 288 (zna gd), zO c 1 [.ref ca, .ref ma, .ref pa, .int (nI cu)], zI K ca 16 (zna cl), zI K ma 288 (zna gl)]
      refine zj_iload_n F d_UN_readCoded_2 3 rfl rfl ?_
      refine zj_ldc (v := nI 131072) F d_UN_readCoded_3 q_333 ?_
      refine zj_icmp_ge (tgt := 61) F d_UN_readCoded_5 (by decide) (nI_leI (by omega) (by omega)) (fun h5 => ?_) (fun h5 => ?_)
      · exact absurd h5 (by omega)
      · refine zj_aload_n F d_UN_readCoded_8 1 rfl rfl ?_
        refine zj_aload_n F d_UN_readCoded_9 0 rfl rfl ?_
        refine zj_get F d_UN_readCoded_10 0 0 rfl rfl in_UN (by decide) q_81 rfl ?_
        refine zj_call (maxL := 7) (wr := [zO u 3 [.ref r, .ref fl, .ref fd, .ref li, .ref di, .ref lc, .ref la, .ref ob, .int (nI w1)], zB K ob 16384 (zby o1), zO d 1 [.ref dca, .ref dma, .ref dpa, .int (nI du)], zI K dca 16 (zna cd), zI K dma 288 (zna gd)]) F E (m_CO_read l hl K c ca ma pa cu r b Nb e p1 t cl gl ml hb hN2 he2 hp1 hL.1 hL.2.1) (zi_V (As := [.ref r]) (rest := []) F d_UN_readCoded_13 7 rfl rfl rfl q_359 q_360 q_361 q_362 (Or.inl ⟨_, _, rfl⟩) (by decide) (show Option.map (fun d => d.parameters.length) (parseMethodDescriptor y_CO_read.desc) = some 1 from by decide +kernel)) d_UN_readCoded_13 q_362 (Or.inl ⟨_, _, rfl⟩) q_4 [7, 8, 9, 1, 2] [0, 3, 4, 5, 6] rfl rfl rfl rfl (by decide) ⟨by decide, by decide, by decide, by decide⟩ (Nat.le_of_ble_eq_true rfl) (fun v w1 hq => ?_) (fun X w1 hq => ?_)
        · obtain ⟨sym, p2, hq2, rfl, rfl⟩ := hq
          show zj G 0 0 16 [(0, .ref u), (1, .ref c), (2, .ref d), (3, .int (nI i))] [.int (nI sym)] [zO u 3 [.ref r, .ref fl, .ref fd, .ref li, .ref di, .ref lc, .ref la, .ref ob, .int (nI w1)], zB K ob 16384 (zby o1), zO d 1 [.ref dca, .ref dma, .ref dpa, .int (nI du)], zI K dca 16 (zna cd), zI K dma 288 (zna gd), zO c 1 [.ref ca, .ref ma, .ref pa, .int (nI cu)], zI K ca 16 (zna cl), zI K ma 288 (zna gl), zO r 0 [.ref b, .int (nI e), .int (nI p2)], zB K b Nb (zby t)]
          obtain ⟨hp2a, hp2b⟩ := zdec_le _ _ _ _ _ _ _ hq2
          have hsym := zdec_val hL.2.2 _ _ _ _ _ _ _ hq2
          rw [zcod_s] at h6
          unfold zcodS at h6
          rw [hq2] at h6
          dsimp only at h6
          refine zj_istore (L' := [(4, .int (nI sym)), (0, .ref u), (1, .ref c), (2, .ref d), (3, .int (nI i))]) F d_UN_readCoded_16 (by decide) rfl ?_
          refine zj_iload F d_UN_readCoded_18 0 rfl ?_
          refine zj_sipush (v := nI 256) F d_UN_readCoded_20 (by decide) ?_
          refine zj_icmp_ne (tgt := 27) F d_UN_readCoded_23 (by decide) (nI_eq (by omega) (by omega)) (fun h23 => ?_) (fun h23 => ?_)
          · rw [if_neg h23] at h6
            refine zj_iload F d_UN_readCoded_27 0 rfl ?_
            refine zj_sipush (v := nI 256) F d_UN_readCoded_29 (by decide) ?_
            refine zj_icmp_ge (tgt := 44) F d_UN_readCoded_32 (by decide) (nI_leI (by omega) (by omega)) (fun h32 => ?_) (fun h32 => ?_)
            · rw [if_neg (by omega)] at h6
              refine zj_aload_n F d_UN_readCoded_44 1 rfl rfl ?_
              refine zj_iload F d_UN_readCoded_45 0 rfl ?_
              refine zj_sipush (v := nI 257) F d_UN_readCoded_47 (by decide) ?_
              refine zj_isub (z := nI (sym - 257)) F d_UN_readCoded_50 (pk_sub (by omega)) ?_
              refine zj_aload_n F d_UN_readCoded_51 3 rfl rfl ?_
              refine zj_call (maxL := 7) (wr := [zO c 1 [.ref ca, .ref ma, .ref pa, .int (nI cu)], zI K ca 16 (zna cl), zI K ma 288 (zna gl)]) F E (m_UN_copy l hl K u r fl fd li di lc la ob b Nb e p2 w1 t o1 d dca dma dpa du cd gd md (sym - 257) _ hb hN he hp2b ho1 hw1 hD (by omega) rfl) (zi_V (As := [.int (nI (sym - 257)), .ref d]) (rest := []) F d_UN_readCoded_52 0 rfl rfl rfl q_367 q_369 sel_UN_readCopy q_370 (Or.inl ⟨_, _, rfl⟩) (by decide) (show Option.map (fun d => d.parameters.length) (parseMethodDescriptor y_UN_readCopy.desc) = some 2 from by decide +kernel)) d_UN_readCoded_52 q_370 (Or.inl ⟨_, _, rfl⟩) q_2 [0, 8, 9, 1, 2, 3, 4] [5, 6, 7] rfl rfl rfl rfl (by decide) ⟨by decide, by decide, by decide, by decide⟩ (Nat.le_of_ble_eq_true rfl) (fun v w1 hq => ?_) (fun X w1 hq => ?_)
              · obtain ⟨p3, o3, w3, hq3, hp3, hw3, ho3, rfl, rfl⟩ := hq
                show zj G 0 0 55 [(4, .int (nI sym)), (0, .ref u), (1, .ref c), (2, .ref d), (3, .int (nI i))] [] [zO c 1 [.ref ca, .ref ma, .ref pa, .int (nI cu)], zI K ca 16 (zna cl), zI K ma 288 (zna gl), zO u 3 [.ref r, .ref fl, .ref fd, .ref li, .ref di, .ref lc, .ref la, .ref ob, .int (nI w3)], zO r 0 [.ref b, .int (nI e), .int (nI p3)], zB K b Nb (zby t), zB K ob 16384 (zby o3), zO d 1 [.ref dca, .ref dma, .ref dpa, .int (nI du)], zI K dca 16 (zna cd), zI K dma 288 (zna gd)]
                rw [hq3] at h6
                dsimp only at h6
                refine zj_iinc (v := nI (i + 1)) (L' := [(3, .int (nI (i + 1))), (4, .int (nI sym)), (0, .ref u), (1, .ref c), (2, .ref d)]) F d_UN_readCoded_55 4 rfl (nI_add _ _) (by decide) rfl ?_
                refine zj_goto F d_UN_readCoded_58 (tgt := 2) (by decide) ?_
                refine zj_wsub (ws' := [zO u 3 [.ref r, .ref fl, .ref fd, .ref li, .ref di, .ref lc, .ref la, .ref ob, .int (nI w3)], zO r 0 [.ref b, .int (nI e), .int (nI p3)], zB K b Nb (zby t), zB K ob 16384 (zby o3), zO d 1 [.ref dca, .ref dma, .ref dpa, .int (nI du)], zI K dca 16 (zna cd), zI K dma 288 (zna gd), zO c 1 [.ref ca, .ref ma, .ref pa, .int (nI cu)], zI K ca 16 (zna cl), zI K ma 288 (zna gl)]) [3, 4, 5, 6, 7, 8, 9, 0, 1, 2] rfl rfl rfl ?_
                exact zj_sub [2, 3, 4, 0] rfl (ih (i + 1) _ _ _ (by omega) hp3 hw3 ho3 h6)
              · obtain ⟨hx1, p9, o9, w9, hw9, ho9, rfl⟩ := hq
                exact ⟨rfl, by decide, by decide, [3, 4, 5, 6, 7, 8, 9, 0, 1, 2], [zO u 3 [.ref r, .ref fl, .ref fd, .ref li, .ref di, .ref lc, .ref la, .ref ob, .int (nI w9)], zO r 0 [.ref b, .int (nI e), .int (nI p9)], zB K b Nb (zby t), zB K ob 16384 (zby o9), zO d 1 [.ref dca, .ref dma, .ref dpa, .int (nI du)], zI K dca 16 (zna cd), zI K dma 288 (zna gd), zO c 1 [.ref ca, .ref ma, .ref pa, .int (nI cu)], zI K ca 16 (zna cl), zI K ma 288 (zna gl)], rfl, rfl, ⟨h6.symm.trans (by rw [hx1]), _, _, _, hw9, ho9, rfl⟩⟩
            · rw [if_pos (by omega)] at h6
              refine zj_aload_n F d_UN_readCoded_35 1 rfl rfl ?_
              refine zj_iload F d_UN_readCoded_36 0 rfl ?_
              refine zj_call (maxL := 2) (wr := [zO d 1 [.ref dca, .ref dma, .ref dpa, .int (nI du)], zI K dca 16 (zna cd), zI K dma 288 (zna gd), zO c 1 [.ref ca, .ref ma, .ref pa, .int (nI cu)], zI K ca 16 (zna cl), zI K ma 288 (zna gl), zO r 0 [.ref b, .int (nI e), .int (nI p2)], zB K b Nb (zby t)]) F E (m_UN_put l hl K u r fl fd li di lc la ob w1 o1 (nI sym) hw1) (zi_V (As := [.int (nI sym)]) (rest := []) F d_UN_readCoded_38 0 rfl rfl rfl q_348 q_350 sel_UN_put q_351 (Or.inl ⟨_, _, rfl⟩) (by decide) (show Option.map (fun d => d.parameters.length) (parseMethodDescriptor y_UN_put.desc) = some 1 from by decide +kernel)) d_UN_readCoded_38 q_351 (Or.inl ⟨_, _, rfl⟩) q_2 [0, 1] [2, 3, 4, 5, 6, 7, 8, 9] rfl rfl rfl rfl (by decide) ⟨by decide, by decide, by decide, by decide⟩ (Nat.le_of_ble_eq_true rfl) (fun v w1 hq => ?_) (fun X w1 hq => ?_)
              · obtain ⟨hq4, rfl, rfl⟩ := hq
                rw [zlow_nI, Nat.mod_eq_of_lt (show sym < 256 by omega)]
                show zj G 0 0 41 [(4, .int (nI sym)), (0, .ref u), (1, .ref c), (2, .ref d), (3, .int (nI i))] [] [zO d 1 [.ref dca, .ref dma, .ref dpa, .int (nI du)], zI K dca 16 (zna cd), zI K dma 288 (zna gd), zO c 1 [.ref ca, .ref ma, .ref pa, .int (nI cu)], zI K ca 16 (zna cl), zI K ma 288 (zna gl), zO r 0 [.ref b, .int (nI e), .int (nI p2)], zB K b Nb (zby t), zO u 3 [.ref r, .ref fl, .ref fd, .ref li, .ref di, .ref lc, .ref la, .ref ob, .int (nI (w1 + 1))], zB K ob 16384 (zby (va_up o1 w1 sym))]
                rw [if_pos hq4] at h6
                refine zj_goto F d_UN_readCoded_41 (tgt := 55) (by decide) ?_
                refine zj_iinc (v := nI (i + 1)) (L' := [(3, .int (nI (i + 1))), (4, .int (nI sym)), (0, .ref u), (1, .ref c), (2, .ref d)]) F d_UN_readCoded_55 4 rfl (nI_add _ _) (by decide) rfl ?_
                refine zj_goto F d_UN_readCoded_58 (tgt := 2) (by decide) ?_
                refine zj_wsub (ws' := [zO u 3 [.ref r, .ref fl, .ref fd, .ref li, .ref di, .ref lc, .ref la, .ref ob, .int (nI (w1 + 1))], zO r 0 [.ref b, .int (nI e), .int (nI p2)], zB K b Nb (zby t), zB K ob 16384 (zby (va_up o1 w1 sym)), zO d 1 [.ref dca, .ref dma, .ref dpa, .int (nI du)], zI K dca 16 (zna cd), zI K dma 288 (zna gd), zO c 1 [.ref ca, .ref ma, .ref pa, .int (nI cu)], zI K ca 16 (zna cl), zI K ma 288 (zna gl)]) [8, 6, 7, 9, 0, 1, 2, 3, 4, 5] rfl rfl rfl ?_
                exact zj_sub [2, 3, 4, 0] rfl (ih (i + 1) _ _ _ (by omega) hp2b (by omega) (zup_lt ho1 _ (by omega)) h6)
              · obtain ⟨hx1, rfl, rfl⟩ := hq
                exact ⟨rfl, by decide, by decide, [8, 6, 7, 9, 0, 1, 2, 3, 4, 5], [zO u 3 [.ref r, .ref fl, .ref fd, .ref li, .ref di, .ref lc, .ref la, .ref ob, .int (nI w1)], zO r 0 [.ref b, .int (nI e), .int (nI p2)], zB K b Nb (zby t), zB K ob 16384 (zby o1), zO d 1 [.ref dca, .ref dma, .ref dpa, .int (nI du)], zI K dca 16 (zna cd), zI K dma 288 (zna gd), zO c 1 [.ref ca, .ref ma, .ref pa, .int (nI cu)], zI K ca 16 (zna cl), zI K ma 288 (zna gl)], rfl, rfl, ⟨h6.symm.trans (by rw [if_neg hx1]), _, _, _, hw1, ho1, rfl⟩⟩
          · rw [if_pos h23] at h6
            refine zj_wsub (ws' := [zO u 3 [.ref r, .ref fl, .ref fd, .ref li, .ref di, .ref lc, .ref la, .ref ob, .int (nI w1)], zO r 0 [.ref b, .int (nI e), .int (nI p2)], zB K b Nb (zby t), zB K ob 16384 (zby o1), zO d 1 [.ref dca, .ref dma, .ref dpa, .int (nI du)], zI K dca 16 (zna cd), zI K dma 288 (zna gd), zO c 1 [.ref ca, .ref ma, .ref pa, .int (nI cu)], zI K ca 16 (zna cl), zI K ma 288 (zna gl)]) [0, 8, 9, 1, 2, 3, 4, 5, 6, 7] rfl rfl rfl ?_
            exact zj_vret F E d_UN_readCoded_26 (Nat.le_refl _) (Nat.le_refl _) ⟨_, _, _, h6.symm, hp2b, hw1, ho1, rfl, rfl⟩
        · obtain ⟨hx1, rfl, p9, rfl⟩ := hq
          exact ⟨rfl, by decide, by decide, [0, 8, 9, 1, 2, 3, 4, 5, 6, 7], [zO u 3 [.ref r, .ref fl, .ref fd, .ref li, .ref di, .ref lc, .ref la, .ref ob, .int (nI w1)], zO r 0 [.ref b, .int (nI e), .int (nI p9)], zB K b Nb (zby t), zB K ob 16384 (zby o1), zO d 1 [.ref dca, .ref dma, .ref dpa, .int (nI du)], zI K dca 16 (zna cd), zI K dma 288 (zna gd), zO c 1 [.ref ca, .ref ma, .ref pa, .int (nI cu)], zI K ca 16 (zna cl), zI K ma 288 (zna gl)], rfl, rfl, ⟨h6.symm.trans (by rw [zcod_s]; unfold zcodS; rw [hx1]), _, _, _, hw1, ho1, rfl⟩⟩
  exact zj_sub [1, 2, 3, 0] rfl (key zfu 0 _ _ _ (Nat.zero_add _) hp hw ho hR)
