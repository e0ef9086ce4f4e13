/-- ADLER of the first n bytes -/
def zadA (t : Nat → Nat) : Nat → Nat
  | 0 => 1
  | n + 1 => (zadA t n + t n) % 65521
def zadB (t : Nat → Nat) : Nat → Nat
  | 0 => 0
  | n + 1 => (zadB t n + zadA t (n + 1)) % 65521
theorem zadA_lt (t : Nat → Nat) : ∀ n, zadA t n < 65521
  | 0 => (by decide : 1 < 65521)
  | n + 1 => Nat.mod_lt _ (by decide)
theorem zadB_lt (t : Nat → Nat) : ∀ n, zadB t n < 65521
  | 0 => (by decide : 0 < 65521)
  | n + 1 => Nat.mod_lt _ (by decide)
def zadl (t : Nat → Nat) (n : Nat) : Nat := zadB t n * 65536 + zadA t n
theorem zadl_lt (t : Nat → Nat) (n : Nat) : zadl t n < 2 ^ 32 := by
  have h1 := zadA_lt t n
  have h2 := zadB_lt t n
  unfold zadl
  omega
/-- four bytes of an int, the highest first -/
def zint (t : Nat → Nat) (p : Nat) (x : Int32) : Nat → Nat :=
  va_up (va_up (va_up (va_up t p (zlow (x >>> (nI 24 &&& 31)))) (p + 1) (zlow (x >>> (nI 16 &&& 31)))) (p + 2) (zlow (x >>> (nI 8 &&& 31)))) (p + 3) (zlow x)
theorem zint_lt {t : Nat → Nat} (h : ∀ j, t j < 256) (p : Nat) (x : Int32) : ∀ j, zint t p x j < 256 := zby_lt (zby_lt (zby_lt (zby_lt h _ _) _ _) _ _) _ _
set_option maxHeartbeats 4000000 in
set_option maxRecDepth 100000 in
/-- adlerOf(bytes, length) -/
theorem m_adlerOf (l : Launch) (K : zk) (b Nb n : Nat) (t : Nat → Nat) (hb : ∀ j, t j < 256) (hN : Nb < 2 ^ 24) (hn : n ≤ Nb) : zc l K y_ZB_adlerOf w_ZB_adlerOf { frames := 0, cells := 0, slots := 0, locals := 0 } 0 0 0 0 [.ref b, .int (nI n)] [zB K b Nb (zby t)] (fun v w1 => v = some (.int (nI (zadl t n))) ∧ w1 = [zB K b Nb (zby t)]) (fun _ _ => False) := by
  refine zc_of (cc := c_ZB_adlerOf) (nl := 5) (ret := (some .int)) (by decide) (Nat.le_of_ble_eq_true rfl) (fun G F E => ?_)
  have F : zf G l K { frames := 0, cells := 0, slots := 0, locals := 0 } "ZlibBox" c_ZB_adlerOf 5 := F
  show zj G 0 0 0 [(0, .ref b), (1, .int (nI n))] [] [zB K b Nb (zby t)]
  refine zj_iconst (v := nI 1) F d_ZB_adlerOf_0 (by decide) ?_
  refine zj_istore_n (L' := [(2, .int (nI 1)), (0, .ref b), (1, .int (nI n))]) F d_ZB_adlerOf_1 rfl (by decide) rfl ?_
  refine zj_iconst (v := nI 0) F d_ZB_adlerOf_2 (by decide) ?_
  refine zj_istore_n (L' := [(3, .int (nI 0)), (2, .int (nI 1)), (0, .ref b), (1, .int (nI n))]) F d_ZB_adlerOf_3 rfl (by decide) rfl ?_
  refine zj_iconst (v := nI 0) F d_ZB_adlerOf_4 (by decide) ?_
  refine zj_istore (L' := [(4, .int (nI 0)), (3, .int (nI 0)), (2, .int (nI 1)), (0, .ref b), (1, .int (nI n))]) F d_ZB_adlerOf_5 (by decide) rfl ?_
  have key : ∀ i, i ≤ n → zj G 0 0 7 [(0, .ref b), (1, .int (nI n)), (2, .int (nI (zadA t i))), (3, .int (nI (zadB t i))), (4, .int (nI i))] [] [zB K b Nb (zby t)] := by
    refine zdown n ?_ ?_
    · have h1 := zadA_lt t n
      show zj G 0 0 7 [(0, .ref b), (1, .int (nI n)), (2, .int (nI (zadA t n))), (3, .int (nI (zadB t n))), (4, .int (nI n))] [] [zB K b Nb (zby t)]
      refine zj_iload F d_ZB_adlerOf_7 4 rfl ?_
      refine zj_iload_n F d_ZB_adlerOf_9 1 rfl rfl ?_
      refine zj_icmp_ge (tgt := 40) F d_ZB_adlerOf_10 (by decide) (nI_leI (by omega) (by omega)) (fun h10 => ?_) (fun h10 => ?_)
      · refine zj_iload_n F d_ZB_adlerOf_40 3 rfl rfl ?_
        refine zj_bipush (v := nI 16) F d_ZB_adlerOf_41 (by decide) ?_
        refine zj_ishl (z := nI (zadB t n * 2 ^ 16)) F d_ZB_adlerOf_43 (zI_shl (by decide)) ?_
        refine zj_iload_n F d_ZB_adlerOf_44 2 rfl rfl ?_
        refine zj_ior (z := nI (zadl t n)) F d_ZB_adlerOf_45 (zI_or3 16 (by omega)) ?_
        exact zj_iret F E d_ZB_adlerOf_46 (Nat.le_refl _) (Nat.le_refl _) ⟨rfl, rfl⟩
      · exact absurd (Nat.le_refl n) h10
    · intro i hi ih
      have h1 := zadA_lt t i
      have h2 := zadB_lt t i
      have h3 := hb i
      have h4 := zadA_lt t (i + 1)
      show zj G 0 0 7 [(0, .ref b), (1, .int (nI n)), (2, .int (nI (zadA t i))), (3, .int (nI (zadB t i))), (4, .int (nI i))] [] [zB K b Nb (zby t)]
      refine zj_iload F d_ZB_adlerOf_7 4 rfl ?_
      refine zj_iload_n F d_ZB_adlerOf_9 1 rfl rfl ?_
      refine zj_icmp_ge (tgt := 40) F d_ZB_adlerOf_10 (by decide) (nI_leI (by omega) (by omega)) (fun h10 => ?_) (fun h10 => ?_)
      · exact absurd h10 (by omega)
      · refine zj_iload_n F d_ZB_adlerOf_13 2 rfl rfl ?_
        refine zj_aload_n F d_ZB_adlerOf_14 0 rfl rfl ?_
        refine zj_iload F d_ZB_adlerOf_15 4 rfl ?_
        refine zj_bald (z := zby t i) F d_ZB_adlerOf_17 0 0 i rfl rfl rfl (by omega) (by omega) rfl ?_
        refine zj_sipush (v := nI 255) F d_ZB_adlerOf_18 (by decide) ?_
        refine zj_iand (z := nI (t i)) F d_ZB_adlerOf_21 (zby_and (hb i)) ?_
        refine zj_iadd F d_ZB_adlerOf_22 (nI_add _ _) ?_
        refine zj_ldc (v := nI 65521) F d_ZB_adlerOf_23 q_182 ?_
        refine zj_irem (z := nI (zadA t (i + 1))) F d_ZB_adlerOf_25 (by decide) (pk_rem (by omega) (by decide) (by decide)) ?_
        refine zj_istore_n (L' := [(2, .int (nI (zadA t (i + 1)))), (0, .ref b), (1, .int (nI n)), (3, .int (nI (zadB t i))), (4, .int (nI i))]) F d_ZB_adlerOf_26 rfl (by decide) rfl ?_
        refine zj_iload_n F d_ZB_adlerOf_27 3 rfl rfl ?_
        refine zj_iload_n F d_ZB_adlerOf_28 0 rfl rfl ?_
        refine zj_iadd F d_ZB_adlerOf_29 (nI_add _ _) ?_
        refine zj_ldc (v := nI 65521) F d_ZB_adlerOf_30 q_182 ?_
        refine zj_irem (z := nI (zadB t (i + 1))) F d_ZB_adlerOf_32 (by decide) (pk_rem (by omega) (by decide) (by decide)) ?_
        refine zj_istore_n (L' := [(3, .int (nI (zadB t (i + 1)))), (2, .int (nI (zadA t (i + 1)))), (0, .ref b), (1, .int (nI n)), (4, .int (nI i))]) F d_ZB_adlerOf_33 rfl (by decide) rfl ?_
        refine zj_iinc (v := nI (i + 1)) (L' := [(4, .int (nI (i + 1))), (3, .int (nI (zadB t (i + 1)))), (2, .int (nI (zadA t (i + 1)))), (0, .ref b), (1, .int (nI n))]) F d_ZB_adlerOf_34 4 rfl (nI_add _ _) (by decide) rfl ?_
        refine zj_goto F d_ZB_adlerOf_37 (tgt := 7) (by decide) ?_
        exact zj_sub [3, 4, 2, 1, 0] rfl ih
  exact zj_sub [3, 4, 2, 1, 0] rfl (key 0 (Nat.zero_le _))
set_option maxHeartbeats 4000000 in
set_option maxRecDepth 100000 in
/-- putInt(place, value) -/
theorem m_putInt (l : Launch) (K : zk) (x tb n rb rl db un pk p : Nat) (t : Nat → Nat) (v : Int32) (hp : p + 4 ≤ 16384) : zc l K y_ZB_putInt w_ZB_putInt { frames := 0, cells := 0, slots := 0, locals := 0 } 0 0 0 0 [.ref x, .int (nI p), .int v] [zO x 4 [.ref tb, .int (nI n), .ref rb, .int (nI rl), .ref db, .ref un, .ref pk], zB K tb 16384 (zby t)] (fun r w1 => r = none ∧ w1 = [zO x 4 [.ref tb, .int (nI n), .ref rb, .int (nI rl), .ref db, .ref un, .ref pk], zB K tb 16384 (zby (zint t p v))]) (fun _ _ => False) := by
  refine zc_of (cc := c_ZB_putInt) (nl := 3) (ret := none) (by decide) (Nat.le_of_ble_eq_true rfl) (fun G F E => ?_)
  have F : zf G l K { frames := 0, cells := 0, slots := 0, locals := 0 } "ZlibBox" c_ZB_putInt 3 := F
  show zj G 0 0 0 [(0, .ref x), (1, .int (nI p)), (2, .int v)] [] [zO x 4 [.ref tb, .int (nI n), .ref rb, .int (nI rl), .ref db, .ref un, .ref pk], zB K tb 16384 (zby t)]
  refine zj_aload_n F d_ZB_putInt_0 0 rfl rfl ?_
  refine zj_get F d_ZB_putInt_1 0 0 rfl rfl in_ZB (by decide) q_146 rfl ?_
  refine zj_iload_n F d_ZB_putInt_4 1 rfl rfl ?_
  refine zj_iload_n F d_ZB_putInt_5 2 rfl rfl ?_
  refine zj_bipush (v := nI 24) F d_ZB_putInt_6 (by decide) ?_
  refine zj_ishr F d_ZB_putInt_8 rfl ?_
  refine zj_i2b F d_ZB_putInt_9 rfl ?_
  refine zj_bast (ws' := [zO x 4 [.ref tb, .int (nI n), .ref rb, .int (nI rl), .ref db, .ref un, .ref pk], zB K tb 16384 (zby (va_up t p (zlow (v >>> ((nI 24) &&& 31)))))]) F d_ZB_putInt_10 1 0 p rfl rfl rfl (by omega) (by omega) (by rw [zby_updB]; rfl) ?_
  refine zj_aload_n F d_ZB_putInt_11 0 rfl rfl ?_
  refine zj_get F d_ZB_putInt_12 0 0 rfl rfl in_ZB (by decide) q_146 rfl ?_
  refine zj_iload_n F d_ZB_putInt_15 1 rfl rfl ?_
  refine zj_iconst (v := nI 1) F d_ZB_putInt_16 (by decide) ?_
  refine zj_iadd F d_ZB_putInt_17 (nI_add _ _) ?_
  refine zj_iload_n F d_ZB_putInt_18 2 rfl rfl ?_
  refine zj_bipush (v := nI 16) F d_ZB_putInt_19 (by decide) ?_
  refine zj_ishr F d_ZB_putInt_21 rfl ?_
  refine zj_i2b F d_ZB_putInt_22 rfl ?_
  refine zj_bast (ws' := [zO x 4 [.ref tb, .int (nI n), .ref rb, .int (nI rl), .ref db, .ref un, .ref pk], zB K tb 16384 (zby (va_up (va_up t p (zlow (v >>> ((nI 24) &&& 31)))) (p + 1) (zlow (v >>> ((nI 16) &&& 31)))))]) F d_ZB_putInt_23 1 0 (p + 1) rfl rfl rfl (by omega) (by omega) (by rw [zby_updB]; rfl) ?_
  refine zj_aload_n F d_ZB_putInt_24 0 rfl rfl ?_
  refine zj_get F d_ZB_putInt_25 0 0 rfl rfl in_ZB (by decide) q_146 rfl ?_
  refine zj_iload_n F d_ZB_putInt_28 1 rfl rfl ?_
  refine zj_iconst (v := nI 2) F d_ZB_putInt_29 (by decide) ?_
  refine zj_iadd F d_ZB_putInt_30 (nI_add _ _) ?_
  refine zj_iload_n F d_ZB_putInt_31 2 rfl rfl ?_
  refine zj_bipush (v := nI 8) F d_ZB_putInt_32 (by decide) ?_
  refine zj_ishr F d_ZB_putInt_34 rfl ?_
  refine zj_i2b F d_ZB_putInt_35 rfl ?_
  refine zj_bast (ws' := [zO x 4 [.ref tb, .int (nI n), .ref rb, .int (nI rl), .ref db, .ref un, .ref pk], zB K tb 16384 (zby (va_up (va_up (va_up t p (zlow (v >>> ((nI 24) &&& 31)))) (p + 1) (zlow (v >>> ((nI 16) &&& 31)))) (p + 2) (zlow (v >>> ((nI 8) &&& 31)))))]) F d_ZB_putInt_36 1 0 (p + 2) rfl rfl rfl (by omega) (by omega) (by rw [zby_updB]; rfl) ?_
  refine zj_aload_n F d_ZB_putInt_37 0 rfl rfl ?_
  refine zj_get F d_ZB_putInt_38 0 0 rfl rfl in_ZB (by decide) q_146 rfl ?_
  refine zj_iload_n F d_ZB_putInt_41 1 rfl rfl ?_
  refine zj_iconst (v := nI 3) F d_ZB_putInt_42 (by decide) ?_
  refine zj_iadd F d_ZB_putInt_43 (nI_add _ _) ?_
  refine zj_iload_n F d_ZB_putInt_44 2 rfl rfl ?_
  refine zj_i2b F d_ZB_putInt_45 rfl ?_
  refine zj_bast (ws' := [zO x 4 [.ref tb, .int (nI n), .ref rb, .int (nI rl), .ref db, .ref un, .ref pk], zB K tb 16384 (zby (va_up (va_up (va_up (va_up t p (zlow (v >>> ((nI 24) &&& 31)))) (p + 1) (zlow (v >>> ((nI 16) &&& 31)))) (p + 2) (zlow (v >>> ((nI 8) &&& 31)))) (p + 3) (zlow (v))))]) F d_ZB_putInt_46 1 0 (p + 3) rfl rfl rfl (by omega) (by omega) (by rw [zby_updB]; rfl) ?_
  exact zj_vret F E d_ZB_putInt_47 (Nat.le_refl _) (Nat.le_refl _) ⟨rfl, rfl⟩
set_option maxHeartbeats 4000000 in
set_option maxRecDepth 100000 in
/-- keepDraft(length) -/
theorem m_keepDraft (l : Launch) (K : zk) (x tb n rb rl db un pk c : Nat)  : zc l K y_ZB_keepDraft w_ZB_keepDraft { frames := 0, cells := 0, slots := 0, locals := 0 } 0 0 0 0 [.ref x, .int (nI c)] [zO x 4 [.ref tb, .int (nI n), .ref rb, .int (nI rl), .ref db, .ref un, .ref pk]] (fun r w1 => r = some (.int (nI c)) ∧ w1 = [zO x 4 [.ref tb, .int (nI n), .ref db, .int (nI c), .ref rb, .ref un, .ref pk]]) (fun _ _ => False) := by
  refine zc_of (cc := c_ZB_keepDraft) (nl := 3) (ret := (some .int)) (by decide) (Nat.le_of_ble_eq_true rfl) (fun G F E => ?_)
  have F : zf G l K { frames := 0, cells := 0, slots := 0, locals := 0 } "ZlibBox" c_ZB_keepDraft 3 := F
  show zj G 0 0 0 [(0, .ref x), (1, .int (nI c))] [] [zO x 4 [.ref tb, .int (nI n), .ref rb, .int (nI rl), .ref db, .ref un, .ref pk]]
  refine zj_aload_n F d_ZB_keepDraft_0 0 rfl rfl ?_
  refine zj_get F d_ZB_keepDraft_1 0 2 rfl rfl in_ZB (by decide) q_148 rfl ?_
  refine zj_astore_n (L' := [(2, .ref rb), (0, .ref x), (1, .int (nI c))]) F d_ZB_keepDraft_4 rfl (by decide) rfl ?_
  refine zj_aload_n F d_ZB_keepDraft_5 1 rfl rfl ?_
  refine zj_aload_n F d_ZB_keepDraft_6 1 rfl rfl ?_
  refine zj_get F d_ZB_keepDraft_7 0 4 rfl rfl in_ZB (by decide) q_150 rfl ?_
  refine zj_put (ws' := [zO x 4 [.ref tb, .int (nI n), .ref db, .int (nI rl), .ref db, .ref un, .ref pk]]) F d_ZB_keepDraft_10 0 2 rfl rfl in_ZB ty_ZB nm_ZB (by decide) q_148 rfl rfl rfl (Nat.le_of_ble_eq_true rfl) rfl ?_
  refine zj_aload_n F d_ZB_keepDraft_13 1 rfl rfl ?_
  refine zj_aload_n F d_ZB_keepDraft_14 0 rfl rfl ?_
  refine zj_put (ws' := [zO x 4 [.ref tb, .int (nI n), .ref db, .int (nI rl), .ref rb, .ref un, .ref pk]]) F d_ZB_keepDraft_15 0 4 rfl rfl in_ZB ty_ZB nm_ZB (by decide) q_150 rfl rfl rfl (Nat.le_of_ble_eq_true rfl) rfl ?_
  refine zj_aload_n F d_ZB_keepDraft_18 1 rfl rfl ?_
  refine zj_iload_n F d_ZB_keepDraft_19 2 rfl rfl ?_
  refine zj_put (ws' := [zO x 4 [.ref tb, .int (nI n), .ref db, .int (nI c), .ref rb, .ref un, .ref pk]]) F d_ZB_keepDraft_20 0 3 rfl rfl in_ZB ty_ZB nm_ZB (by decide) q_149 rfl rfl rfl (Nat.le_of_ble_eq_true rfl) rfl ?_
  refine zj_iload_n F d_ZB_keepDraft_23 2 rfl rfl ?_
  exact zj_iret F E d_ZB_keepDraft_24 (Nat.le_refl _) (Nat.le_refl _) ⟨rfl, rfl⟩
set_option maxHeartbeats 4000000 in
set_option maxRecDepth 100000 in
/-- count(what) -/
theorem m_count (l : Launch) (hl : l.stackTraces = false) (K : zk) (x tb n rb rl db un pk : Nat) (v : Int32)  : zc l K y_ZB_count w_ZB_count { frames := 6, cells := 1, slots := 6, locals := 100 } 0 0 1 6 [.ref x, .int v] [zO x 4 [.ref tb, .int (nI n), .ref rb, .int (nI rl), .ref db, .ref un, .ref pk]] (fun r w1 => ((v = 0 ∧ r = some (.int (nI n))) ∨ (¬ v = 0 ∧ v = nI 1 ∧ r = some (.int (nI rl)))) ∧ w1 = [zO x 4 [.ref tb, .int (nI n), .ref rb, .int (nI rl), .ref db, .ref un, .ref pk]]) (fun X w1 => (¬ v = 0 ∧ ¬ v = nI 1) ∧ X = "java/lang/IllegalArgumentException" ∧ w1 = [zO x 4 [.ref tb, .int (nI n), .ref rb, .int (nI rl), .ref db, .ref un, .ref pk]]) := by
  refine zc_of (cc := c_ZB_count) (nl := 2) (ret := (some .int)) (by decide) (Nat.le_of_ble_eq_true rfl) (fun G F E => ?_)
  have F : zf G l K { frames := 6, cells := 1, slots := 6, locals := 100 } "ZlibBox" c_ZB_count 2 := F
  show zj G 0 0 0 [(0, .ref x), (1, .int v)] [] [zO x 4 [.ref tb, .int (nI n), .ref rb, .int (nI rl), .ref db, .ref un, .ref pk]]
  refine zj_iload_n F d_ZB_count_0 1 rfl rfl ?_
  refine zj_if_ne (tgt := 9) F d_ZB_count_1 (by decide) Iff.rfl (fun h1 => ?_) (fun h1 => ?_)
  · refine zj_iload_n F d_ZB_count_9 1 rfl rfl ?_
    refine zj_iconst (v := nI 1) F d_ZB_count_10 (by decide) ?_
    refine zj_icmp_ne (tgt := 19) F d_ZB_count_11 (by decide) Iff.rfl (fun h11 => ?_) (fun h11 => ?_)
    · exact zj_throwS (names := zt_up) F E hl d_ZB_count_19 d_ZB_count_22 d_ZB_count_23 d_ZB_count_25 d_ZB_count_28 (by decide +kernel) (by decide +kernel) q_524 (at_ZB_52) ⟨by decide, by decide, by decide, by decide⟩ rfl (by decide) (by decide) ⟨⟨h1, h11⟩, rfl, rfl⟩
    · refine zj_aload_n F d_ZB_count_14 0 rfl rfl ?_
      refine zj_get F d_ZB_count_15 0 3 rfl rfl in_ZB (by decide) q_149 rfl ?_
      exact zj_iret F E d_ZB_count_18 (Nat.le_refl _) (Nat.le_refl _) ⟨Or.inr ⟨h1, h11, rfl⟩, rfl⟩
  · refine zj_aload_n F d_ZB_count_4 0 rfl rfl ?_
    refine zj_get F d_ZB_count_5 0 1 rfl rfl in_ZB (by decide) q_147 rfl ?_
    exact zj_iret F E d_ZB_count_8 (Nat.le_refl _) (Nat.le_refl _) ⟨Or.inl ⟨h1, rfl⟩, rfl⟩
set_option maxHeartbeats 4000000 in
set_option maxRecDepth 100000 in
/-- end(n) -/
theorem m_end (l : Launch) (hl : l.stackTraces = false) (K : zk) (x tb n rb rl db un pk : Nat) (v : Int32) (hn : n ≤ 16384) : zc l K y_ZB_end w_ZB_end { frames := 6, cells := 1, slots := 6, locals := 100 } 0 0 1 6 [.ref x, .int v] [zO x 4 [.ref tb, .int (nI n), .ref rb, .int (nI rl), .ref db, .ref un, .ref pk]] (fun r w1 => ∃ c, v = nI c ∧ c ≤ n ∧ r = some (.int (nI c)) ∧ w1 = [zO x 4 [.ref tb, .int (nI c), .ref rb, .int (nI rl), .ref db, .ref un, .ref pk]]) (fun X w1 => (v < 0 ∨ nI n < v) ∧ X = "java/lang/IllegalArgumentException" ∧ w1 = [zO x 4 [.ref tb, .int (nI n), .ref rb, .int (nI rl), .ref db, .ref un, .ref pk]]) := by
  refine zc_of (cc := c_ZB_end) (nl := 2) (ret := (some .int)) (by decide) (Nat.le_of_ble_eq_true rfl) (fun G F E => ?_)
  have F : zf G l K { frames := 6, cells := 1, slots := 6, locals := 100 } "ZlibBox" c_ZB_end 2 := F
  show zj G 0 0 0 [(0, .ref x), (1, .int v)] [] [zO x 4 [.ref tb, .int (nI n), .ref rb, .int (nI rl), .ref db, .ref un, .ref pk]]
  refine zj_iload_n F d_ZB_end_0 1 rfl rfl ?_
  refine zj_if_lt (tgt := 12) F d_ZB_end_1 (by decide) Iff.rfl (fun h1 => ?_) (fun h1 => ?_)
  · exact zj_throwS (names := zt_up) F E hl d_ZB_end_12 d_ZB_end_15 d_ZB_end_16 d_ZB_end_18 d_ZB_end_21 (by decide +kernel) (by decide +kernel) q_279 (at_ZB_52) ⟨by decide, by decide, by decide, by decide⟩ rfl (by decide) (by decide) ⟨Or.inl h1, rfl, rfl⟩
  · obtain ⟨c, hc, rfl⟩ := nI_of h1
    refine zj_iload_n F d_ZB_end_4 1 rfl rfl ?_
    refine zj_aload_n F d_ZB_end_5 0 rfl rfl ?_
    refine zj_get F d_ZB_end_6 0 1 rfl rfl in_ZB (by decide) q_147 rfl ?_
    refine zj_icmp_le (tgt := 22) F d_ZB_end_9 (by decide) (nI_leI (by omega) (by omega)) (fun h9 => ?_) (fun h9 => ?_)
    · refine zj_aload_n F d_ZB_end_22 0 rfl rfl ?_
      refine zj_iload_n F d_ZB_end_23 1 rfl rfl ?_
      refine zj_put (ws' := [zO x 4 [.ref tb, .int (nI c), .ref rb, .int (nI rl), .ref db, .ref un, .ref pk]]) F d_ZB_end_24 0 1 rfl rfl in_ZB ty_ZB nm_ZB (by decide) q_147 rfl rfl rfl (Nat.le_of_ble_eq_true rfl) rfl ?_
      refine zj_iload_n F d_ZB_end_27 1 rfl rfl ?_
      exact zj_iret F E d_ZB_end_28 (Nat.le_refl _) (Nat.le_refl _) ⟨c, rfl, h9, rfl, rfl⟩
    · exact zj_throwS (names := zt_up) F E hl d_ZB_end_12 d_ZB_end_15 d_ZB_end_16 d_ZB_end_18 d_ZB_end_21 (by decide +kernel) (by decide +kernel) q_279 (at_ZB_52) ⟨by decide, by decide, by decide, by decide⟩ rfl (by decide) (by decide) ⟨Or.inr (nI_lt (by omega) hc), rfl, rfl⟩
set_option maxHeartbeats 4000000 in
set_option maxRecDepth 100000 in
/-- feed(a, b, c, d, e) -/
theorem m_feed (l : Launch) (hl : l.stackTraces = false) (K : zk) (x tb n rb rl db un pk : Nat) (t : Nat → Nat) (v1 v2 v3 v4 v5 : Int32) (hn : n ≤ 16384) : zc l K y_ZB_feed w_ZB_feed { frames := 6, cells := 1, slots := 6, locals := 120 } 0 0 1 6 [.ref x, .int v1, .int v2, .int v3, .int v4, .int v5] [zO x 4 [.ref tb, .int (nI n), .ref rb, .int (nI rl), .ref db, .ref un, .ref pk], zB K tb 16384 (zby t)] (fun r w1 => n + 20 ≤ 16384 ∧ r = some (.int (nI (n + 20))) ∧ w1 = [zO x 4 [.ref tb, .int (nI (n + 20)), .ref rb, .int (nI rl), .ref db, .ref un, .ref pk], zB K tb 16384 (zby (zint (zint (zint (zint (zint t n v1) (n + 4) v2) (n + 8) v3) (n + 12) v4) (n + 16) v5))]) (fun X w1 => ¬ n + 20 ≤ 16384 ∧ X = zY ∧ w1 = [zO x 4 [.ref tb, .int (nI n), .ref rb, .int (nI rl), .ref db, .ref un, .ref pk], zB K tb 16384 (zby t)]) := by
  refine zc_of (cc := c_ZB_feed) (nl := 6) (ret := (some .int)) (by decide) (Nat.le_of_ble_eq_true rfl) (fun G F E => ?_)
  have F : zf G l K { frames := 6, cells := 1, slots := 6, locals := 120 } "ZlibBox" c_ZB_feed 6 := F
  show zj G 0 0 0 [(0, .ref x), (1, .int v1), (2, .int v2), (3, .int v3), (4, .int v4), (5, .int v5)] [] [zO x 4 [.ref tb, .int (nI n), .ref rb, .int (nI rl), .ref db, .ref un, .ref pk], zB K tb 16384 (zby t)]
  refine zj_aload_n F d_ZB_feed_0 0 rfl rfl ?_
  refine zj_get F d_ZB_feed_1 0 1 rfl rfl in_ZB (by decide) q_147 rfl ?_
  refine zj_bipush (v := nI 20) F d_ZB_feed_4 (by decide) ?_
  refine zj_iadd F d_ZB_feed_6 (nI_add _ _) ?_
  refine zj_sipush (v := nI 16384) F d_ZB_feed_7 (by decide) ?_
  refine zj_icmp_le (tgt := 23) F d_ZB_feed_10 (by decide) (nI_leI (by omega) (by omega)) (fun h10 => ?_) (fun h10 => ?_)
  · refine zj_aload_n F d_ZB_feed_23 0 rfl rfl ?_
    refine zj_aload_n F d_ZB_feed_24 0 rfl rfl ?_
    refine zj_get F d_ZB_feed_25 0 1 rfl rfl in_ZB (by decide) q_147 rfl ?_
    refine zj_iload_n F d_ZB_feed_28 1 rfl rfl ?_
    refine zj_call (maxL := 3) (wr := []) F E (m_putInt l K x tb n rb rl db un pk n t v1 (by omega)) (zi_V (As := [.int (nI n), .int v1]) (rest := []) F d_ZB_feed_29 0 rfl rfl rfl q_258 q_260 sel_ZB_putInt q_261 (Or.inl ⟨_, _, rfl⟩) (by decide) (show Option.map (fun d => d.parameters.length) (parseMethodDescriptor y_ZB_putInt.desc) = some 2 from by decide +kernel)) d_ZB_feed_29 q_261 (Or.inl ⟨_, _, rfl⟩) q_1 [0, 1] [] rfl rfl rfl rfl (by decide) ⟨by decide, by decide, by decide, by decide⟩ (Nat.le_of_ble_eq_true rfl) (fun v w1 hq => ?_) (fun X w1 hq => ?_)
    · obtain ⟨rfl, rfl⟩ := hq
      show zj G 0 0 32 [(0, .ref x), (1, .int v1), (2, .int v2), (3, .int v3), (4, .int v4), (5, .int v5)] [] [zO x 4 [.ref tb, .int (nI n), .ref rb, .int (nI rl), .ref db, .ref un, .ref pk], zB K tb 16384 (zby (zint t n v1))]
      refine zj_aload_n F d_ZB_feed_32 0 rfl rfl ?_
      refine zj_aload_n F d_ZB_feed_33 0 rfl rfl ?_
      refine zj_get F d_ZB_feed_34 0 1 rfl rfl in_ZB (by decide) q_147 rfl ?_
      refine zj_iconst (v := nI 4) F d_ZB_feed_37 (by decide) ?_
      refine zj_iadd F d_ZB_feed_38 (nI_add _ _) ?_
      refine zj_iload_n F d_ZB_feed_39 2 rfl rfl ?_
      refine zj_call (maxL := 3) (wr := []) F E (m_putInt l K x tb n rb rl db un pk (n + 4) (zint t n v1) v2 (by omega)) (zi_V (As := [.int (nI (n + 4)), .int v2]) (rest := []) F d_ZB_feed_40 0 rfl rfl rfl q_258 q_260 sel_ZB_putInt q_261 (Or.inl ⟨_, _, rfl⟩) (by decide) (show Option.map (fun d => d.parameters.length) (parseMethodDescriptor y_ZB_putInt.desc) = some 2 from by decide +kernel)) d_ZB_feed_40 q_261 (Or.inl ⟨_, _, rfl⟩) q_1 [0, 1] [] rfl rfl rfl rfl (by decide) ⟨by decide, by decide, by decide, by decide⟩ (Nat.le_of_ble_eq_true rfl) (fun v w1 hq => ?_) (fun X w1 hq => ?_)
      · obtain ⟨rfl, rfl⟩ := hq
        show zj G 0 0 43 [(0, .ref x), (1, .int v1), (2, .int v2), (3, .int v3), (4, .int v4), (5, .int v5)] [] [zO x 4 [.ref tb, .int (nI n), .ref rb, .int (nI rl), .ref db, .ref un, .ref pk], zB K tb 16384 (zby (zint (zint t n v1) (n + 4) v2))]
        refine zj_aload_n F d_ZB_feed_43 0 rfl rfl ?_
        refine zj_aload_n F d_ZB_feed_44 0 rfl rfl ?_
        refine zj_get F d_ZB_feed_45 0 1 rfl rfl in_ZB (by decide) q_147 rfl ?_
        refine zj_bipush (v := nI 8) F d_ZB_feed_48 (by decide) ?_
        refine zj_iadd F d_ZB_feed_50 (nI_add _ _) ?_
        refine zj_iload_n F d_ZB_feed_51 3 rfl rfl ?_
        refine zj_call (maxL := 3) (wr := []) F E (m_putInt l K x tb n rb rl db un pk (n + 8) (zint (zint t n v1) (n + 4) v2) v3 (by omega)) (zi_V (As := [.int (nI (n + 8)), .int v3]) (rest := []) F d_ZB_feed_52 0 rfl rfl rfl q_258 q_260 sel_ZB_putInt q_261 (Or.inl ⟨_, _, rfl⟩) (by decide) (show Option.map (fun d => d.parameters.length) (parseMethodDescriptor y_ZB_putInt.desc) = some 2 from by decide +kernel)) d_ZB_feed_52 q_261 (Or.inl ⟨_, _, rfl⟩) q_1 [0, 1] [] rfl rfl rfl rfl (by decide) ⟨by decide, by decide, by decide, by decide⟩ (Nat.le_of_ble_eq_true rfl) (fun v w1 hq => ?_) (fun X w1 hq => ?_)
        · obtain ⟨rfl, rfl⟩ := hq
          show zj G 0 0 55 [(0, .ref x), (1, .int v1), (2, .int v2), (3, .int v3), (4, .int v4), (5, .int v5)] [] [zO x 4 [.ref tb, .int (nI n), .ref rb, .int (nI rl), .ref db, .ref un, .ref pk], zB K tb 16384 (zby (zint (zint (zint t n v1) (n + 4) v2) (n + 8) v3))]
          refine zj_aload_n F d_ZB_feed_55 0 rfl rfl ?_
          refine zj_aload_n F d_ZB_feed_56 0 rfl rfl ?_
          refine zj_get F d_ZB_feed_57 0 1 rfl rfl in_ZB (by decide) q_147 rfl ?_
          refine zj_bipush (v := nI 12) F d_ZB_feed_60 (by decide) ?_
          refine zj_iadd F d_ZB_feed_62 (nI_add _ _) ?_
          refine zj_iload F d_ZB_feed_63 4 rfl ?_
          refine zj_call (maxL := 3) (wr := []) F E (m_putInt l K x tb n rb rl db un pk (n + 12) (zint (zint (zint t n v1) (n + 4) v2) (n + 8) v3) v4 (by omega)) (zi_V (As := [.int (nI (n + 12)), .int v4]) (rest := []) F d_ZB_feed_65 0 rfl rfl rfl q_258 q_260 sel_ZB_putInt q_261 (Or.inl ⟨_, _, rfl⟩) (by decide) (show Option.map (fun d => d.parameters.length) (parseMethodDescriptor y_ZB_putInt.desc) = some 2 from by decide +kernel)) d_ZB_feed_65 q_261 (Or.inl ⟨_, _, rfl⟩) q_1 [0, 1] [] rfl rfl rfl rfl (by decide) ⟨by decide, by decide, by decide, by decide⟩ (Nat.le_of_ble_eq_true rfl) (fun v w1 hq => ?_) (fun X w1 hq => ?_)
          · obtain ⟨rfl, rfl⟩ := hq
            show zj G 0 0 68 [(0, .ref x), (1, .int v1), (2, .int v2), (3, .int v3), (4, .int v4), (5, .int v5)] [] [zO x 4 [.ref tb, .int (nI n), .ref rb, .int (nI rl), .ref db, .ref un, .ref pk], zB K tb 16384 (zby (zint (zint (zint (zint t n v1) (n + 4) v2) (n + 8) v3) (n + 12) v4))]
            refine zj_aload_n F d_ZB_feed_68 0 rfl rfl ?_
            refine zj_aload_n F d_ZB_feed_69 0 rfl rfl ?_
            refine zj_get F d_ZB_feed_70 0 1 rfl rfl in_ZB (by decide) q_147 rfl ?_
            refine zj_bipush (v := nI 16) F d_ZB_feed_73 (by decide) ?_
            refine zj_iadd F d_ZB_feed_75 (nI_add _ _) ?_
            refine zj_iload F d_ZB_feed_76 5 rfl ?_
            refine zj_call (maxL := 3) (wr := []) F E (m_putInt l K x tb n rb rl db un pk (n + 16) (zint (zint (zint (zint t n v1) (n + 4) v2) (n + 8) v3) (n + 12) v4) v5 (by omega)) (zi_V (As := [.int (nI (n + 16)), .int v5]) (rest := []) F d_ZB_feed_78 0 rfl rfl rfl q_258 q_260 sel_ZB_putInt q_261 (Or.inl ⟨_, _, rfl⟩) (by decide) (show Option.map (fun d => d.parameters.length) (parseMethodDescriptor y_ZB_putInt.desc) = some 2 from by decide +kernel)) d_ZB_feed_78 q_261 (Or.inl ⟨_, _, rfl⟩) q_1 [0, 1] [] rfl rfl rfl rfl (by decide) ⟨by decide, by decide, by decide, by decide⟩ (Nat.le_of_ble_eq_true rfl) (fun v w1 hq => ?_) (fun X w1 hq => ?_)
            · obtain ⟨rfl, rfl⟩ := hq
              show zj G 0 0 81 [(0, .ref x), (1, .int v1), (2, .int v2), (3, .int v3), (4, .int v4), (5, .int v5)] [] [zO x 4 [.ref tb, .int (nI n), .ref rb, .int (nI rl), .ref db, .ref un, .ref pk], zB K tb 16384 (zby (zint (zint (zint (zint (zint t n v1) (n + 4) v2) (n + 8) v3) (n + 12) v4) (n + 16) v5))]
              refine zj_aload_n F d_ZB_feed_81 0 rfl rfl ?_
              refine zj_dup F d_ZB_feed_82 rfl ?_
              refine zj_get F d_ZB_feed_83 0 1 rfl rfl in_ZB (by decide) q_147 rfl ?_
              refine zj_bipush (v := nI 20) F d_ZB_feed_86 (by decide) ?_
              refine zj_iadd F d_ZB_feed_88 (nI_add _ _) ?_
              refine zj_put (ws' := [zO x 4 [.ref tb, .int (nI (n + 20)), .ref rb, .int (nI rl), .ref db, .ref un, .ref pk], zB K tb 16384 (zby (zint (zint (zint (zint (zint t n v1) (n + 4) v2) (n + 8) v3) (n + 12) v4) (n + 16) v5))]) F d_ZB_feed_89 0 1 rfl rfl in_ZB ty_ZB nm_ZB (by decide) q_147 rfl rfl rfl (Nat.le_of_ble_eq_true rfl) rfl ?_
              refine zj_aload_n F d_ZB_feed_92 0 rfl rfl ?_
              refine zj_get F d_ZB_feed_93 0 1 rfl rfl in_ZB (by decide) q_147 rfl ?_
              exact zj_iret F E d_ZB_feed_96 (Nat.le_refl _) (Nat.le_refl _) ⟨h10, rfl, rfl⟩
            · exact hq.elim
          · exact hq.elim
        · exact hq.elim
      · exact hq.elim
    · exact hq.elim
  · exact zj_throwS (names := zt_up) F E hl d_ZB_feed_13 d_ZB_feed_16 d_ZB_feed_17 d_ZB_feed_19 d_ZB_feed_22 (by decide +kernel) (by decide +kernel) q_232 (at_ZB_41) ⟨by decide, by decide, by decide, by decide⟩ rfl (by decide) (by decide) ⟨h10, rfl, rfl⟩
set_option maxHeartbeats 4000000 in
set_option maxRecDepth 100000 in
/-- adler() -/
theorem m_adler (l : Launch) (K : zk) (x tb n rb rl db un pk : Nat) (t : Nat → Nat) (hb : ∀ j, t j < 256) (hn : n ≤ 16384) : zc l K y_ZB_adler w_ZB_adler { frames := 1, cells := 0, slots := 0, locals := 24 } 0 0 0 0 [.ref x] [zO x 4 [.ref tb, .int (nI n), .ref rb, .int (nI rl), .ref db, .ref un, .ref pk], zB K tb 16384 (zby t)] (fun r w1 => r = some (.int (nI (zadl t n))) ∧ w1 = [zO x 4 [.ref tb, .int (nI n), .ref rb, .int (nI rl), .ref db, .ref un, .ref pk], zB K tb 16384 (zby t)]) (fun _ _ => False) := by
  refine zc_of (cc := c_ZB_adler) (nl := 1) (ret := (some .int)) (by decide) (Nat.le_of_ble_eq_true rfl) (fun G F E => ?_)
  have F : zf G l K { frames := 1, cells := 0, slots := 0, locals := 24 } "ZlibBox" c_ZB_adler 1 := F
  show zj G 0 0 0 [(0, .ref x)] [] [zO x 4 [.ref tb, .int (nI n), .ref rb, .int (nI rl), .ref db, .ref un, .ref pk], zB K tb 16384 (zby t)]
  refine zj_aload_n F d_ZB_adler_0 0 rfl rfl ?_
  refine zj_get F d_ZB_adler_1 0 0 rfl rfl in_ZB (by decide) q_146 rfl ?_
  refine zj_aload_n F d_ZB_adler_4 0 rfl rfl ?_
  refine zj_get F d_ZB_adler_5 0 1 rfl rfl in_ZB (by decide) q_147 rfl ?_
  refine zj_call (maxL := 5) (wr := [zO x 4 [.ref tb, .int (nI n), .ref rb, .int (nI rl), .ref db, .ref un, .ref pk]]) F E (m_adlerOf l K tb 16384 n t hb (by decide) hn) (zi_S (As := [.ref tb, .int (nI n)]) (rest := []) F d_ZB_adler_8 q_179 q_180 q_1 q_181 (Or.inl ⟨_, _, rfl⟩) (by decide) (show Option.map (fun d => d.parameters.length) (parseMethodDescriptor y_ZB_adlerOf.desc) = some 2 from by decide +kernel)) d_ZB_adler_8 q_181 (Or.inl ⟨_, _, rfl⟩) q_1 [1] [0] rfl rfl rfl rfl (by decide) ⟨by decide, by decide, by decide, by decide⟩ (Nat.le_of_ble_eq_true rfl) (fun v w1 hq => ?_) (fun X w1 hq => ?_)
  · obtain ⟨rfl, rfl⟩ := hq
    show zj G 0 0 11 [(0, .ref x)] [.int (nI (zadl t n))] [zO x 4 [.ref tb, .int (nI n), .ref rb, .int (nI rl), .ref db, .ref un, .ref pk], zB K tb 16384 (zby t)]
    exact zj_iret F E d_ZB_adler_11 (Nat.le_refl _) (Nat.le_refl _) ⟨rfl, rfl⟩
  · exact hq.elim
def zfil (f : Nat → Int32) (v : Int32) : Nat → (Nat → Int32)
  | 0 => f
  | i + 1 => upd (zfil f v i) i v
theorem zfil_eq (f : Nat → Int32) (v : Int32) : ∀ i j, zfil f v i j = if j < i then v else f j
  | 0, j => by rw [if_neg (by omega)]; rfl
  | i + 1, j => by
    show upd (zfil f v i) i v j = _
    unfold upd
    by_cases h : j = i
    · rw [if_pos h, if_pos (by omega)]
    · rw [if_neg h, zfil_eq f v i j]
      by_cases h2 : j < i
      · rw [if_pos h2, if_pos (by omega)]
      · rw [if_neg h2, if_neg (by omega)]
set_option maxHeartbeats 4000000 in
set_option maxRecDepth 100000 in
/-- Arrays.fill(int[], int) -/
theorem m_fill (l : Launch) (K : zk) (a n : Nat) (f : Nat → Int32) (v : Int32) (hn : n < 2 ^ 24) : zc l K y_AR_fill w_AR_fill { frames := 0, cells := 0, slots := 0, locals := 0 } 0 0 0 0 [.ref a, .int v] [zI K a n f] (fun r w1 => r = none ∧ w1 = [zI K a n (zfil f v n)]) (fun _ _ => False) := by
  refine zc_of (cc := c_AR_fill) (nl := 4) (ret := none) (by decide) (Nat.le_of_ble_eq_true rfl) (fun G F E => ?_)
  have F : zf G l K { frames := 0, cells := 0, slots := 0, locals := 0 } "java/util/Arrays" c_AR_fill 4 := F
  show zj G 0 0 0 [(0, .ref a), (1, .int v)] [] [zI K a n f]
  refine zj_iconst (v := nI 0) F d_AR_fill_0 (by decide) ?_
  refine zj_istore_n (L' := [(2, .int (nI 0)), (0, .ref a), (1, .int v)]) F d_AR_fill_1 rfl (by decide) rfl ?_
  refine zj_aload_n F d_AR_fill_2 1 rfl rfl ?_
  refine zj_alen F d_AR_fill_3 0 1 rfl rfl ?_
  refine zj_istore_n (L' := [(3, .int (nI n)), (2, .int (nI 0)), (0, .ref a), (1, .int v)]) F d_AR_fill_4 rfl (by decide) rfl ?_
  have key : ∀ i, i ≤ n → zj G 0 0 5 [(0, .ref a), (1, .int v), (2, .int (nI i)), (3, .int (nI n))] [] [zI K a n (zfil f v i)] := by
    refine zdown n ?_ ?_
    · show zj G 0 0 5 [(0, .ref a), (1, .int v), (2, .int (nI n)), (3, .int (nI n))] [] [zI K a n (zfil f v n)]
      refine zj_iload_n F d_AR_fill_5 2 rfl rfl ?_
      refine zj_iload_n F d_AR_fill_6 3 rfl rfl ?_
      refine zj_icmp_ge (tgt := 20) F d_AR_fill_7 (by decide) (nI_leI (by omega) (by omega)) (fun h7 => ?_) (fun h7 => ?_)
      · exact zj_vret F E d_AR_fill_20 (Nat.le_refl _) (Nat.le_refl _) ⟨rfl, rfl⟩
      · exact absurd (Nat.le_refl n) h7
    · intro i hi ih
      show zj G 0 0 5 [(0, .ref a), (1, .int v), (2, .int (nI i)), (3, .int (nI n))] [] [zI K a n (zfil f v i)]
      refine zj_iload_n F d_AR_fill_5 2 rfl rfl ?_
      refine zj_iload_n F d_AR_fill_6 3 rfl rfl ?_
      refine zj_icmp_ge (tgt := 20) F d_AR_fill_7 (by decide) (nI_leI (by omega) (by omega)) (fun h7 => ?_) (fun h7 => ?_)
      · exact absurd h7 (by omega)
      · refine zj_aload_n F d_AR_fill_10 0 rfl rfl ?_
        refine zj_iload_n F d_AR_fill_11 2 rfl rfl ?_
        refine zj_iload_n F d_AR_fill_12 1 rfl rfl ?_
        refine zj_iast (ws' := [zI K a n (zfil f v (i + 1))]) F d_AR_fill_13 0 1 i rfl rfl rfl (by omega) (by omega) rfl ?_
        refine zj_iinc (v := nI (i + 1)) (L' := [(2, .int (nI (i + 1))), (0, .ref a), (1, .int v), (3, .int (nI n))]) F d_AR_fill_14 2 rfl (nI_add _ _) (by decide) rfl ?_
        refine zj_goto F d_AR_fill_17 (tgt := 5) (by decide) ?_
        exact zj_sub [1, 2, 0, 3] rfl ih
  exact zj_sub [2, 3, 1, 0] rfl (key 0 (Nat.zero_le _))
