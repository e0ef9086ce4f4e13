/-! the reference: leaves -/
theorem zL_of {a : Nat} (h : a < 2 ^ 31) : (nI a).toInt64 = Int64.ofNat a := by
  apply Int64.toInt_inj.mp
  rw [Int32.toInt_toInt64, Int64.toInt_ofNat_of_lt (by omega)]
  exact Int32.toInt_ofNat_of_lt (by omega)
theorem zL_ma {a b : Nat} (hb : b < 2 ^ 31) (c : Nat) : Int64.ofNat a * Int64.ofNat c + (nI b).toInt64 = Int64.ofNat (a * c + b) := by
  rw [zL_of hb, Int64.ofNat_add, Int64.ofNat_mul]
theorem zbit_dd {t dd : Nat → Nat} {p : Nat} (h : dd (p / 8) = t (p / 8)) : zbit dd p = zbit t p := by
  unfold zbit
  rw [h]
set_option maxHeartbeats 4000000 in
set_option maxRecDepth 100000 in
/-- can(good) -/
theorem m_MO_can (l : Launch) (hl : l.stackTraces = false) (K : zk) (m : Nat) (v : Int32)  : zc l K y_MO_can w_MO_can { frames := 6, cells := 1, slots := 6, locals := 100 } 0 0 1 6 [.ref m, .int v] [] (fun r w1 => ¬ v = 0 ∧ r = none ∧ w1 = []) (fun X w1 => v = 0 ∧ X = zU ∧ w1 = []) := by
  refine zc_of (cc := c_MO_can) (nl := 2) (ret := none) (by decide) (Nat.le_of_ble_eq_true rfl) (fun G F E => ?_)
  have F : zf G l K { frames := 6, cells := 1, slots := 6, locals := 100 } "ZlibBoxModel" c_MO_can 2 := F
  show zj G 0 0 0 [(0, .ref m), (1, .int v)] [] []
  refine zj_iload_n F d_MO_can_0 1 rfl rfl ?_
  refine zj_if_ne (tgt := 12) F d_MO_can_1 (by decide) Iff.rfl (fun h1 => ?_) (fun h1 => ?_)
  · exact zj_vret F E d_MO_can_12 (Nat.le_refl _) (Nat.le_refl _) ⟨h1, rfl, rfl⟩
  · exact zj_throw0 (names := zt_up) F E hl d_MO_can_4 d_MO_can_7 d_MO_can_8 d_MO_can_11 (by decide +kernel) (by decide +kernel) (at_MO_55) ⟨by decide, by decide, by decide, by decide⟩ rfl (by decide) (by decide) ⟨h1, rfl, rfl⟩
set_option maxHeartbeats 4000000 in
set_option maxRecDepth 100000 in
/-- thrown() -/
theorem m_MO_thrown (l : Launch) (K : zk) (m ta re da ro li di lc la ou he ch : Nat) (fa tn sz dn rn ba os bb bc : Int32)  : zc l K y_MO_thrown w_MO_thrown { frames := 0, cells := 0, slots := 0, locals := 0 } 0 0 0 0 [.ref m] [zO m 6 [.int fa, .ref ta, .int tn, .ref re, .int sz, .ref da, .int dn, .ref ro, .int rn, .int ba, .ref li, .ref di, .ref lc, .ref la, .ref ou, .int os, .int bb, .int bc, .ref he, .ref ch]] (fun r w1 => r = some (.int fa) ∧ w1 = [zO m 6 [.int fa, .ref ta, .int tn, .ref re, .int sz, .ref da, .int dn, .ref ro, .int rn, .int ba, .ref li, .ref di, .ref lc, .ref la, .ref ou, .int os, .int bb, .int bc, .ref he, .ref ch]]) (fun _ _ => False) := by
  refine zc_of (cc := c_MO_thrown) (nl := 1) (ret := (some .int)) (by decide) (Nat.le_of_ble_eq_true rfl) (fun G F E => ?_)
  have F : zf G l K { frames := 0, cells := 0, slots := 0, locals := 0 } "ZlibBoxModel" c_MO_thrown 1 := F
  show zj G 0 0 0 [(0, .ref m)] [] [zO m 6 [.int fa, .ref ta, .int tn, .ref re, .int sz, .ref da, .int dn, .ref ro, .int rn, .int ba, .ref li, .ref di, .ref lc, .ref la, .ref ou, .int os, .int bb, .int bc, .ref he, .ref ch]]
  refine zj_aload_n F d_MO_thrown_0 0 rfl rfl ?_
  refine zj_get F d_MO_thrown_1 0 0 rfl rfl in_MO (by decide) q_551 rfl ?_
  exact zj_iret F E d_MO_thrown_4 (Nat.le_refl _) (Nat.le_refl _) ⟨rfl, rfl⟩
set_option maxHeartbeats 4000000 in
set_option maxRecDepth 100000 in
/-- fail(code) -/
theorem m_MO_fail (l : Launch) (K : zk) (m ta re da ro li di lc la ou he ch : Nat) (fa tn sz dn rn ba os bb bc : Int32) (v : Int32)  : zc l K y_MO_fail w_MO_fail { frames := 0, cells := 0, slots := 0, locals := 0 } 0 0 0 0 [.ref m, .int v] [zO m 6 [.int fa, .ref ta, .int tn, .ref re, .int sz, .ref da, .int dn, .ref ro, .int rn, .int ba, .ref li, .ref di, .ref lc, .ref la, .ref ou, .int os, .int bb, .int bc, .ref he, .ref ch]] (fun r w1 => r = some (.int (nI 0)) ∧ w1 = [zO m 6 [.int v, .ref ta, .int tn, .ref re, .int sz, .ref da, .int dn, .ref ro, .int rn, .int ba, .ref li, .ref di, .ref lc, .ref la, .ref ou, .int os, .int bb, .int bc, .ref he, .ref ch]]) (fun _ _ => False) := by
  refine zc_of (cc := c_MO_fail) (nl := 2) (ret := (some .int)) (by decide) (Nat.le_of_ble_eq_true rfl) (fun G F E => ?_)
  have F : zf G l K { frames := 0, cells := 0, slots := 0, locals := 0 } "ZlibBoxModel" c_MO_fail 2 := F
  show zj G 0 0 0 [(0, .ref m), (1, .int v)] [] [zO m 6 [.int fa, .ref ta, .int tn, .ref re, .int sz, .ref da, .int dn, .ref ro, .int rn, .int ba, .ref li, .ref di, .ref lc, .ref la, .ref ou, .int os, .int bb, .int bc, .ref he, .ref ch]]
  refine zj_aload_n F d_MO_fail_0 0 rfl rfl ?_
  refine zj_iload_n F d_MO_fail_1 1 rfl rfl ?_
  refine zj_put (ws' := [zO m 6 [.int v, .ref ta, .int tn, .ref re, .int sz, .ref da, .int dn, .ref ro, .int rn, .int ba, .ref li, .ref di, .ref lc, .ref la, .ref ou, .int os, .int bb, .int bc, .ref he, .ref ch]]) F d_MO_fail_2 0 0 rfl rfl in_MO ty_MO nm_MO (by decide) q_551 rfl rfl rfl (Nat.le_of_ble_eq_true rfl) rfl ?_
  refine zj_iconst (v := nI 0) F d_MO_fail_5 (by decide) ?_
  exact zj_iret F E d_MO_fail_6 (Nat.le_refl _) (Nat.le_refl _) ⟨rfl, rfl⟩
set_option maxHeartbeats 4000000 in
set_option maxRecDepth 100000 in
/-- bits(c) -/
theorem m_MO_bits (l : Launch) (hl : l.stackTraces = false) (K : zk) (m ta re da ro li di lc la ou he ch : Nat) (fa tn sz rn os bb bc : Int32) (dn p c : Nat) (t dd : Nat → Nat) (hb : ∀ j, t j < 256) (hdn : dn ≤ 16384) (hdd : ∀ j, j < dn → dd j = t j) (hp : p ≤ 8 * dn) (hc : c ≤ 16) : zc l K y_MO_bits w_MO_bits { frames := 7, cells := 1, slots := 6, locals := 121 } 0 0 1 6 [.ref m, .int (nI c)] [zO m 6 [.int fa, .ref ta, .int tn, .ref re, .int sz, .ref da, .int (nI dn), .ref ro, .int rn, .int (nI p), .ref li, .ref di, .ref lc, .ref la, .ref ou, .int os, .int bb, .int bc, .ref he, .ref ch], zB K da 16384 (zby dd)] (fun r w1 => p + c ≤ 8 * dn ∧ r = some (.int (nI (znum t p c))) ∧ w1 = [zO m 6 [.int fa, .ref ta, .int tn, .ref re, .int sz, .ref da, .int (nI dn), .ref ro, .int rn, .int (nI (p + c)), .ref li, .ref di, .ref lc, .ref la, .ref ou, .int os, .int bb, .int bc, .ref he, .ref ch], zB K da 16384 (zby dd)]) (fun X w1 => ¬ p + c ≤ 8 * dn ∧ X = zU ∧ ∃ p', p' ≤ 8 * dn ∧ w1 = [zO m 6 [.int fa, .ref ta, .int tn, .ref re, .int sz, .ref da, .int (nI dn), .ref ro, .int rn, .int (nI p'), .ref li, .ref di, .ref lc, .ref la, .ref ou, .int os, .int bb, .int bc, .ref he, .ref ch], zB K da 16384 (zby dd)]) := by
  refine zc_of (cc := c_MO_bits) (nl := 4) (ret := (some .int)) (by decide) (Nat.le_of_ble_eq_true rfl) (fun G F E => ?_)
  have F : zf G l K { frames := 7, cells := 1, slots := 6, locals := 121 } "ZlibBoxModel" c_MO_bits 4 := F
  show zj G 0 0 0 [(0, .ref m), (1, .int (nI c))] [] [zO m 6 [.int fa, .ref ta, .int tn, .ref re, .int sz, .ref da, .int (nI dn), .ref ro, .int rn, .int (nI p), .ref li, .ref di, .ref lc, .ref la, .ref ou, .int os, .int bb, .int bc, .ref he, .ref ch], zB K da 16384 (zby dd)]
  refine zj_iconst (v := nI 0) F d_MO_bits_0 (by decide) ?_
  refine zj_istore_n (L' := [(2, .int (nI 0)), (0, .ref m), (1, .int (nI c))]) F d_MO_bits_1 rfl (by decide) rfl ?_
  refine zj_iconst (v := nI 0) F d_MO_bits_2 (by decide) ?_
  refine zj_istore_n (L' := [(3, .int (nI 0)), (2, .int (nI 0)), (0, .ref m), (1, .int (nI c))]) F d_MO_bits_3 rfl (by decide) rfl ?_
  have key : ∀ q i, i + q = c → p + i ≤ 8 * dn → zj G 0 0 4 [(0, .ref m), (1, .int (nI c)), (2, .int (nI (znum t p i))), (3, .int (nI i))] [] [zO m 6 [.int fa, .ref ta, .int tn, .ref re, .int sz, .ref da, .int (nI dn), .ref ro, .int rn, .int (nI (p + i)), .ref li, .ref di, .ref lc, .ref la, .ref ou, .int os, .int bb, .int bc, .ref he, .ref ch], zB K da 16384 (zby dd)] := by
    intro q
    induction q with
    | zero =>
      intro i h1 h2
      have h3 : c = i := by omega
      subst h3
      show zj G 0 0 4 [(0, .ref m), (1, .int (nI c)), (2, .int (nI (znum t p c))), (3, .int (nI c))] [] [zO m 6 [.int fa, .ref ta, .int tn, .ref re, .int sz, .ref da, .int (nI dn), .ref ro, .int rn, .int (nI (p + c)), .ref li, .ref di, .ref lc, .ref la, .ref ou, .int os, .int bb, .int bc, .ref he, .ref ch], zB K da 16384 (zby dd)]
      refine zj_iload_n F d_MO_bits_4 3 rfl rfl ?_
      refine zj_iload_n F d_MO_bits_5 1 rfl rfl ?_
      refine zj_icmp_ge (tgt := 74) F d_MO_bits_6 (by decide) (nI_leI (by omega) (by omega)) (fun h6 => ?_) (fun h6 => ?_)
      · refine zj_iload_n F d_MO_bits_74 2 rfl rfl ?_
        exact zj_iret F E d_MO_bits_75 (Nat.le_refl _) (Nat.le_refl _) ⟨h2, rfl, rfl⟩
      · exact absurd (Nat.le_refl _) h6
    | succ q ih =>
      intro i h1 h2
      show zj G 0 0 4 [(0, .ref m), (1, .int (nI c)), (2, .int (nI (znum t p i))), (3, .int (nI i))] [] [zO m 6 [.int fa, .ref ta, .int tn, .ref re, .int sz, .ref da, .int (nI dn), .ref ro, .int rn, .int (nI (p + i)), .ref li, .ref di, .ref lc, .ref la, .ref ou, .int os, .int bb, .int bc, .ref he, .ref ch], zB K da 16384 (zby dd)]
      refine zj_iload_n F d_MO_bits_4 3 rfl rfl ?_
      refine zj_iload_n F d_MO_bits_5 1 rfl rfl ?_
      refine zj_icmp_ge (tgt := 74) F d_MO_bits_6 (by decide) (nI_leI (by omega) (by omega)) (fun h6 => ?_) (fun h6 => ?_)
      · exact absurd h6 (by omega)
      · refine zj_aload_n F d_MO_bits_9 0 rfl rfl ?_
        refine zj_aload_n F d_MO_bits_10 0 rfl rfl ?_
        refine zj_get F d_MO_bits_11 0 9 rfl rfl in_MO (by decide) q_560 rfl ?_
        refine zj_bipush (v := nI 8) F d_MO_bits_14 (by decide) ?_
        refine zj_aload_n F d_MO_bits_16 0 rfl rfl ?_
        refine zj_get F d_MO_bits_17 0 6 rfl rfl in_MO (by decide) q_557 rfl ?_
        refine zj_imul F d_MO_bits_20 (pk_mul _ _) ?_
        refine zj_icmp_ge (tgt := 28) F d_MO_bits_21 (by decide) (nI_leI (by omega) (by omega)) (fun h21 => ?_) (fun h21 => ?_)
        · refine zj_iconst (v := nI 0) F d_MO_bits_28 (by decide) ?_
          refine zj_call (maxL := 2) (wr := [zO m 6 [.int fa, .ref ta, .int tn, .ref re, .int sz, .ref da, .int (nI dn), .ref ro, .int rn, .int (nI (p + i)), .ref li, .ref di, .ref lc, .ref la, .ref ou, .int os, .int bb, .int bc, .ref he, .ref ch], zB K da 16384 (zby dd)]) F E (m_MO_can l hl K m (nI 0)) (zi_V (As := [.int (nI 0)]) (rest := []) F d_MO_bits_29 0 rfl rfl rfl q_626 q_628 sel_MO_can q_629 (Or.inl ⟨_, _, rfl⟩) (by decide) (show Option.map (fun d => d.parameters.length) (parseMethodDescriptor y_MO_can.desc) = some 1 from by decide +kernel)) d_MO_bits_29 q_629 (Or.inl ⟨_, _, rfl⟩) q_7 [] [0, 1] rfl rfl rfl rfl (by decide) ⟨by decide, by decide, by decide, by decide⟩ (Nat.le_of_ble_eq_true rfl) (fun v w1 hq => ?_) (fun X w1 hq => ?_)
          · obtain ⟨hq0, rfl, rfl⟩ := hq
            show zj G 0 0 32 [(0, .ref m), (1, .int (nI c)), (2, .int (nI (znum t p i))), (3, .int (nI i))] [] [zO m 6 [.int fa, .ref ta, .int tn, .ref re, .int sz, .ref da, .int (nI dn), .ref ro, .int rn, .int (nI (p + i)), .ref li, .ref di, .ref lc, .ref la, .ref ou, .int os, .int bb, .int bc, .ref he, .ref ch], zB K da 16384 (zby dd)]
            exact absurd (by decide) hq0
          · obtain ⟨hx0, rfl, rfl⟩ := hq
            exact ⟨rfl, by decide, by decide, [0, 1], [zO m 6 [.int fa, .ref ta, .int tn, .ref re, .int sz, .ref da, .int (nI dn), .ref ro, .int rn, .int (nI (p + i)), .ref li, .ref di, .ref lc, .ref la, .ref ou, .int os, .int bb, .int bc, .ref he, .ref ch], zB K da 16384 (zby dd)], rfl, rfl, ⟨by omega, rfl, _, h2, rfl⟩⟩
        · refine zj_iconst (v := nI 1) F d_MO_bits_24 (by decide) ?_
          refine zj_goto F d_MO_bits_25 (tgt := 29) (by decide) ?_
          refine zj_call (maxL := 2) (wr := [zO m 6 [.int fa, .ref ta, .int tn, .ref re, .int sz, .ref da, .int (nI dn), .ref ro, .int rn, .int (nI (p + i)), .ref li, .ref di, .ref lc, .ref la, .ref ou, .int os, .int bb, .int bc, .ref he, .ref ch], zB K da 16384 (zby dd)]) F E (m_MO_can l hl K m (nI 1)) (zi_V (As := [.int (nI 1)]) (rest := []) F d_MO_bits_29 0 rfl rfl rfl q_626 q_628 sel_MO_can q_629 (Or.inl ⟨_, _, rfl⟩) (by decide) (show Option.map (fun d => d.parameters.length) (parseMethodDescriptor y_MO_can.desc) = some 1 from by decide +kernel)) d_MO_bits_29 q_629 (Or.inl ⟨_, _, rfl⟩) q_7 [] [0, 1] rfl rfl rfl rfl (by decide) ⟨by decide, by decide, by decide, by decide⟩ (Nat.le_of_ble_eq_true rfl) (fun v w1 hq => ?_) (fun X w1 hq => ?_)
          · obtain ⟨hq0, rfl, rfl⟩ := hq
            show zj G 0 0 32 [(0, .ref m), (1, .int (nI c)), (2, .int (nI (znum t p i))), (3, .int (nI i))] [] [zO m 6 [.int fa, .ref ta, .int tn, .ref re, .int sz, .ref da, .int (nI dn), .ref ro, .int rn, .int (nI (p + i)), .ref li, .ref di, .ref lc, .ref la, .ref ou, .int os, .int bb, .int bc, .ref he, .ref ch], zB K da 16384 (zby dd)]
            have e1 := hdd ((p + i) / 8) (by omega)
            have hb2 : dd ((p + i) / 8) < 256 := by rw [e1]; exact hb _
            refine zj_iload_n F d_MO_bits_32 2 rfl rfl ?_
            refine zj_aload_n F d_MO_bits_33 0 rfl rfl ?_
            refine zj_get F d_MO_bits_34 0 5 rfl rfl in_MO (by decide) q_556 rfl ?_
            refine zj_aload_n F d_MO_bits_37 0 rfl rfl ?_
            refine zj_get F d_MO_bits_38 0 9 rfl rfl in_MO (by decide) q_560 rfl ?_
            refine zj_iconst (v := nI 3) F d_MO_bits_41 (by decide) ?_
            refine zj_ishr F d_MO_bits_42 (zI_shr (by omega) (by decide)) ?_
            refine zj_bald (z := zby dd ((p + i) / 8)) F d_MO_bits_43 1 0 ((p + i) / 8) rfl rfl rfl (by omega) (by omega) rfl ?_
            refine zj_aload_n F d_MO_bits_44 0 rfl rfl ?_
            refine zj_get F d_MO_bits_45 0 9 rfl rfl in_MO (by decide) q_560 rfl ?_
            refine zj_bipush (v := nI 7) F d_MO_bits_48 (by decide) ?_
            refine zj_iand F d_MO_bits_50 (pk_andN (by omega) 3 (by decide)) ?_
            refine zj_ishr (z := zby dd ((p + i) / 8) >>> (nI ((p + i) % 8) &&& 31)) F d_MO_bits_51 rfl ?_
            refine zj_iconst (v := nI 1) F d_MO_bits_52 (by decide) ?_
            refine zj_iand (z := nI (zbit t (p + i))) F d_MO_bits_53 ((zbit_and hb2).trans (by rw [zbit_dd e1])) ?_
            refine zj_iload_n F d_MO_bits_54 3 rfl rfl ?_
            refine zj_ishl (z := nI (zbit t (p + i) * 2 ^ i)) F d_MO_bits_55 (zI_shl (by omega)) ?_
            refine zj_ior (z := nI (znum t p (i + 1))) F d_MO_bits_56 (zI_or2 i (znum_lt t p i)) ?_
            refine zj_istore_n (L' := [(2, .int (nI (znum t p (i + 1)))), (0, .ref m), (1, .int (nI c)), (3, .int (nI i))]) F d_MO_bits_57 rfl (by decide) rfl ?_
            refine zj_aload_n F d_MO_bits_58 1 rfl rfl ?_
            refine zj_dup F d_MO_bits_59 rfl ?_
            refine zj_get F d_MO_bits_60 0 9 rfl rfl in_MO (by decide) q_560 rfl ?_
            refine zj_iconst (v := nI 1) F d_MO_bits_63 (by decide) ?_
            refine zj_iadd F d_MO_bits_64 (nI_add _ _) ?_
            refine zj_put (ws' := [zO m 6 [.int fa, .ref ta, .int tn, .ref re, .int sz, .ref da, .int (nI dn), .ref ro, .int rn, .int (nI ((p + i) + 1)), .ref li, .ref di, .ref lc, .ref la, .ref ou, .int os, .int bb, .int bc, .ref he, .ref ch], zB K da 16384 (zby dd)]) F d_MO_bits_65 0 9 rfl rfl in_MO ty_MO nm_MO (by decide) q_560 rfl rfl rfl (Nat.le_of_ble_eq_true rfl) rfl ?_
            refine zj_iinc (v := nI (i + 1)) (L' := [(3, .int (nI (i + 1))), (2, .int (nI (znum t p (i + 1)))), (0, .ref m), (1, .int (nI c))]) F d_MO_bits_68 3 rfl (nI_add _ _) (by decide) rfl ?_
            refine zj_goto F d_MO_bits_71 (tgt := 4) (by decide) ?_
            exact zj_sub [2, 3, 1, 0] rfl (ih (i + 1) (by omega) (by omega))
          · obtain ⟨hx0, rfl, rfl⟩ := hq
            exact ⟨rfl, by decide, by decide, [0, 1], [zO m 6 [.int fa, .ref ta, .int tn, .ref re, .int sz, .ref da, .int (nI dn), .ref ro, .int rn, .int (nI (p + i)), .ref li, .ref di, .ref lc, .ref la, .ref ou, .int os, .int bb, .int bc, .ref he, .ref ch], zB K da 16384 (zby dd)], rfl, rfl, absurd hx0 (by decide)⟩
  exact zj_sub [2, 3, 1, 0] rfl (key c 0 (Nat.zero_add _) hp)
set_option maxHeartbeats 4000000 in
set_option maxRecDepth 100000 in
/-- meaning(c) -/
theorem m_MO_meaning (l : Launch) (hl : l.stackTraces = false) (K : zk) (m ta re da ro li di lc la ou he ch : Nat) (fa tn sz rn os bb bc : Int32) (dn p c ca ma : Nat) (al : Int32) (t dd cn mg : Nat → Nat) (mf : Nat → Nat → Nat) (hb : ∀ j, t j < 256) (hdn : dn ≤ 16384) (hdd : ∀ j, j < dn → dd j = t j) (hp : p ≤ 8 * dn) (hB : zbas cn 16 ≤ 288) (hm : ∀ l, 1 ≤ l → l ≤ 15 → ∀ r, r < cn l → mg (zbas cn l + r) = mf l r) : zc l K y_MO_meaning w_MO_meaning { frames := 8, cells := 1, slots := 6, locals := 144 } 0 0 1 6 [.ref m, .ref c] [zO m 6 [.int fa, .ref ta, .int tn, .ref re, .int sz, .ref da, .int (nI dn), .ref ro, .int rn, .int (nI p), .ref li, .ref di, .ref lc, .ref la, .ref ou, .int os, .int bb, .int bc, .ref he, .ref ch], zB K da 16384 (zby dd), zO c 5 [.ref ca, .ref ma, .int al], zI K ca 16 (zna cn), zI K ma 320 (zna mg)] (fun v w1 => ∃ x p', zdec t (8 * dn) cn mf 15 1 0 0 p = some (x, p') ∧ p' ≤ 8 * dn ∧ v = some (.int (nI x)) ∧ w1 = [zO m 6 [.int fa, .ref ta, .int tn, .ref re, .int sz, .ref da, .int (nI dn), .ref ro, .int rn, .int (nI p'), .ref li, .ref di, .ref lc, .ref la, .ref ou, .int os, .int bb, .int bc, .ref he, .ref ch], zB K da 16384 (zby dd), zO c 5 [.ref ca, .ref ma, .int al], zI K ca 16 (zna cn), zI K ma 320 (zna mg)]) (fun X w1 => zdec t (8 * dn) cn mf 15 1 0 0 p = none ∧ X = zU ∧ ∃ p', p' ≤ 8 * dn ∧ w1 = [zO m 6 [.int fa, .ref ta, .int tn, .ref re, .int sz, .ref da, .int (nI dn), .ref ro, .int rn, .int (nI p'), .ref li, .ref di, .ref lc, .ref la, .ref ou, .int os, .int bb, .int bc, .ref he, .ref ch], zB K da 16384 (zby dd), zO c 5 [.ref ca, .ref ma, .int al], zI K ca 16 (zna cn), zI K ma 320 (zna mg)]) := by
  refine zc_of (cc := c_MO_meaning) (nl := 6) (ret := (some .int)) (by decide) (Nat.le_of_ble_eq_true rfl) (fun G F E => ?_)
  have F : zf G l K { frames := 8, cells := 1, slots := 6, locals := 144 } "ZlibBoxModel" c_MO_meaning 6 := F
  show zj G 0 0 0 [(0, .ref m), (1, .ref c)] [] [zO m 6 [.int fa, .ref ta, .int tn, .ref re, .int sz, .ref da, .int (nI dn), .ref ro, .int rn, .int (nI p), .ref li, .ref di, .ref lc, .ref la, .ref ou, .int os, .int bb, .int bc, .ref he, .ref ch], zB K da 16384 (zby dd), zO c 5 [.ref ca, .ref ma, .int al], zI K ca 16 (zna cn), zI K ma 320 (zna mg)]
  refine zj_iconst (v := nI 0) F d_MO_meaning_0 (by decide) ?_
  refine zj_istore_n (L' := [(2, .int (nI 0)), (0, .ref m), (1, .ref c)]) F d_MO_meaning_1 rfl (by decide) rfl ?_
  refine zj_iconst (v := nI 0) F d_MO_meaning_2 (by decide) ?_
  refine zj_istore_n (L' := [(3, .int (nI 0)), (2, .int (nI 0)), (0, .ref m), (1, .ref c)]) F d_MO_meaning_3 rfl (by decide) rfl ?_
  refine zj_iconst (v := nI 0) F d_MO_meaning_4 (by decide) ?_
  refine zj_istore (L' := [(4, .int (nI 0)), (3, .int (nI 0)), (2, .int (nI 0)), (0, .ref m), (1, .ref c)]) F d_MO_meaning_5 (by decide) rfl ?_
  refine zj_iconst (v := nI 1) F d_MO_meaning_7 (by decide) ?_
  refine zj_istore (L' := [(5, .int (nI 1)), (4, .int (nI 0)), (3, .int (nI 0)), (2, .int (nI 0)), (0, .ref m), (1, .ref c)]) F d_MO_meaning_8 (by decide) rfl ?_
  have key : ∀ fuel len code first p1, fuel + len = 16 → 1 ≤ len → p1 ≤ 8 * dn → first ≤ code → (code + 1) * 2 ^ fuel ≤ 32768 → zdec t (8 * dn) cn mf fuel len code (2 * first) p1 = zdec t (8 * dn) cn mf 15 1 0 0 p → zj G 0 0 10 [(0, .ref m), (1, .ref c), (2, .int (nI code)), (3, .int (nI first)), (4, .int (nI (zbas cn len))), (5, .int (nI len))] [] [zO m 6 [.int fa, .ref ta, .int tn, .ref re, .int sz, .ref da, .int (nI dn), .ref ro, .int rn, .int (nI p1), .ref li, .ref di, .ref lc, .ref la, .ref ou, .int os, .int bb, .int bc, .ref he, .ref ch], zB K da 16384 (zby dd), zO c 5 [.ref ca, .ref ma, .int al], zI K ca 16 (zna cn), zI K ma 320 (zna mg)] := by
    intro fuel
    induction fuel with
    | zero =>
      intro len code first p1 h1 h2 h3 h4 h5 h6
      have hlen : len = 16 := by omega
      show zj G 0 0 10 [(0, .ref m), (1, .ref c), (2, .int (nI code)), (3, .int (nI first)), (4, .int (nI (zbas cn len))), (5, .int (nI len))] [] [zO m 6 [.int fa, .ref ta, .int tn, .ref re, .int sz, .ref da, .int (nI dn), .ref ro, .int rn, .int (nI p1), .ref li, .ref di, .ref lc, .ref la, .ref ou, .int os, .int bb, .int bc, .ref he, .ref ch], zB K da 16384 (zby dd), zO c 5 [.ref ca, .ref ma, .int al], zI K ca 16 (zna cn), zI K ma 320 (zna mg)]
      refine zj_iload F d_MO_meaning_10 5 rfl ?_
      refine zj_bipush (v := nI 16) F d_MO_meaning_12 (by decide) ?_
      refine zj_icmp_ge (tgt := 84) F d_MO_meaning_14 (by decide) (nI_leI (by omega) (by omega)) (fun h14 => ?_) (fun h14 => ?_)
      · refine zj_aload_n F d_MO_meaning_84 0 rfl rfl ?_
        refine zj_iconst (v := nI 0) F d_MO_meaning_85 (by decide) ?_
        refine zj_call (maxL := 2) (wr := [zO m 6 [.int fa, .ref ta, .int tn, .ref re, .int sz, .ref da, .int (nI dn), .ref ro, .int rn, .int (nI p1), .ref li, .ref di, .ref lc, .ref la, .ref ou, .int os, .int bb, .int bc, .ref he, .ref ch], zB K da 16384 (zby dd), zO c 5 [.ref ca, .ref ma, .int al], zI K ca 16 (zna cn), zI K ma 320 (zna mg)]) F E (m_MO_can l hl K m (nI 0)) (zi_V (As := [.int (nI 0)]) (rest := []) F d_MO_meaning_86 0 rfl rfl rfl q_626 q_628 sel_MO_can q_629 (Or.inl ⟨_, _, rfl⟩) (by decide) (show Option.map (fun d => d.parameters.length) (parseMethodDescriptor y_MO_can.desc) = some 1 from by decide +kernel)) d_MO_meaning_86 q_629 (Or.inl ⟨_, _, rfl⟩) q_7 [] [0, 1, 2, 3, 4] rfl rfl rfl rfl (by decide) ⟨by decide, by decide, by decide, by decide⟩ (Nat.le_of_ble_eq_true rfl) (fun v w1 hq => ?_) (fun X w1 hq => ?_)
        · obtain ⟨hq0, rfl, rfl⟩ := hq
          show zj G 0 0 89 [(0, .ref m), (1, .ref c), (2, .int (nI code)), (3, .int (nI first)), (4, .int (nI (zbas cn len))), (5, .int (nI len))] [] [zO m 6 [.int fa, .ref ta, .int tn, .ref re, .int sz, .ref da, .int (nI dn), .ref ro, .int rn, .int (nI p1), .ref li, .ref di, .ref lc, .ref la, .ref ou, .int os, .int bb, .int bc, .ref he, .ref ch], zB K da 16384 (zby dd), zO c 5 [.ref ca, .ref ma, .int al], zI K ca 16 (zna cn), zI K ma 320 (zna mg)]
          exact absurd (by decide) hq0
        · obtain ⟨hx0, rfl, rfl⟩ := hq
          exact ⟨rfl, by decide, by decide, [0, 1, 2, 3, 4], [zO m 6 [.int fa, .ref ta, .int tn, .ref re, .int sz, .ref da, .int (nI dn), .ref ro, .int rn, .int (nI p1), .ref li, .ref di, .ref lc, .ref la, .ref ou, .int os, .int bb, .int bc, .ref he, .ref ch], zB K da 16384 (zby dd), zO c 5 [.ref ca, .ref ma, .int al], zI K ca 16 (zna cn), zI K ma 320 (zna mg)], rfl, rfl, ⟨h6.symm, rfl, p1, h3, rfl⟩⟩
      · exact absurd hlen (by omega)
    | succ fuel ih =>
      intro len code first p1 h1 h2 h3 h4 h5 h6
      have hcb : code + 1 ≤ 32768 := Nat.le_trans (Nat.le_mul_of_pos_right _ (Nat.two_pow_pos _)) h5
      have hcb2 : 2 * code + 2 ≤ 32768 := by have := Nat.le_trans (Nat.mul_le_mul_left (code + 1) (show 2 ≤ 2 ^ (fuel + 1) from by rw [Nat.pow_succ]; have := Nat.two_pow_pos fuel; omega)) h5; omega
      have hbit := zbit_lt t p1
      obtain ⟨hz1, hz2⟩ := zbas_le cn h2 (show len ≤ 15 by omega)
      show zj G 0 0 10 [(0, .ref m), (1, .ref c), (2, .int (nI code)), (3, .int (nI first)), (4, .int (nI (zbas cn len))), (5, .int (nI len))] [] [zO m 6 [.int fa, .ref ta, .int tn, .ref re, .int sz, .ref da, .int (nI dn), .ref ro, .int rn, .int (nI p1), .ref li, .ref di, .ref lc, .ref la, .ref ou, .int os, .int bb, .int bc, .ref he, .ref ch], zB K da 16384 (zby dd), zO c 5 [.ref ca, .ref ma, .int al], zI K ca 16 (zna cn), zI K ma 320 (zna mg)]
      refine zj_iload F d_MO_meaning_10 5 rfl ?_
      refine zj_bipush (v := nI 16) F d_MO_meaning_12 (by decide) ?_
      refine zj_icmp_ge (tgt := 84) F d_MO_meaning_14 (by decide) (nI_leI (by omega) (by omega)) (fun h14 => ?_) (fun h14 => ?_)
      · exact absurd h14 (by omega)
      · refine zj_iload_n F d_MO_meaning_17 2 rfl rfl ?_
        refine zj_iconst (v := nI 1) F d_MO_meaning_18 (by decide) ?_
        refine zj_ishl (z := nI (code * 2 ^ 1)) F d_MO_meaning_19 (zI_shl (by decide)) ?_
        refine zj_aload_n F d_MO_meaning_20 0 rfl rfl ?_
        refine zj_iconst (v := nI 1) F d_MO_meaning_21 (by decide) ?_
        refine zj_call (maxL := 4) (wr := [zO c 5 [.ref ca, .ref ma, .int al], zI K ca 16 (zna cn), zI K ma 320 (zna mg)]) F E (m_MO_bits l hl K m ta re da ro li di lc la ou he ch fa tn sz rn os bb bc dn p1 1 t dd hb hdn hdd h3 (by decide)) (zi_V (As := [.int (nI 1)]) (rest := [.int (nI (code * 2 ^ 1))]) F d_MO_meaning_22 0 rfl rfl rfl q_640 q_642 sel_MO_bits q_643 (Or.inl ⟨_, _, rfl⟩) (by decide) (show Option.map (fun d => d.parameters.length) (parseMethodDescriptor y_MO_bits.desc) = some 1 from by decide +kernel)) d_MO_meaning_22 q_643 (Or.inl ⟨_, _, rfl⟩) q_7 [0, 1] [2, 3, 4] rfl rfl rfl rfl (by decide) ⟨by decide, by decide, by decide, by decide⟩ (Nat.le_of_ble_eq_true rfl) (fun v w1 hq => ?_) (fun X w1 hq => ?_)
        · obtain ⟨hq0, rfl, rfl⟩ := hq
          show zj G 0 0 25 [(0, .ref m), (1, .ref c), (2, .int (nI code)), (3, .int (nI first)), (4, .int (nI (zbas cn len))), (5, .int (nI len))] [.int (nI (znum t p1 1)), .int (nI (code * 2 ^ 1))] [zO c 5 [.ref ca, .ref ma, .int al], zI K ca 16 (zna cn), zI K ma 320 (zna mg), zO m 6 [.int fa, .ref ta, .int tn, .ref re, .int sz, .ref da, .int (nI dn), .ref ro, .int rn, .int (nI (p1 + 1)), .ref li, .ref di, .ref lc, .ref la, .ref ou, .int os, .int bb, .int bc, .ref he, .ref ch], zB K da 16384 (zby dd)]
          have hz0 : znum t p1 1 = zbit t p1 := by show 0 + zbit t (p1 + 0) * 2 ^ 0 = _; rw [Nat.add_zero, Nat.pow_zero, Nat.mul_one, Nat.zero_add]
          have h6' : (if 2 * code + zbit t p1 < 2 * first + cn len then some (mf len (2 * code + zbit t p1 - 2 * first), p1 + 1) else zdec t (8 * dn) cn mf fuel (len + 1) (2 * code + zbit t p1) (2 * (2 * first + cn len)) (p1 + 1)) = zdec t (8 * dn) cn mf 15 1 0 0 p := by rw [← h6]; conv => rhs; unfold zdec; rw [if_pos (show p1 < 8 * dn by omega)]
          rw [hz0]
          show zj G 0 0 25 [(0, .ref m), (1, .ref c), (2, .int (nI code)), (3, .int (nI first)), (4, .int (nI (zbas cn len))), (5, .int (nI len))] [.int (nI (zbit t p1)), .int (nI (code * 2 ^ 1))] [zO c 5 [.ref ca, .ref ma, .int al], zI K ca 16 (zna cn), zI K ma 320 (zna mg), zO m 6 [.int fa, .ref ta, .int tn, .ref re, .int sz, .ref da, .int (nI dn), .ref ro, .int rn, .int (nI (p1 + 1)), .ref li, .ref di, .ref lc, .ref la, .ref ou, .int os, .int bb, .int bc, .ref he, .ref ch], zB K da 16384 (zby dd)]
          refine zj_ior (z := nI (2 * code + zbit t p1)) F d_MO_meaning_25 ((zI_or3 1 (by omega)).trans (by rw [Nat.mul_comm code])) ?_
          refine zj_istore_n (L' := [(2, .int (nI (2 * code + zbit t p1))), (0, .ref m), (1, .ref c), (3, .int (nI first)), (4, .int (nI (zbas cn len))), (5, .int (nI len))]) F d_MO_meaning_26 rfl (by decide) rfl ?_
          refine zj_iload_n F d_MO_meaning_27 3 rfl rfl ?_
          refine zj_iconst (v := nI 1) F d_MO_meaning_28 (by decide) ?_
          refine zj_ishl (z := nI (2 * first)) F d_MO_meaning_29 ((zI_shl (by decide)).trans (by rw [Nat.mul_comm first])) ?_
          refine zj_istore_n (L' := [(3, .int (nI (2 * first))), (2, .int (nI (2 * code + zbit t p1))), (0, .ref m), (1, .ref c), (4, .int (nI (zbas cn len))), (5, .int (nI len))]) F d_MO_meaning_30 rfl (by decide) rfl ?_
          refine zj_iload_n F d_MO_meaning_31 1 rfl rfl ?_
          refine zj_iload_n F d_MO_meaning_32 0 rfl rfl ?_
          refine zj_isub F d_MO_meaning_33 (pk_sub (by omega)) ?_
          refine zj_aload_n F d_MO_meaning_34 3 rfl rfl ?_
          refine zj_getN F d_MO_meaning_35 0 0 rfl rfl in_MC (by decide) q_538 rfl ?_
          refine zj_iload F d_MO_meaning_38 5 rfl ?_
          refine zj_iald (z := nI (cn len)) F d_MO_meaning_40 1 1 len rfl rfl rfl (by omega) (by omega) rfl ?_
          refine zj_icmp_ge (tgt := 56) F d_MO_meaning_41 (by decide) (nI_leI (by omega) (by omega)) (fun h41 => ?_) (fun h41 => ?_)
          · refine zj_iload F d_MO_meaning_56 4 rfl ?_
            refine zj_aload_n F d_MO_meaning_58 3 rfl rfl ?_
            refine zj_getN F d_MO_meaning_59 0 0 rfl rfl in_MC (by decide) q_538 rfl ?_
            refine zj_iload F d_MO_meaning_62 5 rfl ?_
            refine zj_iald (z := nI (cn len)) F d_MO_meaning_64 1 1 len rfl rfl rfl (by omega) (by omega) rfl ?_
            refine zj_iadd (z := nI (zbas cn (len + 1))) F d_MO_meaning_65 (by rw [nI_add, hz1]) ?_
            refine zj_istore (L' := [(4, .int (nI (zbas cn (len + 1)))), (3, .int (nI (2 * first))), (2, .int (nI (2 * code + zbit t p1))), (0, .ref m), (1, .ref c), (5, .int (nI len))]) F d_MO_meaning_66 (by decide) rfl ?_
            refine zj_iload_n F d_MO_meaning_68 1 rfl rfl ?_
            refine zj_aload_n F d_MO_meaning_69 4 rfl rfl ?_
            refine zj_getN F d_MO_meaning_70 0 0 rfl rfl in_MC (by decide) q_538 rfl ?_
            refine zj_iload F d_MO_meaning_73 5 rfl ?_
            refine zj_iald (z := nI (cn len)) F d_MO_meaning_75 1 1 len rfl rfl rfl (by omega) (by omega) rfl ?_
            refine zj_iadd F d_MO_meaning_76 (nI_add _ _) ?_
            refine zj_istore_n (L' := [(3, .int (nI ((2 * first) + (cn len)))), (4, .int (nI (zbas cn (len + 1)))), (2, .int (nI (2 * code + zbit t p1))), (0, .ref m), (1, .ref c), (5, .int (nI len))]) F d_MO_meaning_77 rfl (by decide) rfl ?_
            refine zj_iinc (v := nI (len + 1)) (L' := [(5, .int (nI (len + 1))), (3, .int (nI ((2 * first) + (cn len)))), (4, .int (nI (zbas cn (len + 1)))), (2, .int (nI (2 * code + zbit t p1))), (0, .ref m), (1, .ref c)]) F d_MO_meaning_78 5 rfl (nI_add _ _) (by decide) rfl ?_
            refine zj_wsub (ws' := [zO m 6 [.int fa, .ref ta, .int tn, .ref re, .int sz, .ref da, .int (nI dn), .ref ro, .int rn, .int (nI (p1 + 1)), .ref li, .ref di, .ref lc, .ref la, .ref ou, .int os, .int bb, .int bc, .ref he, .ref ch], zB K da 16384 (zby dd), zO c 5 [.ref ca, .ref ma, .int al], zI K ca 16 (zna cn), zI K ma 320 (zna mg)]) [3, 4, 0, 1, 2] rfl rfl rfl ?_
            refine zj_goto F d_MO_meaning_81 (tgt := 10) (by decide) ?_
            rw [if_neg (by omega)] at h6'
            exact zj_sub [4, 5, 3, 1, 2, 0] rfl (ih (len + 1) _ _ _ (by omega) (by omega) (by omega) (by omega) (by rw [Nat.pow_succ] at h5; calc _ ≤ (2 * (code + 1)) * 2 ^ fuel := Nat.mul_le_mul_right _ (by omega)
                    _ = (code + 1) * (2 ^ fuel * 2) := by rw [Nat.mul_comm 2 (code + 1), Nat.mul_assoc, Nat.mul_comm 2]
                    _ ≤ _ := h5) h6')
          · rw [if_pos (by omega)] at h6'
            refine zj_aload_n F d_MO_meaning_44 3 rfl rfl ?_
            refine zj_getN F d_MO_meaning_45 0 1 rfl rfl in_MC (by decide) q_540 rfl ?_
            refine zj_iload F d_MO_meaning_48 4 rfl ?_
            refine zj_iload_n F d_MO_meaning_50 1 rfl rfl ?_
            refine zj_iadd F d_MO_meaning_51 (nI_add _ _) ?_
            refine zj_iload_n F d_MO_meaning_52 0 rfl rfl ?_
            refine zj_isub F d_MO_meaning_53 (pk_sub (by omega)) ?_
            refine zj_iald (z := nI (mf len (2 * code + zbit t p1 - 2 * first))) F d_MO_meaning_54 2 1 (((zbas cn len) + (2 * code + zbit t p1)) - (2 * first)) rfl rfl rfl (by omega) (by omega) (by unfold zna; rw [← hm len h2 (by omega) _ (by omega)]; congr 2; omega) ?_
            refine zj_wsub (ws' := [zO m 6 [.int fa, .ref ta, .int tn, .ref re, .int sz, .ref da, .int (nI dn), .ref ro, .int rn, .int (nI (p1 + 1)), .ref li, .ref di, .ref lc, .ref la, .ref ou, .int os, .int bb, .int bc, .ref he, .ref ch], zB K da 16384 (zby dd), zO c 5 [.ref ca, .ref ma, .int al], zI K ca 16 (zna cn), zI K ma 320 (zna mg)]) [3, 4, 0, 1, 2] rfl rfl rfl ?_
            exact zj_iret F E d_MO_meaning_55 (Nat.le_refl _) (Nat.le_refl _) ⟨_, _, h6'.symm, by omega, rfl, rfl⟩
        · obtain ⟨hx0, rfl, p9, hp9, rfl⟩ := hq
          exact ⟨rfl, by decide, by decide, [3, 4, 0, 1, 2], [zO m 6 [.int fa, .ref ta, .int tn, .ref re, .int sz, .ref da, .int (nI dn), .ref ro, .int rn, .int (nI p9), .ref li, .ref di, .ref lc, .ref la, .ref ou, .int os, .int bb, .int bc, .ref he, .ref ch], zB K da 16384 (zby dd), zO c 5 [.ref ca, .ref ma, .int al], zI K ca 16 (zna cn), zI K ma 320 (zna mg)], rfl, rfl, ⟨h6.symm.trans (by unfold zdec; rw [if_neg (by omega)]), rfl, p9, hp9, rfl⟩⟩
  exact zj_sub [4, 5, 3, 2, 1, 0] rfl (key 15 1 0 0 p (by omega) (by omega) hp (by omega) (by decide) rfl)
set_option maxHeartbeats 4000000 in
set_option maxRecDepth 100000 in
/-- give(b) -/
theorem m_MO_give (l : Launch) (hl : l.stackTraces = false) (K : zk) (m ta re da ro li di lc la ou he ch : Nat) (fa tn sz dn ba os bb bc : Int32) (w b : Nat) (x : Int32) (rr : Nat → Nat) (hw : w ≤ 16384) (hv : zlow x = b) : zc l K y_MO_give w_MO_give { frames := 6, cells := 1, slots := 6, locals := 100 } 0 0 1 6 [.ref m, .int x] [zO m 6 [.int fa, .ref ta, .int tn, .ref re, .int sz, .ref da, .int dn, .ref ro, .int (nI w), .int ba, .ref li, .ref di, .ref lc, .ref la, .ref ou, .int os, .int bb, .int bc, .ref he, .ref ch], zB K ro 16640 (zby rr)] (fun r w1 => w < 16384 ∧ r = none ∧ w1 = [zO m 6 [.int fa, .ref ta, .int tn, .ref re, .int sz, .ref da, .int dn, .ref ro, .int (nI (w + 1)), .int ba, .ref li, .ref di, .ref lc, .ref la, .ref ou, .int os, .int bb, .int bc, .ref he, .ref ch], zB K ro 16640 (zby (va_up rr w b))]) (fun X w1 => ¬ w < 16384 ∧ X = zY ∧ w1 = [zO m 6 [.int fa, .ref ta, .int tn, .ref re, .int sz, .ref da, .int dn, .ref ro, .int (nI w), .int ba, .ref li, .ref di, .ref lc, .ref la, .ref ou, .int os, .int bb, .int bc, .ref he, .ref ch], zB K ro 16640 (zby rr)]) := by
  refine zc_of (cc := c_MO_give) (nl := 2) (ret := none) (by decide) (Nat.le_of_ble_eq_true rfl) (fun G F E => ?_)
  have F : zf G l K { frames := 6, cells := 1, slots := 6, locals := 100 } "ZlibBoxModel" c_MO_give 2 := F
  show zj G 0 0 0 [(0, .ref m), (1, .int x)] [] [zO m 6 [.int fa, .ref ta, .int tn, .ref re, .int sz, .ref da, .int dn, .ref ro, .int (nI w), .int ba, .ref li, .ref di, .ref lc, .ref la, .ref ou, .int os, .int bb, .int bc, .ref he, .ref ch], zB K ro 16640 (zby rr)]
  subst hv
  refine zj_aload_n F d_MO_give_0 0 rfl rfl ?_
  refine zj_get F d_MO_give_1 0 8 rfl rfl in_MO (by decide) q_559 rfl ?_
  refine zj_sipush (v := nI 16384) F d_MO_give_4 (by decide) ?_
  refine zj_icmp_ne (tgt := 18) F d_MO_give_7 (by decide) (nI_eq (by omega) (by omega)) (fun h7 => ?_) (fun h7 => ?_)
  · refine zj_aload_n F d_MO_give_18 0 rfl rfl ?_
    refine zj_get F d_MO_give_19 0 7 rfl rfl in_MO (by decide) q_558 rfl ?_
    refine zj_aload_n F d_MO_give_22 0 rfl rfl ?_
    refine zj_get F d_MO_give_23 0 8 rfl rfl in_MO (by decide) q_559 rfl ?_
    refine zj_iload_n F d_MO_give_26 1 rfl rfl ?_
    refine zj_i2b F d_MO_give_27 rfl ?_
    refine zj_bast (ws' := [zO m 6 [.int fa, .ref ta, .int tn, .ref re, .int sz, .ref da, .int dn, .ref ro, .int (nI w), .int ba, .ref li, .ref di, .ref lc, .ref la, .ref ou, .int os, .int bb, .int bc, .ref he, .ref ch], zB K ro 16640 (zby (va_up rr w (zlow (x))))]) F d_MO_give_28 1 0 w rfl rfl rfl (by omega) (by omega) (by rw [zby_updB]; rfl) ?_
    refine zj_aload_n F d_MO_give_29 0 rfl rfl ?_
    refine zj_dup F d_MO_give_30 rfl ?_
    refine zj_get F d_MO_give_31 0 8 rfl rfl in_MO (by decide) q_559 rfl ?_
    refine zj_iconst (v := nI 1) F d_MO_give_34 (by decide) ?_
    refine zj_iadd F d_MO_give_35 (nI_add _ _) ?_
    refine zj_put (ws' := [zO m 6 [.int fa, .ref ta, .int tn, .ref re, .int sz, .ref da, .int dn, .ref ro, .int (nI (w + 1)), .int ba, .ref li, .ref di, .ref lc, .ref la, .ref ou, .int os, .int bb, .int bc, .ref he, .ref ch], zB K ro 16640 (zby (va_up rr w (zlow (x))))]) F d_MO_give_36 0 8 rfl rfl in_MO ty_MO nm_MO (by decide) q_559 rfl rfl rfl (Nat.le_of_ble_eq_true rfl) rfl ?_
    exact zj_vret F E d_MO_give_39 (Nat.le_refl _) (Nat.le_refl _) ⟨by omega, rfl, rfl⟩
  · exact zj_throw0 (names := zt_up) F E hl d_MO_give_10 d_MO_give_13 d_MO_give_14 d_MO_give_17 (by decide +kernel) (by decide +kernel) (at_MO_95) ⟨by decide, by decide, by decide, by decide⟩ rfl (by decide) (by decide) ⟨by omega, rfl, rfl⟩
def zlb (m : Nat) : Nat := if m < 265 then 0 else if m = 285 then 0 else (m - 261) / 4
def zdb (d : Nat) : Nat := if d < 4 then 0 else (d - 2) / 2
theorem zlb_tab : ∀ k, k < 29 → zlb (257 + k) = ztab 1 k := by decide +kernel
theorem zdb_tab : ∀ k, k < 30 → zdb k = ztab 3 k := by decide +kernel
set_option maxHeartbeats 4000000 in
set_option maxRecDepth 100000 in
/-- lengthBits(m) -/
theorem m_MO_lengthBits (l : Launch) (K : zk) (x : Nat) (hx : x < 2 ^ 30) : zc l K y_MO_lengthBits w_MO_lengthBits { frames := 0, cells := 0, slots := 0, locals := 0 } 0 0 0 0 [.int (nI x)] [] (fun r w1 => r = some (.int (nI (zlb x))) ∧ w1 = []) (fun _ _ => False) := by
  refine zc_of (cc := c_MO_lengthBits) (nl := 1) (ret := (some .int)) (by decide) (Nat.le_of_ble_eq_true rfl) (fun G F E => ?_)
  have F : zf G l K { frames := 0, cells := 0, slots := 0, locals := 0 } "ZlibBoxModel" c_MO_lengthBits 1 := F
  show zj G 0 0 0 [(0, .int (nI x))] [] []
  unfold zlb at E
  refine zj_iload_n F d_MO_lengthBits_0 0 rfl rfl ?_
  refine zj_sipush (v := nI 265) F d_MO_lengthBits_1 (by decide) ?_
  refine zj_icmp_ge (tgt := 11) F d_MO_lengthBits_4 (by decide) (nI_leI (by omega) (by omega)) (fun h4 => ?_) (fun h4 => ?_)
  · refine zj_iload_n F d_MO_lengthBits_11 0 rfl rfl ?_
    refine zj_sipush (v := nI 285) F d_MO_lengthBits_12 (by decide) ?_
    refine zj_icmp_ne (tgt := 22) F d_MO_lengthBits_15 (by decide) (nI_eq (by omega) (by omega)) (fun h15 => ?_) (fun h15 => ?_)
    · refine zj_iload_n F d_MO_lengthBits_22 0 rfl rfl ?_
      refine zj_sipush (v := nI 261) F d_MO_lengthBits_23 (by decide) ?_
      refine zj_isub F d_MO_lengthBits_26 (pk_sub (by omega)) ?_
      refine zj_iconst (v := nI 4) F d_MO_lengthBits_27 (by decide) ?_
      refine zj_idiv F d_MO_lengthBits_28 (by decide) (pk_div (by omega) (by decide) (by decide)) ?_
      exact zj_iret F E d_MO_lengthBits_29 (Nat.le_refl _) (Nat.le_refl _) ⟨by rw [if_neg (by omega), if_neg h15], rfl⟩
    · refine zj_iconst (v := nI 0) F d_MO_lengthBits_18 (by decide) ?_
      refine zj_goto F d_MO_lengthBits_19 (tgt := 29) (by decide) ?_
      exact zj_iret F E d_MO_lengthBits_29 (Nat.le_refl _) (Nat.le_refl _) ⟨by rw [if_neg (by omega), if_pos h15], rfl⟩
  · refine zj_iconst (v := nI 0) F d_MO_lengthBits_7 (by decide) ?_
    refine zj_goto F d_MO_lengthBits_8 (tgt := 29) (by decide) ?_
    exact zj_iret F E d_MO_lengthBits_29 (Nat.le_refl _) (Nat.le_refl _) ⟨by rw [if_pos (by omega)], rfl⟩
set_option maxHeartbeats 4000000 in
set_option maxRecDepth 100000 in
/-- distanceBits(d) -/
theorem m_MO_distanceBits (l : Launch) (K : zk) (x : Nat) (hx : x < 2 ^ 30) : zc l K y_MO_distanceBits w_MO_distanceBits { frames := 0, cells := 0, slots := 0, locals := 0 } 0 0 0 0 [.int (nI x)] [] (fun r w1 => r = some (.int (nI (zdb x))) ∧ w1 = []) (fun _ _ => False) := by
  refine zc_of (cc := c_MO_distanceBits) (nl := 1) (ret := (some .int)) (by decide) (Nat.le_of_ble_eq_true rfl) (fun G F E => ?_)
  have F : zf G l K { frames := 0, cells := 0, slots := 0, locals := 0 } "ZlibBoxModel" c_MO_distanceBits 1 := F
  show zj G 0 0 0 [(0, .int (nI x))] [] []
  unfold zdb at E
  refine zj_iload_n F d_MO_distanceBits_0 0 rfl rfl ?_
  refine zj_iconst (v := nI 4) F d_MO_distanceBits_1 (by decide) ?_
  refine zj_icmp_ge (tgt := 9) F d_MO_distanceBits_2 (by decide) (nI_leI (by omega) (by omega)) (fun h2 => ?_) (fun h2 => ?_)
  · refine zj_iload_n F d_MO_distanceBits_9 0 rfl rfl ?_
    refine zj_iconst (v := nI 2) F d_MO_distanceBits_10 (by decide) ?_
    refine zj_isub F d_MO_distanceBits_11 (pk_sub (by omega)) ?_
    refine zj_iconst (v := nI 2) F d_MO_distanceBits_12 (by decide) ?_
    refine zj_idiv F d_MO_distanceBits_13 (by decide) (pk_div (by omega) (by decide) (by decide)) ?_
    exact zj_iret F E d_MO_distanceBits_14 (Nat.le_refl _) (Nat.le_refl _) ⟨by rw [if_neg (by omega)], rfl⟩
  · refine zj_iconst (v := nI 0) F d_MO_distanceBits_5 (by decide) ?_
    refine zj_goto F d_MO_distanceBits_6 (tgt := 14) (by decide) ?_
    exact zj_iret F E d_MO_distanceBits_14 (Nat.le_refl _) (Nat.le_refl _) ⟨by rw [if_pos (by omega)], rfl⟩
set_option maxHeartbeats 4000000 in
set_option maxRecDepth 100000 in
/-- adler(x, n) -/
theorem m_MO_adlerOf (l : Launch) (K : zk) (b Nb n : Nat) (t dd : Nat → Nat) (hb : ∀ j, t j < 256) (hdd : ∀ j, j < n → dd j = t j) (hN : Nb < 2 ^ 24) (hn : n ≤ Nb) : zc l K y_MO_adler w_MO_adler { frames := 0, cells := 0, slots := 0, locals := 0 } 0 0 0 0 [.ref b, .int (nI n)] [zB K b Nb (zby dd)] (fun v w1 => v = some (.long (Int64.ofNat (zadl t n))) ∧ w1 = [zB K b Nb (zby dd)]) (fun _ _ => False) := by
  refine zc_of (cc := c_MO_adler) (nl := 5) (ret := (some .long)) (by decide) (Nat.le_of_ble_eq_true rfl) (fun G F E => ?_)
  have F : zf G l K { frames := 0, cells := 0, slots := 0, locals := 0 } "ZlibBoxModel" c_MO_adler 5 := F
  show zj G 0 0 0 [(0, .ref b), (1, .int (nI n))] [] [zB K b Nb (zby dd)]
  refine zj_iconst (v := nI 1) F d_MO_adler_0 (by decide) ?_
  refine zj_istore_n (L' := [(2, .int (nI 1)), (0, .ref b), (1, .int (nI n))]) F d_MO_adler_1 rfl (by decide) rfl ?_
  refine zj_iconst (v := nI 0) F d_MO_adler_2 (by decide) ?_
  refine zj_istore_n (L' := [(3, .int (nI 0)), (2, .int (nI 1)), (0, .ref b), (1, .int (nI n))]) F d_MO_adler_3 rfl (by decide) rfl ?_
  refine zj_iconst (v := nI 0) F d_MO_adler_4 (by decide) ?_
  refine zj_istore (L' := [(4, .int (nI 0)), (3, .int (nI 0)), (2, .int (nI 1)), (0, .ref b), (1, .int (nI n))]) F d_MO_adler_5 (by decide) rfl ?_
  have key : ∀ i, i ≤ n → zj G 0 0 7 [(0, .ref b), (1, .int (nI n)), (2, .int (nI (zadA t i))), (3, .int (nI (zadB t i))), (4, .int (nI i))] [] [zB K b Nb (zby dd)] := by
    refine zdown n ?_ ?_
    · have h1 := zadA_lt t n
      have h2 := zadB_lt t n
      show zj G 0 0 7 [(0, .ref b), (1, .int (nI n)), (2, .int (nI (zadA t n))), (3, .int (nI (zadB t n))), (4, .int (nI n))] [] [zB K b Nb (zby dd)]
      refine zj_iload F d_MO_adler_7 4 rfl ?_
      refine zj_iload_n F d_MO_adler_9 1 rfl rfl ?_
      refine zj_icmp_ge (tgt := 40) F d_MO_adler_10 (by decide) (nI_leI (by omega) (by omega)) (fun h10 => ?_) (fun h10 => ?_)
      · refine zj_ldc2 (v := Int64.ofNat 65536) F d_MO_adler_40 q_688 ?_
        refine zj_iload_n F d_MO_adler_43 3 rfl rfl ?_
        refine zj_i2l F d_MO_adler_44 (zL_of (by omega)) ?_
        refine zj_lmul (z := Int64.ofNat (zadB t n * 65536)) F d_MO_adler_45 (by rw [Nat.mul_comm, Int64.ofNat_mul]) ?_
        refine zj_iload_n F d_MO_adler_46 2 rfl rfl ?_
        refine zj_i2l F d_MO_adler_47 (zL_of (by omega)) ?_
        refine zj_ladd (z := Int64.ofNat (zadl t n)) F d_MO_adler_48 ((Int64.ofNat_add _ _).symm) ?_
        exact zj_lret F E d_MO_adler_49 (Nat.le_refl _) (Nat.le_refl _) ⟨rfl, rfl⟩
      · exact absurd (Nat.le_refl n) h10
    · intro i hi ih
      have h1 := zadA_lt t i
      have h2 := zadB_lt t i
      have h3 := hb i
      have h4 := zadA_lt t (i + 1)
      have h5 := hdd i hi
      show zj G 0 0 7 [(0, .ref b), (1, .int (nI n)), (2, .int (nI (zadA t i))), (3, .int (nI (zadB t i))), (4, .int (nI i))] [] [zB K b Nb (zby dd)]
      refine zj_iload F d_MO_adler_7 4 rfl ?_
      refine zj_iload_n F d_MO_adler_9 1 rfl rfl ?_
      refine zj_icmp_ge (tgt := 40) F d_MO_adler_10 (by decide) (nI_leI (by omega) (by omega)) (fun h10 => ?_) (fun h10 => ?_)
      · exact absurd h10 (by omega)
      · refine zj_iload_n F d_MO_adler_13 2 rfl rfl ?_
        refine zj_aload_n F d_MO_adler_14 0 rfl rfl ?_
        refine zj_iload F d_MO_adler_15 4 rfl ?_
        refine zj_bald (z := zby dd i) F d_MO_adler_17 0 0 i rfl rfl rfl (by omega) (by omega) rfl ?_
        refine zj_sipush (v := nI 255) F d_MO_adler_18 (by decide) ?_
        refine zj_iand (z := nI (t i)) F d_MO_adler_21 ((zby_and (by rw [h5]; exact hb i)).trans (by rw [h5])) ?_
        refine zj_iadd F d_MO_adler_22 (nI_add _ _) ?_
        refine zj_ldc (v := nI 65521) F d_MO_adler_23 q_687 ?_
        refine zj_irem (z := nI (zadA t (i + 1))) F d_MO_adler_25 (by decide) (pk_rem (by omega) (by decide) (by decide)) ?_
        refine zj_istore_n (L' := [(2, .int (nI (zadA t (i + 1)))), (0, .ref b), (1, .int (nI n)), (3, .int (nI (zadB t i))), (4, .int (nI i))]) F d_MO_adler_26 rfl (by decide) rfl ?_
        refine zj_iload_n F d_MO_adler_27 3 rfl rfl ?_
        refine zj_iload_n F d_MO_adler_28 0 rfl rfl ?_
        refine zj_iadd F d_MO_adler_29 (nI_add _ _) ?_
        refine zj_ldc (v := nI 65521) F d_MO_adler_30 q_687 ?_
        refine zj_irem (z := nI (zadB t (i + 1))) F d_MO_adler_32 (by decide) (pk_rem (by omega) (by decide) (by decide)) ?_
        refine zj_istore_n (L' := [(3, .int (nI (zadB t (i + 1)))), (2, .int (nI (zadA t (i + 1)))), (0, .ref b), (1, .int (nI n)), (4, .int (nI i))]) F d_MO_adler_33 rfl (by decide) rfl ?_
        refine zj_iinc (v := nI (i + 1)) (L' := [(4, .int (nI (i + 1))), (3, .int (nI (zadB t (i + 1)))), (2, .int (nI (zadA t (i + 1)))), (0, .ref b), (1, .int (nI n))]) F d_MO_adler_34 4 rfl (nI_add _ _) (by decide) rfl ?_
        refine zj_goto F d_MO_adler_37 (tgt := 7) (by decide) ?_
        exact zj_sub [3, 4, 2, 1, 0] rfl ih
  exact zj_sub [3, 4, 2, 1, 0] rfl (key 0 (Nat.zero_le _))
