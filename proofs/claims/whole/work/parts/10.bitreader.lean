set_option maxHeartbeats 4000000 in
set_option maxRecDepth 100000 in
/-- open(source, length) -/
theorem m_BR_open (l : Launch) (K : zk) (r b b0 n : Nat) (x1 x2 : Int32)  : zc l K y_BR_open w_BR_open { frames := 0, cells := 0, slots := 0, locals := 0 } 0 0 0 0 [.ref r, .ref b, .int (nI n)] [zO r 0 [.ref b0, .int x1, .int x2]] (fun v w1 => v = none ∧ w1 = [zO r 0 [.ref b, .int (nI (8 * n)), .int (nI 0)]]) (fun _ _ => False) := by
  refine zc_of (cc := c_BR_open) (nl := 3) (ret := none) (by decide) (Nat.le_of_ble_eq_true rfl) (fun G F E => ?_)
  have F : zf G l K { frames := 0, cells := 0, slots := 0, locals := 0 } "ZlibBox$BitReader" c_BR_open 3 := F
  show zj G 0 0 0 [(0, .ref r), (1, .ref b), (2, .int (nI n))] [] [zO r 0 [.ref b0, .int x1, .int x2]]
  refine zj_aload_n F d_BR_open_0 0 rfl rfl ?_
  refine zj_aload_n F d_BR_open_1 1 rfl rfl ?_
  refine zj_put (ws' := [zO r 0 [.ref b, .int x1, .int x2]]) F d_BR_open_2 0 0 rfl rfl in_BR ty_BR nm_BR (by decide) q_37 rfl rfl rfl (Nat.le_of_ble_eq_true rfl) rfl ?_
  refine zj_aload_n F d_BR_open_5 0 rfl rfl ?_
  refine zj_bipush (v := nI 8) F d_BR_open_6 (by decide) ?_
  refine zj_iload_n F d_BR_open_8 2 rfl rfl ?_
  refine zj_imul F d_BR_open_9 (pk_mul _ _) ?_
  refine zj_put (ws' := [zO r 0 [.ref b, .int (nI (8 * n)), .int x2]]) F d_BR_open_10 0 1 rfl rfl in_BR ty_BR nm_BR (by decide) q_38 rfl rfl rfl (Nat.le_of_ble_eq_true rfl) rfl ?_
  refine zj_aload_n F d_BR_open_13 0 rfl rfl ?_
  refine zj_iconst (v := nI 0) F d_BR_open_14 (by decide) ?_
  refine zj_put (ws' := [zO r 0 [.ref b, .int (nI (8 * n)), .int (nI 0)]]) F d_BR_open_15 0 2 rfl rfl in_BR ty_BR nm_BR (by decide) q_39 rfl rfl rfl (Nat.le_of_ble_eq_true rfl) rfl ?_
  exact zj_vret F E d_BR_open_18 (Nat.le_refl _) (Nat.le_refl _) ⟨rfl, rfl⟩
set_option maxHeartbeats 4000000 in
set_option maxRecDepth 100000 in
/-- bit(): the next bit -/
theorem m_BR_bit (l : Launch) (hl : l.stackTraces = false) (K : zk) (r b Nb e p : Nat) (t : Nat → Nat) (hb : ∀ j, t j < 256) (hN : Nb < 2 ^ 24) (he : e ≤ 8 * Nb) (hp : p ≤ e) : zc l K y_BR_bit w_BR_bit { frames := 6, cells := 1, slots := 6, locals := 100 } 0 0 1 6 [.ref r] [zO r 0 [.ref b, .int (nI e), .int (nI p)], zB K b Nb (zby t)] (fun v w1 => p < e ∧ v = some (.int (nI (zbit t p))) ∧ w1 = [zO r 0 [.ref b, .int (nI e), .int (nI (p + 1))], zB K b Nb (zby t)]) (fun X w1 => ¬ p < e ∧ X = zU ∧ w1 = [zO r 0 [.ref b, .int (nI e), .int (nI p)], zB K b Nb (zby t)]) := by
  refine zc_of (cc := c_BR_bit) (nl := 2) (ret := (some .int)) (by decide) (Nat.le_of_ble_eq_true rfl) (fun G F E => ?_)
  have F : zf G l K { frames := 6, cells := 1, slots := 6, locals := 100 } "ZlibBox$BitReader" c_BR_bit 2 := F
  show zj G 0 0 0 [(0, .ref r)] [] [zO r 0 [.ref b, .int (nI e), .int (nI p)], zB K b Nb (zby t)]
  refine zj_aload_n F d_BR_bit_0 0 rfl rfl ?_
  refine zj_get F d_BR_bit_1 0 2 rfl rfl in_BR (by decide) q_39 rfl ?_
  refine zj_aload_n F d_BR_bit_4 0 rfl rfl ?_
  refine zj_get F d_BR_bit_5 0 1 rfl rfl in_BR (by decide) q_38 rfl ?_
  refine zj_icmp_lt (tgt := 21) F d_BR_bit_8 (by decide) (nI_ltI (by omega) (by omega)) (fun h8 => ?_) (fun h8 => ?_)
  · refine zj_aload_n F d_BR_bit_21 0 rfl rfl ?_
    refine zj_get F d_BR_bit_22 0 0 rfl rfl in_BR (by decide) q_37 rfl ?_
    refine zj_aload_n F d_BR_bit_25 0 rfl rfl ?_
    refine zj_get F d_BR_bit_26 0 2 rfl rfl in_BR (by decide) q_39 rfl ?_
    refine zj_iconst (v := nI 3) F d_BR_bit_29 (by decide) ?_
    refine zj_ishr F d_BR_bit_30 (zI_shr (by omega) (by decide)) ?_
    refine zj_bald F d_BR_bit_31 1 0 (p / 8) rfl rfl rfl (by omega) (by omega) rfl ?_
    refine zj_aload_n F d_BR_bit_32 0 rfl rfl ?_
    refine zj_get F d_BR_bit_33 0 2 rfl rfl in_BR (by decide) q_39 rfl ?_
    refine zj_bipush (v := nI 7) F d_BR_bit_36 (by decide) ?_
    refine zj_iand F d_BR_bit_38 (pk_andN (by omega) 3 (by decide)) ?_
    refine zj_ishr F d_BR_bit_39 rfl ?_
    refine zj_iconst (v := nI 1) F d_BR_bit_40 (by decide) ?_
    refine zj_iand F d_BR_bit_41 (zbit_and (hb _)) ?_
    refine zj_istore_n (L' := [(1, .int (nI (zbit t p))), (0, .ref r)]) F d_BR_bit_42 rfl (by decide) rfl ?_
    refine zj_aload_n F d_BR_bit_43 1 rfl rfl ?_
    refine zj_dup F d_BR_bit_44 rfl ?_
    refine zj_get F d_BR_bit_45 0 2 rfl rfl in_BR (by decide) q_39 rfl ?_
    refine zj_iconst (v := nI 1) F d_BR_bit_48 (by decide) ?_
    refine zj_iadd F d_BR_bit_49 (nI_add _ _) ?_
    refine zj_put (ws' := [zO r 0 [.ref b, .int (nI e), .int (nI (p + 1))], zB K b Nb (zby t)]) F d_BR_bit_50 0 2 rfl rfl in_BR ty_BR nm_BR (by decide) q_39 rfl rfl rfl (Nat.le_of_ble_eq_true rfl) rfl ?_
    refine zj_iload_n F d_BR_bit_53 0 rfl rfl ?_
    exact zj_iret F E d_BR_bit_54 (Nat.le_refl _) (Nat.le_refl _) ⟨h8, rfl, rfl⟩
  · exact zj_throwS (names := zt_up) F E hl d_BR_bit_11 d_BR_bit_14 d_BR_bit_15 d_BR_bit_17 d_BR_bit_20 (by decide +kernel) (by decide +kernel) q_319 (at_BR_24) ⟨by decide, by decide, by decide, by decide⟩ rfl (by decide) (by decide) ⟨h8, rfl, rfl⟩
set_option maxHeartbeats 4000000 in
set_option maxRecDepth 100000 in
/-- skipToByte() -/
theorem m_BR_skip (l : Launch) (K : zk) (r b Nb e p : Nat) (t : Nat → Nat) (hp : p < 2 ^ 30) : zc l K y_BR_skipToByte w_BR_skipToByte { frames := 0, cells := 0, slots := 0, locals := 0 } 0 0 0 0 [.ref r] [zO r 0 [.ref b, .int (nI e), .int (nI p)], zB K b Nb (zby t)] (fun v w1 => v = none ∧ w1 = [zO r 0 [.ref b, .int (nI e), .int (nI ((p + 7) / 8 * 8))], zB K b Nb (zby t)]) (fun _ _ => False) := by
  refine zc_of (cc := c_BR_skipToByte) (nl := 1) (ret := none) (by decide) (Nat.le_of_ble_eq_true rfl) (fun G F E => ?_)
  have F : zf G l K { frames := 0, cells := 0, slots := 0, locals := 0 } "ZlibBox$BitReader" c_BR_skipToByte 1 := F
  show zj G 0 0 0 [(0, .ref r)] [] [zO r 0 [.ref b, .int (nI e), .int (nI p)], zB K b Nb (zby t)]
  refine zj_aload_n F d_BR_skipToByte_0 0 rfl rfl ?_
  refine zj_aload_n F d_BR_skipToByte_1 0 rfl rfl ?_
  refine zj_get F d_BR_skipToByte_2 0 2 rfl rfl in_BR (by decide) q_39 rfl ?_
  refine zj_bipush (v := nI 7) F d_BR_skipToByte_5 (by decide) ?_
  refine zj_iadd F d_BR_skipToByte_7 (nI_add _ _) ?_
  refine zj_bipush (v := (-8)) F d_BR_skipToByte_8 (by decide) ?_
  refine zj_iand F d_BR_skipToByte_10 (zI_and8 _ (by omega)) ?_
  refine zj_put (ws' := [zO r 0 [.ref b, .int (nI e), .int (nI ((p + 7) / 8 * 8))], zB K b Nb (zby t)]) F d_BR_skipToByte_11 0 2 rfl rfl in_BR ty_BR nm_BR (by decide) q_39 rfl rfl rfl (Nat.le_of_ble_eq_true rfl) rfl ?_
  exact zj_vret F E d_BR_skipToByte_14 (Nat.le_refl _) (Nat.le_refl _) ⟨rfl, rfl⟩
set_option maxHeartbeats 4000000 in
set_option maxRecDepth 100000 in
/-- atEnd() -/
theorem m_BR_atEnd (l : Launch) (K : zk) (r b Nb e p : Nat) (t : Nat → Nat) (hp : p < 2 ^ 30) (he : e < 2 ^ 30) : zc l K y_BR_atEnd w_BR_atEnd { frames := 0, cells := 0, slots := 0, locals := 0 } 0 0 0 0 [.ref r] [zO r 0 [.ref b, .int (nI e), .int (nI p)], zB K b Nb (zby t)] (fun v w1 => v = some (.int (nI (if e ≤ p then 1 else 0))) ∧ w1 = [zO r 0 [.ref b, .int (nI e), .int (nI p)], zB K b Nb (zby t)]) (fun _ _ => False) := by
  refine zc_of (cc := c_BR_atEnd) (nl := 1) (ret := (some .boolean)) (by decide) (Nat.le_of_ble_eq_true rfl) (fun G F E => ?_)
  have F : zf G l K { frames := 0, cells := 0, slots := 0, locals := 0 } "ZlibBox$BitReader" c_BR_atEnd 1 := F
  show zj G 0 0 0 [(0, .ref r)] [] [zO r 0 [.ref b, .int (nI e), .int (nI p)], zB K b Nb (zby t)]
  refine zj_aload_n F d_BR_atEnd_0 0 rfl rfl ?_
  refine zj_get F d_BR_atEnd_1 0 2 rfl rfl in_BR (by decide) q_39 rfl ?_
  refine zj_aload_n F d_BR_atEnd_4 0 rfl rfl ?_
  refine zj_get F d_BR_atEnd_5 0 1 rfl rfl in_BR (by decide) q_38 rfl ?_
  refine zj_icmp_lt (tgt := 15) F d_BR_atEnd_8 (by decide) (nI_ltI (by omega) (by omega)) (fun h8 => ?_) (fun h8 => ?_)
  · refine zj_iconst (v := nI 0) F d_BR_atEnd_15 (by decide) ?_
    exact zj_zret F E d_BR_atEnd_16 (by decide) (Nat.le_refl _) (Nat.le_refl _) ⟨by rw [if_neg (by omega)], rfl⟩
  · refine zj_iconst (v := nI 1) F d_BR_atEnd_11 (by decide) ?_
    refine zj_goto F d_BR_atEnd_12 (tgt := 16) (by decide) ?_
    exact zj_zret F E d_BR_atEnd_16 (by decide) (Nat.le_refl _) (Nat.le_refl _) ⟨by rw [if_pos (by omega)], rfl⟩
set_option maxHeartbeats 4000000 in
set_option maxRecDepth 100000 in
/-- number(bits): the next c bits, the lowest first -/
theorem m_BR_number (l : Launch) (hl : l.stackTraces = false) (K : zk) (r b Nb e p c : Nat) (t : Nat → Nat) (hb : ∀ j, t j < 256) (hN : Nb < 2 ^ 24) (he : e ≤ 8 * Nb) (hc : c ≤ 16) (hp : p ≤ e) : zc l K y_BR_number w_BR_number { frames := 6, cells := 1, slots := 6, locals := 100 } 0 0 1 6 [.ref r, .int (nI c)] [zO r 0 [.ref b, .int (nI e), .int (nI p)], zB K b Nb (zby t)] (fun v w1 => p + c ≤ e ∧ v = some (.int (nI (znum t p c))) ∧ w1 = [zO r 0 [.ref b, .int (nI e), .int (nI (p + c))], zB K b Nb (zby t)]) (fun X w1 => ¬ p + c ≤ e ∧ X = zU ∧ w1 = [zO r 0 [.ref b, .int (nI e), .int (nI p)], zB K b Nb (zby t)]) := by
  refine zc_of (cc := c_BR_number) (nl := 4) (ret := (some .int)) (by decide) (Nat.le_of_ble_eq_true rfl) (fun G F E => ?_)
  have F : zf G l K { frames := 6, cells := 1, slots := 6, locals := 100 } "ZlibBox$BitReader" c_BR_number 4 := F
  show zj G 0 0 0 [(0, .ref r), (1, .int (nI c))] [] [zO r 0 [.ref b, .int (nI e), .int (nI p)], zB K b Nb (zby t)]
  refine zj_iload_n F d_BR_number_0 1 rfl rfl ?_
  refine zj_aload_n F d_BR_number_1 0 rfl rfl ?_
  refine zj_get F d_BR_number_2 0 1 rfl rfl in_BR (by decide) q_38 rfl ?_
  refine zj_aload_n F d_BR_number_5 0 rfl rfl ?_
  refine zj_get F d_BR_number_6 0 2 rfl rfl in_BR (by decide) q_39 rfl ?_
  refine zj_isub F d_BR_number_9 (pk_sub (by omega)) ?_
  refine zj_icmp_le (tgt := 23) F d_BR_number_10 (by decide) (nI_leI (by omega) (by omega)) (fun h10 => ?_) (fun h10 => ?_)
  · refine zj_iconst (v := nI 0) F d_BR_number_23 (by decide) ?_
    refine zj_istore_n (L' := [(2, .int (nI 0)), (0, .ref r), (1, .int (nI c))]) F d_BR_number_24 rfl (by decide) rfl ?_
    refine zj_iconst (v := nI 0) F d_BR_number_25 (by decide) ?_
    refine zj_istore_n (L' := [(3, .int (nI 0)), (2, .int (nI 0)), (0, .ref r), (1, .int (nI c))]) F d_BR_number_26 rfl (by decide) rfl ?_
    have key : ∀ i, i ≤ c → zj G 0 0 27 [(0, .ref r), (1, .int (nI c)), (2, .int (nI (znum t p i))), (3, .int (nI i))] [] [zO r 0 [.ref b, .int (nI e), .int (nI (p + i))], zB K b Nb (zby t)] := by
      refine zdown c ?_ ?_
      · show zj G 0 0 27 [(0, .ref r), (1, .int (nI c)), (2, .int (nI (znum t p c))), (3, .int (nI c))] [] [zO r 0 [.ref b, .int (nI e), .int (nI (p + c))], zB K b Nb (zby t)]
        refine zj_iload_n F d_BR_number_27 3 rfl rfl ?_
        refine zj_iload_n F d_BR_number_28 1 rfl rfl ?_
        refine zj_icmp_ge (tgt := 74) F d_BR_number_29 (by decide) (nI_leI (by omega) (by omega)) (fun h29 => ?_) (fun h29 => ?_)
        · refine zj_iload_n F d_BR_number_74 2 rfl rfl ?_
          exact zj_iret F E d_BR_number_75 (Nat.le_refl _) (Nat.le_refl _) ⟨by omega, rfl, rfl⟩
        · exact absurd (Nat.le_refl c) h29
      · intro i hi ih
        show zj G 0 0 27 [(0, .ref r), (1, .int (nI c)), (2, .int (nI (znum t p i))), (3, .int (nI i))] [] [zO r 0 [.ref b, .int (nI e), .int (nI (p + i))], zB K b Nb (zby t)]
        refine zj_iload_n F d_BR_number_27 3 rfl rfl ?_
        refine zj_iload_n F d_BR_number_28 1 rfl rfl ?_
        refine zj_icmp_ge (tgt := 74) F d_BR_number_29 (by decide) (nI_leI (by omega) (by omega)) (fun h29 => ?_) (fun h29 => ?_)
        · exact absurd h29 (by omega)
        · refine zj_iload_n F d_BR_number_32 2 rfl rfl ?_
          refine zj_aload_n F d_BR_number_33 0 rfl rfl ?_
          refine zj_get F d_BR_number_34 0 0 rfl rfl in_BR (by decide) q_37 rfl ?_
          refine zj_aload_n F d_BR_number_37 0 rfl rfl ?_
          refine zj_get F d_BR_number_38 0 2 rfl rfl in_BR (by decide) q_39 rfl ?_
          refine zj_iconst (v := nI 3) F d_BR_number_41 (by decide) ?_
          refine zj_ishr F d_BR_number_42 (zI_shr (by omega) (by decide)) ?_
          refine zj_bald F d_BR_number_43 1 0 ((p + i) / 8) rfl rfl rfl (by omega) (by omega) rfl ?_
          refine zj_aload_n F d_BR_number_44 0 rfl rfl ?_
          refine zj_get F d_BR_number_45 0 2 rfl rfl in_BR (by decide) q_39 rfl ?_
          refine zj_bipush (v := nI 7) F d_BR_number_48 (by decide) ?_
          refine zj_iand F d_BR_number_50 (pk_andN (by omega) 3 (by decide)) ?_
          refine zj_ishr F d_BR_number_51 rfl ?_
          refine zj_iconst (v := nI 1) F d_BR_number_52 (by decide) ?_
          refine zj_iand F d_BR_number_53 (zbit_and (hb _)) ?_
          refine zj_iload_n F d_BR_number_54 3 rfl rfl ?_
          refine zj_ishl F d_BR_number_55 (zI_shl (by omega)) ?_
          refine zj_ior F d_BR_number_56 (zI_or2 i (znum_lt t p i)) ?_
          refine zj_istore_n (L' := [(2, .int (nI (znum t p (i + 1)))), (0, .ref r), (1, .int (nI c)), (3, .int (nI i))]) F d_BR_number_57 rfl (by decide) rfl ?_
          refine zj_aload_n F d_BR_number_58 1 rfl rfl ?_
          refine zj_dup F d_BR_number_59 rfl ?_
          refine zj_get F d_BR_number_60 0 2 rfl rfl in_BR (by decide) q_39 rfl ?_
          refine zj_iconst (v := nI 1) F d_BR_number_63 (by decide) ?_
          refine zj_iadd F d_BR_number_64 (nI_add _ _) ?_
          refine zj_put (ws' := [zO r 0 [.ref b, .int (nI e), .int (nI ((p + i) + 1))], zB K b Nb (zby t)]) F d_BR_number_65 0 2 rfl rfl in_BR ty_BR nm_BR (by decide) q_39 rfl rfl rfl (Nat.le_of_ble_eq_true rfl) rfl ?_
          refine zj_iinc (L' := [(3, .int (nI (i + 1))), (2, .int (nI (znum t p (i + 1)))), (0, .ref r), (1, .int (nI c))]) F d_BR_number_68 3 rfl (nI_add _ _) (by decide) rfl ?_
          refine zj_goto F d_BR_number_71 (tgt := 27) (by decide) ?_
          exact zj_sub [2, 3, 1, 0] rfl ih
    exact zj_sub [2, 3, 1, 0] rfl (key 0 (Nat.zero_le _))
  · exact zj_throwS (names := zt_up) F E hl d_BR_number_13 d_BR_number_16 d_BR_number_17 d_BR_number_19 d_BR_number_22 (by decide +kernel) (by decide +kernel) q_319 (at_BR_24) ⟨by decide, by decide, by decide, by decide⟩ rfl (by decide) (by decide) ⟨by omega, rfl, rfl⟩
