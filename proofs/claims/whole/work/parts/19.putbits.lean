theorem zI_shr0 (v : Int32) : v >>> (nI 0 &&& 31) = v := by
  apply zI_inj
  show BitVec.sshiftRight v.toBitVec ((nI 0 &&& 31).toBitVec.smod 32).toNat = _
  rw [zI_sh 0 (by decide)]
  simp
set_option maxHeartbeats 4000000 in
set_option maxRecDepth 100000 in
/-- putByte(value) -/
theorem m_PA_putByte (l : Launch) (hl : l.stackTraces = false) (K : zk) (p ne ol ib n ob : Nat) (w b : Nat) (h c x y v : Int32) (o : Nat → Nat) (hw : w ≤ 16384) (hv : zlow v = b) : zc l K y_PA_putByte w_PA_putByte { frames := 6, cells := 1, slots := 6, locals := 120 } 0 0 1 6 [.ref p, .int v] [zO p 2 [.ref ne, .ref ol, .ref ib, .int (nI n), .ref ob, .int (nI w), .int h, .int c, .int x, .int y], zB K ob 16384 (zby o)] (fun r w1 => w < 16384 ∧ r = none ∧ w1 = [zO p 2 [.ref ne, .ref ol, .ref ib, .int (nI n), .ref ob, .int (nI (w + 1)), .int h, .int c, .int x, .int y], zB K ob 16384 (zby (va_up o w b))]) (fun X w1 => ¬ w < 16384 ∧ X = zY ∧ w1 = [zO p 2 [.ref ne, .ref ol, .ref ib, .int (nI n), .ref ob, .int (nI w), .int h, .int c, .int x, .int y], zB K ob 16384 (zby o)]) := by
  refine zc_of (cc := c_PA_putByte) (nl := 2) (ret := none) (by decide) (Nat.le_of_ble_eq_true rfl) (fun G F E => ?_)
  have F : zf G l K { frames := 6, cells := 1, slots := 6, locals := 120 } "ZlibBox$Packer" c_PA_putByte 2 := F
  show zj G 0 0 0 [(0, .ref p), (1, .int v)] [] [zO p 2 [.ref ne, .ref ol, .ref ib, .int (nI n), .ref ob, .int (nI w), .int h, .int c, .int x, .int y], zB K ob 16384 (zby o)]
  subst hv
  refine zj_aload_n F d_PA_putByte_0 0 rfl rfl ?_
  refine zj_get F d_PA_putByte_1 0 5 rfl rfl in_PA (by decide) q_120 rfl ?_
  refine zj_sipush (v := nI 16384) F d_PA_putByte_4 (by decide) ?_
  refine zj_icmp_lt (tgt := 20) F d_PA_putByte_7 (by decide) (nI_ltI (by omega) (by omega)) (fun h7 => ?_) (fun h7 => ?_)
  · refine zj_aload_n F d_PA_putByte_20 0 rfl rfl ?_
    refine zj_get F d_PA_putByte_21 0 4 rfl rfl in_PA (by decide) q_119 rfl ?_
    refine zj_aload_n F d_PA_putByte_24 0 rfl rfl ?_
    refine zj_get F d_PA_putByte_25 0 5 rfl rfl in_PA (by decide) q_120 rfl ?_
    refine zj_iload_n F d_PA_putByte_28 1 rfl rfl ?_
    refine zj_i2b F d_PA_putByte_29 rfl ?_
    refine zj_bast (ws' := [zO p 2 [.ref ne, .ref ol, .ref ib, .int (nI n), .ref ob, .int (nI w), .int h, .int c, .int x, .int y], zB K ob 16384 (zby (va_up o w (zlow (v))))]) F d_PA_putByte_30 1 0 w rfl rfl rfl (by omega) (by omega) (by rw [zby_updB]; rfl) ?_
    refine zj_aload_n F d_PA_putByte_31 0 rfl rfl ?_
    refine zj_dup F d_PA_putByte_32 rfl ?_
    refine zj_get F d_PA_putByte_33 0 5 rfl rfl in_PA (by decide) q_120 rfl ?_
    refine zj_iconst (v := nI 1) F d_PA_putByte_36 (by decide) ?_
    refine zj_iadd F d_PA_putByte_37 (nI_add _ _) ?_
    refine zj_put (ws' := [zO p 2 [.ref ne, .ref ol, .ref ib, .int (nI n), .ref ob, .int (nI (w + 1)), .int h, .int c, .int x, .int y], zB K ob 16384 (zby (va_up o w (zlow (v))))]) F d_PA_putByte_38 0 5 rfl rfl in_PA ty_PA nm_PA (by decide) q_120 rfl rfl rfl (Nat.le_of_ble_eq_true rfl) rfl ?_
    exact zj_vret F E d_PA_putByte_41 (Nat.le_refl _) (Nat.le_refl _) ⟨h7, rfl, rfl⟩
  · exact zj_throwS (names := zt_up) F E hl d_PA_putByte_10 d_PA_putByte_13 d_PA_putByte_14 d_PA_putByte_16 d_PA_putByte_19 (by decide +kernel) (by decide +kernel) q_450 (at_PA_127) ⟨by decide, by decide, by decide, by decide⟩ rfl (by decide) (by decide) ⟨h7, rfl, rfl⟩
set_option maxHeartbeats 4000000 in
set_option maxRecDepth 100000 in
/-- putNumber(number, bits) -/
theorem m_PA_putNumber (l : Launch) (hl : l.stackTraces = false) (K : zk) (p ne ol ib n ob : Nat) (v k : Nat) (x y : Int32) (s R : zps) (hs : zpk s) (hw : s.2.1 ≤ 16384) (hv : v < 2 ^ k) (hk : k ≤ 16) (hR : zput s v k = R) : zc l K y_PA_putNumber w_PA_putNumber { frames := 7, cells := 1, slots := 6, locals := 141 } 0 0 1 6 [.ref p, .int (nI v), .int (nI k)] [zO p 2 [.ref ne, .ref ol, .ref ib, .int (nI n), .ref ob, .int (nI s.2.1), .int (nI s.2.2.1), .int (nI s.2.2.2), .int x, .int y], zB K ob 16384 (zby s.1)] (fun r w1 => R.2.1 ≤ 16384 ∧ r = none ∧ w1 = [zO p 2 [.ref ne, .ref ol, .ref ib, .int (nI n), .ref ob, .int (nI R.2.1), .int (nI R.2.2.1), .int (nI R.2.2.2), .int x, .int y], zB K ob 16384 (zby R.1)]) (fun X w1 => 16384 < R.2.1 ∧ X = zY ∧ ∃ o' w' h' c', (∀ j, o' j < 256) ∧ w1 = [zO p 2 [.ref ne, .ref ol, .ref ib, .int (nI n), .ref ob, .int (nI w'), .int (nI h'), .int (nI c'), .int x, .int y], zB K ob 16384 (zby o')]) := by
  refine zc_of (cc := c_PA_putNumber) (nl := 3) (ret := none) (by decide) (Nat.le_of_ble_eq_true rfl) (fun G F E => ?_)
  have F : zf G l K { frames := 7, cells := 1, slots := 6, locals := 141 } "ZlibBox$Packer" c_PA_putNumber 3 := F
  show zj G 0 0 0 [(0, .ref p), (1, .int (nI v)), (2, .int (nI k))] [] [zO p 2 [.ref ne, .ref ol, .ref ib, .int (nI n), .ref ob, .int (nI s.2.1), .int (nI s.2.2.1), .int (nI s.2.2.2), .int x, .int y], zB K ob 16384 (zby s.1)]
  have hc8 := hs.1
  have hH := zput_pow hs.2.1 hv
  have ho := hs.2.2
  refine zj_aload_n F d_PA_putNumber_0 0 rfl rfl ?_
  refine zj_dup F d_PA_putNumber_1 rfl ?_
  refine zj_get F d_PA_putNumber_2 0 6 rfl rfl in_PA (by decide) q_121 rfl ?_
  refine zj_iload_n F d_PA_putNumber_5 1 rfl rfl ?_
  refine zj_aload_n F d_PA_putNumber_6 0 rfl rfl ?_
  refine zj_get F d_PA_putNumber_7 0 7 rfl rfl in_PA (by decide) q_122 rfl ?_
  refine zj_ishl (z := nI (v * 2 ^ s.2.2.2)) F d_PA_putNumber_10 (zI_shl (by omega)) ?_
  refine zj_ior (z := nI (s.2.2.1 + v * 2 ^ s.2.2.2)) F d_PA_putNumber_11 (zI_or2 _ hs.2.1) ?_
  refine zj_put (ws' := [zO p 2 [.ref ne, .ref ol, .ref ib, .int (nI n), .ref ob, .int (nI s.2.1), .int (nI (s.2.2.1 + v * 2 ^ s.2.2.2)), .int (nI s.2.2.2), .int x, .int y], zB K ob 16384 (zby s.1)]) F d_PA_putNumber_12 0 6 rfl rfl in_PA ty_PA nm_PA (by decide) q_121 rfl rfl rfl (Nat.le_of_ble_eq_true rfl) rfl ?_
  refine zj_aload_n F d_PA_putNumber_15 0 rfl rfl ?_
  refine zj_dup F d_PA_putNumber_16 rfl ?_
  refine zj_get F d_PA_putNumber_17 0 7 rfl rfl in_PA (by decide) q_122 rfl ?_
  refine zj_iload_n F d_PA_putNumber_20 2 rfl rfl ?_
  refine zj_iadd F d_PA_putNumber_21 (nI_add _ _) ?_
  refine zj_put (ws' := [zO p 2 [.ref ne, .ref ol, .ref ib, .int (nI n), .ref ob, .int (nI s.2.1), .int (nI (s.2.2.1 + v * 2 ^ s.2.2.2)), .int (nI (s.2.2.2 + k)), .int x, .int y], zB K ob 16384 (zby s.1)]) F d_PA_putNumber_22 0 7 rfl rfl in_PA ty_PA nm_PA (by decide) q_122 rfl rfl rfl (Nat.le_of_ble_eq_true rfl) rfl ?_
  have key : ∀ q o w H C, C < 8 * q + 8 → C ≤ 24 → H < 2 ^ C → (∀ j, o j < 256) → w ≤ 16384 → zdr o w H C = R → zj G 0 0 25 [(0, .ref p)] [] [zO p 2 [.ref ne, .ref ol, .ref ib, .int (nI n), .ref ob, .int (nI w), .int (nI H), .int (nI C), .int x, .int y], zB K ob 16384 (zby o)] := by
    clear hR hH ho hw
    intro q
    induction q with
    | zero =>
      intro o w H C hC hC2 hH ho hw hR
      show zj G 0 0 25 [(0, .ref p)] [] [zO p 2 [.ref ne, .ref ol, .ref ib, .int (nI n), .ref ob, .int (nI w), .int (nI H), .int (nI C), .int x, .int y], zB K ob 16384 (zby o)]
      refine zj_aload_n F d_PA_putNumber_25 0 rfl rfl ?_
      refine zj_get F d_PA_putNumber_26 0 7 rfl rfl in_PA (by decide) q_122 rfl ?_
      refine zj_bipush (v := nI 8) F d_PA_putNumber_29 (by decide) ?_
      refine zj_icmp_lt (tgt := 67) F d_PA_putNumber_31 (by decide) (nI_ltI (by omega) (by omega)) (fun h31 => ?_) (fun h31 => ?_)
      · rw [zdr_lt (by omega)] at hR
        subst hR
        exact zj_vret F E d_PA_putNumber_67 (Nat.le_refl _) (Nat.le_refl _) ⟨hw, rfl, rfl⟩
      · exact absurd h31 (by omega)
    | succ q ih =>
      intro o w H C hC hC2 hH ho hw hR
      have hHb : H < 2 ^ 24 := Nat.lt_of_lt_of_le hH (Nat.pow_le_pow_right (by decide) hC2)
      show zj G 0 0 25 [(0, .ref p)] [] [zO p 2 [.ref ne, .ref ol, .ref ib, .int (nI n), .ref ob, .int (nI w), .int (nI H), .int (nI C), .int x, .int y], zB K ob 16384 (zby o)]
      refine zj_aload_n F d_PA_putNumber_25 0 rfl rfl ?_
      refine zj_get F d_PA_putNumber_26 0 7 rfl rfl in_PA (by decide) q_122 rfl ?_
      refine zj_bipush (v := nI 8) F d_PA_putNumber_29 (by decide) ?_
      refine zj_icmp_lt (tgt := 67) F d_PA_putNumber_31 (by decide) (nI_ltI (by omega) (by omega)) (fun h31 => ?_) (fun h31 => ?_)
      · rw [zdr_lt (by omega)] at hR
        subst hR
        exact zj_vret F E d_PA_putNumber_67 (Nat.le_refl _) (Nat.le_refl _) ⟨hw, rfl, rfl⟩
      · refine zj_aload_n F d_PA_putNumber_34 0 rfl rfl ?_
        refine zj_aload_n F d_PA_putNumber_35 0 rfl rfl ?_
        refine zj_get F d_PA_putNumber_36 0 6 rfl rfl in_PA (by decide) q_121 rfl ?_
        have hC8 : 8 ≤ C := by omega
        rw [zdr_ge hC8] at hR
        have hz := (zdr_ok (C - 8) (va_up o w (H % 256)) (w + 1) (H / 256) (zdr_pow hC8 hH) (zup_lt ho w (Nat.mod_lt _ (by decide)))).2
        rw [hR] at hz
        refine zj_call (maxL := 2) (wr := []) F E (m_PA_putByte l hl K p ne ol ib n ob w (H % 256) (nI H) (nI C) x y (nI H) o hw (zlow_nI H)) (zi_V (As := [.int (nI H)]) (rest := []) F d_PA_putNumber_39 0 rfl rfl rfl q_445 q_447 sel_PA_putByte q_448 (Or.inl ⟨_, _, rfl⟩) (by decide) (show Option.map (fun d => d.parameters.length) (parseMethodDescriptor y_PA_putByte.desc) = some 1 from by decide +kernel)) d_PA_putNumber_39 q_448 (Or.inl ⟨_, _, rfl⟩) q_6 [0, 1] [] rfl rfl rfl rfl (by decide) ⟨by decide, by decide, by decide, by decide⟩ (Nat.le_of_ble_eq_true rfl) (fun v w1 hq => ?_) (fun X w1 hq => ?_)
        · obtain ⟨hq0, rfl, rfl⟩ := hq
          show zj G 0 0 42 [(0, .ref p)] [] [zO p 2 [.ref ne, .ref ol, .ref ib, .int (nI n), .ref ob, .int (nI (w + 1)), .int (nI H), .int (nI C), .int x, .int y], zB K ob 16384 (zby (va_up o w (H % 256)))]
          refine zj_aload_n F d_PA_putNumber_42 0 rfl rfl ?_
          refine zj_dup F d_PA_putNumber_43 rfl ?_
          refine zj_get F d_PA_putNumber_44 0 6 rfl rfl in_PA (by decide) q_121 rfl ?_
          refine zj_bipush (v := nI 8) F d_PA_putNumber_47 (by decide) ?_
          refine zj_ishr F d_PA_putNumber_49 (zI_shr (by omega) (by decide)) ?_
          refine zj_put (ws' := [zO p 2 [.ref ne, .ref ol, .ref ib, .int (nI n), .ref ob, .int (nI (w + 1)), .int (nI (H / 256)), .int (nI C), .int x, .int y], zB K ob 16384 (zby (va_up o w (H % 256)))]) F d_PA_putNumber_50 0 6 rfl rfl in_PA ty_PA nm_PA (by decide) q_121 rfl rfl rfl (Nat.le_of_ble_eq_true rfl) rfl ?_
          refine zj_aload_n F d_PA_putNumber_53 0 rfl rfl ?_
          refine zj_dup F d_PA_putNumber_54 rfl ?_
          refine zj_get F d_PA_putNumber_55 0 7 rfl rfl in_PA (by decide) q_122 rfl ?_
          refine zj_bipush (v := nI 8) F d_PA_putNumber_58 (by decide) ?_
          refine zj_isub F d_PA_putNumber_60 (pk_sub (by omega)) ?_
          refine zj_put (ws' := [zO p 2 [.ref ne, .ref ol, .ref ib, .int (nI n), .ref ob, .int (nI (w + 1)), .int (nI (H / 256)), .int (nI (C - 8)), .int x, .int y], zB K ob 16384 (zby (va_up o w (H % 256)))]) F d_PA_putNumber_61 0 7 rfl rfl in_PA ty_PA nm_PA (by decide) q_122 rfl rfl rfl (Nat.le_of_ble_eq_true rfl) rfl ?_
          refine zj_goto F d_PA_putNumber_64 (tgt := 25) (by decide) ?_
          exact zj_sub [0] rfl (ih _ _ _ _ (by omega) (by omega) (zdr_pow hC8 hH) (zup_lt ho w (Nat.mod_lt _ (by decide))) (by omega) hR)
        · obtain ⟨hx0, rfl, rfl⟩ := hq
          exact ⟨rfl, by decide, by decide, [0, 1], [zO p 2 [.ref ne, .ref ol, .ref ib, .int (nI n), .ref ob, .int (nI w), .int (nI H), .int (nI C), .int x, .int y], zB K ob 16384 (zby o)], rfl, rfl, ⟨by omega, rfl, _, _, _, _, ho, rfl⟩⟩
  exact zj_sub [0] rfl (key 3 _ _ _ _ (by omega) (by omega) hH ho hw hR)
set_option maxHeartbeats 4000000 in
set_option maxRecDepth 100000 in
/-- turned(code, bits) -/
theorem m_PA_turned (l : Launch) (K : zk) (c k : Nat) (hc : c < 2 ^ 31) (hk : k < 31) : zc l K y_PA_turned w_PA_turned { frames := 0, cells := 0, slots := 0, locals := 0 } 0 0 0 0 [.int (nI c), .int (nI k)] [] (fun r w1 => r = some (.int (nI (ztu c k))) ∧ w1 = []) (fun _ _ => False) := by
  refine zc_of (cc := c_PA_turned) (nl := 4) (ret := (some .int)) (by decide) (Nat.le_of_ble_eq_true rfl) (fun G F E => ?_)
  have F : zf G l K { frames := 0, cells := 0, slots := 0, locals := 0 } "ZlibBox$Packer" c_PA_turned 4 := F
  show zj G 0 0 0 [(0, .int (nI c)), (1, .int (nI k))] [] []
  refine zj_iconst (v := nI 0) F d_PA_turned_0 (by decide) ?_
  refine zj_istore_n (L' := [(2, .int (nI 0)), (0, .int (nI c)), (1, .int (nI k))]) F d_PA_turned_1 rfl (by decide) rfl ?_
  refine zj_iconst (v := nI 0) F d_PA_turned_2 (by decide) ?_
  refine zj_istore_n (L' := [(3, .int (nI 0)), (2, .int (nI 0)), (0, .int (nI c)), (1, .int (nI k))]) F d_PA_turned_3 rfl (by decide) rfl ?_
  have key : ∀ i, i ≤ k → zj G 0 0 4 [(0, .int (nI c)), (1, .int (nI k)), (2, .int (nI (ztu c i))), (3, .int (nI i))] [] [] := by
    refine zdown k ?_ ?_
    · show zj G 0 0 4 [(0, .int (nI c)), (1, .int (nI k)), (2, .int (nI (ztu c k))), (3, .int (nI k))] [] []
      refine zj_iload_n F d_PA_turned_4 3 rfl rfl ?_
      refine zj_iload_n F d_PA_turned_5 1 rfl rfl ?_
      refine zj_icmp_ge (tgt := 25) F d_PA_turned_6 (by decide) (nI_leI (by omega) (by omega)) (fun h6 => ?_) (fun h6 => ?_)
      · refine zj_iload_n F d_PA_turned_25 2 rfl rfl ?_
        exact zj_iret F E d_PA_turned_26 (Nat.le_refl _) (Nat.le_refl _) ⟨rfl, rfl⟩
      · exact absurd (Nat.le_refl k) h6
    · intro i hi ih
      show zj G 0 0 4 [(0, .int (nI c)), (1, .int (nI k)), (2, .int (nI (ztu c i))), (3, .int (nI i))] [] []
      refine zj_iload_n F d_PA_turned_4 3 rfl rfl ?_
      refine zj_iload_n F d_PA_turned_5 1 rfl rfl ?_
      refine zj_icmp_ge (tgt := 25) F d_PA_turned_6 (by decide) (nI_leI (by omega) (by omega)) (fun h6 => ?_) (fun h6 => ?_)
      · exact absurd h6 (by omega)
      · refine zj_iload_n F d_PA_turned_9 2 rfl rfl ?_
        refine zj_iconst (v := nI 1) F d_PA_turned_10 (by decide) ?_
        refine zj_ishl (z := nI (ztu c i * 2 ^ 1)) F d_PA_turned_11 (zI_shl (by decide)) ?_
        refine zj_iload_n F d_PA_turned_12 0 rfl rfl ?_
        refine zj_iload_n F d_PA_turned_13 3 rfl rfl ?_
        refine zj_ishr (z := nI (c / 2 ^ i)) F d_PA_turned_14 (zI_shr hc (by omega)) ?_
        refine zj_iconst (v := nI 1) F d_PA_turned_15 (by decide) ?_
        refine zj_iand (z := nI (c / 2 ^ i % 2)) F d_PA_turned_16 (pk_andN (Nat.lt_trans (Nat.lt_of_le_of_lt (Nat.div_le_self _ _) hc) (by decide)) 1 (by decide)) ?_
        refine zj_ior (z := nI (ztu c (i + 1))) F d_PA_turned_17 ((zI_or3 1 (Nat.mod_lt _ (by decide))).trans (by rw [Nat.mul_comm]; rfl)) ?_
        refine zj_istore_n (L' := [(2, .int (nI (ztu c (i + 1)))), (0, .int (nI c)), (1, .int (nI k)), (3, .int (nI i))]) F d_PA_turned_18 rfl (by decide) rfl ?_
        refine zj_iinc (v := nI (i + 1)) (L' := [(3, .int (nI (i + 1))), (2, .int (nI (ztu c (i + 1)))), (0, .int (nI c)), (1, .int (nI k))]) F d_PA_turned_19 3 rfl (nI_add _ _) (by decide) rfl ?_
        refine zj_goto F d_PA_turned_22 (tgt := 4) (by decide) ?_
        exact zj_sub [2, 3, 1, 0] rfl ih
  exact zj_sub [2, 3, 1, 0] rfl (key 0 (Nat.zero_le _))
set_option maxHeartbeats 4000000 in
set_option maxRecDepth 100000 in
/-- putLiteral(symbol) -/
theorem m_PA_putLiteral (l : Launch) (hl : l.stackTraces = false) (K : zk) (p ne ol ib n ob : Nat) (m : Nat) (x y : Int32) (s R : zps) (hs : zpk s) (hw : s.2.1 ≤ 16384) (hm : m < 288) (hR : zlit s m = R) : zc l K y_PA_putLiteral w_PA_putLiteral { frames := 8, cells := 1, slots := 6, locals := 163 } 0 0 1 6 [.ref p, .int (nI m)] [zO p 2 [.ref ne, .ref ol, .ref ib, .int (nI n), .ref ob, .int (nI s.2.1), .int (nI s.2.2.1), .int (nI s.2.2.2), .int x, .int y], zB K ob 16384 (zby s.1)] (fun r w1 => R.2.1 ≤ 16384 ∧ r = none ∧ w1 = [zO p 2 [.ref ne, .ref ol, .ref ib, .int (nI n), .ref ob, .int (nI R.2.1), .int (nI R.2.2.1), .int (nI R.2.2.2), .int x, .int y], zB K ob 16384 (zby R.1)]) (fun X w1 => 16384 < R.2.1 ∧ X = zY ∧ ∃ o' w' h' c', (∀ j, o' j < 256) ∧ w1 = [zO p 2 [.ref ne, .ref ol, .ref ib, .int (nI n), .ref ob, .int (nI w'), .int (nI h'), .int (nI c'), .int x, .int y], zB K ob 16384 (zby o')]) := by
  refine zc_of (cc := c_PA_putLiteral) (nl := 2) (ret := none) (by decide) (Nat.le_of_ble_eq_true rfl) (fun G F E => ?_)
  have F : zf G l K { frames := 8, cells := 1, slots := 6, locals := 163 } "ZlibBox$Packer" c_PA_putLiteral 2 := F
  show zj G 0 0 0 [(0, .ref p), (1, .int (nI m))] [] [zO p 2 [.ref ne, .ref ol, .ref ib, .int (nI n), .ref ob, .int (nI s.2.1), .int (nI s.2.2.1), .int (nI s.2.2.2), .int x, .int y], zB K ob 16384 (zby s.1)]
  unfold zlit zlitC zlitB at hR
  refine zj_iload_n F d_PA_putLiteral_0 1 rfl rfl ?_
  refine zj_sipush (v := nI 144) F d_PA_putLiteral_1 (by decide) ?_
  refine zj_icmp_ge (tgt := 25) F d_PA_putLiteral_4 (by decide) (nI_leI (by omega) (by omega)) (fun h4 => ?_) (fun h4 => ?_)
  · have hk144 : ¬ m < 144 := by omega
    rw [if_neg hk144, if_neg hk144] at hR
    refine zj_iload_n F d_PA_putLiteral_25 1 rfl rfl ?_
    refine zj_sipush (v := nI 256) F d_PA_putLiteral_26 (by decide) ?_
    refine zj_icmp_ge (tgt := 55) F d_PA_putLiteral_29 (by decide) (nI_leI (by omega) (by omega)) (fun h29 => ?_) (fun h29 => ?_)
    · have hk256 : ¬ m < 256 := by omega
      rw [if_neg hk256, if_neg hk256] at hR
      refine zj_iload_n F d_PA_putLiteral_55 1 rfl rfl ?_
      refine zj_sipush (v := nI 280) F d_PA_putLiteral_56 (by decide) ?_
      refine zj_icmp_ge (tgt := 81) F d_PA_putLiteral_59 (by decide) (nI_leI (by omega) (by omega)) (fun h59 => ?_) (fun h59 => ?_)
      · have hk280 : ¬ m < 280 := by omega
        rw [if_neg hk280, if_neg hk280] at hR
        refine zj_aload_n F d_PA_putLiteral_81 0 rfl rfl ?_
        refine zj_sipush (v := nI 192) F d_PA_putLiteral_82 (by decide) ?_
        refine zj_iload_n F d_PA_putLiteral_85 1 rfl rfl ?_
        refine zj_iadd F d_PA_putLiteral_86 (nI_add _ _) ?_
        refine zj_sipush (v := nI 280) F d_PA_putLiteral_87 (by decide) ?_
        refine zj_isub F d_PA_putLiteral_90 (pk_sub (by omega)) ?_
        refine zj_bipush (v := nI 8) F d_PA_putLiteral_91 (by decide) ?_
        refine zj_call (maxL := 4) (wr := [zO p 2 [.ref ne, .ref ol, .ref ib, .int (nI n), .ref ob, .int (nI s.2.1), .int (nI s.2.2.1), .int (nI s.2.2.2), .int x, .int y], zB K ob 16384 (zby s.1)]) F E (m_PA_turned l K (192 + m - 280) 8 (by omega) (by decide)) (zi_S (As := [.int (nI (192 + m - 280)), .int (nI 8)]) (rest := [.ref p]) F d_PA_putLiteral_93 q_482 q_483 q_6 q_484 (Or.inl ⟨_, _, rfl⟩) (by decide) (show Option.map (fun d => d.parameters.length) (parseMethodDescriptor y_PA_turned.desc) = some 2 from by decide +kernel)) d_PA_putLiteral_93 q_484 (Or.inl ⟨_, _, rfl⟩) q_6 [] [0, 1] rfl rfl rfl rfl (by decide) ⟨by decide, by decide, by decide, by decide⟩ (Nat.le_of_ble_eq_true rfl) (fun v w1 hq => ?_) (fun X w1 hq => ?_)
        · obtain ⟨rfl, rfl⟩ := hq
          show zj G 0 0 96 [(0, .ref p), (1, .int (nI m))] [.int (nI (ztu (192 + m - 280) 8)), .ref p] [zO p 2 [.ref ne, .ref ol, .ref ib, .int (nI n), .ref ob, .int (nI s.2.1), .int (nI s.2.2.1), .int (nI s.2.2.2), .int x, .int y], zB K ob 16384 (zby s.1)]
          refine zj_bipush (v := nI 8) F d_PA_putLiteral_96 (by decide) ?_
          refine zj_call (maxL := 3) (wr := []) F E (m_PA_putNumber l hl K p ne ol ib n ob _ 8 x y s R hs hw (ztu_lt _ _) (by decide) hR) (zi_V (As := [.int (nI (ztu (192 + m - 280) 8)), .int (nI 8)]) (rest := []) F d_PA_putLiteral_98 0 rfl rfl rfl q_452 q_454 sel_PA_putNumber q_455 (Or.inl ⟨_, _, rfl⟩) (by decide) (show Option.map (fun d => d.parameters.length) (parseMethodDescriptor y_PA_putNumber.desc) = some 2 from by decide +kernel)) d_PA_putLiteral_98 q_455 (Or.inl ⟨_, _, rfl⟩) q_6 [0, 1] [] rfl rfl rfl rfl (by decide) ⟨by decide, by decide, by decide, by decide⟩ (Nat.le_of_ble_eq_true rfl) (fun v w1 hq => ?_) (fun X w1 hq => ?_)
          · obtain ⟨hq0, rfl, rfl⟩ := hq
            show zj G 0 0 101 [(0, .ref p), (1, .int (nI m))] [] [zO p 2 [.ref ne, .ref ol, .ref ib, .int (nI n), .ref ob, .int (nI R.2.1), .int (nI R.2.2.1), .int (nI R.2.2.2), .int x, .int y], zB K ob 16384 (zby R.1)]
            exact zj_vret F E d_PA_putLiteral_101 (Nat.le_refl _) (Nat.le_refl _) ⟨hq0, rfl, rfl⟩
          · obtain ⟨hx0, rfl, o9, w9, h9, c9, ho9, rfl⟩ := hq
            exact ⟨rfl, by decide, by decide, [0, 1], [zO p 2 [.ref ne, .ref ol, .ref ib, .int (nI n), .ref ob, .int (nI w9), .int (nI h9), .int (nI c9), .int x, .int y], zB K ob 16384 (zby o9)], rfl, rfl, ⟨hx0, rfl, _, _, _, _, ho9, rfl⟩⟩
        · exact hq.elim
      · have hk280 : m < 280 := by omega
        rw [if_pos hk280, if_pos hk280] at hR
        refine zj_aload_n F d_PA_putLiteral_62 0 rfl rfl ?_
        refine zj_iload_n F d_PA_putLiteral_63 1 rfl rfl ?_
        refine zj_sipush (v := nI 256) F d_PA_putLiteral_64 (by decide) ?_
        refine zj_isub F d_PA_putLiteral_67 (pk_sub (by omega)) ?_
        refine zj_bipush (v := nI 7) F d_PA_putLiteral_68 (by decide) ?_
        refine zj_call (maxL := 4) (wr := [zO p 2 [.ref ne, .ref ol, .ref ib, .int (nI n), .ref ob, .int (nI s.2.1), .int (nI s.2.2.1), .int (nI s.2.2.2), .int x, .int y], zB K ob 16384 (zby s.1)]) F E (m_PA_turned l K (m - 256) 7 (by omega) (by decide)) (zi_S (As := [.int (nI (m - 256)), .int (nI 7)]) (rest := [.ref p]) F d_PA_putLiteral_70 q_482 q_483 q_6 q_484 (Or.inl ⟨_, _, rfl⟩) (by decide) (show Option.map (fun d => d.parameters.length) (parseMethodDescriptor y_PA_turned.desc) = some 2 from by decide +kernel)) d_PA_putLiteral_70 q_484 (Or.inl ⟨_, _, rfl⟩) q_6 [] [0, 1] rfl rfl rfl rfl (by decide) ⟨by decide, by decide, by decide, by decide⟩ (Nat.le_of_ble_eq_true rfl) (fun v w1 hq => ?_) (fun X w1 hq => ?_)
        · obtain ⟨rfl, rfl⟩ := hq
          show zj G 0 0 73 [(0, .ref p), (1, .int (nI m))] [.int (nI (ztu (m - 256) 7)), .ref p] [zO p 2 [.ref ne, .ref ol, .ref ib, .int (nI n), .ref ob, .int (nI s.2.1), .int (nI s.2.2.1), .int (nI s.2.2.2), .int x, .int y], zB K ob 16384 (zby s.1)]
          refine zj_bipush (v := nI 7) F d_PA_putLiteral_73 (by decide) ?_
          refine zj_call (maxL := 3) (wr := []) F E (m_PA_putNumber l hl K p ne ol ib n ob _ 7 x y s R hs hw (ztu_lt _ _) (by decide) hR) (zi_V (As := [.int (nI (ztu (m - 256) 7)), .int (nI 7)]) (rest := []) F d_PA_putLiteral_75 0 rfl rfl rfl q_452 q_454 sel_PA_putNumber q_455 (Or.inl ⟨_, _, rfl⟩) (by decide) (show Option.map (fun d => d.parameters.length) (parseMethodDescriptor y_PA_putNumber.desc) = some 2 from by decide +kernel)) d_PA_putLiteral_75 q_455 (Or.inl ⟨_, _, rfl⟩) q_6 [0, 1] [] rfl rfl rfl rfl (by decide) ⟨by decide, by decide, by decide, by decide⟩ (Nat.le_of_ble_eq_true rfl) (fun v w1 hq => ?_) (fun X w1 hq => ?_)
          · obtain ⟨hq0, rfl, rfl⟩ := hq
            show zj G 0 0 78 [(0, .ref p), (1, .int (nI m))] [] [zO p 2 [.ref ne, .ref ol, .ref ib, .int (nI n), .ref ob, .int (nI R.2.1), .int (nI R.2.2.1), .int (nI R.2.2.2), .int x, .int y], zB K ob 16384 (zby R.1)]
            refine zj_goto F d_PA_putLiteral_78 (tgt := 101) (by decide) ?_
            exact zj_vret F E d_PA_putLiteral_101 (Nat.le_refl _) (Nat.le_refl _) ⟨hq0, rfl, rfl⟩
          · obtain ⟨hx0, rfl, o9, w9, h9, c9, ho9, rfl⟩ := hq
            exact ⟨rfl, by decide, by decide, [0, 1], [zO p 2 [.ref ne, .ref ol, .ref ib, .int (nI n), .ref ob, .int (nI w9), .int (nI h9), .int (nI c9), .int x, .int y], zB K ob 16384 (zby o9)], rfl, rfl, ⟨hx0, rfl, _, _, _, _, ho9, rfl⟩⟩
        · exact hq.elim
    · have hk256 : m < 256 := by omega
      rw [if_pos hk256, if_pos hk256] at hR
      refine zj_aload_n F d_PA_putLiteral_32 0 rfl rfl ?_
      refine zj_sipush (v := nI 400) F d_PA_putLiteral_33 (by decide) ?_
      refine zj_iload_n F d_PA_putLiteral_36 1 rfl rfl ?_
      refine zj_iadd F d_PA_putLiteral_37 (nI_add _ _) ?_
      refine zj_sipush (v := nI 144) F d_PA_putLiteral_38 (by decide) ?_
      refine zj_isub F d_PA_putLiteral_41 (pk_sub (by omega)) ?_
      refine zj_bipush (v := nI 9) F d_PA_putLiteral_42 (by decide) ?_
      refine zj_call (maxL := 4) (wr := [zO p 2 [.ref ne, .ref ol, .ref ib, .int (nI n), .ref ob, .int (nI s.2.1), .int (nI s.2.2.1), .int (nI s.2.2.2), .int x, .int y], zB K ob 16384 (zby s.1)]) F E (m_PA_turned l K (400 + m - 144) 9 (by omega) (by decide)) (zi_S (As := [.int (nI (400 + m - 144)), .int (nI 9)]) (rest := [.ref p]) F d_PA_putLiteral_44 q_482 q_483 q_6 q_484 (Or.inl ⟨_, _, rfl⟩) (by decide) (show Option.map (fun d => d.parameters.length) (parseMethodDescriptor y_PA_turned.desc) = some 2 from by decide +kernel)) d_PA_putLiteral_44 q_484 (Or.inl ⟨_, _, rfl⟩) q_6 [] [0, 1] rfl rfl rfl rfl (by decide) ⟨by decide, by decide, by decide, by decide⟩ (Nat.le_of_ble_eq_true rfl) (fun v w1 hq => ?_) (fun X w1 hq => ?_)
      · obtain ⟨rfl, rfl⟩ := hq
        show zj G 0 0 47 [(0, .ref p), (1, .int (nI m))] [.int (nI (ztu (400 + m - 144) 9)), .ref p] [zO p 2 [.ref ne, .ref ol, .ref ib, .int (nI n), .ref ob, .int (nI s.2.1), .int (nI s.2.2.1), .int (nI s.2.2.2), .int x, .int y], zB K ob 16384 (zby s.1)]
        refine zj_bipush (v := nI 9) F d_PA_putLiteral_47 (by decide) ?_
        refine zj_call (maxL := 3) (wr := []) F E (m_PA_putNumber l hl K p ne ol ib n ob _ 9 x y s R hs hw (ztu_lt _ _) (by decide) hR) (zi_V (As := [.int (nI (ztu (400 + m - 144) 9)), .int (nI 9)]) (rest := []) F d_PA_putLiteral_49 0 rfl rfl rfl q_452 q_454 sel_PA_putNumber q_455 (Or.inl ⟨_, _, rfl⟩) (by decide) (show Option.map (fun d => d.parameters.length) (parseMethodDescriptor y_PA_putNumber.desc) = some 2 from by decide +kernel)) d_PA_putLiteral_49 q_455 (Or.inl ⟨_, _, rfl⟩) q_6 [0, 1] [] rfl rfl rfl rfl (by decide) ⟨by decide, by decide, by decide, by decide⟩ (Nat.le_of_ble_eq_true rfl) (fun v w1 hq => ?_) (fun X w1 hq => ?_)
        · obtain ⟨hq0, rfl, rfl⟩ := hq
          show zj G 0 0 52 [(0, .ref p), (1, .int (nI m))] [] [zO p 2 [.ref ne, .ref ol, .ref ib, .int (nI n), .ref ob, .int (nI R.2.1), .int (nI R.2.2.1), .int (nI R.2.2.2), .int x, .int y], zB K ob 16384 (zby R.1)]
          refine zj_goto F d_PA_putLiteral_52 (tgt := 101) (by decide) ?_
          exact zj_vret F E d_PA_putLiteral_101 (Nat.le_refl _) (Nat.le_refl _) ⟨hq0, rfl, rfl⟩
        · obtain ⟨hx0, rfl, o9, w9, h9, c9, ho9, rfl⟩ := hq
          exact ⟨rfl, by decide, by decide, [0, 1], [zO p 2 [.ref ne, .ref ol, .ref ib, .int (nI n), .ref ob, .int (nI w9), .int (nI h9), .int (nI c9), .int x, .int y], zB K ob 16384 (zby o9)], rfl, rfl, ⟨hx0, rfl, _, _, _, _, ho9, rfl⟩⟩
      · exact hq.elim
  · have hk144 : m < 144 := by omega
    rw [if_pos hk144, if_pos hk144] at hR
    refine zj_aload_n F d_PA_putLiteral_7 0 rfl rfl ?_
    refine zj_bipush (v := nI 48) F d_PA_putLiteral_8 (by decide) ?_
    refine zj_iload_n F d_PA_putLiteral_10 1 rfl rfl ?_
    refine zj_iadd F d_PA_putLiteral_11 (nI_add _ _) ?_
    refine zj_bipush (v := nI 8) F d_PA_putLiteral_12 (by decide) ?_
    refine zj_call (maxL := 4) (wr := [zO p 2 [.ref ne, .ref ol, .ref ib, .int (nI n), .ref ob, .int (nI s.2.1), .int (nI s.2.2.1), .int (nI s.2.2.2), .int x, .int y], zB K ob 16384 (zby s.1)]) F E (m_PA_turned l K (48 + m) 8 (by omega) (by decide)) (zi_S (As := [.int (nI (48 + m)), .int (nI 8)]) (rest := [.ref p]) F d_PA_putLiteral_14 q_482 q_483 q_6 q_484 (Or.inl ⟨_, _, rfl⟩) (by decide) (show Option.map (fun d => d.parameters.length) (parseMethodDescriptor y_PA_turned.desc) = some 2 from by decide +kernel)) d_PA_putLiteral_14 q_484 (Or.inl ⟨_, _, rfl⟩) q_6 [] [0, 1] rfl rfl rfl rfl (by decide) ⟨by decide, by decide, by decide, by decide⟩ (Nat.le_of_ble_eq_true rfl) (fun v w1 hq => ?_) (fun X w1 hq => ?_)
    · obtain ⟨rfl, rfl⟩ := hq
      show zj G 0 0 17 [(0, .ref p), (1, .int (nI m))] [.int (nI (ztu (48 + m) 8)), .ref p] [zO p 2 [.ref ne, .ref ol, .ref ib, .int (nI n), .ref ob, .int (nI s.2.1), .int (nI s.2.2.1), .int (nI s.2.2.2), .int x, .int y], zB K ob 16384 (zby s.1)]
      refine zj_bipush (v := nI 8) F d_PA_putLiteral_17 (by decide) ?_
      refine zj_call (maxL := 3) (wr := []) F E (m_PA_putNumber l hl K p ne ol ib n ob _ 8 x y s R hs hw (ztu_lt _ _) (by decide) hR) (zi_V (As := [.int (nI (ztu (48 + m) 8)), .int (nI 8)]) (rest := []) F d_PA_putLiteral_19 0 rfl rfl rfl q_452 q_454 sel_PA_putNumber q_455 (Or.inl ⟨_, _, rfl⟩) (by decide) (show Option.map (fun d => d.parameters.length) (parseMethodDescriptor y_PA_putNumber.desc) = some 2 from by decide +kernel)) d_PA_putLiteral_19 q_455 (Or.inl ⟨_, _, rfl⟩) q_6 [0, 1] [] rfl rfl rfl rfl (by decide) ⟨by decide, by decide, by decide, by decide⟩ (Nat.le_of_ble_eq_true rfl) (fun v w1 hq => ?_) (fun X w1 hq => ?_)
      · obtain ⟨hq0, rfl, rfl⟩ := hq
        show zj G 0 0 22 [(0, .ref p), (1, .int (nI m))] [] [zO p 2 [.ref ne, .ref ol, .ref ib, .int (nI n), .ref ob, .int (nI R.2.1), .int (nI R.2.2.1), .int (nI R.2.2.2), .int x, .int y], zB K ob 16384 (zby R.1)]
        refine zj_goto F d_PA_putLiteral_22 (tgt := 101) (by decide) ?_
        exact zj_vret F E d_PA_putLiteral_101 (Nat.le_refl _) (Nat.le_refl _) ⟨hq0, rfl, rfl⟩
      · obtain ⟨hx0, rfl, o9, w9, h9, c9, ho9, rfl⟩ := hq
        exact ⟨rfl, by decide, by decide, [0, 1], [zO p 2 [.ref ne, .ref ol, .ref ib, .int (nI n), .ref ob, .int (nI w9), .int (nI h9), .int (nI c9), .int x, .int y], zB K ob 16384 (zby o9)], rfl, rfl, ⟨hx0, rfl, _, _, _, _, ho9, rfl⟩⟩
    · exact hq.elim
set_option maxHeartbeats 4000000 in
set_option maxRecDepth 100000 in
/-- lastNotAbove(bases, value) -/
theorem m_PA_lastL (l : Launch) (K : zk) (v R : Nat) (hv : v < 2 ^ 31) (hR : zlna (ztab 0) v 28 1 = R) : zc l K y_PA_lastNotAbove w_PA_lastNotAbove { frames := 0, cells := 0, slots := 0, locals := 0 } 0 0 0 0 [.ref (K.2.2 0), .int (nI v)] [] (fun r w1 => r = some (.int (nI R)) ∧ w1 = []) (fun _ _ => False) := by
  refine zc_of (cc := c_PA_lastNotAbove) (nl := 4) (ret := (some .int)) (by decide) (Nat.le_of_ble_eq_true rfl) (fun G F E => ?_)
  have F : zf G l K { frames := 0, cells := 0, slots := 0, locals := 0 } "ZlibBox$Packer" c_PA_lastNotAbove 4 := F
  show zj G 0 0 0 [(0, .ref (K.2.2 0)), (1, .int (nI v))] [] []
  refine zj_iconst (v := nI 0) F d_PA_lastNotAbove_0 (by decide) ?_
  refine zj_istore_n (L' := [(2, .int (nI 0)), (0, .ref (K.2.2 0)), (1, .int (nI v))]) F d_PA_lastNotAbove_1 rfl (by decide) rfl ?_
  refine zj_iconst (v := nI 1) F d_PA_lastNotAbove_2 (by decide) ?_
  refine zj_istore_n (L' := [(3, .int (nI 1)), (2, .int (nI 0)), (0, .ref (K.2.2 0)), (1, .int (nI v))]) F d_PA_lastNotAbove_3 rfl (by decide) rfl ?_
  have htb : ∀ k, k < 29 → ztab 0 k < 2 ^ 31 := by decide +kernel
  have key : ∀ q i, i + q = 29 → 1 ≤ i → zlna (ztab 0) v q i = R → zj G 0 0 4 [(0, .ref (K.2.2 0)), (1, .int (nI v)), (2, .int (nI (i - 1))), (3, .int (nI i))] [] [] := by
    clear hR
    intro q
    induction q with
    | zero =>
      intro i h1 h2 h3
      show zj G 0 0 4 [(0, .ref (K.2.2 0)), (1, .int (nI v)), (2, .int (nI (i - 1))), (3, .int (nI i))] [] []
      refine zj_iload_n F d_PA_lastNotAbove_4 3 rfl rfl ?_
      refine zj_aload_n F d_PA_lastNotAbove_5 0 rfl rfl ?_
      refine zj_tlen F d_PA_lastNotAbove_6 0 rfl ?_
      change zj G 0 0 7 [(0, .ref (K.2.2 0)), (1, .int (nI v)), (2, .int (nI (i - 1))), (3, .int (nI i))] [.int (nI 29), .int (nI i)] []
      refine zj_icmp_ge (tgt := 25) F d_PA_lastNotAbove_7 (by decide) (nI_leI (by omega) (by omega)) (fun h7 => ?_) (fun h7 => ?_)
      · refine zj_iload_n F d_PA_lastNotAbove_25 2 rfl rfl ?_
        exact zj_iret F E d_PA_lastNotAbove_26 (Nat.le_refl _) (Nat.le_refl _) ⟨by rw [← h3]; rfl, rfl⟩
      · exact absurd h7 (by omega)
    | succ q ih =>
      intro i h1 h2 h3
      unfold zlna at h3
      show zj G 0 0 4 [(0, .ref (K.2.2 0)), (1, .int (nI v)), (2, .int (nI (i - 1))), (3, .int (nI i))] [] []
      refine zj_iload_n F d_PA_lastNotAbove_4 3 rfl rfl ?_
      refine zj_aload_n F d_PA_lastNotAbove_5 0 rfl rfl ?_
      refine zj_tlen F d_PA_lastNotAbove_6 0 rfl ?_
      change zj G 0 0 7 [(0, .ref (K.2.2 0)), (1, .int (nI v)), (2, .int (nI (i - 1))), (3, .int (nI i))] [.int (nI 29), .int (nI i)] []
      refine zj_icmp_ge (tgt := 25) F d_PA_lastNotAbove_7 (by decide) (nI_leI (by omega) (by omega)) (fun h7 => ?_) (fun h7 => ?_)
      · exact absurd h7 (by omega)
      · have htb1 := htb i (by omega)
        refine zj_aload_n F d_PA_lastNotAbove_10 0 rfl rfl ?_
        refine zj_iload_n F d_PA_lastNotAbove_11 3 rfl rfl ?_
        refine zj_tald F d_PA_lastNotAbove_12 0 i rfl rfl (show i < 29 by omega) (by decide) ?_
        change zj G 0 0 13 [(0, .ref (K.2.2 0)), (1, .int (nI v)), (2, .int (nI (i - 1))), (3, .int (nI i))] [.int (nI (ztab 0 i))] []
        refine zj_iload_n F d_PA_lastNotAbove_13 1 rfl rfl ?_
        refine zj_icmp_gt (tgt := 25) F d_PA_lastNotAbove_14 (by decide) (nI_ltI (by omega) (by omega)) (fun h14 => ?_) (fun h14 => ?_)
        · rw [if_neg (by omega)] at h3
          refine zj_iload_n F d_PA_lastNotAbove_25 2 rfl rfl ?_
          exact zj_iret F E d_PA_lastNotAbove_26 (Nat.le_refl _) (Nat.le_refl _) ⟨by rw [← h3], rfl⟩
        · rw [if_pos (by omega)] at h3
          refine zj_iload_n F d_PA_lastNotAbove_17 3 rfl rfl ?_
          refine zj_istore_n (L' := [(2, .int (nI i)), (0, .ref (K.2.2 0)), (1, .int (nI v)), (3, .int (nI i))]) F d_PA_lastNotAbove_18 rfl (by decide) rfl ?_
          refine zj_iinc (v := nI (i + 1)) (L' := [(3, .int (nI (i + 1))), (2, .int (nI i)), (0, .ref (K.2.2 0)), (1, .int (nI v))]) F d_PA_lastNotAbove_19 3 rfl (nI_add _ _) (by decide) rfl ?_
          refine zj_goto F d_PA_lastNotAbove_22 (tgt := 4) (by decide) ?_
          exact zj_sub [2, 3, 1, 0] rfl (ih (i + 1) (by omega) (by omega) h3)
  exact zj_sub [2, 3, 1, 0] rfl (key 28 1 rfl (by decide) hR)
set_option maxHeartbeats 4000000 in
set_option maxRecDepth 100000 in
/-- lastNotAbove(bases, value) -/
theorem m_PA_lastD (l : Launch) (K : zk) (v R : Nat) (hv : v < 2 ^ 31) (hR : zlna (ztab 2) v 29 1 = R) : zc l K y_PA_lastNotAbove w_PA_lastNotAbove { frames := 0, cells := 0, slots := 0, locals := 0 } 0 0 0 0 [.ref (K.2.2 2), .int (nI v)] [] (fun r w1 => r = some (.int (nI R)) ∧ w1 = []) (fun _ _ => False) := by
  refine zc_of (cc := c_PA_lastNotAbove) (nl := 4) (ret := (some .int)) (by decide) (Nat.le_of_ble_eq_true rfl) (fun G F E => ?_)
  have F : zf G l K { frames := 0, cells := 0, slots := 0, locals := 0 } "ZlibBox$Packer" c_PA_lastNotAbove 4 := F
  show zj G 0 0 0 [(0, .ref (K.2.2 2)), (1, .int (nI v))] [] []
  refine zj_iconst (v := nI 0) F d_PA_lastNotAbove_0 (by decide) ?_
  refine zj_istore_n (L' := [(2, .int (nI 0)), (0, .ref (K.2.2 2)), (1, .int (nI v))]) F d_PA_lastNotAbove_1 rfl (by decide) rfl ?_
  refine zj_iconst (v := nI 1) F d_PA_lastNotAbove_2 (by decide) ?_
  refine zj_istore_n (L' := [(3, .int (nI 1)), (2, .int (nI 0)), (0, .ref (K.2.2 2)), (1, .int (nI v))]) F d_PA_lastNotAbove_3 rfl (by decide) rfl ?_
  have htb : ∀ k, k < 30 → ztab 2 k < 2 ^ 31 := by decide +kernel
  have key : ∀ q i, i + q = 30 → 1 ≤ i → zlna (ztab 2) v q i = R → zj G 0 0 4 [(0, .ref (K.2.2 2)), (1, .int (nI v)), (2, .int (nI (i - 1))), (3, .int (nI i))] [] [] := by
    clear hR
    intro q
    induction q with
    | zero =>
      intro i h1 h2 h3
      show zj G 0 0 4 [(0, .ref (K.2.2 2)), (1, .int (nI v)), (2, .int (nI (i - 1))), (3, .int (nI i))] [] []
      refine zj_iload_n F d_PA_lastNotAbove_4 3 rfl rfl ?_
      refine zj_aload_n F d_PA_lastNotAbove_5 0 rfl rfl ?_
      refine zj_tlen F d_PA_lastNotAbove_6 2 rfl ?_
      change zj G 0 0 7 [(0, .ref (K.2.2 2)), (1, .int (nI v)), (2, .int (nI (i - 1))), (3, .int (nI i))] [.int (nI 30), .int (nI i)] []
      refine zj_icmp_ge (tgt := 25) F d_PA_lastNotAbove_7 (by decide) (nI_leI (by omega) (by omega)) (fun h7 => ?_) (fun h7 => ?_)
      · refine zj_iload_n F d_PA_lastNotAbove_25 2 rfl rfl ?_
        exact zj_iret F E d_PA_lastNotAbove_26 (Nat.le_refl _) (Nat.le_refl _) ⟨by rw [← h3]; rfl, rfl⟩
      · exact absurd h7 (by omega)
    | succ q ih =>
      intro i h1 h2 h3
      unfold zlna at h3
      show zj G 0 0 4 [(0, .ref (K.2.2 2)), (1, .int (nI v)), (2, .int (nI (i - 1))), (3, .int (nI i))] [] []
      refine zj_iload_n F d_PA_lastNotAbove_4 3 rfl rfl ?_
      refine zj_aload_n F d_PA_lastNotAbove_5 0 rfl rfl ?_
      refine zj_tlen F d_PA_lastNotAbove_6 2 rfl ?_
      change zj G 0 0 7 [(0, .ref (K.2.2 2)), (1, .int (nI v)), (2, .int (nI (i - 1))), (3, .int (nI i))] [.int (nI 30), .int (nI i)] []
      refine zj_icmp_ge (tgt := 25) F d_PA_lastNotAbove_7 (by decide) (nI_leI (by omega) (by omega)) (fun h7 => ?_) (fun h7 => ?_)
      · exact absurd h7 (by omega)
      · have htb1 := htb i (by omega)
        refine zj_aload_n F d_PA_lastNotAbove_10 0 rfl rfl ?_
        refine zj_iload_n F d_PA_lastNotAbove_11 3 rfl rfl ?_
        refine zj_tald F d_PA_lastNotAbove_12 2 i rfl rfl (show i < 30 by omega) (by decide) ?_
        change zj G 0 0 13 [(0, .ref (K.2.2 2)), (1, .int (nI v)), (2, .int (nI (i - 1))), (3, .int (nI i))] [.int (nI (ztab 2 i))] []
        refine zj_iload_n F d_PA_lastNotAbove_13 1 rfl rfl ?_
        refine zj_icmp_gt (tgt := 25) F d_PA_lastNotAbove_14 (by decide) (nI_ltI (by omega) (by omega)) (fun h14 => ?_) (fun h14 => ?_)
        · rw [if_neg (by omega)] at h3
          refine zj_iload_n F d_PA_lastNotAbove_25 2 rfl rfl ?_
          exact zj_iret F E d_PA_lastNotAbove_26 (Nat.le_refl _) (Nat.le_refl _) ⟨by rw [← h3], rfl⟩
        · rw [if_pos (by omega)] at h3
          refine zj_iload_n F d_PA_lastNotAbove_17 3 rfl rfl ?_
          refine zj_istore_n (L' := [(2, .int (nI i)), (0, .ref (K.2.2 2)), (1, .int (nI v)), (3, .int (nI i))]) F d_PA_lastNotAbove_18 rfl (by decide) rfl ?_
          refine zj_iinc (v := nI (i + 1)) (L' := [(3, .int (nI (i + 1))), (2, .int (nI i)), (0, .ref (K.2.2 2)), (1, .int (nI v))]) F d_PA_lastNotAbove_19 3 rfl (nI_add _ _) (by decide) rfl ?_
          refine zj_goto F d_PA_lastNotAbove_22 (tgt := 4) (by decide) ?_
          exact zj_sub [2, 3, 1, 0] rfl (ih (i + 1) (by omega) (by omega) h3)
  exact zj_sub [2, 3, 1, 0] rfl (key 29 1 rfl (by decide) hR)
set_option maxHeartbeats 4000000 in
set_option maxRecDepth 100000 in
/-- putCopy() -/
theorem m_PA_putCopy (l : Launch) (hl : l.stackTraces = false) (K : zk) (p ne ol ib n ob : Nat) (cl cd : Nat) (s R : zps) (hs : zpk s) (hw : s.2.1 ≤ 16384) (h1 : 3 ≤ cl) (h2 : cl ≤ 258) (h3 : 1 ≤ cd) (h4 : cd ≤ 4096) (hR : zcpP s cl cd = R) : zc l K y_PA_putCopy w_PA_putCopy { frames := 9, cells := 1, slots := 6, locals := 184 } 0 0 1 6 [.ref p] [zO p 2 [.ref ne, .ref ol, .ref ib, .int (nI n), .ref ob, .int (nI s.2.1), .int (nI s.2.2.1), .int (nI s.2.2.2), .int (nI cl), .int (nI cd)], zB K ob 16384 (zby s.1)] (fun r w1 => R.2.1 ≤ 16384 ∧ r = none ∧ w1 = [zO p 2 [.ref ne, .ref ol, .ref ib, .int (nI n), .ref ob, .int (nI R.2.1), .int (nI R.2.2.1), .int (nI R.2.2.2), .int (nI cl), .int (nI cd)], zB K ob 16384 (zby R.1)]) (fun X w1 => 16384 < R.2.1 ∧ X = zY ∧ ∃ o' w' h' c', (∀ j, o' j < 256) ∧ w1 = [zO p 2 [.ref ne, .ref ol, .ref ib, .int (nI n), .ref ob, .int (nI w'), .int (nI h'), .int (nI c'), .int (nI cl), .int (nI cd)], zB K ob 16384 (zby o')]) := by
  refine zc_of (cc := c_PA_putCopy) (nl := 3) (ret := none) (by decide) (Nat.le_of_ble_eq_true rfl) (fun G F E => ?_)
  have F : zf G l K { frames := 9, cells := 1, slots := 6, locals := 184 } "ZlibBox$Packer" c_PA_putCopy 3 := F
  show zj G 0 0 0 [(0, .ref p)] [] [zO p 2 [.ref ne, .ref ol, .ref ib, .int (nI n), .ref ob, .int (nI s.2.1), .int (nI s.2.2.1), .int (nI s.2.2.2), .int (nI cl), .int (nI cd)], zB K ob 16384 (zby s.1)]
  unfold zcpP at hR
  have hl1 := zlnl_ok cl (by omega) h1
  have hd1 := zlnd_ok h3 h4
  generalize hkl : zlnl cl = kl at hR hl1
  generalize hkd : zlnd cd = kd at hR hd1
  have hb1 := ztab_len kl hl1.1
  have hb2 := ztab_dis kd (by omega)
  refine zj_getsN F d_PA_putCopy_0 0 rfl q_489 ?_
  refine zj_aload_n F d_PA_putCopy_3 0 rfl rfl ?_
  refine zj_get F d_PA_putCopy_4 0 8 rfl rfl in_PA (by decide) q_123 rfl ?_
  refine zj_call (maxL := 4) (wr := [zO p 2 [.ref ne, .ref ol, .ref ib, .int (nI n), .ref ob, .int (nI s.2.1), .int (nI s.2.2.1), .int (nI s.2.2.2), .int (nI cl), .int (nI cd)], zB K ob 16384 (zby s.1)]) F E (m_PA_lastL l K cl kl (by omega) hkl) (zi_S (As := [.ref (K.2.2 0), .int (nI cl)]) (rest := []) F d_PA_putCopy_7 q_490 q_491 q_6 q_492 (Or.inl ⟨_, _, rfl⟩) (by decide) (show Option.map (fun d => d.parameters.length) (parseMethodDescriptor y_PA_lastNotAbove.desc) = some 2 from by decide +kernel)) d_PA_putCopy_7 q_492 (Or.inl ⟨_, _, rfl⟩) q_6 [] [0, 1] rfl rfl rfl rfl (by decide) ⟨by decide, by decide, by decide, by decide⟩ (Nat.le_of_ble_eq_true rfl) (fun v w1 hq => ?_) (fun X w1 hq => ?_)
  · obtain ⟨rfl, rfl⟩ := hq
    show zj G 0 0 10 [(0, .ref p)] [.int (nI kl)] [zO p 2 [.ref ne, .ref ol, .ref ib, .int (nI n), .ref ob, .int (nI s.2.1), .int (nI s.2.2.1), .int (nI s.2.2.2), .int (nI cl), .int (nI cd)], zB K ob 16384 (zby s.1)]
    refine zj_istore_n (L' := [(1, .int (nI kl)), (0, .ref p)]) F d_PA_putCopy_10 rfl (by decide) rfl ?_
    refine zj_aload_n F d_PA_putCopy_11 1 rfl rfl ?_
    refine zj_sipush (v := nI 257) F d_PA_putCopy_12 (by decide) ?_
    refine zj_iload_n F d_PA_putCopy_15 0 rfl rfl ?_
    refine zj_iadd F d_PA_putCopy_16 (nI_add _ _) ?_
    have a1 := zlit_ok (257 + kl) hs
    generalize hs1 : zlit s (257 + kl) = s1 at hR a1
    have a2 := zput_ok a1.1 hl1.2.2
    generalize hs2 : zput s1 (cl - ztab 0 kl) (ztab 1 kl) = s2 at hR a2
    have a3 := zput_ok a2.1 (ztu_lt kd 5)
    generalize hs3 : zput s2 (ztu kd 5) 5 = s3 at hR a3
    have a4 := zput_ok a3.1 hd1.2.2
    rw [hR] at a4
    refine zj_call (maxL := 2) (wr := []) F E (m_PA_putLiteral l hl K p ne ol ib n ob (257 + kl) (nI cl) (nI cd) s s1 hs hw (by omega) hs1) (zi_V (As := [.int (nI (257 + kl))]) (rest := []) F d_PA_putCopy_17 0 rfl rfl rfl q_478 q_480 sel_PA_putLiteral q_481 (Or.inl ⟨_, _, rfl⟩) (by decide) (show Option.map (fun d => d.parameters.length) (parseMethodDescriptor y_PA_putLiteral.desc) = some 1 from by decide +kernel)) d_PA_putCopy_17 q_481 (Or.inl ⟨_, _, rfl⟩) q_6 [0, 1] [] rfl rfl rfl rfl (by decide) ⟨by decide, by decide, by decide, by decide⟩ (Nat.le_of_ble_eq_true rfl) (fun v w1 hq => ?_) (fun X w1 hq => ?_)
    · obtain ⟨hq0, rfl, rfl⟩ := hq
      show zj G 0 0 20 [(1, .int (nI kl)), (0, .ref p)] [] [zO p 2 [.ref ne, .ref ol, .ref ib, .int (nI n), .ref ob, .int (nI s1.2.1), .int (nI s1.2.2.1), .int (nI s1.2.2.2), .int (nI cl), .int (nI cd)], zB K ob 16384 (zby s1.1)]
      refine zj_aload_n F d_PA_putCopy_20 1 rfl rfl ?_
      refine zj_aload_n F d_PA_putCopy_21 1 rfl rfl ?_
      refine zj_get F d_PA_putCopy_22 0 8 rfl rfl in_PA (by decide) q_123 rfl ?_
      refine zj_getsN F d_PA_putCopy_25 0 rfl q_489 ?_
      refine zj_iload_n F d_PA_putCopy_28 0 rfl rfl ?_
      refine zj_tald F d_PA_putCopy_29 0 kl rfl rfl (show kl < 29 by omega) (by decide) ?_
      change zj G 0 0 30 [(1, .int (nI kl)), (0, .ref p)] [.int (nI (ztab 0 kl)), .int (nI cl), .ref p] [zO p 2 [.ref ne, .ref ol, .ref ib, .int (nI n), .ref ob, .int (nI s1.2.1), .int (nI s1.2.2.1), .int (nI s1.2.2.2), .int (nI cl), .int (nI cd)], zB K ob 16384 (zby s1.1)]
      refine zj_isub F d_PA_putCopy_30 (pk_sub (by omega)) ?_
      refine zj_getsN F d_PA_putCopy_31 1 rfl q_493 ?_
      refine zj_iload_n F d_PA_putCopy_34 0 rfl rfl ?_
      refine zj_tald F d_PA_putCopy_35 1 kl rfl rfl (show kl < 29 by omega) (by decide) ?_
      change zj G 0 0 36 [(1, .int (nI kl)), (0, .ref p)] [.int (nI (ztab 1 kl)), .int (nI (cl - (ztab 0 kl))), .ref p] [zO p 2 [.ref ne, .ref ol, .ref ib, .int (nI n), .ref ob, .int (nI s1.2.1), .int (nI s1.2.2.1), .int (nI s1.2.2.2), .int (nI cl), .int (nI cd)], zB K ob 16384 (zby s1.1)]
      refine zj_call (maxL := 3) (wr := []) F E (m_PA_putNumber l hl K p ne ol ib n ob (cl - ztab 0 kl) (ztab 1 kl) (nI cl) (nI cd) s1 s2 a1.1 hq0 hl1.2.2 (by omega) hs2) (zi_V (As := [.int (nI (cl - ztab 0 kl)), .int (nI (ztab 1 kl))]) (rest := []) F d_PA_putCopy_36 0 rfl rfl rfl q_452 q_454 sel_PA_putNumber q_455 (Or.inl ⟨_, _, rfl⟩) (by decide) (show Option.map (fun d => d.parameters.length) (parseMethodDescriptor y_PA_putNumber.desc) = some 2 from by decide +kernel)) d_PA_putCopy_36 q_455 (Or.inl ⟨_, _, rfl⟩) q_6 [0, 1] [] rfl rfl rfl rfl (by decide) ⟨by decide, by decide, by decide, by decide⟩ (Nat.le_of_ble_eq_true rfl) (fun v w1 hq => ?_) (fun X w1 hq => ?_)
      · obtain ⟨hq1, rfl, rfl⟩ := hq
        show zj G 0 0 39 [(1, .int (nI kl)), (0, .ref p)] [] [zO p 2 [.ref ne, .ref ol, .ref ib, .int (nI n), .ref ob, .int (nI s2.2.1), .int (nI s2.2.2.1), .int (nI s2.2.2.2), .int (nI cl), .int (nI cd)], zB K ob 16384 (zby s2.1)]
        refine zj_getsN F d_PA_putCopy_39 2 rfl q_494 ?_
        refine zj_aload_n F d_PA_putCopy_42 1 rfl rfl ?_
        refine zj_get F d_PA_putCopy_43 0 9 rfl rfl in_PA (by decide) q_124 rfl ?_
        refine zj_call (maxL := 4) (wr := [zO p 2 [.ref ne, .ref ol, .ref ib, .int (nI n), .ref ob, .int (nI s2.2.1), .int (nI s2.2.2.1), .int (nI s2.2.2.2), .int (nI cl), .int (nI cd)], zB K ob 16384 (zby s2.1)]) F E (m_PA_lastD l K cd kd (by omega) hkd) (zi_S (As := [.ref (K.2.2 2), .int (nI cd)]) (rest := []) F d_PA_putCopy_46 q_490 q_491 q_6 q_492 (Or.inl ⟨_, _, rfl⟩) (by decide) (show Option.map (fun d => d.parameters.length) (parseMethodDescriptor y_PA_lastNotAbove.desc) = some 2 from by decide +kernel)) d_PA_putCopy_46 q_492 (Or.inl ⟨_, _, rfl⟩) q_6 [] [0, 1] rfl rfl rfl rfl (by decide) ⟨by decide, by decide, by decide, by decide⟩ (Nat.le_of_ble_eq_true rfl) (fun v w1 hq => ?_) (fun X w1 hq => ?_)
        · obtain ⟨rfl, rfl⟩ := hq
          show zj G 0 0 49 [(1, .int (nI kl)), (0, .ref p)] [.int (nI kd)] [zO p 2 [.ref ne, .ref ol, .ref ib, .int (nI n), .ref ob, .int (nI s2.2.1), .int (nI s2.2.2.1), .int (nI s2.2.2.2), .int (nI cl), .int (nI cd)], zB K ob 16384 (zby s2.1)]
          refine zj_istore_n (L' := [(2, .int (nI kd)), (1, .int (nI kl)), (0, .ref p)]) F d_PA_putCopy_49 rfl (by decide) rfl ?_
          refine zj_aload_n F d_PA_putCopy_50 2 rfl rfl ?_
          refine zj_iload_n F d_PA_putCopy_51 0 rfl rfl ?_
          refine zj_iconst (v := nI 5) F d_PA_putCopy_52 (by decide) ?_
          refine zj_call (maxL := 4) (wr := [zO p 2 [.ref ne, .ref ol, .ref ib, .int (nI n), .ref ob, .int (nI s2.2.1), .int (nI s2.2.2.1), .int (nI s2.2.2.2), .int (nI cl), .int (nI cd)], zB K ob 16384 (zby s2.1)]) F E (m_PA_turned l K kd 5 (by omega) (by decide)) (zi_S (As := [.int (nI kd), .int (nI 5)]) (rest := [.ref p]) F d_PA_putCopy_53 q_482 q_483 q_6 q_484 (Or.inl ⟨_, _, rfl⟩) (by decide) (show Option.map (fun d => d.parameters.length) (parseMethodDescriptor y_PA_turned.desc) = some 2 from by decide +kernel)) d_PA_putCopy_53 q_484 (Or.inl ⟨_, _, rfl⟩) q_6 [] [0, 1] rfl rfl rfl rfl (by decide) ⟨by decide, by decide, by decide, by decide⟩ (Nat.le_of_ble_eq_true rfl) (fun v w1 hq => ?_) (fun X w1 hq => ?_)
          · obtain ⟨rfl, rfl⟩ := hq
            show zj G 0 0 56 [(2, .int (nI kd)), (1, .int (nI kl)), (0, .ref p)] [.int (nI (ztu kd 5)), .ref p] [zO p 2 [.ref ne, .ref ol, .ref ib, .int (nI n), .ref ob, .int (nI s2.2.1), .int (nI s2.2.2.1), .int (nI s2.2.2.2), .int (nI cl), .int (nI cd)], zB K ob 16384 (zby s2.1)]
            refine zj_iconst (v := nI 5) F d_PA_putCopy_56 (by decide) ?_
            refine zj_call (maxL := 3) (wr := []) F E (m_PA_putNumber l hl K p ne ol ib n ob (ztu kd 5) 5 (nI cl) (nI cd) s2 s3 a2.1 hq1 (ztu_lt _ _) (by decide) hs3) (zi_V (As := [.int (nI (ztu kd 5)), .int (nI 5)]) (rest := []) F d_PA_putCopy_57 0 rfl rfl rfl q_452 q_454 sel_PA_putNumber q_455 (Or.inl ⟨_, _, rfl⟩) (by decide) (show Option.map (fun d => d.parameters.length) (parseMethodDescriptor y_PA_putNumber.desc) = some 2 from by decide +kernel)) d_PA_putCopy_57 q_455 (Or.inl ⟨_, _, rfl⟩) q_6 [0, 1] [] rfl rfl rfl rfl (by decide) ⟨by decide, by decide, by decide, by decide⟩ (Nat.le_of_ble_eq_true rfl) (fun v w1 hq => ?_) (fun X w1 hq => ?_)
            · obtain ⟨hq2, rfl, rfl⟩ := hq
              show zj G 0 0 60 [(2, .int (nI kd)), (1, .int (nI kl)), (0, .ref p)] [] [zO p 2 [.ref ne, .ref ol, .ref ib, .int (nI n), .ref ob, .int (nI s3.2.1), .int (nI s3.2.2.1), .int (nI s3.2.2.2), .int (nI cl), .int (nI cd)], zB K ob 16384 (zby s3.1)]
              refine zj_aload_n F d_PA_putCopy_60 2 rfl rfl ?_
              refine zj_aload_n F d_PA_putCopy_61 2 rfl rfl ?_
              refine zj_get F d_PA_putCopy_62 0 9 rfl rfl in_PA (by decide) q_124 rfl ?_
              refine zj_getsN F d_PA_putCopy_65 2 rfl q_494 ?_
              refine zj_iload_n F d_PA_putCopy_68 0 rfl rfl ?_
              refine zj_tald F d_PA_putCopy_69 2 kd rfl rfl (show kd < 30 by omega) (by decide) ?_
              change zj G 0 0 70 [(2, .int (nI kd)), (1, .int (nI kl)), (0, .ref p)] [.int (nI (ztab 2 kd)), .int (nI cd), .ref p] [zO p 2 [.ref ne, .ref ol, .ref ib, .int (nI n), .ref ob, .int (nI s3.2.1), .int (nI s3.2.2.1), .int (nI s3.2.2.2), .int (nI cl), .int (nI cd)], zB K ob 16384 (zby s3.1)]
              refine zj_isub F d_PA_putCopy_70 (pk_sub (by omega)) ?_
              refine zj_getsN F d_PA_putCopy_71 3 rfl q_495 ?_
              refine zj_iload_n F d_PA_putCopy_74 0 rfl rfl ?_
              refine zj_tald F d_PA_putCopy_75 3 kd rfl rfl (show kd < 30 by omega) (by decide) ?_
              change zj G 0 0 76 [(2, .int (nI kd)), (1, .int (nI kl)), (0, .ref p)] [.int (nI (ztab 3 kd)), .int (nI (cd - (ztab 2 kd))), .ref p] [zO p 2 [.ref ne, .ref ol, .ref ib, .int (nI n), .ref ob, .int (nI s3.2.1), .int (nI s3.2.2.1), .int (nI s3.2.2.2), .int (nI cl), .int (nI cd)], zB K ob 16384 (zby s3.1)]
              refine zj_call (maxL := 3) (wr := []) F E (m_PA_putNumber l hl K p ne ol ib n ob (cd - ztab 2 kd) (ztab 3 kd) (nI cl) (nI cd) s3 R a3.1 hq2 hd1.2.2 (by omega) hR) (zi_V (As := [.int (nI (cd - ztab 2 kd)), .int (nI (ztab 3 kd))]) (rest := []) F d_PA_putCopy_76 0 rfl rfl rfl q_452 q_454 sel_PA_putNumber q_455 (Or.inl ⟨_, _, rfl⟩) (by decide) (show Option.map (fun d => d.parameters.length) (parseMethodDescriptor y_PA_putNumber.desc) = some 2 from by decide +kernel)) d_PA_putCopy_76 q_455 (Or.inl ⟨_, _, rfl⟩) q_6 [0, 1] [] rfl rfl rfl rfl (by decide) ⟨by decide, by decide, by decide, by decide⟩ (Nat.le_of_ble_eq_true rfl) (fun v w1 hq => ?_) (fun X w1 hq => ?_)
              · obtain ⟨hq3, rfl, rfl⟩ := hq
                show zj G 0 0 79 [(2, .int (nI kd)), (1, .int (nI kl)), (0, .ref p)] [] [zO p 2 [.ref ne, .ref ol, .ref ib, .int (nI n), .ref ob, .int (nI R.2.1), .int (nI R.2.2.1), .int (nI R.2.2.2), .int (nI cl), .int (nI cd)], zB K ob 16384 (zby R.1)]
                exact zj_vret F E d_PA_putCopy_79 (Nat.le_refl _) (Nat.le_refl _) ⟨hq3, rfl, rfl⟩
              · obtain ⟨hx0, rfl, o9, w9, h9, c9, ho9, rfl⟩ := hq
                exact ⟨rfl, by decide, by decide, [0, 1], [zO p 2 [.ref ne, .ref ol, .ref ib, .int (nI n), .ref ob, .int (nI w9), .int (nI h9), .int (nI c9), .int (nI cl), .int (nI cd)], zB K ob 16384 (zby o9)], rfl, rfl, ⟨hx0, rfl, _, _, _, _, ho9, rfl⟩⟩
            · obtain ⟨hx0, rfl, o9, w9, h9, c9, ho9, rfl⟩ := hq
              exact ⟨rfl, by decide, by decide, [0, 1], [zO p 2 [.ref ne, .ref ol, .ref ib, .int (nI n), .ref ob, .int (nI w9), .int (nI h9), .int (nI c9), .int (nI cl), .int (nI cd)], zB K ob 16384 (zby o9)], rfl, rfl, ⟨by omega, rfl, _, _, _, _, ho9, rfl⟩⟩
          · exact hq.elim
        · exact hq.elim
      · obtain ⟨hx0, rfl, o9, w9, h9, c9, ho9, rfl⟩ := hq
        exact ⟨rfl, by decide, by decide, [0, 1], [zO p 2 [.ref ne, .ref ol, .ref ib, .int (nI n), .ref ob, .int (nI w9), .int (nI h9), .int (nI c9), .int (nI cl), .int (nI cd)], zB K ob 16384 (zby o9)], rfl, rfl, ⟨by omega, rfl, _, _, _, _, ho9, rfl⟩⟩
    · obtain ⟨hx0, rfl, o9, w9, h9, c9, ho9, rfl⟩ := hq
      exact ⟨rfl, by decide, by decide, [0, 1], [zO p 2 [.ref ne, .ref ol, .ref ib, .int (nI n), .ref ob, .int (nI w9), .int (nI h9), .int (nI c9), .int (nI cl), .int (nI cd)], zB K ob 16384 (zby o9)], rfl, rfl, ⟨by omega, rfl, _, _, _, _, ho9, rfl⟩⟩
  · exact hq.elim
set_option maxHeartbeats 4000000 in
set_option maxRecDepth 100000 in
/-- putLastBits() -/
theorem m_PA_lastBits (l : Launch) (hl : l.stackTraces = false) (K : zk) (p ne ol ib n ob : Nat) (x y : Int32) (s : zps) (R : (Nat → Nat) × Nat) (hs : zpk s) (hw : s.2.1 ≤ 16384) (hR : zfl s = R) : zc l K y_PA_putLastBits w_PA_putLastBits { frames := 7, cells := 1, slots := 6, locals := 141 } 0 0 1 6 [.ref p] [zO p 2 [.ref ne, .ref ol, .ref ib, .int (nI n), .ref ob, .int (nI s.2.1), .int (nI s.2.2.1), .int (nI s.2.2.2), .int x, .int y], zB K ob 16384 (zby s.1)] (fun r w1 => R.2 ≤ 16384 ∧ r = none ∧ w1 = [zO p 2 [.ref ne, .ref ol, .ref ib, .int (nI n), .ref ob, .int (nI R.2), .int (nI s.2.2.1), .int (nI s.2.2.2), .int x, .int y], zB K ob 16384 (zby R.1)]) (fun X w1 => 16384 < R.2 ∧ X = zY ∧ ∃ o' w' h' c', (∀ j, o' j < 256) ∧ w1 = [zO p 2 [.ref ne, .ref ol, .ref ib, .int (nI n), .ref ob, .int (nI w'), .int (nI h'), .int (nI c'), .int x, .int y], zB K ob 16384 (zby o')]) := by
  refine zc_of (cc := c_PA_putLastBits) (nl := 1) (ret := none) (by decide) (Nat.le_of_ble_eq_true rfl) (fun G F E => ?_)
  have F : zf G l K { frames := 7, cells := 1, slots := 6, locals := 141 } "ZlibBox$Packer" c_PA_putLastBits 1 := F
  show zj G 0 0 0 [(0, .ref p)] [] [zO p 2 [.ref ne, .ref ol, .ref ib, .int (nI n), .ref ob, .int (nI s.2.1), .int (nI s.2.2.1), .int (nI s.2.2.2), .int x, .int y], zB K ob 16384 (zby s.1)]
  have hc8 := hs.1
  have h2 := hs.2.1
  have h3 : (2 : Nat) ^ s.2.2.2 ≤ 2 ^ 8 := Nat.pow_le_pow_right (by decide) (Nat.le_of_lt hs.1)
  unfold zfl at hR
  refine zj_aload_n F d_PA_putLastBits_0 0 rfl rfl ?_
  refine zj_get F d_PA_putLastBits_1 0 7 rfl rfl in_PA (by decide) q_122 rfl ?_
  refine zj_if_le (tgt := 15) F d_PA_putLastBits_4 (by decide) (zI_le0 (by omega)) (fun h4 => ?_) (fun h4 => ?_)
  · rw [if_neg (by omega)] at hR
    subst hR
    exact zj_vret F E d_PA_putLastBits_15 (Nat.le_refl _) (Nat.le_refl _) ⟨hw, rfl, rfl⟩
  · rw [if_pos (by omega)] at hR
    refine zj_aload_n F d_PA_putLastBits_7 0 rfl rfl ?_
    refine zj_aload_n F d_PA_putLastBits_8 0 rfl rfl ?_
    refine zj_get F d_PA_putLastBits_9 0 6 rfl rfl in_PA (by decide) q_121 rfl ?_
    refine zj_call (maxL := 2) (wr := []) F E (m_PA_putByte l hl K p ne ol ib n ob s.2.1 s.2.2.1 (nI s.2.2.1) (nI s.2.2.2) x y (nI s.2.2.1) s.1 hw ((zlow_nI _).trans (Nat.mod_eq_of_lt (by omega)))) (zi_V (As := [.int (nI s.2.2.1)]) (rest := []) F d_PA_putLastBits_12 0 rfl rfl rfl q_445 q_447 sel_PA_putByte q_448 (Or.inl ⟨_, _, rfl⟩) (by decide) (show Option.map (fun d => d.parameters.length) (parseMethodDescriptor y_PA_putByte.desc) = some 1 from by decide +kernel)) d_PA_putLastBits_12 q_448 (Or.inl ⟨_, _, rfl⟩) q_6 [0, 1] [] rfl rfl rfl rfl (by decide) ⟨by decide, by decide, by decide, by decide⟩ (Nat.le_of_ble_eq_true rfl) (fun v w1 hq => ?_) (fun X w1 hq => ?_)
    · obtain ⟨hq0, rfl, rfl⟩ := hq
      show zj G 0 0 15 [(0, .ref p)] [] [zO p 2 [.ref ne, .ref ol, .ref ib, .int (nI n), .ref ob, .int (nI (s.2.1 + 1)), .int (nI s.2.2.1), .int (nI s.2.2.2), .int x, .int y], zB K ob 16384 (zby (va_up s.1 s.2.1 s.2.2.1))]
      subst hR
      exact zj_vret F E d_PA_putLastBits_15 (Nat.le_refl _) (Nat.le_refl _) ⟨by show s.2.1 + 1 ≤ 16384; omega, rfl, rfl⟩
    · obtain ⟨hx0, rfl, rfl⟩ := hq
      exact ⟨rfl, by decide, by decide, [0, 1], [zO p 2 [.ref ne, .ref ol, .ref ib, .int (nI n), .ref ob, .int (nI s.2.1), .int (nI s.2.2.1), .int (nI s.2.2.2), .int x, .int y], zB K ob 16384 (zby s.1)], rfl, rfl, ⟨by rw [← hR]; show 16384 < s.2.1 + 1; omega, rfl, _, _, _, _, hs.2.2, rfl⟩⟩
set_option maxHeartbeats 4000000 in
set_option maxRecDepth 100000 in
/-- putAdler(adler) -/
theorem m_PA_putAdler (l : Launch) (hl : l.stackTraces = false) (K : zk) (p ne ol ib n ob : Nat) (w : Nat) (h c x y v : Int32) (o : Nat → Nat) (hw : w ≤ 16384) (ho : ∀ j, o j < 256) : zc l K y_PA_putAdler w_PA_putAdler { frames := 7, cells := 1, slots := 6, locals := 141 } 0 0 1 6 [.ref p, .int v] [zO p 2 [.ref ne, .ref ol, .ref ib, .int (nI n), .ref ob, .int (nI w), .int h, .int c, .int x, .int y], zB K ob 16384 (zby o)] (fun r w1 => w + 4 ≤ 16384 ∧ r = none ∧ w1 = [zO p 2 [.ref ne, .ref ol, .ref ib, .int (nI n), .ref ob, .int (nI (w + 4)), .int h, .int c, .int x, .int y], zB K ob 16384 (zby (zint o w v))]) (fun X w1 => 16384 < w + 4 ∧ X = zY ∧ ∃ o' w', (∀ j, o' j < 256) ∧ w1 = [zO p 2 [.ref ne, .ref ol, .ref ib, .int (nI n), .ref ob, .int (nI w'), .int h, .int c, .int x, .int y], zB K ob 16384 (zby o')]) := by
  refine zc_of (cc := c_PA_putAdler) (nl := 3) (ret := none) (by decide) (Nat.le_of_ble_eq_true rfl) (fun G F E => ?_)
  have F : zf G l K { frames := 7, cells := 1, slots := 6, locals := 141 } "ZlibBox$Packer" c_PA_putAdler 3 := F
  show zj G 0 0 0 [(0, .ref p), (1, .int v)] [] [zO p 2 [.ref ne, .ref ol, .ref ib, .int (nI n), .ref ob, .int (nI w), .int h, .int c, .int x, .int y], zB K ob 16384 (zby o)]
  refine zj_bipush (v := nI 24) F d_PA_putAdler_0 (by decide) ?_
  refine zj_istore_n (L' := [(2, .int (nI 24)), (0, .ref p), (1, .int v)]) F d_PA_putAdler_2 rfl (by decide) rfl ?_
  refine zj_iload_n F d_PA_putAdler_3 0 rfl rfl ?_
  refine zj_if_lt (tgt := 20) F d_PA_putAdler_4 (by decide) (zI_lt0 (by omega)) (fun h4 => ?_) (fun h4 => ?_)
  · exact absurd h4 (by decide)
  · refine zj_aload_n F d_PA_putAdler_7 1 rfl rfl ?_
    refine zj_iload_n F d_PA_putAdler_8 2 rfl rfl ?_
    refine zj_iload_n F d_PA_putAdler_9 0 rfl rfl ?_
    refine zj_ishr (z := v >>> (nI 24 &&& 31)) F d_PA_putAdler_10 rfl ?_
    refine zj_call (maxL := 2) (wr := []) F E (m_PA_putByte l hl K p ne ol ib n ob w _ h c x y (v >>> (nI 24 &&& 31)) o (by omega) rfl) (zi_V (As := [.int (v >>> (nI 24 &&& 31))]) (rest := []) F d_PA_putAdler_11 0 rfl rfl rfl q_445 q_447 sel_PA_putByte q_448 (Or.inl ⟨_, _, rfl⟩) (by decide) (show Option.map (fun d => d.parameters.length) (parseMethodDescriptor y_PA_putByte.desc) = some 1 from by decide +kernel)) d_PA_putAdler_11 q_448 (Or.inl ⟨_, _, rfl⟩) q_6 [0, 1] [] rfl rfl rfl rfl (by decide) ⟨by decide, by decide, by decide, by decide⟩ (Nat.le_of_ble_eq_true rfl) (fun v w1 hq => ?_) (fun X w1 hq => ?_)
    · obtain ⟨hq0, rfl, rfl⟩ := hq
      show zj G 0 0 14 [(2, .int (nI 24)), (0, .ref p), (1, .int v)] [] [zO p 2 [.ref ne, .ref ol, .ref ib, .int (nI n), .ref ob, .int (nI (w + 1)), .int h, .int c, .int x, .int y], zB K ob 16384 (zby (va_up o w (zlow (v >>> (nI 24 &&& 31)))))]
      refine zj_iinc (v := nI 16) (L' := [(2, .int (nI 16)), (0, .ref p), (1, .int v)]) F d_PA_putAdler_14 0 rfl (by decide) (by decide) rfl ?_
      refine zj_goto F d_PA_putAdler_17 (tgt := 3) (by decide) ?_
      refine zj_iload_n F d_PA_putAdler_3 0 rfl rfl ?_
      refine zj_if_lt (tgt := 20) F d_PA_putAdler_4 (by decide) (zI_lt0 (by omega)) (fun h4 => ?_) (fun h4 => ?_)
      · exact absurd h4 (by decide)
      · refine zj_aload_n F d_PA_putAdler_7 1 rfl rfl ?_
        refine zj_iload_n F d_PA_putAdler_8 2 rfl rfl ?_
        refine zj_iload_n F d_PA_putAdler_9 0 rfl rfl ?_
        refine zj_ishr (z := v >>> (nI 16 &&& 31)) F d_PA_putAdler_10 rfl ?_
        refine zj_call (maxL := 2) (wr := []) F E (m_PA_putByte l hl K p ne ol ib n ob (w + 1) _ h c x y (v >>> (nI 16 &&& 31)) (va_up o w (zlow (v >>> (nI 24 &&& 31)))) (by omega) rfl) (zi_V (As := [.int (v >>> (nI 16 &&& 31))]) (rest := []) F d_PA_putAdler_11 0 rfl rfl rfl q_445 q_447 sel_PA_putByte q_448 (Or.inl ⟨_, _, rfl⟩) (by decide) (show Option.map (fun d => d.parameters.length) (parseMethodDescriptor y_PA_putByte.desc) = some 1 from by decide +kernel)) d_PA_putAdler_11 q_448 (Or.inl ⟨_, _, rfl⟩) q_6 [0, 1] [] rfl rfl rfl rfl (by decide) ⟨by decide, by decide, by decide, by decide⟩ (Nat.le_of_ble_eq_true rfl) (fun v w1 hq => ?_) (fun X w1 hq => ?_)
        · obtain ⟨hq1, rfl, rfl⟩ := hq
          show zj G 0 0 14 [(2, .int (nI 16)), (0, .ref p), (1, .int v)] [] [zO p 2 [.ref ne, .ref ol, .ref ib, .int (nI n), .ref ob, .int (nI (w + 2)), .int h, .int c, .int x, .int y], zB K ob 16384 (zby (va_up (va_up o w (zlow (v >>> (nI 24 &&& 31)))) (w + 1) (zlow (v >>> (nI 16 &&& 31)))))]
          refine zj_iinc (v := nI 8) (L' := [(2, .int (nI 8)), (0, .ref p), (1, .int v)]) F d_PA_putAdler_14 0 rfl (by decide) (by decide) rfl ?_
          refine zj_goto F d_PA_putAdler_17 (tgt := 3) (by decide) ?_
          refine zj_iload_n F d_PA_putAdler_3 0 rfl rfl ?_
          refine zj_if_lt (tgt := 20) F d_PA_putAdler_4 (by decide) (zI_lt0 (by omega)) (fun h4 => ?_) (fun h4 => ?_)
          · exact absurd h4 (by decide)
          · refine zj_aload_n F d_PA_putAdler_7 1 rfl rfl ?_
            refine zj_iload_n F d_PA_putAdler_8 2 rfl rfl ?_
            refine zj_iload_n F d_PA_putAdler_9 0 rfl rfl ?_
            refine zj_ishr (z := v >>> (nI 8 &&& 31)) F d_PA_putAdler_10 rfl ?_
            refine zj_call (maxL := 2) (wr := []) F E (m_PA_putByte l hl K p ne ol ib n ob (w + 2) _ h c x y (v >>> (nI 8 &&& 31)) (va_up (va_up o w (zlow (v >>> (nI 24 &&& 31)))) (w + 1) (zlow (v >>> (nI 16 &&& 31)))) (by omega) rfl) (zi_V (As := [.int (v >>> (nI 8 &&& 31))]) (rest := []) F d_PA_putAdler_11 0 rfl rfl rfl q_445 q_447 sel_PA_putByte q_448 (Or.inl ⟨_, _, rfl⟩) (by decide) (show Option.map (fun d => d.parameters.length) (parseMethodDescriptor y_PA_putByte.desc) = some 1 from by decide +kernel)) d_PA_putAdler_11 q_448 (Or.inl ⟨_, _, rfl⟩) q_6 [0, 1] [] rfl rfl rfl rfl (by decide) ⟨by decide, by decide, by decide, by decide⟩ (Nat.le_of_ble_eq_true rfl) (fun v w1 hq => ?_) (fun X w1 hq => ?_)
            · obtain ⟨hq2, rfl, rfl⟩ := hq
              show zj G 0 0 14 [(2, .int (nI 8)), (0, .ref p), (1, .int v)] [] [zO p 2 [.ref ne, .ref ol, .ref ib, .int (nI n), .ref ob, .int (nI (w + 3)), .int h, .int c, .int x, .int y], zB K ob 16384 (zby (va_up (va_up (va_up o w (zlow (v >>> (nI 24 &&& 31)))) (w + 1) (zlow (v >>> (nI 16 &&& 31)))) (w + 2) (zlow (v >>> (nI 8 &&& 31)))))]
              refine zj_iinc (v := nI 0) (L' := [(2, .int (nI 0)), (0, .ref p), (1, .int v)]) F d_PA_putAdler_14 0 rfl (by decide) (by decide) rfl ?_
              refine zj_goto F d_PA_putAdler_17 (tgt := 3) (by decide) ?_
              refine zj_iload_n F d_PA_putAdler_3 0 rfl rfl ?_
              refine zj_if_lt (tgt := 20) F d_PA_putAdler_4 (by decide) (zI_lt0 (by omega)) (fun h4 => ?_) (fun h4 => ?_)
              · exact absurd h4 (by decide)
              · refine zj_aload_n F d_PA_putAdler_7 1 rfl rfl ?_
                refine zj_iload_n F d_PA_putAdler_8 2 rfl rfl ?_
                refine zj_iload_n F d_PA_putAdler_9 0 rfl rfl ?_
                refine zj_ishr (z := v) F d_PA_putAdler_10 (zI_shr0 v) ?_
                refine zj_call (maxL := 2) (wr := []) F E (m_PA_putByte l hl K p ne ol ib n ob (w + 3) _ h c x y (v) (va_up (va_up (va_up o w (zlow (v >>> (nI 24 &&& 31)))) (w + 1) (zlow (v >>> (nI 16 &&& 31)))) (w + 2) (zlow (v >>> (nI 8 &&& 31)))) (by omega) rfl) (zi_V (As := [.int v]) (rest := []) F d_PA_putAdler_11 0 rfl rfl rfl q_445 q_447 sel_PA_putByte q_448 (Or.inl ⟨_, _, rfl⟩) (by decide) (show Option.map (fun d => d.parameters.length) (parseMethodDescriptor y_PA_putByte.desc) = some 1 from by decide +kernel)) d_PA_putAdler_11 q_448 (Or.inl ⟨_, _, rfl⟩) q_6 [0, 1] [] rfl rfl rfl rfl (by decide) ⟨by decide, by decide, by decide, by decide⟩ (Nat.le_of_ble_eq_true rfl) (fun v w1 hq => ?_) (fun X w1 hq => ?_)
                · obtain ⟨hq3, rfl, rfl⟩ := hq
                  show zj G 0 0 14 [(2, .int (nI 0)), (0, .ref p), (1, .int v)] [] [zO p 2 [.ref ne, .ref ol, .ref ib, .int (nI n), .ref ob, .int (nI (w + 4)), .int h, .int c, .int x, .int y], zB K ob 16384 (zby (va_up (va_up (va_up (va_up o w (zlow (v >>> (nI 24 &&& 31)))) (w + 1) (zlow (v >>> (nI 16 &&& 31)))) (w + 2) (zlow (v >>> (nI 8 &&& 31)))) (w + 3) (zlow v)))]
                  refine zj_iinc (v := (-8)) (L' := [(2, .int (-8)), (0, .ref p), (1, .int v)]) F d_PA_putAdler_14 0 rfl (by decide) (by decide) rfl ?_
                  refine zj_goto F d_PA_putAdler_17 (tgt := 3) (by decide) ?_
                  refine zj_iload_n F d_PA_putAdler_3 0 rfl rfl ?_
                  refine zj_if_lt (tgt := 20) F d_PA_putAdler_4 (by decide) Iff.rfl (fun h4 => ?_) (fun h4 => ?_)
                  · exact zj_vret F E d_PA_putAdler_20 (Nat.le_refl _) (Nat.le_refl _) ⟨by omega, rfl, rfl⟩
                  · exact absurd (show (-8 : Int32) < 0 by decide) h4
                · obtain ⟨hx0, rfl, rfl⟩ := hq
                  exact ⟨rfl, by decide, by decide, [0, 1], [zO p 2 [.ref ne, .ref ol, .ref ib, .int (nI n), .ref ob, .int (nI (w + 3)), .int h, .int c, .int x, .int y], zB K ob 16384 (zby (va_up (va_up (va_up o w (zlow (v >>> (nI 24 &&& 31)))) (w + 1) (zlow (v >>> (nI 16 &&& 31)))) (w + 2) (zlow (v >>> (nI 8 &&& 31)))))], rfl, rfl, ⟨by omega, rfl, _, _, (zby_lt (zby_lt (zby_lt ho _ _) _ _) _ _), rfl⟩⟩
            · obtain ⟨hx0, rfl, rfl⟩ := hq
              exact ⟨rfl, by decide, by decide, [0, 1], [zO p 2 [.ref ne, .ref ol, .ref ib, .int (nI n), .ref ob, .int (nI (w + 2)), .int h, .int c, .int x, .int y], zB K ob 16384 (zby (va_up (va_up o w (zlow (v >>> (nI 24 &&& 31)))) (w + 1) (zlow (v >>> (nI 16 &&& 31)))))], rfl, rfl, ⟨by omega, rfl, _, _, (zby_lt (zby_lt ho _ _) _ _), rfl⟩⟩
        · obtain ⟨hx0, rfl, rfl⟩ := hq
          exact ⟨rfl, by decide, by decide, [0, 1], [zO p 2 [.ref ne, .ref ol, .ref ib, .int (nI n), .ref ob, .int (nI (w + 1)), .int h, .int c, .int x, .int y], zB K ob 16384 (zby (va_up o w (zlow (v >>> (nI 24 &&& 31)))))], rfl, rfl, ⟨by omega, rfl, _, _, (zby_lt ho _ _), rfl⟩⟩
    · obtain ⟨hx0, rfl, rfl⟩ := hq
      exact ⟨rfl, by decide, by decide, [0, 1], [zO p 2 [.ref ne, .ref ol, .ref ib, .int (nI n), .ref ob, .int (nI w), .int h, .int c, .int x, .int y], zB K ob 16384 (zby o)], rfl, rfl, ⟨by omega, rfl, _, _, ho, rfl⟩⟩
