theorem df_BR : ∀ j, j < 3 → defaultValue (t_BR j) = vp_V [.null, .int (nI 0), .int (nI 0)] j := by
  intro j hj
  match j, hj with
  | 0, _ => rfl
  | 1, _ => rfl
  | 2, _ => rfl
  | n + 3, h => exact absurd h (by omega)
theorem df_CO : ∀ j, j < 4 → defaultValue (t_CO j) = vp_V [.null, .null, .null, .int (nI 0)] j := by
  intro j hj
  match j, hj with
  | 0, _ => rfl
  | 1, _ => rfl
  | 2, _ => rfl
  | 3, _ => rfl
  | n + 4, h => exact absurd h (by omega)
theorem df_PA : ∀ j, j < 10 → defaultValue (t_PA j) = vp_V [.null, .null, .null, .int (nI 0), .null, .int (nI 0), .int (nI 0), .int (nI 0), .int (nI 0), .int (nI 0)] j := by
  intro j hj
  match j, hj with
  | 0, _ => rfl
  | 1, _ => rfl
  | 2, _ => rfl
  | 3, _ => rfl
  | 4, _ => rfl
  | 5, _ => rfl
  | 6, _ => rfl
  | 7, _ => rfl
  | 8, _ => rfl
  | 9, _ => rfl
  | n + 10, h => exact absurd h (by omega)
theorem df_UN : ∀ j, j < 9 → defaultValue (t_UN j) = vp_V [.null, .null, .null, .null, .null, .null, .null, .null, .int (nI 0)] j := by
  intro j hj
  match j, hj with
  | 0, _ => rfl
  | 1, _ => rfl
  | 2, _ => rfl
  | 3, _ => rfl
  | 4, _ => rfl
  | 5, _ => rfl
  | 6, _ => rfl
  | 7, _ => rfl
  | 8, _ => rfl
  | n + 9, h => exact absurd h (by omega)
theorem df_ZB : ∀ j, j < 7 → defaultValue (t_ZB j) = vp_V [.null, .int (nI 0), .null, .int (nI 0), .null, .null, .null] j := by
  intro j hj
  match j, hj with
  | 0, _ => rfl
  | 1, _ => rfl
  | 2, _ => rfl
  | 3, _ => rfl
  | 4, _ => rfl
  | 5, _ => rfl
  | 6, _ => rfl
  | n + 7, h => exact absurd h (by omega)
theorem df_MC : ∀ j, j < 3 → defaultValue (t_MC j) = vp_V [.null, .null, .int (nI 0)] j := by
  intro j hj
  match j, hj with
  | 0, _ => rfl
  | 1, _ => rfl
  | 2, _ => rfl
  | n + 3, h => exact absurd h (by omega)
theorem df_MO : ∀ j, j < 20 → defaultValue (t_MO j) = vp_V [.int (nI 0), .null, .int (nI 0), .null, .int (nI 0), .null, .int (nI 0), .null, .int (nI 0), .int (nI 0), .null, .null, .null, .null, .null, .int (nI 0), .int (nI 0), .int (nI 0), .null, .null] j := by
  intro j hj
  match j, hj with
  | 0, _ => rfl
  | 1, _ => rfl
  | 2, _ => rfl
  | 3, _ => rfl
  | 4, _ => rfl
  | 5, _ => rfl
  | 6, _ => rfl
  | 7, _ => rfl
  | 8, _ => rfl
  | 9, _ => rfl
  | 10, _ => rfl
  | 11, _ => rfl
  | 12, _ => rfl
  | 13, _ => rfl
  | 14, _ => rfl
  | 15, _ => rfl
  | 16, _ => rfl
  | 17, _ => rfl
  | 18, _ => rfl
  | 19, _ => rfl
  | n + 20, h => exact absurd h (by omega)
set_option maxHeartbeats 4000000 in
set_option maxRecDepth 100000 in
/-- Codes() -/
theorem i_CO (l : Launch) (K : zk) (c : Nat) : zc l K y_CO_init w_CO_init { frames := 1, cells := 3, slots := 320, locals := 20 } 3 320 0 0 [.ref c] [zO c 1 [.null, .null, .null, .int (nI 0)]] (fun r w1 => ∃ cca cma cpa, r = none ∧ w1 = [zO c 1 [.ref cca, .ref cma, .ref cpa, .int (nI 0)], zI K cca 16 (zna (fun _ => 0)), zI K cma 288 (zna (fun _ => 0)), zI K cpa 16 (zna (fun _ => 0))]) (fun _ _ => False) := by
  refine zc_ofN (cc := c_CO_init) (nl := 1) (ret := none) (by decide) (Nat.le_of_ble_eq_true rfl) (fun G F E Z => ?_)
  have F : zf G l K { frames := 1, cells := 3, slots := 320, locals := 20 } "ZlibBox$Codes" c_CO_init 1 := F
  show zj G 0 0 0 [(0, .ref c)] [] [zO c 1 [.null, .null, .null, .int (nI 0)]]
  refine zj_aload_n F d_CO_init_0 0 rfl rfl ?_
  refine zj_objInit F d_CO_init_1 q_53 (by decide) (by decide) ?_
  refine zj_aload_n F d_CO_init_4 0 rfl rfl ?_
  refine zj_bipush (v := nI 16) F d_CO_init_5 (by decide) ?_
  refine zj_newa (a0 := (16, .inl (zna (fun _ => 0)))) F d_CO_init_7 1 rfl rfl (Or.inr (Or.inl rfl)) q_67 (fun _ => rfl) rfl (by decide) (by decide) (by decide) (fun cca => ?_)
  show zj G 1 16 9 [(0, .ref c)] [.ref cca, .ref c] [zO c 1 [.null, .null, .null, .int (nI 0)], zI K cca 16 (zna (fun _ => 0))]
  refine zj_putF (ws' := [zO c 1 [.ref cca, .null, .null, .int (nI 0)], zI K cca 16 (zna (fun _ => 0))]) F Z d_CO_init_9 0 0 rfl rfl in_CO ty_CO nm_CO (by decide) q_54 rfl rfl rfl rfl (Nat.le_of_ble_eq_true rfl) rfl ?_
  refine zj_aload_n F d_CO_init_12 0 rfl rfl ?_
  refine zj_sipush (v := nI 288) F d_CO_init_13 (by decide) ?_
  refine zj_newa (a0 := (288, .inl (zna (fun _ => 0)))) F d_CO_init_16 1 rfl rfl (Or.inr (Or.inl rfl)) q_67 (fun _ => rfl) rfl (by decide) (by decide) (by decide) (fun cma => ?_)
  show zj G 2 304 18 [(0, .ref c)] [.ref cma, .ref c] [zO c 1 [.ref cca, .null, .null, .int (nI 0)], zI K cca 16 (zna (fun _ => 0)), zI K cma 288 (zna (fun _ => 0))]
  refine zj_putF (ws' := [zO c 1 [.ref cca, .ref cma, .null, .int (nI 0)], zI K cca 16 (zna (fun _ => 0)), zI K cma 288 (zna (fun _ => 0))]) F Z d_CO_init_18 0 1 rfl rfl in_CO ty_CO nm_CO (by decide) q_55 rfl rfl rfl rfl (Nat.le_of_ble_eq_true rfl) rfl ?_
  refine zj_aload_n F d_CO_init_21 0 rfl rfl ?_
  refine zj_bipush (v := nI 16) F d_CO_init_22 (by decide) ?_
  refine zj_newa (a0 := (16, .inl (zna (fun _ => 0)))) F d_CO_init_24 1 rfl rfl (Or.inr (Or.inl rfl)) q_67 (fun _ => rfl) rfl (by decide) (by decide) (by decide) (fun cpa => ?_)
  show zj G 3 320 26 [(0, .ref c)] [.ref cpa, .ref c] [zO c 1 [.ref cca, .ref cma, .null, .int (nI 0)], zI K cca 16 (zna (fun _ => 0)), zI K cma 288 (zna (fun _ => 0)), zI K cpa 16 (zna (fun _ => 0))]
  refine zj_putF (ws' := [zO c 1 [.ref cca, .ref cma, .ref cpa, .int (nI 0)], zI K cca 16 (zna (fun _ => 0)), zI K cma 288 (zna (fun _ => 0)), zI K cpa 16 (zna (fun _ => 0))]) F Z d_CO_init_26 0 2 rfl rfl in_CO ty_CO nm_CO (by decide) q_56 rfl rfl rfl rfl (Nat.le_of_ble_eq_true rfl) rfl ?_
  exact zj_vret F E d_CO_init_29 (Nat.le_refl _) (Nat.le_refl _) ⟨cca, cma, cpa, rfl, rfl⟩
set_option maxHeartbeats 4000000 in
set_option maxRecDepth 100000 in
/-- BitReader() -/
theorem i_BR (l : Launch) (K : zk) (r : Nat) : zc l K y_BR_init w_BR_init { frames := 1, cells := 1, slots := 0, locals := 20 } 1 0 0 0 [.ref r] [zO r 0 [.null, .int (nI 0), .int (nI 0)]] (fun v w1 => ∃ b0, v = none ∧ w1 = [zO r 0 [.ref b0, .int (nI 0), .int (nI 0)]]) (fun _ _ => False) := by
  refine zc_ofN (cc := c_BR_init) (nl := 1) (ret := none) (by decide) (Nat.le_of_ble_eq_true rfl) (fun G F E Z => ?_)
  have F : zf G l K { frames := 1, cells := 1, slots := 0, locals := 20 } "ZlibBox$BitReader" c_BR_init 1 := F
  show zj G 0 0 0 [(0, .ref r)] [] [zO r 0 [.null, .int (nI 0), .int (nI 0)]]
  refine zj_aload_n F d_BR_init_0 0 rfl rfl ?_
  refine zj_objInit F d_BR_init_1 q_36 (by decide) (by decide) ?_
  refine zj_aload_n F d_BR_init_4 0 rfl rfl ?_
  refine zj_iconst (v := nI 0) F d_BR_init_5 (by decide) ?_
  refine zj_newa (a0 := (0, .inl (zby (fun _ => 0)))) F d_BR_init_6 0 rfl rfl (Or.inl rfl) q_47 (fun _ => rfl) rfl (by decide) (by decide) (by decide) (fun b0 => ?_)
  show zj G 1 0 8 [(0, .ref r)] [.ref b0, .ref r] [zO r 0 [.null, .int (nI 0), .int (nI 0)], zB K b0 0 (zby (fun _ => 0))]
  refine zj_put (ws' := [zO r 0 [.ref b0, .int (nI 0), .int (nI 0)], zB K b0 0 (zby (fun _ => 0))]) F d_BR_init_8 0 0 rfl rfl in_BR ty_BR nm_BR (by decide) q_37 rfl rfl rfl (Nat.le_of_ble_eq_true rfl) rfl ?_
  refine zj_wsub (ws' := [zO r 0 [.ref b0, .int (nI 0), .int (nI 0)]]) [0] rfl rfl rfl ?_
  exact zj_vret F E d_BR_init_11 (Nat.le_refl _) (Nat.le_refl _) ⟨b0, rfl, rfl⟩
set_option maxHeartbeats 4000000 in
set_option maxRecDepth 100000 in
/-- Packer() -/
theorem i_PA (l : Launch) (K : zk) (p : Nat) : zc l K y_PA_init w_PA_init { frames := 1, cells := 4, slots := 8192, locals := 20 } 4 8192 0 0 [.ref p] [zO p 2 [.null, .null, .null, .int (nI 0), .null, .int (nI 0), .int (nI 0), .int (nI 0), .int (nI 0), .int (nI 0)]] (fun r w1 => ∃ ne ol ib0 ob0, r = none ∧ w1 = [zO p 2 [.ref ne, .ref ol, .ref ib0, .int (nI 0), .ref ob0, .int (nI 0), .int (nI 0), .int (nI 0), .int (nI 0), .int (nI 0)], zI K ne 4096 (zm1 (fun _ => 1)), zI K ol 4096 (zm1 (fun _ => 1))]) (fun _ _ => False) := by
  refine zc_ofN (cc := c_PA_init) (nl := 1) (ret := none) (by decide) (Nat.le_of_ble_eq_true rfl) (fun G F E Z => ?_)
  have F : zf G l K { frames := 1, cells := 4, slots := 8192, locals := 20 } "ZlibBox$Packer" c_PA_init 1 := F
  show zj G 0 0 0 [(0, .ref p)] [] [zO p 2 [.null, .null, .null, .int (nI 0), .null, .int (nI 0), .int (nI 0), .int (nI 0), .int (nI 0), .int (nI 0)]]
  refine zj_aload_n F d_PA_init_0 0 rfl rfl ?_
  refine zj_objInit F d_PA_init_1 q_114 (by decide) (by decide) ?_
  refine zj_aload_n F d_PA_init_4 0 rfl rfl ?_
  refine zj_sipush (v := nI 4096) F d_PA_init_5 (by decide) ?_
  refine zj_newa (a0 := (4096, .inl (zm1 (fun _ => 1)))) F d_PA_init_8 1 rfl rfl (Or.inr (Or.inl rfl)) q_67 (fun _ => rfl) rfl (by decide) (by decide) (by decide) (fun ne => ?_)
  show zj G 1 4096 10 [(0, .ref p)] [.ref ne, .ref p] [zO p 2 [.null, .null, .null, .int (nI 0), .null, .int (nI 0), .int (nI 0), .int (nI 0), .int (nI 0), .int (nI 0)], zI K ne 4096 (zm1 (fun _ => 1))]
  refine zj_putF (ws' := [zO p 2 [.ref ne, .null, .null, .int (nI 0), .null, .int (nI 0), .int (nI 0), .int (nI 0), .int (nI 0), .int (nI 0)], zI K ne 4096 (zm1 (fun _ => 1))]) F Z d_PA_init_10 0 0 rfl rfl in_PA ty_PA nm_PA (by decide) q_115 rfl rfl rfl rfl (Nat.le_of_ble_eq_true rfl) rfl ?_
  refine zj_aload_n F d_PA_init_13 0 rfl rfl ?_
  refine zj_sipush (v := nI 4096) F d_PA_init_14 (by decide) ?_
  refine zj_newa (a0 := (4096, .inl (zm1 (fun _ => 1)))) F d_PA_init_17 1 rfl rfl (Or.inr (Or.inl rfl)) q_67 (fun _ => rfl) rfl (by decide) (by decide) (by decide) (fun ol => ?_)
  show zj G 2 8192 19 [(0, .ref p)] [.ref ol, .ref p] [zO p 2 [.ref ne, .null, .null, .int (nI 0), .null, .int (nI 0), .int (nI 0), .int (nI 0), .int (nI 0), .int (nI 0)], zI K ne 4096 (zm1 (fun _ => 1)), zI K ol 4096 (zm1 (fun _ => 1))]
  refine zj_putF (ws' := [zO p 2 [.ref ne, .ref ol, .null, .int (nI 0), .null, .int (nI 0), .int (nI 0), .int (nI 0), .int (nI 0), .int (nI 0)], zI K ne 4096 (zm1 (fun _ => 1)), zI K ol 4096 (zm1 (fun _ => 1))]) F Z d_PA_init_19 0 1 rfl rfl in_PA ty_PA nm_PA (by decide) q_116 rfl rfl rfl rfl (Nat.le_of_ble_eq_true rfl) rfl ?_
  refine zj_aload_n F d_PA_init_22 0 rfl rfl ?_
  refine zj_iconst (v := nI 0) F d_PA_init_23 (by decide) ?_
  refine zj_newa (a0 := (0, .inl (zby (fun _ => 0)))) F d_PA_init_24 0 rfl rfl (Or.inl rfl) q_47 (fun _ => rfl) rfl (by decide) (by decide) (by decide) (fun ib0 => ?_)
  show zj G 3 8192 26 [(0, .ref p)] [.ref ib0, .ref p] [zO p 2 [.ref ne, .ref ol, .null, .int (nI 0), .null, .int (nI 0), .int (nI 0), .int (nI 0), .int (nI 0), .int (nI 0)], zI K ne 4096 (zm1 (fun _ => 1)), zI K ol 4096 (zm1 (fun _ => 1)), zB K ib0 0 (zby (fun _ => 0))]
  refine zj_put (ws' := [zO p 2 [.ref ne, .ref ol, .ref ib0, .int (nI 0), .null, .int (nI 0), .int (nI 0), .int (nI 0), .int (nI 0), .int (nI 0)], zI K ne 4096 (zm1 (fun _ => 1)), zI K ol 4096 (zm1 (fun _ => 1)), zB K ib0 0 (zby (fun _ => 0))]) F d_PA_init_26 0 2 rfl rfl in_PA ty_PA nm_PA (by decide) q_117 rfl rfl rfl (Nat.le_of_ble_eq_true rfl) rfl ?_
  refine zj_aload_n F d_PA_init_29 0 rfl rfl ?_
  refine zj_iconst (v := nI 0) F d_PA_init_30 (by decide) ?_
  refine zj_newa (a0 := (0, .inl (zby (fun _ => 0)))) F d_PA_init_31 0 rfl rfl (Or.inl rfl) q_47 (fun _ => rfl) rfl (by decide) (by decide) (by decide) (fun ob0 => ?_)
  show zj G 4 8192 33 [(0, .ref p)] [.ref ob0, .ref p] [zO p 2 [.ref ne, .ref ol, .ref ib0, .int (nI 0), .null, .int (nI 0), .int (nI 0), .int (nI 0), .int (nI 0), .int (nI 0)], zI K ne 4096 (zm1 (fun _ => 1)), zI K ol 4096 (zm1 (fun _ => 1)), zB K ib0 0 (zby (fun _ => 0)), zB K ob0 0 (zby (fun _ => 0))]
  refine zj_put (ws' := [zO p 2 [.ref ne, .ref ol, .ref ib0, .int (nI 0), .ref ob0, .int (nI 0), .int (nI 0), .int (nI 0), .int (nI 0), .int (nI 0)], zI K ne 4096 (zm1 (fun _ => 1)), zI K ol 4096 (zm1 (fun _ => 1)), zB K ib0 0 (zby (fun _ => 0)), zB K ob0 0 (zby (fun _ => 0))]) F d_PA_init_33 0 4 rfl rfl in_PA ty_PA nm_PA (by decide) q_119 rfl rfl rfl (Nat.le_of_ble_eq_true rfl) rfl ?_
  refine zj_wsub (ws' := [zO p 2 [.ref ne, .ref ol, .ref ib0, .int (nI 0), .ref ob0, .int (nI 0), .int (nI 0), .int (nI 0), .int (nI 0), .int (nI 0)], zI K ne 4096 (zm1 (fun _ => 1)), zI K ol 4096 (zm1 (fun _ => 1))]) [0, 1, 2] rfl rfl rfl ?_
  exact zj_vret F E d_PA_init_36 (Nat.le_refl _) (Nat.le_refl _) ⟨ne, ol, ib0, ob0, rfl, rfl⟩

theorem zfx_up (i : Nat) : va_up (fun j => if j < i then zfixL j else 0) i (zfixL i) = fun j => if j < i + 1 then zfixL j else 0 := by
  funext j
  unfold va_up
  by_cases h : j = i
  · subst h
    simp
  · simp only [h, if_false]
    by_cases h2 : j < i
    · rw [if_pos h2, if_pos (by omega)]
    · rw [if_neg h2, if_neg (by omega)]
set_option maxHeartbeats 4000000 in
set_option maxRecDepth 100000 in
/-- makeFixedCodes() -/
theorem m_UN_fixed (l : Launch) (K : zk) (u r fl fd li di lc la ob0 flca flma flpa fdca fdma fdpa : Nat)  : zc l K y_UN_makeFixedCodes w_UN_makeFixedCodes { frames := 2, cells := 1, slots := 288, locals := 60 } 1 288 0 0 [.ref u] [zO u 3 [.ref r, .ref fl, .ref fd, .ref li, .ref di, .ref lc, .ref la, .ref ob0, .int (nI 0)], zO fl 1 [.ref flca, .ref flma, .ref flpa, .int (nI 0)], zI K flca 16 (zna (fun _ => 0)), zI K flma 288 (zna (fun _ => 0)), zI K flpa 16 (zna (fun _ => 0)), zO fd 1 [.ref fdca, .ref fdma, .ref fdpa, .int (nI 0)], zI K fdca 16 (zna (fun _ => 0)), zI K fdma 288 (zna (fun _ => 0)), zI K fdpa 16 (zna (fun _ => 0))] (fun v w1 => ∃ (flu fdu : Nat) (fcl fgl fpl fcd fgd fpd : Nat → Nat), (zCS fcl fgl (fun l r => zth zfixL 0 l 288 r) ∧ (∀ l, l ≤ 15 → fcl l = zcnt zfixL 0 l 288) ∧ zCS fcd fgd (fun l r => zth zfixD 0 l 32 r) ∧ (∀ l, l ≤ 15 → fcd l = zcnt zfixD 0 l 32)) ∧ v = none ∧ w1 = [zO u 3 [.ref r, .ref fl, .ref fd, .ref li, .ref di, .ref lc, .ref la, .ref ob0, .int (nI 0)], zO fl 1 [.ref flca, .ref flma, .ref flpa, .int (nI flu)], zI K flca 16 (zna fcl), zI K flma 288 (zna fgl), zI K flpa 16 (zna fpl), zO fd 1 [.ref fdca, .ref fdma, .ref fdpa, .int (nI fdu)], zI K fdca 16 (zna fcd), zI K fdma 288 (zna fgd), zI K fdpa 16 (zna fpd)]) (fun _ _ => False) := by
  refine zc_of (cc := c_UN_makeFixedCodes) (nl := 3) (ret := none) (by decide) (Nat.le_of_ble_eq_true rfl) (fun G F E => ?_)
  have F : zf G l K { frames := 2, cells := 1, slots := 288, locals := 60 } "ZlibBox$Unpacker" c_UN_makeFixedCodes 3 := F
  show zj G 0 0 0 [(0, .ref u)] [] [zO u 3 [.ref r, .ref fl, .ref fd, .ref li, .ref di, .ref lc, .ref la, .ref ob0, .int (nI 0)], zO fl 1 [.ref flca, .ref flma, .ref flpa, .int (nI 0)], zI K flca 16 (zna (fun _ => 0)), zI K flma 288 (zna (fun _ => 0)), zI K flpa 16 (zna (fun _ => 0)), zO fd 1 [.ref fdca, .ref fdma, .ref fdpa, .int (nI 0)], zI K fdca 16 (zna (fun _ => 0)), zI K fdma 288 (zna (fun _ => 0)), zI K fdpa 16 (zna (fun _ => 0))]
  refine zj_sipush (v := nI 288) F d_UN_makeFixedCodes_0 (by decide) ?_
  refine zj_newa (a0 := (288, .inl (zna (fun _ => 0)))) F d_UN_makeFixedCodes_3 1 rfl rfl (Or.inr (Or.inl rfl)) q_67 (fun _ => rfl) rfl (by decide) (by decide) (by decide) (fun ra => ?_)
  show zj G 1 288 5 [(0, .ref u)] [.ref ra] [zO u 3 [.ref r, .ref fl, .ref fd, .ref li, .ref di, .ref lc, .ref la, .ref ob0, .int (nI 0)], zO fl 1 [.ref flca, .ref flma, .ref flpa, .int (nI 0)], zI K flca 16 (zna (fun _ => 0)), zI K flma 288 (zna (fun _ => 0)), zI K flpa 16 (zna (fun _ => 0)), zO fd 1 [.ref fdca, .ref fdma, .ref fdpa, .int (nI 0)], zI K fdca 16 (zna (fun _ => 0)), zI K fdma 288 (zna (fun _ => 0)), zI K fdpa 16 (zna (fun _ => 0)), zI K ra 288 (zna (fun _ => 0))]
  refine zj_astore_n (L' := [(1, .ref ra), (0, .ref u)]) F d_UN_makeFixedCodes_5 rfl (by decide) rfl ?_
  refine zj_iconst (v := nI 0) F d_UN_makeFixedCodes_6 (by decide) ?_
  refine zj_istore_n (L' := [(2, .int (nI 0)), (1, .ref ra), (0, .ref u)]) F d_UN_makeFixedCodes_7 rfl (by decide) rfl ?_
  have key : ∀ i, i ≤ 288 → zj G 1 288 8 [(0, .ref u), (1, .ref ra), (2, .int (nI i))] [] [zO u 3 [.ref r, .ref fl, .ref fd, .ref li, .ref di, .ref lc, .ref la, .ref ob0, .int (nI 0)], zO fl 1 [.ref flca, .ref flma, .ref flpa, .int (nI 0)], zI K flca 16 (zna (fun _ => 0)), zI K flma 288 (zna (fun _ => 0)), zI K flpa 16 (zna (fun _ => 0)), zO fd 1 [.ref fdca, .ref fdma, .ref fdpa, .int (nI 0)], zI K fdca 16 (zna (fun _ => 0)), zI K fdma 288 (zna (fun _ => 0)), zI K fdpa 16 (zna (fun _ => 0)), zI K ra 288 (zna (fun j => if j < i then zfixL j else 0))] := by
    refine zdown 288 ?_ ?_
    · show zj G 1 288 8 [(0, .ref u), (1, .ref ra), (2, .int (nI 288))] [] [zO u 3 [.ref r, .ref fl, .ref fd, .ref li, .ref di, .ref lc, .ref la, .ref ob0, .int (nI 0)], zO fl 1 [.ref flca, .ref flma, .ref flpa, .int (nI 0)], zI K flca 16 (zna (fun _ => 0)), zI K flma 288 (zna (fun _ => 0)), zI K flpa 16 (zna (fun _ => 0)), zO fd 1 [.ref fdca, .ref fdma, .ref fdpa, .int (nI 0)], zI K fdca 16 (zna (fun _ => 0)), zI K fdma 288 (zna (fun _ => 0)), zI K fdpa 16 (zna (fun _ => 0)), zI K ra 288 (zna (fun j => if j < 288 then zfixL j else 0))]
      refine zj_iload_n F d_UN_makeFixedCodes_8 2 rfl rfl ?_
      refine zj_sipush (v := nI 288) F d_UN_makeFixedCodes_9 (by decide) ?_
      refine zj_icmp_ge (tgt := 62) F d_UN_makeFixedCodes_12 (by decide) (nI_leI (by omega) (by omega)) (fun h12 => ?_) (fun h12 => ?_)
      · refine zj_aload_n F d_UN_makeFixedCodes_62 0 rfl rfl ?_
        refine zj_get F d_UN_makeFixedCodes_63 0 1 rfl rfl in_UN (by decide) q_82 rfl ?_
        refine zj_aload_n F d_UN_makeFixedCodes_66 1 rfl rfl ?_
        refine zj_iconst (v := nI 0) F d_UN_makeFixedCodes_67 (by decide) ?_
        refine zj_sipush (v := nI 288) F d_UN_makeFixedCodes_68 (by decide) ?_
        have hgl : ∀ i, i < 288 → (fun j => if j < 288 then zfixL j else 0) (0 + i) ≤ 15 := by
          intro i hi
          show (if 0 + i < 288 then zfixL (0 + i) else 0) ≤ 15
          rw [if_pos (by omega)]; unfold zfixL; (repeat' split) <;> omega
        refine zj_call (maxL := 6) (wr := [zO u 3 [.ref r, .ref fl, .ref fd, .ref li, .ref di, .ref lc, .ref la, .ref ob0, .int (nI 0)], zO fd 1 [.ref fdca, .ref fdma, .ref fdpa, .int (nI 0)], zI K fdca 16 (zna (fun _ => 0)), zI K fdma 288 (zna (fun _ => 0)), zI K fdpa 16 (zna (fun _ => 0))]) F E (m_CO_make l K fl flca flma flpa ra 288 0 0 288 (fun j => if j < 288 then zfixL j else 0) _ _ _ (by decide) (by decide) (by decide) hgl) (zi_V (As := [.ref ra, .int (nI 0), .int (nI 288)]) (rest := []) F d_UN_makeFixedCodes_71 1 rfl rfl rfl q_72 q_73 q_74 q_75 (Or.inl ⟨_, _, rfl⟩) (by decide) (show Option.map (fun d => d.parameters.length) (parseMethodDescriptor y_CO_make.desc) = some 3 from by decide +kernel)) d_UN_makeFixedCodes_71 q_75 (Or.inl ⟨_, _, rfl⟩) q_4 [1, 2, 3, 4, 9] [0, 5, 6, 7, 8] rfl rfl rfl rfl (by decide) ⟨by decide, by decide, by decide, by decide⟩ (Nat.le_of_ble_eq_true rfl) (fun v w1 hq => ?_) (fun X w1 hq => ?_)
        · obtain ⟨rfl, fcl, fgl, fpl, hA1, hA2, hA3, rfl⟩ := hq
          show zj G 1 288 74 [(0, .ref u), (1, .ref ra), (2, .int (nI 288))] [] [zO u 3 [.ref r, .ref fl, .ref fd, .ref li, .ref di, .ref lc, .ref la, .ref ob0, .int (nI 0)], zO fd 1 [.ref fdca, .ref fdma, .ref fdpa, .int (nI 0)], zI K fdca 16 (zna (fun _ => 0)), zI K fdma 288 (zna (fun _ => 0)), zI K fdpa 16 (zna (fun _ => 0)), zO fl 1 [.ref flca, .ref flma, .ref flpa, .int (nI (zuse (fun j => if j < 288 then zfixL j else 0) 0 288))], zI K flca 16 (zna fcl), zI K flma 288 (zna fgl), zI K flpa 16 (zna fpl), zI K ra 288 (zna (fun j => if j < 288 then zfixL j else 0))]
          refine zj_aload_n F d_UN_makeFixedCodes_74 1 rfl rfl ?_
          refine zj_iconst (v := nI 5) F d_UN_makeFixedCodes_75 (by decide) ?_
          refine zj_call (maxL := 4) (wr := [zO u 3 [.ref r, .ref fl, .ref fd, .ref li, .ref di, .ref lc, .ref la, .ref ob0, .int (nI 0)], zO fd 1 [.ref fdca, .ref fdma, .ref fdpa, .int (nI 0)], zI K fdca 16 (zna (fun _ => 0)), zI K fdma 288 (zna (fun _ => 0)), zI K fdpa 16 (zna (fun _ => 0)), zO fl 1 [.ref flca, .ref flma, .ref flpa, .int (nI (zuse (fun j => if j < 288 then zfixL j else 0) 0 288))], zI K flca 16 (zna fcl), zI K flma 288 (zna fgl), zI K flpa 16 (zna fpl)]) F E (m_fill l K ra 288 (zna (fun j => if j < 288 then zfixL j else 0)) (nI 5) (by decide)) (zi_S (As := [.ref ra, .int (nI 5)]) (rest := []) F d_UN_makeFixedCodes_76 q_80 q_77 q_5 q_78 (Or.inl ⟨_, _, rfl⟩) (by decide) (show Option.map (fun d => d.parameters.length) (parseMethodDescriptor y_AR_fill.desc) = some 2 from by decide +kernel)) d_UN_makeFixedCodes_76 q_78 (Or.inl ⟨_, _, rfl⟩) q_5 [9] [0, 1, 2, 3, 4, 5, 6, 7, 8] rfl rfl rfl rfl (by decide) ⟨by decide, by decide, by decide, by decide⟩ (Nat.le_of_ble_eq_true rfl) (fun v w1 hq => ?_) (fun X w1 hq => ?_)
          · obtain ⟨rfl, rfl⟩ := hq
            have hfz : zfil (zna (fun j => if j < 288 then zfixL j else 0)) (nI 5) 288 = zna (fun j => if j < 288 then 5 else 0) := by
              funext j
              rw [zfil_eq]
              unfold zna
              by_cases h : j < 288
              · rw [if_pos h]; simp only [h, if_true]
              · rw [if_neg h]; simp only [h, if_false]
            rw [hfz]
            show zj G 1 288 79 [(0, .ref u), (1, .ref ra), (2, .int (nI 288))] [] [zO u 3 [.ref r, .ref fl, .ref fd, .ref li, .ref di, .ref lc, .ref la, .ref ob0, .int (nI 0)], zO fd 1 [.ref fdca, .ref fdma, .ref fdpa, .int (nI 0)], zI K fdca 16 (zna (fun _ => 0)), zI K fdma 288 (zna (fun _ => 0)), zI K fdpa 16 (zna (fun _ => 0)), zO fl 1 [.ref flca, .ref flma, .ref flpa, .int (nI (zuse (fun j => if j < 288 then zfixL j else 0) 0 288))], zI K flca 16 (zna fcl), zI K flma 288 (zna fgl), zI K flpa 16 (zna fpl), zI K ra 288 (zna (fun j => if j < 288 then 5 else 0))]
            refine zj_aload_n F d_UN_makeFixedCodes_79 0 rfl rfl ?_
            refine zj_get F d_UN_makeFixedCodes_80 0 2 rfl rfl in_UN (by decide) q_83 rfl ?_
            refine zj_aload_n F d_UN_makeFixedCodes_83 1 rfl rfl ?_
            refine zj_iconst (v := nI 0) F d_UN_makeFixedCodes_84 (by decide) ?_
            refine zj_bipush (v := nI 32) F d_UN_makeFixedCodes_85 (by decide) ?_
            have hgd : ∀ i, i < 32 → (fun j => if j < 288 then 5 else 0) (0 + i) ≤ 15 := by
              intro i hi
              show (if 0 + i < 288 then 5 else 0) ≤ 15
              rw [if_pos (by omega)]; decide
            refine zj_call (maxL := 6) (wr := [zO u 3 [.ref r, .ref fl, .ref fd, .ref li, .ref di, .ref lc, .ref la, .ref ob0, .int (nI 0)], zO fl 1 [.ref flca, .ref flma, .ref flpa, .int (nI (zuse (fun j => if j < 288 then zfixL j else 0) 0 288))], zI K flca 16 (zna fcl), zI K flma 288 (zna fgl), zI K flpa 16 (zna fpl)]) F E (m_CO_make l K fd fdca fdma fdpa ra 288 0 0 32 (fun j => if j < 288 then 5 else 0) _ _ _ (by decide) (by decide) (by decide) hgd) (zi_V (As := [.ref ra, .int (nI 0), .int (nI 32)]) (rest := []) F d_UN_makeFixedCodes_87 1 rfl rfl rfl q_72 q_73 q_74 q_75 (Or.inl ⟨_, _, rfl⟩) (by decide) (show Option.map (fun d => d.parameters.length) (parseMethodDescriptor y_CO_make.desc) = some 3 from by decide +kernel)) d_UN_makeFixedCodes_87 q_75 (Or.inl ⟨_, _, rfl⟩) q_4 [1, 2, 3, 4, 9] [0, 5, 6, 7, 8] rfl rfl rfl rfl (by decide) ⟨by decide, by decide, by decide, by decide⟩ (Nat.le_of_ble_eq_true rfl) (fun v w1 hq => ?_) (fun X w1 hq => ?_)
            · obtain ⟨rfl, fcd, fgd, fpd, hB1, hB2, hB3, rfl⟩ := hq
              show zj G 1 288 90 [(0, .ref u), (1, .ref ra), (2, .int (nI 288))] [] [zO u 3 [.ref r, .ref fl, .ref fd, .ref li, .ref di, .ref lc, .ref la, .ref ob0, .int (nI 0)], zO fl 1 [.ref flca, .ref flma, .ref flpa, .int (nI (zuse (fun j => if j < 288 then zfixL j else 0) 0 288))], zI K flca 16 (zna fcl), zI K flma 288 (zna fgl), zI K flpa 16 (zna fpl), zO fd 1 [.ref fdca, .ref fdma, .ref fdpa, .int (nI (zuse (fun j => if j < 288 then 5 else 0) 0 32))], zI K fdca 16 (zna fcd), zI K fdma 288 (zna fgd), zI K fdpa 16 (zna fpd), zI K ra 288 (zna (fun j => if j < 288 then 5 else 0))]
              refine zj_wsub (ws' := [zO u 3 [.ref r, .ref fl, .ref fd, .ref li, .ref di, .ref lc, .ref la, .ref ob0, .int (nI 0)], zO fl 1 [.ref flca, .ref flma, .ref flpa, .int (nI (zuse (fun j => if j < 288 then zfixL j else 0) 0 288))], zI K flca 16 (zna fcl), zI K flma 288 (zna fgl), zI K flpa 16 (zna fpl), zO fd 1 [.ref fdca, .ref fdma, .ref fdpa, .int (nI (zuse (fun j => if j < 288 then 5 else 0) 0 32))], zI K fdca 16 (zna fcd), zI K fdma 288 (zna fgd), zI K fdpa 16 (zna fpd)]) [0, 1, 2, 3, 4, 5, 6, 7, 8] rfl rfl rfl ?_
              have e1 : ∀ l, zcnt (fun j => if j < 288 then zfixL j else 0) 0 l 288 = zcnt zfixL 0 l 288 := fun l => zcnt_congr _ (fun i hi => by show (if 0 + i < 288 then zfixL (0 + i) else 0) = zfixL (0 + i); rw [if_pos (by omega)])
              have e2 : ∀ l r, zth (fun j => if j < 288 then zfixL j else 0) 0 l 288 r = zth zfixL 0 l 288 r := fun l r => zth_congr _ (fun i hi => by show (if 0 + i < 288 then zfixL (0 + i) else 0) = zfixL (0 + i); rw [if_pos (by omega)]) r
              have e3 : ∀ l, zcnt (fun j => if j < 288 then 5 else 0) 0 l 32 = zcnt zfixD 0 l 32 := fun l => zcnt_congr _ (fun i hi => by show (if 0 + i < 288 then 5 else 0) = 5; rw [if_pos (by omega)])
              have e4 : ∀ l r, zth (fun j => if j < 288 then 5 else 0) 0 l 32 r = zth zfixD 0 l 32 r := fun l r => zth_congr _ (fun i hi => by show (if 0 + i < 288 then 5 else 0) = 5; rw [if_pos (by omega)]) r
              exact zj_vret F E d_UN_makeFixedCodes_90 (Nat.le_refl _) (Nat.le_refl _) ⟨_, _, fcl, fgl, fpl, fcd, fgd, fpd, ⟨⟨by omega, fun l h1 h2 r hr => by rw [hA3 l h1 h2 r hr, e2], fun l r => zth_lt _ _ _ _ _ (by decide)⟩, fun l h => by rw [hA1 l h, e1], ⟨by omega, fun l h1 h2 r hr => by rw [hB3 l h1 h2 r hr, e4], fun l r => Nat.lt_trans (zth_lt _ _ _ _ _ (by decide)) (by decide)⟩, fun l h => by rw [hB1 l h, e3]⟩, rfl, rfl⟩
            · exact hq.elim
          · exact hq.elim
        · exact hq.elim
      · exact absurd (Nat.le_refl 288) h12
    · intro i hi ih
      show zj G 1 288 8 [(0, .ref u), (1, .ref ra), (2, .int (nI i))] [] [zO u 3 [.ref r, .ref fl, .ref fd, .ref li, .ref di, .ref lc, .ref la, .ref ob0, .int (nI 0)], zO fl 1 [.ref flca, .ref flma, .ref flpa, .int (nI 0)], zI K flca 16 (zna (fun _ => 0)), zI K flma 288 (zna (fun _ => 0)), zI K flpa 16 (zna (fun _ => 0)), zO fd 1 [.ref fdca, .ref fdma, .ref fdpa, .int (nI 0)], zI K fdca 16 (zna (fun _ => 0)), zI K fdma 288 (zna (fun _ => 0)), zI K fdpa 16 (zna (fun _ => 0)), zI K ra 288 (zna (fun j => if j < i then zfixL j else 0))]
      refine zj_iload_n F d_UN_makeFixedCodes_8 2 rfl rfl ?_
      refine zj_sipush (v := nI 288) F d_UN_makeFixedCodes_9 (by decide) ?_
      refine zj_icmp_ge (tgt := 62) F d_UN_makeFixedCodes_12 (by decide) (nI_leI (by omega) (by omega)) (fun h12 => ?_) (fun h12 => ?_)
      · exact absurd h12 (by omega)
      · refine zj_aload_n F d_UN_makeFixedCodes_15 1 rfl rfl ?_
        refine zj_iload_n F d_UN_makeFixedCodes_16 2 rfl rfl ?_
        refine zj_iload_n F d_UN_makeFixedCodes_17 2 rfl rfl ?_
        have st : zj G 1 288 55 [(0, .ref u), (1, .ref ra), (2, .int (nI i))] [.int (nI (zfixL i)), .int (nI i), .ref ra] [zO u 3 [.ref r, .ref fl, .ref fd, .ref li, .ref di, .ref lc, .ref la, .ref ob0, .int (nI 0)], zO fl 1 [.ref flca, .ref flma, .ref flpa, .int (nI 0)], zI K flca 16 (zna (fun _ => 0)), zI K flma 288 (zna (fun _ => 0)), zI K flpa 16 (zna (fun _ => 0)), zO fd 1 [.ref fdca, .ref fdma, .ref fdpa, .int (nI 0)], zI K fdca 16 (zna (fun _ => 0)), zI K fdma 288 (zna (fun _ => 0)), zI K fdpa 16 (zna (fun _ => 0)), zI K ra 288 (zna (fun j => if j < i then zfixL j else 0))] := by
          show zj G 1 288 55 [(0, .ref u), (1, .ref ra), (2, .int (nI i))] [.int (nI (zfixL i)), .int (nI i), .ref ra] [zO u 3 [.ref r, .ref fl, .ref fd, .ref li, .ref di, .ref lc, .ref la, .ref ob0, .int (nI 0)], zO fl 1 [.ref flca, .ref flma, .ref flpa, .int (nI 0)], zI K flca 16 (zna (fun _ => 0)), zI K flma 288 (zna (fun _ => 0)), zI K flpa 16 (zna (fun _ => 0)), zO fd 1 [.ref fdca, .ref fdma, .ref fdpa, .int (nI 0)], zI K fdca 16 (zna (fun _ => 0)), zI K fdma 288 (zna (fun _ => 0)), zI K fdpa 16 (zna (fun _ => 0)), zI K ra 288 (zna (fun j => if j < i then zfixL j else 0))]
          refine zj_iast (ws' := [zO u 3 [.ref r, .ref fl, .ref fd, .ref li, .ref di, .ref lc, .ref la, .ref ob0, .int (nI 0)], zO fl 1 [.ref flca, .ref flma, .ref flpa, .int (nI 0)], zI K flca 16 (zna (fun _ => 0)), zI K flma 288 (zna (fun _ => 0)), zI K flpa 16 (zna (fun _ => 0)), zO fd 1 [.ref fdca, .ref fdma, .ref fdpa, .int (nI 0)], zI K fdca 16 (zna (fun _ => 0)), zI K fdma 288 (zna (fun _ => 0)), zI K fdpa 16 (zna (fun _ => 0)), zI K ra 288 (zna (fun j => if j < (i + 1) then zfixL j else 0))]) F d_UN_makeFixedCodes_55 9 1 i rfl rfl rfl (by omega) (by omega) (by rw [← zfx_up i]; rw [← zna_upd]; rfl) ?_
          refine zj_iinc (v := nI (i + 1)) (L' := [(2, .int (nI (i + 1))), (0, .ref u), (1, .ref ra)]) F d_UN_makeFixedCodes_56 2 rfl (nI_add _ _) (by decide) rfl ?_
          refine zj_goto F d_UN_makeFixedCodes_59 (tgt := 8) (by decide) ?_
          exact zj_sub [1, 2, 0] rfl ih
        refine zj_sipush (v := nI 144) F d_UN_makeFixedCodes_18 (by decide) ?_
        refine zj_icmp_ge (tgt := 29) F d_UN_makeFixedCodes_21 (by decide) (nI_leI (by omega) (by omega)) (fun h21 => ?_) (fun h21 => ?_)
        · refine zj_iload_n F d_UN_makeFixedCodes_29 2 rfl rfl ?_
          refine zj_sipush (v := nI 256) F d_UN_makeFixedCodes_30 (by decide) ?_
          refine zj_icmp_ge (tgt := 41) F d_UN_makeFixedCodes_33 (by decide) (nI_leI (by omega) (by omega)) (fun h33 => ?_) (fun h33 => ?_)
          · refine zj_iload_n F d_UN_makeFixedCodes_41 2 rfl rfl ?_
            refine zj_sipush (v := nI 280) F d_UN_makeFixedCodes_42 (by decide) ?_
            refine zj_icmp_ge (tgt := 53) F d_UN_makeFixedCodes_45 (by decide) (nI_leI (by omega) (by omega)) (fun h45 => ?_) (fun h45 => ?_)
            · refine zj_bipush (v := nI 8) F d_UN_makeFixedCodes_53 (by decide) ?_
              rw [show zfixL i = 8 from by unfold zfixL; rw [if_neg (by omega), if_neg (by omega), if_neg (by omega)]] at st
              exact st
            · refine zj_bipush (v := nI 7) F d_UN_makeFixedCodes_48 (by decide) ?_
              refine zj_goto F d_UN_makeFixedCodes_50 (tgt := 55) (by decide) ?_
              rw [show zfixL i = 7 from by unfold zfixL; rw [if_neg (by omega), if_neg (by omega), if_pos (by omega)]] at st
              exact st
          · refine zj_bipush (v := nI 9) F d_UN_makeFixedCodes_36 (by decide) ?_
            refine zj_goto F d_UN_makeFixedCodes_38 (tgt := 55) (by decide) ?_
            rw [show zfixL i = 9 from by unfold zfixL; rw [if_neg (by omega), if_pos (by omega)]] at st
            exact st
        · refine zj_bipush (v := nI 8) F d_UN_makeFixedCodes_24 (by decide) ?_
          refine zj_goto F d_UN_makeFixedCodes_26 (tgt := 55) (by decide) ?_
          rw [show zfixL i = 8 from by unfold zfixL; rw [if_pos (by omega)]] at st
          exact st
  have h0 : zna (fun _ => 0) = zna (fun j => if j < 0 then zfixL j else 0) := by
    funext j; unfold zna; simp
  rw [h0]
  exact zj_sub [2, 1, 0] rfl (key 0 (Nat.zero_le _))
set_option maxHeartbeats 4000000 in
set_option maxRecDepth 100000 in
/-- Unpacker() -/
theorem i_UN (l : Launch) (K : zk) (u : Nat) : zc l K y_UN_init w_UN_init { frames := 3, cells := 25, slots := 2227, locals := 92 } 25 2227 0 0 [.ref u] [zO u 3 [.null, .null, .null, .null, .null, .null, .null, .null, .int (nI 0)]] (fun v w1 => ∃ (r b0 fl fd li di lc la ob0 flca flma flpa fdca fdma fdpa lica lima lipa dica dima dipa lcca lcma lcpa flu fdu : Nat) (fcl fgl fpl fcd fgd fpd : Nat → Nat), (zCS fcl fgl (fun l r => zth zfixL 0 l 288 r) ∧ (∀ l, l ≤ 15 → fcl l = zcnt zfixL 0 l 288) ∧ zCS fcd fgd (fun l r => zth zfixD 0 l 32 r) ∧ (∀ l, l ≤ 15 → fcd l = zcnt zfixD 0 l 32)) ∧ v = none ∧ w1 = [zO u 3 [.ref r, .ref fl, .ref fd, .ref li, .ref di, .ref lc, .ref la, .ref ob0, .int (nI 0)], zO r 0 [.ref b0, .int (nI 0), .int (nI 0)], zI K la 316 (zna (fun _ => 0)), zO lc 1 [.ref lcca, .ref lcma, .ref lcpa, .int (nI 0)], zI K lcca 16 (zna (fun _ => 0)), zI K lcma 288 (zna (fun _ => 0)), zI K lcpa 16 (zna (fun _ => 0)), zO li 1 [.ref lica, .ref lima, .ref lipa, .int (nI 0)], zI K lica 16 (zna (fun _ => 0)), zI K lima 288 (zna (fun _ => 0)), zI K lipa 16 (zna (fun _ => 0)), zO di 1 [.ref dica, .ref dima, .ref dipa, .int (nI 0)], zI K dica 16 (zna (fun _ => 0)), zI K dima 288 (zna (fun _ => 0)), zI K dipa 16 (zna (fun _ => 0)), zO fl 1 [.ref flca, .ref flma, .ref flpa, .int (nI flu)], zI K flca 16 (zna fcl), zI K flma 288 (zna fgl), zI K flpa 16 (zna fpl), zO fd 1 [.ref fdca, .ref fdma, .ref fdpa, .int (nI fdu)], zI K fdca 16 (zna fcd), zI K fdma 288 (zna fgd), zI K fdpa 16 (zna fpd)]) (fun _ _ => False) := by
  refine zc_ofN (cc := c_UN_init) (nl := 1) (ret := none) (by decide) (Nat.le_of_ble_eq_true rfl) (fun G F E Z => ?_)
  have F : zf G l K { frames := 3, cells := 25, slots := 2227, locals := 92 } "ZlibBox$Unpacker" c_UN_init 1 := F
  show zj G 0 0 0 [(0, .ref u)] [] [zO u 3 [.null, .null, .null, .null, .null, .null, .null, .null, .int (nI 0)]]
  refine zj_aload_n F d_UN_init_0 0 rfl rfl ?_
  refine zj_objInit F d_UN_init_1 q_30 (by decide) (by decide) ?_
  refine zj_aload_n F d_UN_init_4 0 rfl rfl ?_
  refine zj_new (fs := [.null, .int (nI 0), .int (nI 0)]) F d_UN_init_5 (ci := 0) rfl in_BR ty_BR q_31 q_32 q_3 (df_BR) (by decide) (by decide) (fun r => ?_)
  show zj G 1 3 8 [(0, .ref u)] [.ref r, .ref u] [zO u 3 [.null, .null, .null, .null, .null, .null, .null, .null, .int (nI 0)], zO r 0 [.null, .int (nI 0), .int (nI 0)]]
  refine zj_dup F d_UN_init_8 rfl ?_
  refine zj_call (maxL := 1) (wr := [zO u 3 [.null, .null, .null, .null, .null, .null, .null, .null, .int (nI 0)]]) F E (i_BR l K r) (zi_I (As := []) (rest := [.ref r, .ref u]) F d_UN_init_9 q_33 q_34 q_35 rfl rfl (by decide) (show Option.map (fun d => d.parameters.length) (parseMethodDescriptor y_BR_init.desc) = some 0 from by decide +kernel)) d_UN_init_9 q_35 (Or.inl ⟨_, _, rfl⟩) q_3 [1] [0] rfl rfl rfl rfl (by decide) ⟨by decide, by decide, by decide, by decide⟩ (Nat.le_of_ble_eq_true rfl) (fun v w1 hq => ?_) (fun X w1 hq => ?_)
  · obtain ⟨b0, rfl, rfl⟩ := hq
    show zj G 2 3 12 [(0, .ref u)] [.ref r, .ref u] [zO u 3 [.null, .null, .null, .null, .null, .null, .null, .null, .int (nI 0)], zO r 0 [.ref b0, .int (nI 0), .int (nI 0)]]
    refine zj_putF (ws' := [zO u 3 [.ref r, .null, .null, .null, .null, .null, .null, .null, .int (nI 0)], zO r 0 [.ref b0, .int (nI 0), .int (nI 0)]]) F Z d_UN_init_12 0 0 rfl rfl in_UN ty_UN nm_UN (by decide) q_81 rfl rfl rfl rfl (Nat.le_of_ble_eq_true rfl) rfl ?_
    refine zj_aload_n F d_UN_init_15 0 rfl rfl ?_
    refine zj_new (fs := [.null, .null, .null, .int (nI 0)]) F d_UN_init_16 (ci := 1) rfl in_CO ty_CO q_48 q_49 q_4 (df_CO) (by decide) (by decide) (fun fl => ?_)
    show zj G 3 7 19 [(0, .ref u)] [.ref fl, .ref u] [zO u 3 [.ref r, .null, .null, .null, .null, .null, .null, .null, .int (nI 0)], zO r 0 [.ref b0, .int (nI 0), .int (nI 0)], zO fl 1 [.null, .null, .null, .int (nI 0)]]
    refine zj_dup F d_UN_init_19 rfl ?_
    refine zj_call (maxL := 1) (wr := [zO u 3 [.ref r, .null, .null, .null, .null, .null, .null, .null, .int (nI 0)], zO r 0 [.ref b0, .int (nI 0), .int (nI 0)]]) F E (i_CO l K fl) (zi_I (As := []) (rest := [.ref fl, .ref u]) F d_UN_init_20 q_50 q_51 q_52 rfl rfl (by decide) (show Option.map (fun d => d.parameters.length) (parseMethodDescriptor y_CO_init.desc) = some 0 from by decide +kernel)) d_UN_init_20 q_52 (Or.inl ⟨_, _, rfl⟩) q_4 [2] [0, 1] rfl rfl rfl rfl (by decide) ⟨by decide, by decide, by decide, by decide⟩ (Nat.le_of_ble_eq_true rfl) (fun v w1 hq => ?_) (fun X w1 hq => ?_)
    · obtain ⟨flca, flma, flpa, rfl, rfl⟩ := hq
      show zj G 6 327 23 [(0, .ref u)] [.ref fl, .ref u] [zO u 3 [.ref r, .null, .null, .null, .null, .null, .null, .null, .int (nI 0)], zO r 0 [.ref b0, .int (nI 0), .int (nI 0)], zO fl 1 [.ref flca, .ref flma, .ref flpa, .int (nI 0)], zI K flca 16 (zna (fun _ => 0)), zI K flma 288 (zna (fun _ => 0)), zI K flpa 16 (zna (fun _ => 0))]
      refine zj_putF (ws' := [zO u 3 [.ref r, .ref fl, .null, .null, .null, .null, .null, .null, .int (nI 0)], zO r 0 [.ref b0, .int (nI 0), .int (nI 0)], zO fl 1 [.ref flca, .ref flma, .ref flpa, .int (nI 0)], zI K flca 16 (zna (fun _ => 0)), zI K flma 288 (zna (fun _ => 0)), zI K flpa 16 (zna (fun _ => 0))]) F Z d_UN_init_23 0 1 rfl rfl in_UN ty_UN nm_UN (by decide) q_82 rfl rfl rfl rfl (Nat.le_of_ble_eq_true rfl) rfl ?_
      refine zj_aload_n F d_UN_init_26 0 rfl rfl ?_
      refine zj_new (fs := [.null, .null, .null, .int (nI 0)]) F d_UN_init_27 (ci := 1) rfl in_CO ty_CO q_48 q_49 q_4 (df_CO) (by decide) (by decide) (fun fd => ?_)
      show zj G 7 331 30 [(0, .ref u)] [.ref fd, .ref u] [zO u 3 [.ref r, .ref fl, .null, .null, .null, .null, .null, .null, .int (nI 0)], zO r 0 [.ref b0, .int (nI 0), .int (nI 0)], zO fl 1 [.ref flca, .ref flma, .ref flpa, .int (nI 0)], zI K flca 16 (zna (fun _ => 0)), zI K flma 288 (zna (fun _ => 0)), zI K flpa 16 (zna (fun _ => 0)), zO fd 1 [.null, .null, .null, .int (nI 0)]]
      refine zj_dup F d_UN_init_30 rfl ?_
      refine zj_call (maxL := 1) (wr := [zO u 3 [.ref r, .ref fl, .null, .null, .null, .null, .null, .null, .int (nI 0)], zO r 0 [.ref b0, .int (nI 0), .int (nI 0)], zO fl 1 [.ref flca, .ref flma, .ref flpa, .int (nI 0)], zI K flca 16 (zna (fun _ => 0)), zI K flma 288 (zna (fun _ => 0)), zI K flpa 16 (zna (fun _ => 0))]) F E (i_CO l K fd) (zi_I (As := []) (rest := [.ref fd, .ref u]) F d_UN_init_31 q_50 q_51 q_52 rfl rfl (by decide) (show Option.map (fun d => d.parameters.length) (parseMethodDescriptor y_CO_init.desc) = some 0 from by decide +kernel)) d_UN_init_31 q_52 (Or.inl ⟨_, _, rfl⟩) q_4 [6] [0, 1, 2, 3, 4, 5] rfl rfl rfl rfl (by decide) ⟨by decide, by decide, by decide, by decide⟩ (Nat.le_of_ble_eq_true rfl) (fun v w1 hq => ?_) (fun X w1 hq => ?_)
      · obtain ⟨fdca, fdma, fdpa, rfl, rfl⟩ := hq
        show zj G 10 651 34 [(0, .ref u)] [.ref fd, .ref u] [zO u 3 [.ref r, .ref fl, .null, .null, .null, .null, .null, .null, .int (nI 0)], zO r 0 [.ref b0, .int (nI 0), .int (nI 0)], zO fl 1 [.ref flca, .ref flma, .ref flpa, .int (nI 0)], zI K flca 16 (zna (fun _ => 0)), zI K flma 288 (zna (fun _ => 0)), zI K flpa 16 (zna (fun _ => 0)), zO fd 1 [.ref fdca, .ref fdma, .ref fdpa, .int (nI 0)], zI K fdca 16 (zna (fun _ => 0)), zI K fdma 288 (zna (fun _ => 0)), zI K fdpa 16 (zna (fun _ => 0))]
        refine zj_putF (ws' := [zO u 3 [.ref r, .ref fl, .ref fd, .null, .null, .null, .null, .null, .int (nI 0)], zO r 0 [.ref b0, .int (nI 0), .int (nI 0)], zO fl 1 [.ref flca, .ref flma, .ref flpa, .int (nI 0)], zI K flca 16 (zna (fun _ => 0)), zI K flma 288 (zna (fun _ => 0)), zI K flpa 16 (zna (fun _ => 0)), zO fd 1 [.ref fdca, .ref fdma, .ref fdpa, .int (nI 0)], zI K fdca 16 (zna (fun _ => 0)), zI K fdma 288 (zna (fun _ => 0)), zI K fdpa 16 (zna (fun _ => 0))]) F Z d_UN_init_34 0 2 rfl rfl in_UN ty_UN nm_UN (by decide) q_83 rfl rfl rfl rfl (Nat.le_of_ble_eq_true rfl) rfl ?_
        refine zj_aload_n F d_UN_init_37 0 rfl rfl ?_
        refine zj_new (fs := [.null, .null, .null, .int (nI 0)]) F d_UN_init_38 (ci := 1) rfl in_CO ty_CO q_48 q_49 q_4 (df_CO) (by decide) (by decide) (fun li => ?_)
        show zj G 11 655 41 [(0, .ref u)] [.ref li, .ref u] [zO u 3 [.ref r, .ref fl, .ref fd, .null, .null, .null, .null, .null, .int (nI 0)], zO r 0 [.ref b0, .int (nI 0), .int (nI 0)], zO fl 1 [.ref flca, .ref flma, .ref flpa, .int (nI 0)], zI K flca 16 (zna (fun _ => 0)), zI K flma 288 (zna (fun _ => 0)), zI K flpa 16 (zna (fun _ => 0)), zO fd 1 [.ref fdca, .ref fdma, .ref fdpa, .int (nI 0)], zI K fdca 16 (zna (fun _ => 0)), zI K fdma 288 (zna (fun _ => 0)), zI K fdpa 16 (zna (fun _ => 0)), zO li 1 [.null, .null, .null, .int (nI 0)]]
        refine zj_dup F d_UN_init_41 rfl ?_
        refine zj_call (maxL := 1) (wr := [zO u 3 [.ref r, .ref fl, .ref fd, .null, .null, .null, .null, .null, .int (nI 0)], zO r 0 [.ref b0, .int (nI 0), .int (nI 0)], zO fl 1 [.ref flca, .ref flma, .ref flpa, .int (nI 0)], zI K flca 16 (zna (fun _ => 0)), zI K flma 288 (zna (fun _ => 0)), zI K flpa 16 (zna (fun _ => 0)), zO fd 1 [.ref fdca, .ref fdma, .ref fdpa, .int (nI 0)], zI K fdca 16 (zna (fun _ => 0)), zI K fdma 288 (zna (fun _ => 0)), zI K fdpa 16 (zna (fun _ => 0))]) F E (i_CO l K li) (zi_I (As := []) (rest := [.ref li, .ref u]) F d_UN_init_42 q_50 q_51 q_52 rfl rfl (by decide) (show Option.map (fun d => d.parameters.length) (parseMethodDescriptor y_CO_init.desc) = some 0 from by decide +kernel)) d_UN_init_42 q_52 (Or.inl ⟨_, _, rfl⟩) q_4 [10] [0, 1, 2, 3, 4, 5, 6, 7, 8, 9] rfl rfl rfl rfl (by decide) ⟨by decide, by decide, by decide, by decide⟩ (Nat.le_of_ble_eq_true rfl) (fun v w1 hq => ?_) (fun X w1 hq => ?_)
        · obtain ⟨lica, lima, lipa, rfl, rfl⟩ := hq
          show zj G 14 975 45 [(0, .ref u)] [.ref li, .ref u] [zO u 3 [.ref r, .ref fl, .ref fd, .null, .null, .null, .null, .null, .int (nI 0)], zO r 0 [.ref b0, .int (nI 0), .int (nI 0)], zO fl 1 [.ref flca, .ref flma, .ref flpa, .int (nI 0)], zI K flca 16 (zna (fun _ => 0)), zI K flma 288 (zna (fun _ => 0)), zI K flpa 16 (zna (fun _ => 0)), zO fd 1 [.ref fdca, .ref fdma, .ref fdpa, .int (nI 0)], zI K fdca 16 (zna (fun _ => 0)), zI K fdma 288 (zna (fun _ => 0)), zI K fdpa 16 (zna (fun _ => 0)), zO li 1 [.ref lica, .ref lima, .ref lipa, .int (nI 0)], zI K lica 16 (zna (fun _ => 0)), zI K lima 288 (zna (fun _ => 0)), zI K lipa 16 (zna (fun _ => 0))]
          refine zj_putF (ws' := [zO u 3 [.ref r, .ref fl, .ref fd, .ref li, .null, .null, .null, .null, .int (nI 0)], zO r 0 [.ref b0, .int (nI 0), .int (nI 0)], zO fl 1 [.ref flca, .ref flma, .ref flpa, .int (nI 0)], zI K flca 16 (zna (fun _ => 0)), zI K flma 288 (zna (fun _ => 0)), zI K flpa 16 (zna (fun _ => 0)), zO fd 1 [.ref fdca, .ref fdma, .ref fdpa, .int (nI 0)], zI K fdca 16 (zna (fun _ => 0)), zI K fdma 288 (zna (fun _ => 0)), zI K fdpa 16 (zna (fun _ => 0)), zO li 1 [.ref lica, .ref lima, .ref lipa, .int (nI 0)], zI K lica 16 (zna (fun _ => 0)), zI K lima 288 (zna (fun _ => 0)), zI K lipa 16 (zna (fun _ => 0))]) F Z d_UN_init_45 0 3 rfl rfl in_UN ty_UN nm_UN (by decide) q_84 rfl rfl rfl rfl (Nat.le_of_ble_eq_true rfl) rfl ?_
          refine zj_aload_n F d_UN_init_48 0 rfl rfl ?_
          refine zj_new (fs := [.null, .null, .null, .int (nI 0)]) F d_UN_init_49 (ci := 1) rfl in_CO ty_CO q_48 q_49 q_4 (df_CO) (by decide) (by decide) (fun di => ?_)
          show zj G 15 979 52 [(0, .ref u)] [.ref di, .ref u] [zO u 3 [.ref r, .ref fl, .ref fd, .ref li, .null, .null, .null, .null, .int (nI 0)], zO r 0 [.ref b0, .int (nI 0), .int (nI 0)], zO fl 1 [.ref flca, .ref flma, .ref flpa, .int (nI 0)], zI K flca 16 (zna (fun _ => 0)), zI K flma 288 (zna (fun _ => 0)), zI K flpa 16 (zna (fun _ => 0)), zO fd 1 [.ref fdca, .ref fdma, .ref fdpa, .int (nI 0)], zI K fdca 16 (zna (fun _ => 0)), zI K fdma 288 (zna (fun _ => 0)), zI K fdpa 16 (zna (fun _ => 0)), zO li 1 [.ref lica, .ref lima, .ref lipa, .int (nI 0)], zI K lica 16 (zna (fun _ => 0)), zI K lima 288 (zna (fun _ => 0)), zI K lipa 16 (zna (fun _ => 0)), zO di 1 [.null, .null, .null, .int (nI 0)]]
          refine zj_dup F d_UN_init_52 rfl ?_
          refine zj_call (maxL := 1) (wr := [zO u 3 [.ref r, .ref fl, .ref fd, .ref li, .null, .null, .null, .null, .int (nI 0)], zO r 0 [.ref b0, .int (nI 0), .int (nI 0)], zO fl 1 [.ref flca, .ref flma, .ref flpa, .int (nI 0)], zI K flca 16 (zna (fun _ => 0)), zI K flma 288 (zna (fun _ => 0)), zI K flpa 16 (zna (fun _ => 0)), zO fd 1 [.ref fdca, .ref fdma, .ref fdpa, .int (nI 0)], zI K fdca 16 (zna (fun _ => 0)), zI K fdma 288 (zna (fun _ => 0)), zI K fdpa 16 (zna (fun _ => 0)), zO li 1 [.ref lica, .ref lima, .ref lipa, .int (nI 0)], zI K lica 16 (zna (fun _ => 0)), zI K lima 288 (zna (fun _ => 0)), zI K lipa 16 (zna (fun _ => 0))]) F E (i_CO l K di) (zi_I (As := []) (rest := [.ref di, .ref u]) F d_UN_init_53 q_50 q_51 q_52 rfl rfl (by decide) (show Option.map (fun d => d.parameters.length) (parseMethodDescriptor y_CO_init.desc) = some 0 from by decide +kernel)) d_UN_init_53 q_52 (Or.inl ⟨_, _, rfl⟩) q_4 [14] [0, 1, 2, 3, 4, 5, 6, 7, 8, 9, 10, 11, 12, 13] rfl rfl rfl rfl (by decide) ⟨by decide, by decide, by decide, by decide⟩ (Nat.le_of_ble_eq_true rfl) (fun v w1 hq => ?_) (fun X w1 hq => ?_)
          · obtain ⟨dica, dima, dipa, rfl, rfl⟩ := hq
            show zj G 18 1299 56 [(0, .ref u)] [.ref di, .ref u] [zO u 3 [.ref r, .ref fl, .ref fd, .ref li, .null, .null, .null, .null, .int (nI 0)], zO r 0 [.ref b0, .int (nI 0), .int (nI 0)], zO fl 1 [.ref flca, .ref flma, .ref flpa, .int (nI 0)], zI K flca 16 (zna (fun _ => 0)), zI K flma 288 (zna (fun _ => 0)), zI K flpa 16 (zna (fun _ => 0)), zO fd 1 [.ref fdca, .ref fdma, .ref fdpa, .int (nI 0)], zI K fdca 16 (zna (fun _ => 0)), zI K fdma 288 (zna (fun _ => 0)), zI K fdpa 16 (zna (fun _ => 0)), zO li 1 [.ref lica, .ref lima, .ref lipa, .int (nI 0)], zI K lica 16 (zna (fun _ => 0)), zI K lima 288 (zna (fun _ => 0)), zI K lipa 16 (zna (fun _ => 0)), zO di 1 [.ref dica, .ref dima, .ref dipa, .int (nI 0)], zI K dica 16 (zna (fun _ => 0)), zI K dima 288 (zna (fun _ => 0)), zI K dipa 16 (zna (fun _ => 0))]
            refine zj_putF (ws' := [zO u 3 [.ref r, .ref fl, .ref fd, .ref li, .ref di, .null, .null, .null, .int (nI 0)], zO r 0 [.ref b0, .int (nI 0), .int (nI 0)], zO fl 1 [.ref flca, .ref flma, .ref flpa, .int (nI 0)], zI K flca 16 (zna (fun _ => 0)), zI K flma 288 (zna (fun _ => 0)), zI K flpa 16 (zna (fun _ => 0)), zO fd 1 [.ref fdca, .ref fdma, .ref fdpa, .int (nI 0)], zI K fdca 16 (zna (fun _ => 0)), zI K fdma 288 (zna (fun _ => 0)), zI K fdpa 16 (zna (fun _ => 0)), zO li 1 [.ref lica, .ref lima, .ref lipa, .int (nI 0)], zI K lica 16 (zna (fun _ => 0)), zI K lima 288 (zna (fun _ => 0)), zI K lipa 16 (zna (fun _ => 0)), zO di 1 [.ref dica, .ref dima, .ref dipa, .int (nI 0)], zI K dica 16 (zna (fun _ => 0)), zI K dima 288 (zna (fun _ => 0)), zI K dipa 16 (zna (fun _ => 0))]) F Z d_UN_init_56 0 4 rfl rfl in_UN ty_UN nm_UN (by decide) q_85 rfl rfl rfl rfl (Nat.le_of_ble_eq_true rfl) rfl ?_
            refine zj_aload_n F d_UN_init_59 0 rfl rfl ?_
            refine zj_new (fs := [.null, .null, .null, .int (nI 0)]) F d_UN_init_60 (ci := 1) rfl in_CO ty_CO q_48 q_49 q_4 (df_CO) (by decide) (by decide) (fun lc => ?_)
            show zj G 19 1303 63 [(0, .ref u)] [.ref lc, .ref u] [zO u 3 [.ref r, .ref fl, .ref fd, .ref li, .ref di, .null, .null, .null, .int (nI 0)], zO r 0 [.ref b0, .int (nI 0), .int (nI 0)], zO fl 1 [.ref flca, .ref flma, .ref flpa, .int (nI 0)], zI K flca 16 (zna (fun _ => 0)), zI K flma 288 (zna (fun _ => 0)), zI K flpa 16 (zna (fun _ => 0)), zO fd 1 [.ref fdca, .ref fdma, .ref fdpa, .int (nI 0)], zI K fdca 16 (zna (fun _ => 0)), zI K fdma 288 (zna (fun _ => 0)), zI K fdpa 16 (zna (fun _ => 0)), zO li 1 [.ref lica, .ref lima, .ref lipa, .int (nI 0)], zI K lica 16 (zna (fun _ => 0)), zI K lima 288 (zna (fun _ => 0)), zI K lipa 16 (zna (fun _ => 0)), zO di 1 [.ref dica, .ref dima, .ref dipa, .int (nI 0)], zI K dica 16 (zna (fun _ => 0)), zI K dima 288 (zna (fun _ => 0)), zI K dipa 16 (zna (fun _ => 0)), zO lc 1 [.null, .null, .null, .int (nI 0)]]
            refine zj_dup F d_UN_init_63 rfl ?_
            refine zj_call (maxL := 1) (wr := [zO u 3 [.ref r, .ref fl, .ref fd, .ref li, .ref di, .null, .null, .null, .int (nI 0)], zO r 0 [.ref b0, .int (nI 0), .int (nI 0)], zO fl 1 [.ref flca, .ref flma, .ref flpa, .int (nI 0)], zI K flca 16 (zna (fun _ => 0)), zI K flma 288 (zna (fun _ => 0)), zI K flpa 16 (zna (fun _ => 0)), zO fd 1 [.ref fdca, .ref fdma, .ref fdpa, .int (nI 0)], zI K fdca 16 (zna (fun _ => 0)), zI K fdma 288 (zna (fun _ => 0)), zI K fdpa 16 (zna (fun _ => 0)), zO li 1 [.ref lica, .ref lima, .ref lipa, .int (nI 0)], zI K lica 16 (zna (fun _ => 0)), zI K lima 288 (zna (fun _ => 0)), zI K lipa 16 (zna (fun _ => 0)), zO di 1 [.ref dica, .ref dima, .ref dipa, .int (nI 0)], zI K dica 16 (zna (fun _ => 0)), zI K dima 288 (zna (fun _ => 0)), zI K dipa 16 (zna (fun _ => 0))]) F E (i_CO l K lc) (zi_I (As := []) (rest := [.ref lc, .ref u]) F d_UN_init_64 q_50 q_51 q_52 rfl rfl (by decide) (show Option.map (fun d => d.parameters.length) (parseMethodDescriptor y_CO_init.desc) = some 0 from by decide +kernel)) d_UN_init_64 q_52 (Or.inl ⟨_, _, rfl⟩) q_4 [18] [0, 1, 2, 3, 4, 5, 6, 7, 8, 9, 10, 11, 12, 13, 14, 15, 16, 17] rfl rfl rfl rfl (by decide) ⟨by decide, by decide, by decide, by decide⟩ (Nat.le_of_ble_eq_true rfl) (fun v w1 hq => ?_) (fun X w1 hq => ?_)
            · obtain ⟨lcca, lcma, lcpa, rfl, rfl⟩ := hq
              show zj G 22 1623 67 [(0, .ref u)] [.ref lc, .ref u] [zO u 3 [.ref r, .ref fl, .ref fd, .ref li, .ref di, .null, .null, .null, .int (nI 0)], zO r 0 [.ref b0, .int (nI 0), .int (nI 0)], zO fl 1 [.ref flca, .ref flma, .ref flpa, .int (nI 0)], zI K flca 16 (zna (fun _ => 0)), zI K flma 288 (zna (fun _ => 0)), zI K flpa 16 (zna (fun _ => 0)), zO fd 1 [.ref fdca, .ref fdma, .ref fdpa, .int (nI 0)], zI K fdca 16 (zna (fun _ => 0)), zI K fdma 288 (zna (fun _ => 0)), zI K fdpa 16 (zna (fun _ => 0)), zO li 1 [.ref lica, .ref lima, .ref lipa, .int (nI 0)], zI K lica 16 (zna (fun _ => 0)), zI K lima 288 (zna (fun _ => 0)), zI K lipa 16 (zna (fun _ => 0)), zO di 1 [.ref dica, .ref dima, .ref dipa, .int (nI 0)], zI K dica 16 (zna (fun _ => 0)), zI K dima 288 (zna (fun _ => 0)), zI K dipa 16 (zna (fun _ => 0)), zO lc 1 [.ref lcca, .ref lcma, .ref lcpa, .int (nI 0)], zI K lcca 16 (zna (fun _ => 0)), zI K lcma 288 (zna (fun _ => 0)), zI K lcpa 16 (zna (fun _ => 0))]
              refine zj_putF (ws' := [zO u 3 [.ref r, .ref fl, .ref fd, .ref li, .ref di, .ref lc, .null, .null, .int (nI 0)], zO r 0 [.ref b0, .int (nI 0), .int (nI 0)], zO fl 1 [.ref flca, .ref flma, .ref flpa, .int (nI 0)], zI K flca 16 (zna (fun _ => 0)), zI K flma 288 (zna (fun _ => 0)), zI K flpa 16 (zna (fun _ => 0)), zO fd 1 [.ref fdca, .ref fdma, .ref fdpa, .int (nI 0)], zI K fdca 16 (zna (fun _ => 0)), zI K fdma 288 (zna (fun _ => 0)), zI K fdpa 16 (zna (fun _ => 0)), zO li 1 [.ref lica, .ref lima, .ref lipa, .int (nI 0)], zI K lica 16 (zna (fun _ => 0)), zI K lima 288 (zna (fun _ => 0)), zI K lipa 16 (zna (fun _ => 0)), zO di 1 [.ref dica, .ref dima, .ref dipa, .int (nI 0)], zI K dica 16 (zna (fun _ => 0)), zI K dima 288 (zna (fun _ => 0)), zI K dipa 16 (zna (fun _ => 0)), zO lc 1 [.ref lcca, .ref lcma, .ref lcpa, .int (nI 0)], zI K lcca 16 (zna (fun _ => 0)), zI K lcma 288 (zna (fun _ => 0)), zI K lcpa 16 (zna (fun _ => 0))]) F Z d_UN_init_67 0 5 rfl rfl in_UN ty_UN nm_UN (by decide) q_86 rfl rfl rfl rfl (Nat.le_of_ble_eq_true rfl) rfl ?_
              refine zj_aload_n F d_UN_init_70 0 rfl rfl ?_
              refine zj_sipush (v := nI 316) F d_UN_init_71 (by decide) ?_
              refine zj_newa (a0 := (316, .inl (zna (fun _ => 0)))) F d_UN_init_74 1 rfl rfl (Or.inr (Or.inl rfl)) q_67 (fun _ => rfl) rfl (by decide) (by decide) (by decide) (fun la => ?_)
              show zj G 23 1939 76 [(0, .ref u)] [.ref la, .ref u] [zO u 3 [.ref r, .ref fl, .ref fd, .ref li, .ref di, .ref lc, .null, .null, .int (nI 0)], zO r 0 [.ref b0, .int (nI 0), .int (nI 0)], zO fl 1 [.ref flca, .ref flma, .ref flpa, .int (nI 0)], zI K flca 16 (zna (fun _ => 0)), zI K flma 288 (zna (fun _ => 0)), zI K flpa 16 (zna (fun _ => 0)), zO fd 1 [.ref fdca, .ref fdma, .ref fdpa, .int (nI 0)], zI K fdca 16 (zna (fun _ => 0)), zI K fdma 288 (zna (fun _ => 0)), zI K fdpa 16 (zna (fun _ => 0)), zO li 1 [.ref lica, .ref lima, .ref lipa, .int (nI 0)], zI K lica 16 (zna (fun _ => 0)), zI K lima 288 (zna (fun _ => 0)), zI K lipa 16 (zna (fun _ => 0)), zO di 1 [.ref dica, .ref dima, .ref dipa, .int (nI 0)], zI K dica 16 (zna (fun _ => 0)), zI K dima 288 (zna (fun _ => 0)), zI K dipa 16 (zna (fun _ => 0)), zO lc 1 [.ref lcca, .ref lcma, .ref lcpa, .int (nI 0)], zI K lcca 16 (zna (fun _ => 0)), zI K lcma 288 (zna (fun _ => 0)), zI K lcpa 16 (zna (fun _ => 0)), zI K la 316 (zna (fun _ => 0))]
              refine zj_putF (ws' := [zO u 3 [.ref r, .ref fl, .ref fd, .ref li, .ref di, .ref lc, .ref la, .null, .int (nI 0)], zO r 0 [.ref b0, .int (nI 0), .int (nI 0)], zO fl 1 [.ref flca, .ref flma, .ref flpa, .int (nI 0)], zI K flca 16 (zna (fun _ => 0)), zI K flma 288 (zna (fun _ => 0)), zI K flpa 16 (zna (fun _ => 0)), zO fd 1 [.ref fdca, .ref fdma, .ref fdpa, .int (nI 0)], zI K fdca 16 (zna (fun _ => 0)), zI K fdma 288 (zna (fun _ => 0)), zI K fdpa 16 (zna (fun _ => 0)), zO li 1 [.ref lica, .ref lima, .ref lipa, .int (nI 0)], zI K lica 16 (zna (fun _ => 0)), zI K lima 288 (zna (fun _ => 0)), zI K lipa 16 (zna (fun _ => 0)), zO di 1 [.ref dica, .ref dima, .ref dipa, .int (nI 0)], zI K dica 16 (zna (fun _ => 0)), zI K dima 288 (zna (fun _ => 0)), zI K dipa 16 (zna (fun _ => 0)), zO lc 1 [.ref lcca, .ref lcma, .ref lcpa, .int (nI 0)], zI K lcca 16 (zna (fun _ => 0)), zI K lcma 288 (zna (fun _ => 0)), zI K lcpa 16 (zna (fun _ => 0)), zI K la 316 (zna (fun _ => 0))]) F Z d_UN_init_76 0 6 rfl rfl in_UN ty_UN nm_UN (by decide) q_87 rfl rfl rfl rfl (Nat.le_of_ble_eq_true rfl) rfl ?_
              refine zj_aload_n F d_UN_init_79 0 rfl rfl ?_
              refine zj_iconst (v := nI 0) F d_UN_init_80 (by decide) ?_
              refine zj_newa (a0 := (0, .inl (zby (fun _ => 0)))) F d_UN_init_81 0 rfl rfl (Or.inl rfl) q_47 (fun _ => rfl) rfl (by decide) (by decide) (by decide) (fun ob0 => ?_)
              show zj G 24 1939 83 [(0, .ref u)] [.ref ob0, .ref u] [zO u 3 [.ref r, .ref fl, .ref fd, .ref li, .ref di, .ref lc, .ref la, .null, .int (nI 0)], zO r 0 [.ref b0, .int (nI 0), .int (nI 0)], zO fl 1 [.ref flca, .ref flma, .ref flpa, .int (nI 0)], zI K flca 16 (zna (fun _ => 0)), zI K flma 288 (zna (fun _ => 0)), zI K flpa 16 (zna (fun _ => 0)), zO fd 1 [.ref fdca, .ref fdma, .ref fdpa, .int (nI 0)], zI K fdca 16 (zna (fun _ => 0)), zI K fdma 288 (zna (fun _ => 0)), zI K fdpa 16 (zna (fun _ => 0)), zO li 1 [.ref lica, .ref lima, .ref lipa, .int (nI 0)], zI K lica 16 (zna (fun _ => 0)), zI K lima 288 (zna (fun _ => 0)), zI K lipa 16 (zna (fun _ => 0)), zO di 1 [.ref dica, .ref dima, .ref dipa, .int (nI 0)], zI K dica 16 (zna (fun _ => 0)), zI K dima 288 (zna (fun _ => 0)), zI K dipa 16 (zna (fun _ => 0)), zO lc 1 [.ref lcca, .ref lcma, .ref lcpa, .int (nI 0)], zI K lcca 16 (zna (fun _ => 0)), zI K lcma 288 (zna (fun _ => 0)), zI K lcpa 16 (zna (fun _ => 0)), zI K la 316 (zna (fun _ => 0)), zB K ob0 0 (zby (fun _ => 0))]
              refine zj_put (ws' := [zO u 3 [.ref r, .ref fl, .ref fd, .ref li, .ref di, .ref lc, .ref la, .ref ob0, .int (nI 0)], zO r 0 [.ref b0, .int (nI 0), .int (nI 0)], zO fl 1 [.ref flca, .ref flma, .ref flpa, .int (nI 0)], zI K flca 16 (zna (fun _ => 0)), zI K flma 288 (zna (fun _ => 0)), zI K flpa 16 (zna (fun _ => 0)), zO fd 1 [.ref fdca, .ref fdma, .ref fdpa, .int (nI 0)], zI K fdca 16 (zna (fun _ => 0)), zI K fdma 288 (zna (fun _ => 0)), zI K fdpa 16 (zna (fun _ => 0)), zO li 1 [.ref lica, .ref lima, .ref lipa, .int (nI 0)], zI K lica 16 (zna (fun _ => 0)), zI K lima 288 (zna (fun _ => 0)), zI K lipa 16 (zna (fun _ => 0)), zO di 1 [.ref dica, .ref dima, .ref dipa, .int (nI 0)], zI K dica 16 (zna (fun _ => 0)), zI K dima 288 (zna (fun _ => 0)), zI K dipa 16 (zna (fun _ => 0)), zO lc 1 [.ref lcca, .ref lcma, .ref lcpa, .int (nI 0)], zI K lcca 16 (zna (fun _ => 0)), zI K lcma 288 (zna (fun _ => 0)), zI K lcpa 16 (zna (fun _ => 0)), zI K la 316 (zna (fun _ => 0)), zB K ob0 0 (zby (fun _ => 0))]) F d_UN_init_83 0 7 rfl rfl in_UN ty_UN nm_UN (by decide) q_88 rfl rfl rfl (Nat.le_of_ble_eq_true rfl) rfl ?_
              refine zj_aload_n F d_UN_init_86 0 rfl rfl ?_
              refine zj_call (maxL := 3) (wr := [zO r 0 [.ref b0, .int (nI 0), .int (nI 0)], zO li 1 [.ref lica, .ref lima, .ref lipa, .int (nI 0)], zI K lica 16 (zna (fun _ => 0)), zI K lima 288 (zna (fun _ => 0)), zI K lipa 16 (zna (fun _ => 0)), zO di 1 [.ref dica, .ref dima, .ref dipa, .int (nI 0)], zI K dica 16 (zna (fun _ => 0)), zI K dima 288 (zna (fun _ => 0)), zI K dipa 16 (zna (fun _ => 0)), zO lc 1 [.ref lcca, .ref lcma, .ref lcpa, .int (nI 0)], zI K lcca 16 (zna (fun _ => 0)), zI K lcma 288 (zna (fun _ => 0)), zI K lcpa 16 (zna (fun _ => 0)), zI K la 316 (zna (fun _ => 0)), zB K ob0 0 (zby (fun _ => 0))]) F E (m_UN_fixed l K u r fl fd li di lc la ob0 flca flma flpa fdca fdma fdpa) (zi_V (As := []) (rest := []) F d_UN_init_87 0 rfl rfl rfl q_68 q_70 sel_UN_makeFixedCodes q_71 (Or.inl ⟨_, _, rfl⟩) (by decide) (show Option.map (fun d => d.parameters.length) (parseMethodDescriptor y_UN_makeFixedCodes.desc) = some 0 from by decide +kernel)) d_UN_init_87 q_71 (Or.inl ⟨_, _, rfl⟩) q_2 [0, 2, 3, 4, 5, 6, 7, 8, 9] [1, 10, 11, 12, 13, 14, 15, 16, 17, 18, 19, 20, 21, 22, 23] rfl rfl rfl rfl (by decide) ⟨by decide, by decide, by decide, by decide⟩ (Nat.le_of_ble_eq_true rfl) (fun v w1 hq => ?_) (fun X w1 hq => ?_)
              · obtain ⟨flu, fdu, fcl, fgl, fpl, fcd, fgd, fpd, hH, rfl, rfl⟩ := hq
                show zj G 25 2227 90 [(0, .ref u)] [] [zO r 0 [.ref b0, .int (nI 0), .int (nI 0)], zO li 1 [.ref lica, .ref lima, .ref lipa, .int (nI 0)], zI K lica 16 (zna (fun _ => 0)), zI K lima 288 (zna (fun _ => 0)), zI K lipa 16 (zna (fun _ => 0)), zO di 1 [.ref dica, .ref dima, .ref dipa, .int (nI 0)], zI K dica 16 (zna (fun _ => 0)), zI K dima 288 (zna (fun _ => 0)), zI K dipa 16 (zna (fun _ => 0)), zO lc 1 [.ref lcca, .ref lcma, .ref lcpa, .int (nI 0)], zI K lcca 16 (zna (fun _ => 0)), zI K lcma 288 (zna (fun _ => 0)), zI K lcpa 16 (zna (fun _ => 0)), zI K la 316 (zna (fun _ => 0)), zB K ob0 0 (zby (fun _ => 0)), zO u 3 [.ref r, .ref fl, .ref fd, .ref li, .ref di, .ref lc, .ref la, .ref ob0, .int (nI 0)], zO fl 1 [.ref flca, .ref flma, .ref flpa, .int (nI flu)], zI K flca 16 (zna fcl), zI K flma 288 (zna fgl), zI K flpa 16 (zna fpl), zO fd 1 [.ref fdca, .ref fdma, .ref fdpa, .int (nI fdu)], zI K fdca 16 (zna fcd), zI K fdma 288 (zna fgd), zI K fdpa 16 (zna fpd)]
                refine zj_wsub (ws' := [zO u 3 [.ref r, .ref fl, .ref fd, .ref li, .ref di, .ref lc, .ref la, .ref ob0, .int (nI 0)], zO r 0 [.ref b0, .int (nI 0), .int (nI 0)], zI K la 316 (zna (fun _ => 0)), zO lc 1 [.ref lcca, .ref lcma, .ref lcpa, .int (nI 0)], zI K lcca 16 (zna (fun _ => 0)), zI K lcma 288 (zna (fun _ => 0)), zI K lcpa 16 (zna (fun _ => 0)), zO li 1 [.ref lica, .ref lima, .ref lipa, .int (nI 0)], zI K lica 16 (zna (fun _ => 0)), zI K lima 288 (zna (fun _ => 0)), zI K lipa 16 (zna (fun _ => 0)), zO di 1 [.ref dica, .ref dima, .ref dipa, .int (nI 0)], zI K dica 16 (zna (fun _ => 0)), zI K dima 288 (zna (fun _ => 0)), zI K dipa 16 (zna (fun _ => 0)), zO fl 1 [.ref flca, .ref flma, .ref flpa, .int (nI flu)], zI K flca 16 (zna fcl), zI K flma 288 (zna fgl), zI K flpa 16 (zna fpl), zO fd 1 [.ref fdca, .ref fdma, .ref fdpa, .int (nI fdu)], zI K fdca 16 (zna fcd), zI K fdma 288 (zna fgd), zI K fdpa 16 (zna fpd)]) [15, 0, 13, 9, 10, 11, 12, 1, 2, 3, 4, 5, 6, 7, 8, 16, 17, 18, 19, 20, 21, 22, 23] rfl rfl rfl ?_
                exact zj_vret F E d_UN_init_90 (Nat.le_refl _) (Nat.le_refl _) ⟨r, b0, fl, fd, li, di, lc, la, ob0, flca, flma, flpa, fdca, fdma, fdpa, lica, lima, lipa, dica, dima, dipa, lcca, lcma, lcpa, flu, fdu, fcl, fgl, fpl, fcd, fgd, fpd, hH, rfl, rfl⟩
              · exact hq.elim
            · exact hq.elim
          · exact hq.elim
        · exact hq.elim
      · exact hq.elim
    · exact hq.elim
  · exact hq.elim
