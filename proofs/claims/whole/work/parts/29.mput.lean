theorem zdr_bits : ∀ (C : Nat) (o : Nat → Nat) (w H : Nat), 8 * (zdr o w H C).2.1 + (zdr o w H C).2.2.2 = 8 * w + C := by
  intro C
  induction C using Nat.strongRecOn with
  | _ C ih =>
    intro o w H
    by_cases h : 8 ≤ C
    · rw [zdr_ge h, ih (C - 8) (by omega)]
      omega
    · rw [zdr_lt h]
theorem zput_bits (s : zps) (v k : Nat) : 8 * (zput s v k).2.1 + (zput s v k).2.2.2 = 8 * s.2.1 + s.2.2.2 + k := by
  unfold zput
  rw [zdr_bits]
  omega
theorem zput_0 {s : zps} (hs : zpk s) : zput s 0 0 = s := by
  unfold zput
  have h := hs.1
  rw [Nat.zero_mul, Nat.add_zero, Nat.add_zero, zdr_lt (by omega)]
/-- one bit -/
theorem zput_1 {s : zps} (hs : zpk s) {b : Nat} (hb : b < 2) : zput s b 1 = if s.2.2.2 + 1 = 8 then (va_up s.1 s.2.1 (s.2.2.1 + b * 2 ^ s.2.2.2), s.2.1 + 1, 0, 0) else (s.1, s.2.1, s.2.2.1 + b * 2 ^ s.2.2.2, s.2.2.2 + 1) := by
  have h1 := hs.1
  have h2 := zput_pow hs.2.1 (show b < 2 ^ 1 from hb)
  unfold zput
  by_cases h : s.2.2.2 + 1 = 8
  · rw [if_pos h, h, zdr_ge (Nat.le_refl _), zdr_lt (by omega)]
    rw [h] at h2
    rw [Nat.mod_eq_of_lt h2, Nat.div_eq_of_lt h2]
  · rw [if_neg h, zdr_lt (by omega)]
theorem zrv_step (v i : Nat) : v % 2 ^ i + v / 2 ^ i % 2 * 2 ^ i = v % 2 ^ (i + 1) := by
  rw [Nat.mod_pow_succ, Nat.mul_comm]
/-- bits from the highest on -/
def zrv (v n : Nat) : Nat → Nat
  | 0 => 0
  | j + 1 => zrv v n j + v / 2 ^ (n - 1 - j) % 2 * 2 ^ j
theorem zrv_tu (v n : Nat) : ∀ j, j ≤ n → ztu v n = zrv v n j + 2 ^ j * ztu v (n - j)
  | 0, _ => by
    show _ = 0 + 1 * ztu v (n - 0)
    rw [Nat.one_mul, Nat.zero_add, Nat.sub_zero]
  | j + 1, h => by
    rw [zrv_tu v n j (by omega)]
    obtain ⟨k, hk⟩ : ∃ k, n - j = k + 1 := ⟨n - j - 1, by omega⟩
    rw [hk, show n - (j + 1) = k by omega]
    show zrv v n j + 2 ^ j * (2 * ztu v k + v / 2 ^ k % 2) = zrv v n j + v / 2 ^ (n - 1 - j) % 2 * 2 ^ j + 2 ^ (j + 1) * ztu v k
    rw [show n - 1 - j = k by omega, Nat.pow_succ, Nat.mul_add, ← Nat.mul_assoc, Nat.mul_comm (2 ^ j) (v / 2 ^ k % 2)]
    omega
theorem zrv_all (v n : Nat) : zrv v n n = ztu v n := by
  rw [zrv_tu v n n (Nat.le_refl _), Nat.sub_self]
  show _ = _ + 2 ^ n * 0
  rw [Nat.mul_zero, Nat.add_zero]
theorem zrv_lt (v n : Nat) : ∀ j, zrv v n j < 2 ^ j
  | 0 => Nat.one_pos
  | j + 1 => by
    have h := zrv_lt v n j
    have h2 : v / 2 ^ (n - 1 - j) % 2 * 2 ^ j ≤ 1 * 2 ^ j := Nat.mul_le_mul_right _ (by omega)
    show zrv v n j + v / 2 ^ (n - 1 - j) % 2 * 2 ^ j < 2 ^ (j + 1)
    rw [Nat.pow_succ]
    omega
theorem zI_m1n0 {r : Nat} (h : r < 2 ^ 31) : nI r - 1 < 0 ↔ r = 0 := by
  have h1 := zI_m1lt h (show 0 < 2 ^ 31 by decide)
  rw [nI_0] at h1
  rw [h1]
  omega
theorem zml_eq : ∀ v, v < 259 → 3 ≤ v → (if v = 258 then 28 else zlna zlbs v 27 1) = zlnl v := by decide +kernel
set_option maxHeartbeats 4000000 in
set_option maxRecDepth 100000 in
/-- put(b) -/
theorem m_MO_put (l : Launch) (K : zk) (m ta re da ro li di lc la ou he ch : Nat) (fa tn sz dn rn ba bb bc : Int32) (w b : Nat) (x : Int32) (oo : Nat → Nat) (hw : w < 65536) (hv : zlow x = b) : zc l K y_MO_put w_MO_put { frames := 0, cells := 0, slots := 0, locals := 0 } 0 0 0 0 [.ref m, .int x] [zO m 6 [.int fa, .ref ta, .int tn, .ref re, .int sz, .ref da, .int dn, .ref ro, .int rn, .int ba, .ref li, .ref di, .ref lc, .ref la, .ref ou, .int (nI w), .int bb, .int bc, .ref he, .ref ch], zB K ou 65536 (zby oo)] (fun r w1 => r = none ∧ w1 = [zO m 6 [.int fa, .ref ta, .int tn, .ref re, .int sz, .ref da, .int dn, .ref ro, .int rn, .int ba, .ref li, .ref di, .ref lc, .ref la, .ref ou, .int (nI (w + 1)), .int bb, .int bc, .ref he, .ref ch], zB K ou 65536 (zby (va_up oo w b))]) (fun _ _ => False) := by
  refine zc_of (cc := c_MO_put) (nl := 2) (ret := none) (by decide) (Nat.le_of_ble_eq_true rfl) (fun G F E => ?_)
  have F : zf G l K { frames := 0, cells := 0, slots := 0, locals := 0 } "ZlibBoxModel" c_MO_put 2 := F
  show zj G 0 0 0 [(0, .ref m), (1, .int x)] [] [zO m 6 [.int fa, .ref ta, .int tn, .ref re, .int sz, .ref da, .int dn, .ref ro, .int rn, .int ba, .ref li, .ref di, .ref lc, .ref la, .ref ou, .int (nI w), .int bb, .int bc, .ref he, .ref ch], zB K ou 65536 (zby oo)]
  subst hv
  refine zj_aload_n F d_MO_put_0 0 rfl rfl ?_
  refine zj_get F d_MO_put_1 0 15 rfl rfl in_MO (by decide) q_566 rfl ?_
  refine zj_aload_n F d_MO_put_4 0 rfl rfl ?_
  refine zj_get F d_MO_put_5 0 14 rfl rfl in_MO (by decide) q_565 rfl ?_
  refine zj_alen F d_MO_put_8 1 0 rfl rfl ?_
  refine zj_icmp_ne (tgt := 20) F d_MO_put_9 (by decide) (nI_eq (by omega) (by omega)) (fun h9 => ?_) (fun h9 => ?_)
  · refine zj_aload_n F d_MO_put_20 0 rfl rfl ?_
    refine zj_get F d_MO_put_21 0 14 rfl rfl in_MO (by decide) q_565 rfl ?_
    refine zj_aload_n F d_MO_put_24 0 rfl rfl ?_
    refine zj_get F d_MO_put_25 0 15 rfl rfl in_MO (by decide) q_566 rfl ?_
    refine zj_iload_n F d_MO_put_28 1 rfl rfl ?_
    refine zj_i2b F d_MO_put_29 rfl ?_
    refine zj_bast (ws' := [zO m 6 [.int fa, .ref ta, .int tn, .ref re, .int sz, .ref da, .int dn, .ref ro, .int rn, .int ba, .ref li, .ref di, .ref lc, .ref la, .ref ou, .int (nI w), .int bb, .int bc, .ref he, .ref ch], zB K ou 65536 (zby (va_up oo w (zlow (x))))]) F d_MO_put_30 1 0 w rfl rfl rfl (by omega) (by omega) (by rw [zby_updB]; rfl) ?_
    refine zj_aload_n F d_MO_put_31 0 rfl rfl ?_
    refine zj_dup F d_MO_put_32 rfl ?_
    refine zj_get F d_MO_put_33 0 15 rfl rfl in_MO (by decide) q_566 rfl ?_
    refine zj_iconst (v := nI 1) F d_MO_put_36 (by decide) ?_
    refine zj_iadd F d_MO_put_37 (nI_add _ _) ?_
    refine zj_put (ws' := [zO m 6 [.int fa, .ref ta, .int tn, .ref re, .int sz, .ref da, .int dn, .ref ro, .int rn, .int ba, .ref li, .ref di, .ref lc, .ref la, .ref ou, .int (nI (w + 1)), .int bb, .int bc, .ref he, .ref ch], zB K ou 65536 (zby (va_up oo w (zlow (x))))]) F d_MO_put_38 0 15 rfl rfl in_MO ty_MO nm_MO (by decide) q_566 rfl rfl rfl (Nat.le_of_ble_eq_true rfl) rfl ?_
    exact zj_vret F E d_MO_put_41 (Nat.le_refl _) (Nat.le_refl _) ⟨rfl, rfl⟩
  · exact absurd h9 (by omega)
set_option maxHeartbeats 4000000 in
set_option maxRecDepth 100000 in
/-- flush() -/
theorem m_MO_flush (l : Launch) (K : zk) (m ta re da ro li di lc la ou he ch : Nat) (fa tn sz dn rn ba : Int32) (w H C : Nat) (oo : Nat → Nat) (hw : w < 65536) (hH : H < 256) (hC : C < 2 ^ 20) : zc l K y_MO_flush w_MO_flush { frames := 1, cells := 0, slots := 0, locals := 21 } 0 0 0 0 [.ref m] [zO m 6 [.int fa, .ref ta, .int tn, .ref re, .int sz, .ref da, .int dn, .ref ro, .int rn, .int ba, .ref li, .ref di, .ref lc, .ref la, .ref ou, .int (nI w), .int (nI H), .int (nI C), .ref he, .ref ch], zB K ou 65536 (zby oo)] (fun r w1 => r = none ∧ w1 = if C = 0 then [zO m 6 [.int fa, .ref ta, .int tn, .ref re, .int sz, .ref da, .int dn, .ref ro, .int rn, .int ba, .ref li, .ref di, .ref lc, .ref la, .ref ou, .int (nI w), .int (nI H), .int (nI C), .ref he, .ref ch], zB K ou 65536 (zby oo)] else [zO m 6 [.int fa, .ref ta, .int tn, .ref re, .int sz, .ref da, .int dn, .ref ro, .int rn, .int ba, .ref li, .ref di, .ref lc, .ref la, .ref ou, .int (nI (w + 1)), .int (nI 0), .int (nI 0), .ref he, .ref ch], zB K ou 65536 (zby (va_up oo w H))]) (fun _ _ => False) := by
  refine zc_of (cc := c_MO_flush) (nl := 1) (ret := none) (by decide) (Nat.le_of_ble_eq_true rfl) (fun G F E => ?_)
  have F : zf G l K { frames := 1, cells := 0, slots := 0, locals := 21 } "ZlibBoxModel" c_MO_flush 1 := F
  show zj G 0 0 0 [(0, .ref m)] [] [zO m 6 [.int fa, .ref ta, .int tn, .ref re, .int sz, .ref da, .int dn, .ref ro, .int rn, .int ba, .ref li, .ref di, .ref lc, .ref la, .ref ou, .int (nI w), .int (nI H), .int (nI C), .ref he, .ref ch], zB K ou 65536 (zby oo)]
  refine zj_aload_n F d_MO_flush_0 0 rfl rfl ?_
  refine zj_get F d_MO_flush_1 0 17 rfl rfl in_MO (by decide) q_568 rfl ?_
  refine zj_if_ne (tgt := 8) F d_MO_flush_4 (by decide) (zI_eq0 (by omega)) (fun h4 => ?_) (fun h4 => ?_)
  · refine zj_aload_n F d_MO_flush_8 0 rfl rfl ?_
    refine zj_aload_n F d_MO_flush_9 0 rfl rfl ?_
    refine zj_get F d_MO_flush_10 0 16 rfl rfl in_MO (by decide) q_567 rfl ?_
    refine zj_call (maxL := 2) (wr := []) F E (m_MO_put l K m ta re da ro li di lc la ou he ch fa tn sz dn rn ba (nI H) (nI C) w H (nI H) oo hw ((zlow_nI H).trans (Nat.mod_eq_of_lt hH))) (zi_V (As := [.int (nI H)]) (rest := []) F d_MO_flush_13 0 rfl rfl rfl q_697 q_699 sel_MO_put q_700 (Or.inl ⟨_, _, rfl⟩) (by decide) (show Option.map (fun d => d.parameters.length) (parseMethodDescriptor y_MO_put.desc) = some 1 from by decide +kernel)) d_MO_flush_13 q_700 (Or.inl ⟨_, _, rfl⟩) q_7 [0, 1] [] rfl rfl rfl rfl (by decide) ⟨by decide, by decide, by decide, by decide⟩ (Nat.le_of_ble_eq_true rfl) (fun v w1 hq => ?_) (fun X w1 hq => ?_)
    · obtain ⟨rfl, rfl⟩ := hq
      show zj G 0 0 16 [(0, .ref m)] [] [zO m 6 [.int fa, .ref ta, .int tn, .ref re, .int sz, .ref da, .int dn, .ref ro, .int rn, .int ba, .ref li, .ref di, .ref lc, .ref la, .ref ou, .int (nI (w + 1)), .int (nI H), .int (nI C), .ref he, .ref ch], zB K ou 65536 (zby (va_up oo w H))]
      refine zj_aload_n F d_MO_flush_16 0 rfl rfl ?_
      refine zj_iconst (v := nI 0) F d_MO_flush_17 (by decide) ?_
      refine zj_put (ws' := [zO m 6 [.int fa, .ref ta, .int tn, .ref re, .int sz, .ref da, .int dn, .ref ro, .int rn, .int ba, .ref li, .ref di, .ref lc, .ref la, .ref ou, .int (nI (w + 1)), .int (nI 0), .int (nI C), .ref he, .ref ch], zB K ou 65536 (zby (va_up oo w H))]) F d_MO_flush_18 0 16 rfl rfl in_MO ty_MO nm_MO (by decide) q_567 rfl rfl rfl (Nat.le_of_ble_eq_true rfl) rfl ?_
      refine zj_aload_n F d_MO_flush_21 0 rfl rfl ?_
      refine zj_iconst (v := nI 0) F d_MO_flush_22 (by decide) ?_
      refine zj_put (ws' := [zO m 6 [.int fa, .ref ta, .int tn, .ref re, .int sz, .ref da, .int dn, .ref ro, .int rn, .int ba, .ref li, .ref di, .ref lc, .ref la, .ref ou, .int (nI (w + 1)), .int (nI 0), .int (nI 0), .ref he, .ref ch], zB K ou 65536 (zby (va_up oo w H))]) F d_MO_flush_23 0 17 rfl rfl in_MO ty_MO nm_MO (by decide) q_568 rfl rfl rfl (Nat.le_of_ble_eq_true rfl) rfl ?_
      exact zj_vret F E d_MO_flush_26 (Nat.le_refl _) (Nat.le_refl _) ⟨rfl, (if_neg h4).symm⟩
    · exact hq.elim
  · exact zj_vret F E d_MO_flush_7 (Nat.le_refl _) (Nat.le_refl _) ⟨rfl, (if_pos h4).symm⟩
set_option maxHeartbeats 4000000 in
set_option maxRecDepth 100000 in
/-- putBits(v, n) -/
theorem m_MO_putBits (l : Launch) (K : zk) (m ta re da ro li di lc la ou he ch : Nat) (fa tn sz dn rn ba : Int32) (v k : Nat) (s R : zps) (oo : Nat → Nat) (hs : zpk s) (hag : ∀ j, j < s.2.1 → oo j = s.1 j) (hoo : ∀ j, oo j < 256) (hw : 8 * s.2.1 + s.2.2.2 + k ≤ 500000) (hv : v < 2 ^ k) (hk : k ≤ 16) (hR : zput s v k = R) : zc l K y_MO_putBits w_MO_putBits { frames := 2, cells := 0, slots := 0, locals := 41 } 0 0 0 0 [.ref m, .int (nI v), .int (nI k)] [zO m 6 [.int fa, .ref ta, .int tn, .ref re, .int sz, .ref da, .int dn, .ref ro, .int rn, .int ba, .ref li, .ref di, .ref lc, .ref la, .ref ou, .int (nI s.2.1), .int (nI s.2.2.1), .int (nI s.2.2.2), .ref he, .ref ch], zB K ou 65536 (zby oo)] (fun r w1 => ∃ oo', (∀ j, j < R.2.1 → oo' j = R.1 j) ∧ (∀ j, oo' j < 256) ∧ r = none ∧ w1 = [zO m 6 [.int fa, .ref ta, .int tn, .ref re, .int sz, .ref da, .int dn, .ref ro, .int rn, .int ba, .ref li, .ref di, .ref lc, .ref la, .ref ou, .int (nI R.2.1), .int (nI R.2.2.1), .int (nI R.2.2.2), .ref he, .ref ch], zB K ou 65536 (zby oo')]) (fun _ _ => False) := by
  refine zc_of (cc := c_MO_putBits) (nl := 4) (ret := none) (by decide) (Nat.le_of_ble_eq_true rfl) (fun G F E => ?_)
  have F : zf G l K { frames := 2, cells := 0, slots := 0, locals := 41 } "ZlibBoxModel" c_MO_putBits 4 := F
  show zj G 0 0 0 [(0, .ref m), (1, .int (nI v)), (2, .int (nI k))] [] [zO m 6 [.int fa, .ref ta, .int tn, .ref re, .int sz, .ref da, .int dn, .ref ro, .int rn, .int ba, .ref li, .ref di, .ref lc, .ref la, .ref ou, .int (nI s.2.1), .int (nI s.2.2.1), .int (nI s.2.2.2), .ref he, .ref ch], zB K ou 65536 (zby oo)]
  refine zj_iconst (v := nI 0) F d_MO_putBits_0 (by decide) ?_
  refine zj_istore_n (L' := [(3, .int (nI 0)), (0, .ref m), (1, .int (nI v)), (2, .int (nI k))]) F d_MO_putBits_1 rfl (by decide) rfl ?_
  have hvb : v < 2 ^ 16 := Nat.lt_of_lt_of_le hv (Nat.pow_le_pow_right (by decide) hk)
  have key : ∀ q i (s1 : zps) (oo1 : Nat → Nat), i + q = k → zput s (v % 2 ^ i) i = s1 → zpk s1 → (∀ j, j < s1.2.1 → oo1 j = s1.1 j) → (∀ j, oo1 j < 256) → zj G 0 0 2 [(0, .ref m), (1, .int (nI v)), (2, .int (nI k)), (3, .int (nI i))] [] [zO m 6 [.int fa, .ref ta, .int tn, .ref re, .int sz, .ref da, .int dn, .ref ro, .int rn, .int ba, .ref li, .ref di, .ref lc, .ref la, .ref ou, .int (nI s1.2.1), .int (nI s1.2.2.1), .int (nI s1.2.2.2), .ref he, .ref ch], zB K ou 65536 (zby oo1)] := by
    clear hag hoo
    intro q
    induction q with
    | zero =>
      intro i s1 oo1 i1 i2 i3 i4 i5
      have i6 : k = i := by omega
      show zj G 0 0 2 [(0, .ref m), (1, .int (nI v)), (2, .int (nI k)), (3, .int (nI i))] [] [zO m 6 [.int fa, .ref ta, .int tn, .ref re, .int sz, .ref da, .int dn, .ref ro, .int rn, .int ba, .ref li, .ref di, .ref lc, .ref la, .ref ou, .int (nI s1.2.1), .int (nI s1.2.2.1), .int (nI s1.2.2.2), .ref he, .ref ch], zB K ou 65536 (zby oo1)]
      refine zj_iload_n F d_MO_putBits_2 3 rfl rfl ?_
      refine zj_iload_n F d_MO_putBits_3 2 rfl rfl ?_
      refine zj_icmp_ge (tgt := 55) F d_MO_putBits_4 (by decide) (nI_leI (by omega) (by omega)) (fun h4 => ?_) (fun h4 => ?_)
      · have i7 : s1 = R := by rw [← i2, ← hR, ← i6, Nat.mod_eq_of_lt hv]
        subst i7
        exact zj_vret F E d_MO_putBits_55 (Nat.le_refl _) (Nat.le_refl _) ⟨oo1, i4, i5, rfl, rfl⟩
      · exact absurd h4 (by omega)
    | succ q ih =>
      intro i s1 oo1 i1 i2 i3 i4 i5
      show zj G 0 0 2 [(0, .ref m), (1, .int (nI v)), (2, .int (nI k)), (3, .int (nI i))] [] [zO m 6 [.int fa, .ref ta, .int tn, .ref re, .int sz, .ref da, .int dn, .ref ro, .int rn, .int ba, .ref li, .ref di, .ref lc, .ref la, .ref ou, .int (nI s1.2.1), .int (nI s1.2.2.1), .int (nI s1.2.2.2), .ref he, .ref ch], zB K ou 65536 (zby oo1)]
      refine zj_iload_n F d_MO_putBits_2 3 rfl rfl ?_
      refine zj_iload_n F d_MO_putBits_3 2 rfl rfl ?_
      refine zj_icmp_ge (tgt := 55) F d_MO_putBits_4 (by decide) (nI_leI (by omega) (by omega)) (fun h4 => ?_) (fun h4 => ?_)
      · exact absurd h4 (by omega)
      · have hc8 := i3.1
        have hbb := i3.2.1
        have hp8 : (2 : Nat) ^ s1.2.2.2 ≤ 2 ^ 7 := Nat.pow_le_pow_right (by decide) (by omega)
        have hbit : v / 2 ^ i % 2 < 2 := Nat.mod_lt _ (by decide)
        have hbs := zput_bits s (v % 2 ^ i) i
        rw [i2] at hbs
        have hnx : zput s (v % 2 ^ (i + 1)) (i + 1) = zput s1 (v / 2 ^ i % 2) 1 := by rw [← i2, zput_put, zrv_step]
        have hok := (zput_ok i3 (show v / 2 ^ i % 2 < 2 ^ 1 from hbit)).1
        have h1b := zput_1 i3 hbit
        have hpw := zput_pow i3.2.1 (show v / 2 ^ i % 2 < 2 ^ 1 from hbit)
        have hpw2 : (2 : Nat) ^ (s1.2.2.2 + 1) ≤ 2 ^ 8 := Nat.pow_le_pow_right (by decide) (by omega)
        refine zj_aload_n F d_MO_putBits_7 0 rfl rfl ?_
        refine zj_dup F d_MO_putBits_8 rfl ?_
        refine zj_get F d_MO_putBits_9 0 16 rfl rfl in_MO (by decide) q_567 rfl ?_
        refine zj_iload_n F d_MO_putBits_12 1 rfl rfl ?_
        refine zj_iload_n F d_MO_putBits_13 3 rfl rfl ?_
        refine zj_ishr (z := nI (v / 2 ^ i)) F d_MO_putBits_14 (zI_shr (by omega) (by omega)) ?_
        refine zj_iconst (v := nI 1) F d_MO_putBits_15 (by decide) ?_
        refine zj_iand (z := nI (v / 2 ^ i % 2)) F d_MO_putBits_16 (pk_andN (Nat.lt_of_le_of_lt (Nat.div_le_self _ _) (by omega)) 1 (by decide)) ?_
        refine zj_aload_n F d_MO_putBits_17 0 rfl rfl ?_
        refine zj_get F d_MO_putBits_18 0 17 rfl rfl in_MO (by decide) q_568 rfl ?_
        refine zj_ishl (z := nI (v / 2 ^ i % 2 * 2 ^ s1.2.2.2)) F d_MO_putBits_21 (zI_shl (by omega)) ?_
        refine zj_ior (z := nI (s1.2.2.1 + v / 2 ^ i % 2 * 2 ^ s1.2.2.2)) F d_MO_putBits_22 (zI_or2 _ hbb) ?_
        refine zj_put (ws' := [zO m 6 [.int fa, .ref ta, .int tn, .ref re, .int sz, .ref da, .int dn, .ref ro, .int rn, .int ba, .ref li, .ref di, .ref lc, .ref la, .ref ou, .int (nI s1.2.1), .int (nI (s1.2.2.1 + v / 2 ^ i % 2 * 2 ^ s1.2.2.2)), .int (nI s1.2.2.2), .ref he, .ref ch], zB K ou 65536 (zby oo1)]) F d_MO_putBits_23 0 16 rfl rfl in_MO ty_MO nm_MO (by decide) q_567 rfl rfl rfl (Nat.le_of_ble_eq_true rfl) rfl ?_
        refine zj_aload_n F d_MO_putBits_26 0 rfl rfl ?_
        refine zj_dup F d_MO_putBits_27 rfl ?_
        refine zj_get F d_MO_putBits_28 0 17 rfl rfl in_MO (by decide) q_568 rfl ?_
        refine zj_iconst (v := nI 1) F d_MO_putBits_31 (by decide) ?_
        refine zj_iadd F d_MO_putBits_32 (nI_add _ _) ?_
        refine zj_put (ws' := [zO m 6 [.int fa, .ref ta, .int tn, .ref re, .int sz, .ref da, .int dn, .ref ro, .int rn, .int ba, .ref li, .ref di, .ref lc, .ref la, .ref ou, .int (nI s1.2.1), .int (nI (s1.2.2.1 + v / 2 ^ i % 2 * 2 ^ s1.2.2.2)), .int (nI (s1.2.2.2 + 1)), .ref he, .ref ch], zB K ou 65536 (zby oo1)]) F d_MO_putBits_33 0 17 rfl rfl in_MO ty_MO nm_MO (by decide) q_568 rfl rfl rfl (Nat.le_of_ble_eq_true rfl) rfl ?_
        refine zj_aload_n F d_MO_putBits_36 0 rfl rfl ?_
        refine zj_get F d_MO_putBits_37 0 17 rfl rfl in_MO (by decide) q_568 rfl ?_
        refine zj_bipush (v := nI 8) F d_MO_putBits_40 (by decide) ?_
        refine zj_icmp_ne (tgt := 49) F d_MO_putBits_42 (by decide) (nI_eq (by omega) (by omega)) (fun h42 => ?_) (fun h42 => ?_)
        · rw [if_neg h42] at h1b
          refine zj_iinc (v := nI (i + 1)) (L' := [(3, .int (nI (i + 1))), (0, .ref m), (1, .int (nI v)), (2, .int (nI k))]) F d_MO_putBits_49 3 rfl (nI_add _ _) (by decide) rfl ?_
          refine zj_goto F d_MO_putBits_52 (tgt := 2) (by decide) ?_
          have h7 := ih (i + 1) _ oo1 (by omega) hnx (hok) (by rw [h1b]; exact i4) i5
          rw [h1b] at h7
          exact zj_sub [1, 2, 3, 0] rfl h7
        · rw [if_pos h42] at h1b
          generalize hH : s1.2.2.1 + v / 2 ^ i % 2 * 2 ^ s1.2.2.2 = H at h1b hpw ⊢
          show zj G 0 0 45 [(0, .ref m), (1, .int (nI v)), (2, .int (nI k)), (3, .int (nI i))] [] [zO m 6 [.int fa, .ref ta, .int tn, .ref re, .int sz, .ref da, .int dn, .ref ro, .int rn, .int ba, .ref li, .ref di, .ref lc, .ref la, .ref ou, .int (nI s1.2.1), .int (nI H), .int (nI (s1.2.2.2 + 1)), .ref he, .ref ch], zB K ou 65536 (zby oo1)]
          refine zj_aload_n F d_MO_putBits_45 0 rfl rfl ?_
          refine zj_call (maxL := 1) (wr := []) F E (m_MO_flush l K m ta re da ro li di lc la ou he ch fa tn sz dn rn ba s1.2.1 H (s1.2.2.2 + 1) oo1 (by omega) (by omega) (by omega)) (zi_V (As := []) (rest := []) F d_MO_putBits_46 0 rfl rfl rfl q_709 q_711 sel_MO_flush q_712 (Or.inl ⟨_, _, rfl⟩) (by decide) (show Option.map (fun d => d.parameters.length) (parseMethodDescriptor y_MO_flush.desc) = some 0 from by decide +kernel)) d_MO_putBits_46 q_712 (Or.inl ⟨_, _, rfl⟩) q_7 [0, 1] [] rfl rfl rfl rfl (by decide) ⟨by decide, by decide, by decide, by decide⟩ (Nat.le_of_ble_eq_true rfl) (fun v w1 hq => ?_) (fun X w1 hq => ?_)
          · obtain ⟨rfl, rfl⟩ := hq
            rw [if_neg (by omega)]
            show zj G 0 0 49 [(0, .ref m), (1, .int (nI v)), (2, .int (nI k)), (3, .int (nI i))] [] [zO m 6 [.int fa, .ref ta, .int tn, .ref re, .int sz, .ref da, .int dn, .ref ro, .int rn, .int ba, .ref li, .ref di, .ref lc, .ref la, .ref ou, .int (nI (s1.2.1 + 1)), .int (nI 0), .int (nI 0), .ref he, .ref ch], zB K ou 65536 (zby (va_up oo1 s1.2.1 H))]
            refine zj_iinc (v := nI (i + 1)) (L' := [(3, .int (nI (i + 1))), (0, .ref m), (1, .int (nI v)), (2, .int (nI k))]) F d_MO_putBits_49 3 rfl (nI_add _ _) (by decide) rfl ?_
            refine zj_goto F d_MO_putBits_52 (tgt := 2) (by decide) ?_
            have h7 := ih (i + 1) _ (va_up oo1 s1.2.1 H) (by omega) hnx hok (by rw [h1b]; exact zag_up i4 H) (zup_lt i5 _ (by omega))
            rw [h1b] at h7
            exact zj_sub [1, 2, 3, 0] rfl h7
          · exact hq.elim
  exact zj_sub [1, 2, 3, 0] rfl (key k 0 s oo (Nat.zero_add _) (by rw [Nat.pow_zero, Nat.mod_one]; exact zput_0 hs) hs hag hoo)
set_option maxHeartbeats 4000000 in
set_option maxRecDepth 100000 in
/-- putCode(v, n) -/
theorem m_MO_putCode (l : Launch) (K : zk) (m ta re da ro li di lc la ou he ch : Nat) (fa tn sz dn rn ba : Int32) (v k : Nat) (s R : zps) (oo : Nat → Nat) (hs : zpk s) (hag : ∀ j, j < s.2.1 → oo j = s.1 j) (hoo : ∀ j, oo j < 256) (hw : 8 * s.2.1 + s.2.2.2 + k ≤ 400000) (hv : v < 2 ^ 16) (hk : k ≤ 16) (hR : zput s (ztu v k) k = R) : zc l K y_MO_putCode w_MO_putCode { frames := 3, cells := 0, slots := 0, locals := 64 } 0 0 0 0 [.ref m, .int (nI v), .int (nI k)] [zO m 6 [.int fa, .ref ta, .int tn, .ref re, .int sz, .ref da, .int dn, .ref ro, .int rn, .int ba, .ref li, .ref di, .ref lc, .ref la, .ref ou, .int (nI s.2.1), .int (nI s.2.2.1), .int (nI s.2.2.2), .ref he, .ref ch], zB K ou 65536 (zby oo)] (fun r w1 => ∃ oo', (∀ j, j < R.2.1 → oo' j = R.1 j) ∧ (∀ j, oo' j < 256) ∧ r = none ∧ w1 = [zO m 6 [.int fa, .ref ta, .int tn, .ref re, .int sz, .ref da, .int dn, .ref ro, .int rn, .int ba, .ref li, .ref di, .ref lc, .ref la, .ref ou, .int (nI R.2.1), .int (nI R.2.2.1), .int (nI R.2.2.2), .ref he, .ref ch], zB K ou 65536 (zby oo')]) (fun _ _ => False) := by
  refine zc_of (cc := c_MO_putCode) (nl := 4) (ret := none) (by decide) (Nat.le_of_ble_eq_true rfl) (fun G F E => ?_)
  have F : zf G l K { frames := 3, cells := 0, slots := 0, locals := 64 } "ZlibBoxModel" c_MO_putCode 4 := F
  show zj G 0 0 0 [(0, .ref m), (1, .int (nI v)), (2, .int (nI k))] [] [zO m 6 [.int fa, .ref ta, .int tn, .ref re, .int sz, .ref da, .int dn, .ref ro, .int rn, .int ba, .ref li, .ref di, .ref lc, .ref la, .ref ou, .int (nI s.2.1), .int (nI s.2.2.1), .int (nI s.2.2.2), .ref he, .ref ch], zB K ou 65536 (zby oo)]
  refine zj_iload_n F d_MO_putCode_0 2 rfl rfl ?_
  refine zj_iconst (v := nI 1) F d_MO_putCode_1 (by decide) ?_
  refine zj_isub (z := nI k - 1) F d_MO_putCode_2 rfl ?_
  refine zj_istore_n (L' := [(3, .int (nI k - 1)), (0, .ref m), (1, .int (nI v)), (2, .int (nI k))]) F d_MO_putCode_3 rfl (by decide) rfl ?_
  have key : ∀ r j (s1 : zps) (oo1 : Nat → Nat), j + r = k → zput s (zrv v k j) j = s1 → zpk s1 → (∀ j, j < s1.2.1 → oo1 j = s1.1 j) → (∀ j, oo1 j < 256) → zj G 0 0 4 [(0, .ref m), (1, .int (nI v)), (3, .int (nI r - 1))] [] [zO m 6 [.int fa, .ref ta, .int tn, .ref re, .int sz, .ref da, .int dn, .ref ro, .int rn, .int ba, .ref li, .ref di, .ref lc, .ref la, .ref ou, .int (nI s1.2.1), .int (nI s1.2.2.1), .int (nI s1.2.2.2), .ref he, .ref ch], zB K ou 65536 (zby oo1)] := by
    clear hag hoo
    intro r
    induction r with
    | zero =>
      intro j s1 oo1 i1 i2 i3 i4 i5
      have i6 : k = j := by omega
      show zj G 0 0 4 [(0, .ref m), (1, .int (nI v)), (3, .int (nI 0 - 1))] [] [zO m 6 [.int fa, .ref ta, .int tn, .ref re, .int sz, .ref da, .int dn, .ref ro, .int rn, .int ba, .ref li, .ref di, .ref lc, .ref la, .ref ou, .int (nI s1.2.1), .int (nI s1.2.2.1), .int (nI s1.2.2.2), .ref he, .ref ch], zB K ou 65536 (zby oo1)]
      refine zj_iload_n F d_MO_putCode_4 2 rfl rfl ?_
      refine zj_if_lt (tgt := 24) (P := 0 = 0) F d_MO_putCode_5 (by decide) (zI_m1n0 (by decide)) (fun h5 => ?_) (fun h5 => ?_)
      · have i7 : s1 = R := by rw [← i2, ← hR, ← i6, zrv_all]
        subst i7
        exact zj_vret F E d_MO_putCode_24 (Nat.le_refl _) (Nat.le_refl _) ⟨oo1, i4, i5, rfl, rfl⟩
      · exact absurd rfl h5
    | succ r ih =>
      intro j s1 oo1 i1 i2 i3 i4 i5
      rw [zI_m1]
      show zj G 0 0 4 [(0, .ref m), (1, .int (nI v)), (3, .int (nI r))] [] [zO m 6 [.int fa, .ref ta, .int tn, .ref re, .int sz, .ref da, .int dn, .ref ro, .int rn, .int ba, .ref li, .ref di, .ref lc, .ref la, .ref ou, .int (nI s1.2.1), .int (nI s1.2.2.1), .int (nI s1.2.2.2), .ref he, .ref ch], zB K ou 65536 (zby oo1)]
      refine zj_iload_n F d_MO_putCode_4 2 rfl rfl ?_
      refine zj_if_lt (tgt := 24) F d_MO_putCode_5 (by decide) (zI_lt0 (by omega)) (fun h5 => ?_) (fun h5 => ?_)
      · exact absurd h5 (by simp)
      · have hbs := zput_bits s (zrv v k j) j
        rw [i2] at hbs
        have hbit : v / 2 ^ r % 2 < 2 := Nat.mod_lt _ (by decide)
        refine zj_aload_n F d_MO_putCode_8 0 rfl rfl ?_
        refine zj_iload_n F d_MO_putCode_9 1 rfl rfl ?_
        refine zj_iload_n F d_MO_putCode_10 2 rfl rfl ?_
        refine zj_ishr (z := nI (v / 2 ^ r)) F d_MO_putCode_11 (zI_shr (by omega) (by omega)) ?_
        refine zj_iconst (v := nI 1) F d_MO_putCode_12 (by decide) ?_
        refine zj_iand (z := nI (v / 2 ^ r % 2)) F d_MO_putCode_13 (pk_andN (Nat.lt_of_le_of_lt (Nat.div_le_self _ _) (by omega)) 1 (by decide)) ?_
        refine zj_iconst (v := nI 1) F d_MO_putCode_14 (by decide) ?_
        have hnx : zput s (zrv v k (j + 1)) (j + 1) = zput s1 (v / 2 ^ r % 2) 1 := by rw [← i2, zput_put]; show zput s (zrv v k j + v / 2 ^ (k - 1 - j) % 2 * 2 ^ j) (j + 1) = _; rw [show k - 1 - j = r by omega]
        have hok := (zput_ok i3 (show v / 2 ^ r % 2 < 2 ^ 1 from hbit)).1
        refine zj_call (maxL := 4) (wr := []) F E (m_MO_putBits l K m ta re da ro li di lc la ou he ch fa tn sz dn rn ba (v / 2 ^ r % 2) 1 s1 _ oo1 i3 i4 i5 (by omega) hbit (by decide) rfl) (zi_V (As := [.int (nI (v / 2 ^ r % 2)), .int (nI 1)]) (rest := []) F d_MO_putCode_15 0 rfl rfl rfl q_705 q_707 sel_MO_putBits q_708 (Or.inl ⟨_, _, rfl⟩) (by decide) (show Option.map (fun d => d.parameters.length) (parseMethodDescriptor y_MO_putBits.desc) = some 2 from by decide +kernel)) d_MO_putCode_15 q_708 (Or.inl ⟨_, _, rfl⟩) q_7 [0, 1] [] rfl rfl rfl rfl (by decide) ⟨by decide, by decide, by decide, by decide⟩ (Nat.le_of_ble_eq_true rfl) (fun v w1 hq => ?_) (fun X w1 hq => ?_)
        · obtain ⟨oo2, hA1, hA2, rfl, rfl⟩ := hq
          show zj G 0 0 18 [(0, .ref m), (1, .int (nI v)), (3, .int (nI r))] [] [zO m 6 [.int fa, .ref ta, .int tn, .ref re, .int sz, .ref da, .int dn, .ref ro, .int rn, .int ba, .ref li, .ref di, .ref lc, .ref la, .ref ou, .int (nI ((zput s1 (v / 2 ^ r % 2) 1).2.1)), .int (nI ((zput s1 (v / 2 ^ r % 2) 1).2.2.1)), .int (nI ((zput s1 (v / 2 ^ r % 2) 1).2.2.2)), .ref he, .ref ch], zB K ou 65536 (zby oo2)]
          refine zj_iinc (v := nI r - 1) (L' := [(3, .int (nI r - 1)), (0, .ref m), (1, .int (nI v))]) F d_MO_putCode_18 2 rfl ((Int32.sub_eq_add_neg (nI r) 1).symm) (by decide) rfl ?_
          refine zj_goto F d_MO_putCode_21 (tgt := 4) (by decide) ?_
          exact zj_sub [1, 2, 0] rfl (ih (j + 1) _ oo2 (by omega) hnx hok hA1 hA2)
        · exact hq.elim
  exact zj_sub [1, 2, 0] rfl (key k 0 s oo (Nat.zero_add _) (zput_0 hs) hs hag hoo)
set_option maxHeartbeats 4000000 in
set_option maxRecDepth 100000 in
/-- putLiteral(m) -/
theorem m_MO_putLiteral (l : Launch) (K : zk) (m ta re da ro li di lc la ou he ch : Nat) (fa tn sz dn rn ba : Int32) (x : Nat) (s R : zps) (oo : Nat → Nat) (hs : zpk s) (hag : ∀ j, j < s.2.1 → oo j = s.1 j) (hoo : ∀ j, oo j < 256) (hw : 8 * s.2.1 + s.2.2.2 ≤ 399000) (hx : x < 288) (hR : zlit s x = R) : zc l K y_MO_putLiteral w_MO_putLiteral { frames := 4, cells := 0, slots := 0, locals := 87 } 0 0 0 0 [.ref m, .int (nI x)] [zO m 6 [.int fa, .ref ta, .int tn, .ref re, .int sz, .ref da, .int dn, .ref ro, .int rn, .int ba, .ref li, .ref di, .ref lc, .ref la, .ref ou, .int (nI s.2.1), .int (nI s.2.2.1), .int (nI s.2.2.2), .ref he, .ref ch], zB K ou 65536 (zby oo)] (fun r w1 => ∃ oo', (∀ j, j < R.2.1 → oo' j = R.1 j) ∧ (∀ j, oo' j < 256) ∧ r = none ∧ w1 = [zO m 6 [.int fa, .ref ta, .int tn, .ref re, .int sz, .ref da, .int dn, .ref ro, .int rn, .int ba, .ref li, .ref di, .ref lc, .ref la, .ref ou, .int (nI R.2.1), .int (nI R.2.2.1), .int (nI R.2.2.2), .ref he, .ref ch], zB K ou 65536 (zby oo')]) (fun _ _ => False) := by
  refine zc_of (cc := c_MO_putLiteral) (nl := 2) (ret := none) (by decide) (Nat.le_of_ble_eq_true rfl) (fun G F E => ?_)
  have F : zf G l K { frames := 4, cells := 0, slots := 0, locals := 87 } "ZlibBoxModel" c_MO_putLiteral 2 := F
  show zj G 0 0 0 [(0, .ref m), (1, .int (nI x))] [] [zO m 6 [.int fa, .ref ta, .int tn, .ref re, .int sz, .ref da, .int dn, .ref ro, .int rn, .int ba, .ref li, .ref di, .ref lc, .ref la, .ref ou, .int (nI s.2.1), .int (nI s.2.2.1), .int (nI s.2.2.2), .ref he, .ref ch], zB K ou 65536 (zby oo)]
  unfold zlit zlitC zlitB at hR
  refine zj_iload_n F d_MO_putLiteral_0 1 rfl rfl ?_
  refine zj_sipush (v := nI 144) F d_MO_putLiteral_1 (by decide) ?_
  refine zj_icmp_ge (tgt := 20) F d_MO_putLiteral_4 (by decide) (nI_leI (by omega) (by omega)) (fun h4 => ?_) (fun h4 => ?_)
  · have hk144 : ¬ x < 144 := by omega
    rw [if_neg hk144, if_neg hk144] at hR
    refine zj_iload_n F d_MO_putLiteral_20 1 rfl rfl ?_
    refine zj_sipush (v := nI 256) F d_MO_putLiteral_21 (by decide) ?_
    refine zj_icmp_ge (tgt := 45) F d_MO_putLiteral_24 (by decide) (nI_leI (by omega) (by omega)) (fun h24 => ?_) (fun h24 => ?_)
    · have hk256 : ¬ x < 256 := by omega
      rw [if_neg hk256, if_neg hk256] at hR
      refine zj_iload_n F d_MO_putLiteral_45 1 rfl rfl ?_
      refine zj_sipush (v := nI 280) F d_MO_putLiteral_46 (by decide) ?_
      refine zj_icmp_ge (tgt := 66) F d_MO_putLiteral_49 (by decide) (nI_leI (by omega) (by omega)) (fun h49 => ?_) (fun h49 => ?_)
      · have hk280 : ¬ x < 280 := by omega
        rw [if_neg hk280, if_neg hk280] at hR
        refine zj_aload_n F d_MO_putLiteral_66 0 rfl rfl ?_
        refine zj_sipush (v := nI 192) F d_MO_putLiteral_67 (by decide) ?_
        refine zj_iload_n F d_MO_putLiteral_70 1 rfl rfl ?_
        refine zj_iadd F d_MO_putLiteral_71 (nI_add _ _) ?_
        refine zj_sipush (v := nI 280) F d_MO_putLiteral_72 (by decide) ?_
        refine zj_isub F d_MO_putLiteral_75 (pk_sub (by omega)) ?_
        refine zj_bipush (v := nI 8) F d_MO_putLiteral_76 (by decide) ?_
        refine zj_call (maxL := 4) (wr := []) F E (m_MO_putCode l K m ta re da ro li di lc la ou he ch fa tn sz dn rn ba (192 + x - 280) 8 s R oo hs hag hoo (by omega) (by omega) (by decide) hR) (zi_V (As := [.int (nI (192 + x - 280)), .int (nI 8)]) (rest := []) F d_MO_putLiteral_78 0 rfl rfl rfl q_728 q_730 sel_MO_putCode q_731 (Or.inl ⟨_, _, rfl⟩) (by decide) (show Option.map (fun d => d.parameters.length) (parseMethodDescriptor y_MO_putCode.desc) = some 2 from by decide +kernel)) d_MO_putLiteral_78 q_731 (Or.inl ⟨_, _, rfl⟩) q_7 [0, 1] [] rfl rfl rfl rfl (by decide) ⟨by decide, by decide, by decide, by decide⟩ (Nat.le_of_ble_eq_true rfl) (fun v w1 hq => ?_) (fun X w1 hq => ?_)
        · obtain ⟨oo2, hA1, hA2, rfl, rfl⟩ := hq
          show zj G 0 0 81 [(0, .ref m), (1, .int (nI x))] [] [zO m 6 [.int fa, .ref ta, .int tn, .ref re, .int sz, .ref da, .int dn, .ref ro, .int rn, .int ba, .ref li, .ref di, .ref lc, .ref la, .ref ou, .int (nI R.2.1), .int (nI R.2.2.1), .int (nI R.2.2.2), .ref he, .ref ch], zB K ou 65536 (zby oo2)]
          exact zj_vret F E d_MO_putLiteral_81 (Nat.le_refl _) (Nat.le_refl _) ⟨oo2, hA1, hA2, rfl, rfl⟩
        · exact hq.elim
      · have hk280 : x < 280 := by omega
        rw [if_pos hk280, if_pos hk280] at hR
        refine zj_aload_n F d_MO_putLiteral_52 0 rfl rfl ?_
        refine zj_iload_n F d_MO_putLiteral_53 1 rfl rfl ?_
        refine zj_sipush (v := nI 256) F d_MO_putLiteral_54 (by decide) ?_
        refine zj_isub F d_MO_putLiteral_57 (pk_sub (by omega)) ?_
        refine zj_bipush (v := nI 7) F d_MO_putLiteral_58 (by decide) ?_
        refine zj_call (maxL := 4) (wr := []) F E (m_MO_putCode l K m ta re da ro li di lc la ou he ch fa tn sz dn rn ba (x - 256) 7 s R oo hs hag hoo (by omega) (by omega) (by decide) hR) (zi_V (As := [.int (nI (x - 256)), .int (nI 7)]) (rest := []) F d_MO_putLiteral_60 0 rfl rfl rfl q_728 q_730 sel_MO_putCode q_731 (Or.inl ⟨_, _, rfl⟩) (by decide) (show Option.map (fun d => d.parameters.length) (parseMethodDescriptor y_MO_putCode.desc) = some 2 from by decide +kernel)) d_MO_putLiteral_60 q_731 (Or.inl ⟨_, _, rfl⟩) q_7 [0, 1] [] rfl rfl rfl rfl (by decide) ⟨by decide, by decide, by decide, by decide⟩ (Nat.le_of_ble_eq_true rfl) (fun v w1 hq => ?_) (fun X w1 hq => ?_)
        · obtain ⟨oo2, hA1, hA2, rfl, rfl⟩ := hq
          show zj G 0 0 63 [(0, .ref m), (1, .int (nI x))] [] [zO m 6 [.int fa, .ref ta, .int tn, .ref re, .int sz, .ref da, .int dn, .ref ro, .int rn, .int ba, .ref li, .ref di, .ref lc, .ref la, .ref ou, .int (nI R.2.1), .int (nI R.2.2.1), .int (nI R.2.2.2), .ref he, .ref ch], zB K ou 65536 (zby oo2)]
          refine zj_goto F d_MO_putLiteral_63 (tgt := 81) (by decide) ?_
          exact zj_vret F E d_MO_putLiteral_81 (Nat.le_refl _) (Nat.le_refl _) ⟨oo2, hA1, hA2, rfl, rfl⟩
        · exact hq.elim
    · have hk256 : x < 256 := by omega
      rw [if_pos hk256, if_pos hk256] at hR
      refine zj_aload_n F d_MO_putLiteral_27 0 rfl rfl ?_
      refine zj_sipush (v := nI 400) F d_MO_putLiteral_28 (by decide) ?_
      refine zj_iload_n F d_MO_putLiteral_31 1 rfl rfl ?_
      refine zj_iadd F d_MO_putLiteral_32 (nI_add _ _) ?_
      refine zj_sipush (v := nI 144) F d_MO_putLiteral_33 (by decide) ?_
      refine zj_isub F d_MO_putLiteral_36 (pk_sub (by omega)) ?_
      refine zj_bipush (v := nI 9) F d_MO_putLiteral_37 (by decide) ?_
      refine zj_call (maxL := 4) (wr := []) F E (m_MO_putCode l K m ta re da ro li di lc la ou he ch fa tn sz dn rn ba (400 + x - 144) 9 s R oo hs hag hoo (by omega) (by omega) (by decide) hR) (zi_V (As := [.int (nI (400 + x - 144)), .int (nI 9)]) (rest := []) F d_MO_putLiteral_39 0 rfl rfl rfl q_728 q_730 sel_MO_putCode q_731 (Or.inl ⟨_, _, rfl⟩) (by decide) (show Option.map (fun d => d.parameters.length) (parseMethodDescriptor y_MO_putCode.desc) = some 2 from by decide +kernel)) d_MO_putLiteral_39 q_731 (Or.inl ⟨_, _, rfl⟩) q_7 [0, 1] [] rfl rfl rfl rfl (by decide) ⟨by decide, by decide, by decide, by decide⟩ (Nat.le_of_ble_eq_true rfl) (fun v w1 hq => ?_) (fun X w1 hq => ?_)
      · obtain ⟨oo2, hA1, hA2, rfl, rfl⟩ := hq
        show zj G 0 0 42 [(0, .ref m), (1, .int (nI x))] [] [zO m 6 [.int fa, .ref ta, .int tn, .ref re, .int sz, .ref da, .int dn, .ref ro, .int rn, .int ba, .ref li, .ref di, .ref lc, .ref la, .ref ou, .int (nI R.2.1), .int (nI R.2.2.1), .int (nI R.2.2.2), .ref he, .ref ch], zB K ou 65536 (zby oo2)]
        refine zj_goto F d_MO_putLiteral_42 (tgt := 81) (by decide) ?_
        exact zj_vret F E d_MO_putLiteral_81 (Nat.le_refl _) (Nat.le_refl _) ⟨oo2, hA1, hA2, rfl, rfl⟩
      · exact hq.elim
  · have hk144 : x < 144 := by omega
    rw [if_pos hk144, if_pos hk144] at hR
    refine zj_aload_n F d_MO_putLiteral_7 0 rfl rfl ?_
    refine zj_bipush (v := nI 48) F d_MO_putLiteral_8 (by decide) ?_
    refine zj_iload_n F d_MO_putLiteral_10 1 rfl rfl ?_
    refine zj_iadd F d_MO_putLiteral_11 (nI_add _ _) ?_
    refine zj_bipush (v := nI 8) F d_MO_putLiteral_12 (by decide) ?_
    refine zj_call (maxL := 4) (wr := []) F E (m_MO_putCode l K m ta re da ro li di lc la ou he ch fa tn sz dn rn ba (48 + x) 8 s R oo hs hag hoo (by omega) (by omega) (by decide) hR) (zi_V (As := [.int (nI (48 + x)), .int (nI 8)]) (rest := []) F d_MO_putLiteral_14 0 rfl rfl rfl q_728 q_730 sel_MO_putCode q_731 (Or.inl ⟨_, _, rfl⟩) (by decide) (show Option.map (fun d => d.parameters.length) (parseMethodDescriptor y_MO_putCode.desc) = some 2 from by decide +kernel)) d_MO_putLiteral_14 q_731 (Or.inl ⟨_, _, rfl⟩) q_7 [0, 1] [] rfl rfl rfl rfl (by decide) ⟨by decide, by decide, by decide, by decide⟩ (Nat.le_of_ble_eq_true rfl) (fun v w1 hq => ?_) (fun X w1 hq => ?_)
    · obtain ⟨oo2, hA1, hA2, rfl, rfl⟩ := hq
      show zj G 0 0 17 [(0, .ref m), (1, .int (nI x))] [] [zO m 6 [.int fa, .ref ta, .int tn, .ref re, .int sz, .ref da, .int dn, .ref ro, .int rn, .int ba, .ref li, .ref di, .ref lc, .ref la, .ref ou, .int (nI R.2.1), .int (nI R.2.2.1), .int (nI R.2.2.2), .ref he, .ref ch], zB K ou 65536 (zby oo2)]
      refine zj_goto F d_MO_putLiteral_17 (tgt := 81) (by decide) ?_
      exact zj_vret F E d_MO_putLiteral_81 (Nat.le_refl _) (Nat.le_refl _) ⟨oo2, hA1, hA2, rfl, rfl⟩
    · exact hq.elim
set_option maxHeartbeats 4000000 in
set_option maxRecDepth 100000 in
/-- putCopy(length, back) -/
theorem m_MO_putCopy (l : Launch) (K : zk) (m ta re da ro li di lc la ou he ch : Nat) (fa tn sz dn rn ba : Int32) (len dist : Nat) (s R : zps) (oo : Nat → Nat) (hs : zpk s) (hag : ∀ j, j < s.2.1 → oo j = s.1 j) (hoo : ∀ j, oo j < 256) (hw : 8 * s.2.1 + s.2.2.2 ≤ 398000) (g1 : 3 ≤ len) (g2 : len ≤ 258) (g3 : 1 ≤ dist) (g4 : dist ≤ 4096) (hR : zcpP s len dist = R) : zc l K y_MO_putCopy w_MO_putCopy { frames := 5, cells := 0, slots := 0, locals := 108 } 0 0 0 0 [.ref m, .int (nI len), .int (nI dist)] [zO m 6 [.int fa, .ref ta, .int tn, .ref re, .int sz, .ref da, .int dn, .ref ro, .int rn, .int ba, .ref li, .ref di, .ref lc, .ref la, .ref ou, .int (nI s.2.1), .int (nI s.2.2.1), .int (nI s.2.2.2), .ref he, .ref ch], zB K ou 65536 (zby oo)] (fun r w1 => ∃ oo', (∀ j, j < R.2.1 → oo' j = R.1 j) ∧ (∀ j, oo' j < 256) ∧ r = none ∧ w1 = [zO m 6 [.int fa, .ref ta, .int tn, .ref re, .int sz, .ref da, .int dn, .ref ro, .int rn, .int ba, .ref li, .ref di, .ref lc, .ref la, .ref ou, .int (nI R.2.1), .int (nI R.2.2.1), .int (nI R.2.2.2), .ref he, .ref ch], zB K ou 65536 (zby oo')]) (fun _ _ => False) := by
  refine zc_of (cc := c_MO_putCopy) (nl := 7) (ret := none) (by decide) (Nat.le_of_ble_eq_true rfl) (fun G F E => ?_)
  have F : zf G l K { frames := 5, cells := 0, slots := 0, locals := 108 } "ZlibBoxModel" c_MO_putCopy 7 := F
  show zj G 0 0 0 [(0, .ref m), (1, .int (nI len)), (2, .int (nI dist))] [] [zO m 6 [.int fa, .ref ta, .int tn, .ref re, .int sz, .ref da, .int dn, .ref ro, .int rn, .int ba, .ref li, .ref di, .ref lc, .ref la, .ref ou, .int (nI s.2.1), .int (nI s.2.2.1), .int (nI s.2.2.2), .ref he, .ref ch], zB K ou 65536 (zby oo)]
  unfold zcpP at hR
  have hl1 := zlnl_ok len (by omega) g1
  have hd1 := zlnd_ok g3 g4
  have hml := zml_eq len (by omega) g1
  have tail : zj G 0 0 60 [(0, .ref m), (1, .int (nI len)), (2, .int (nI dist)), (3, .int (nI (257 + zlnl len))), (4, .int (nI (ztab 0 (zlnl len))))] [] [zO m 6 [.int fa, .ref ta, .int tn, .ref re, .int sz, .ref da, .int dn, .ref ro, .int rn, .int ba, .ref li, .ref di, .ref lc, .ref la, .ref ou, .int (nI s.2.1), .int (nI s.2.2.1), .int (nI s.2.2.2), .ref he, .ref ch], zB K ou 65536 (zby oo)] := by
    clear hml
    generalize hkl : zlnl len = kl at hR hl1 ⊢
    have hb1 := ztab_len kl hl1.1
    show zj G 0 0 60 [(0, .ref m), (1, .int (nI len)), (2, .int (nI dist)), (3, .int (nI (257 + kl))), (4, .int (nI (ztab 0 kl)))] [] [zO m 6 [.int fa, .ref ta, .int tn, .ref re, .int sz, .ref da, .int dn, .ref ro, .int rn, .int ba, .ref li, .ref di, .ref lc, .ref la, .ref ou, .int (nI s.2.1), .int (nI s.2.2.1), .int (nI s.2.2.2), .ref he, .ref ch], zB K ou 65536 (zby oo)]
    refine zj_aload_n F d_MO_putCopy_60 0 rfl rfl ?_
    refine zj_iload_n F d_MO_putCopy_61 3 rfl rfl ?_
    generalize hkd : zlnd dist = kd at hR hd1
    have hb2 := ztab_dis kd (by omega)
    have a1 := zlit_ok (257 + kl) hs
    have t1 := zput_bits s (ztu (zlitC (257 + kl)) (zlitB (257 + kl))) (zlitB (257 + kl))
    have t1b : zlitB (257 + kl) ≤ 9 := by unfold zlitB; (repeat' split) <;> decide
    have t1c : 8 * (zlit s (257 + kl)).2.1 + (zlit s (257 + kl)).2.2.2 = 8 * s.2.1 + s.2.2.2 + zlitB (257 + kl) := t1
    clear t1
    generalize hs1 : zlit s (257 + kl) = s1 at hR a1 t1c
    have a2 := zput_ok a1.1 hl1.2.2
    have t2 := zput_bits s1 (len - ztab 0 kl) (ztab 1 kl)
    generalize hs2 : zput s1 (len - ztab 0 kl) (ztab 1 kl) = s2 at hR a2 t2
    have a3 := zput_ok a2.1 (ztu_lt kd 5)
    have t3 := zput_bits s2 (ztu kd 5) 5
    generalize hs3 : zput s2 (ztu kd 5) 5 = s3 at hR a3 t3
    refine zj_call (maxL := 2) (wr := []) F E (m_MO_putLiteral l K m ta re da ro li di lc la ou he ch fa tn sz dn rn ba (257 + kl) s s1 oo hs hag hoo (by omega) (by omega) hs1) (zi_V (As := [.int (nI (257 + kl))]) (rest := []) F d_MO_putCopy_62 0 rfl rfl rfl q_724 q_726 sel_MO_putLiteral q_727 (Or.inl ⟨_, _, rfl⟩) (by decide) (show Option.map (fun d => d.parameters.length) (parseMethodDescriptor y_MO_putLiteral.desc) = some 1 from by decide +kernel)) d_MO_putCopy_62 q_727 (Or.inl ⟨_, _, rfl⟩) q_7 [0, 1] [] rfl rfl rfl rfl (by decide) ⟨by decide, by decide, by decide, by decide⟩ (Nat.le_of_ble_eq_true rfl) (fun v w1 hq => ?_) (fun X w1 hq => ?_)
    · obtain ⟨oo1, hA1, hA2, rfl, rfl⟩ := hq
      show zj G 0 0 65 [(0, .ref m), (1, .int (nI len)), (2, .int (nI dist)), (3, .int (nI (257 + kl))), (4, .int (nI (ztab 0 kl)))] [] [zO m 6 [.int fa, .ref ta, .int tn, .ref re, .int sz, .ref da, .int dn, .ref ro, .int rn, .int ba, .ref li, .ref di, .ref lc, .ref la, .ref ou, .int (nI s1.2.1), .int (nI s1.2.2.1), .int (nI s1.2.2.2), .ref he, .ref ch], zB K ou 65536 (zby oo1)]
      refine zj_aload_n F d_MO_putCopy_65 0 rfl rfl ?_
      refine zj_iload_n F d_MO_putCopy_66 1 rfl rfl ?_
      refine zj_iload F d_MO_putCopy_67 4 rfl ?_
      refine zj_isub F d_MO_putCopy_69 (pk_sub (by omega)) ?_
      refine zj_iload_n F d_MO_putCopy_70 3 rfl rfl ?_
      refine zj_call (maxL := 1) (wr := [zO m 6 [.int fa, .ref ta, .int tn, .ref re, .int sz, .ref da, .int dn, .ref ro, .int rn, .int ba, .ref li, .ref di, .ref lc, .ref la, .ref ou, .int (nI s1.2.1), .int (nI s1.2.2.1), .int (nI s1.2.2.2), .ref he, .ref ch], zB K ou 65536 (zby oo1)]) F E (m_MO_lengthBits l K (257 + kl) (by omega)) (zi_S (As := [.int (nI (257 + kl))]) (rest := [.int (nI (len - (ztab 0 kl))), .ref m]) F d_MO_putCopy_71 q_676 q_677 q_7 q_678 (Or.inl ⟨_, _, rfl⟩) (by decide) (show Option.map (fun d => d.parameters.length) (parseMethodDescriptor y_MO_lengthBits.desc) = some 1 from by decide +kernel)) d_MO_putCopy_71 q_678 (Or.inl ⟨_, _, rfl⟩) q_7 [] [0, 1] rfl rfl rfl rfl (by decide) ⟨by decide, by decide, by decide, by decide⟩ (Nat.le_of_ble_eq_true rfl) (fun v w1 hq => ?_) (fun X w1 hq => ?_)
      · obtain ⟨rfl, rfl⟩ := hq
        rw [zlb_tab kl hl1.1]
        show zj G 0 0 74 [(0, .ref m), (1, .int (nI len)), (2, .int (nI dist)), (3, .int (nI (257 + kl))), (4, .int (nI (ztab 0 kl)))] [.int (nI (ztab 1 kl)), .int (nI (len - (ztab 0 kl))), .ref m] [zO m 6 [.int fa, .ref ta, .int tn, .ref re, .int sz, .ref da, .int dn, .ref ro, .int rn, .int ba, .ref li, .ref di, .ref lc, .ref la, .ref ou, .int (nI s1.2.1), .int (nI s1.2.2.1), .int (nI s1.2.2.2), .ref he, .ref ch], zB K ou 65536 (zby oo1)]
        refine zj_call (maxL := 4) (wr := []) F E (m_MO_putBits l K m ta re da ro li di lc la ou he ch fa tn sz dn rn ba (len - ztab 0 kl) (ztab 1 kl) s1 s2 oo1 a1.1 hA1 hA2 (by omega) hl1.2.2 (by omega) hs2) (zi_V (As := [.int (nI (len - ztab 0 kl)), .int (nI (ztab 1 kl))]) (rest := []) F d_MO_putCopy_74 0 rfl rfl rfl q_705 q_707 sel_MO_putBits q_708 (Or.inl ⟨_, _, rfl⟩) (by decide) (show Option.map (fun d => d.parameters.length) (parseMethodDescriptor y_MO_putBits.desc) = some 2 from by decide +kernel)) d_MO_putCopy_74 q_708 (Or.inl ⟨_, _, rfl⟩) q_7 [0, 1] [] rfl rfl rfl rfl (by decide) ⟨by decide, by decide, by decide, by decide⟩ (Nat.le_of_ble_eq_true rfl) (fun v w1 hq => ?_) (fun X w1 hq => ?_)
        · obtain ⟨oo2, hB1, hB2, rfl, rfl⟩ := hq
          show zj G 0 0 77 [(0, .ref m), (1, .int (nI len)), (2, .int (nI dist)), (3, .int (nI (257 + kl))), (4, .int (nI (ztab 0 kl)))] [] [zO m 6 [.int fa, .ref ta, .int tn, .ref re, .int sz, .ref da, .int dn, .ref ro, .int rn, .int ba, .ref li, .ref di, .ref lc, .ref la, .ref ou, .int (nI s2.2.1), .int (nI s2.2.2.1), .int (nI s2.2.2.2), .ref he, .ref ch], zB K ou 65536 (zby oo2)]
          refine zj_iconst (v := nI 0) F d_MO_putCopy_77 (by decide) ?_
          refine zj_istore (L' := [(5, .int (nI 0)), (0, .ref m), (1, .int (nI len)), (2, .int (nI dist)), (3, .int (nI (257 + kl))), (4, .int (nI (ztab 0 kl)))]) F d_MO_putCopy_78 (by decide) rfl ?_
          refine zj_iconst (v := nI 1) F d_MO_putCopy_80 (by decide) ?_
          refine zj_istore (L' := [(6, .int (nI 1)), (5, .int (nI 0)), (0, .ref m), (1, .int (nI len)), (2, .int (nI dist)), (3, .int (nI (257 + kl))), (4, .int (nI (ztab 0 kl)))]) F d_MO_putCopy_81 (by decide) rfl ?_
          have keyD : ∀ q d, d + q = 29 → ztab 2 d ≤ dist → zlna (ztab 2) dist q (d + 1) = kd → zj G 0 0 83 [(0, .ref m), (2, .int (nI dist)), (5, .int (nI d)), (6, .int (nI (ztab 2 d)))] [] [zO m 6 [.int fa, .ref ta, .int tn, .ref re, .int sz, .ref da, .int dn, .ref ro, .int rn, .int ba, .ref li, .ref di, .ref lc, .ref la, .ref ou, .int (nI s2.2.1), .int (nI s2.2.2.1), .int (nI s2.2.2.2), .ref he, .ref ch], zB K ou 65536 (zby oo2)] := by
            intro q
            induction q with
            | zero =>
              intro d d1 d2 d3
              have d4 : d = 29 := by omega
              subst d4
              exact absurd (show 24577 ≤ dist from d2) (by omega)
            | succ q ih =>
              intro d d1 d2 d3
              have hdd := ztab_dis d (by omega)
              have hde := ztab_dis (d + 1) (by omega)
              unfold zlna at d3
              show zj G 0 0 83 [(0, .ref m), (2, .int (nI dist)), (5, .int (nI d)), (6, .int (nI (ztab 2 d)))] [] [zO m 6 [.int fa, .ref ta, .int tn, .ref re, .int sz, .ref da, .int dn, .ref ro, .int rn, .int ba, .ref li, .ref di, .ref lc, .ref la, .ref ou, .int (nI s2.2.1), .int (nI s2.2.2.1), .int (nI s2.2.2.2), .ref he, .ref ch], zB K ou 65536 (zby oo2)]
              refine zj_iload F d_MO_putCopy_83 3 rfl ?_
              refine zj_iconst (v := nI 1) F d_MO_putCopy_85 (by decide) ?_
              refine zj_iload F d_MO_putCopy_86 2 rfl ?_
              refine zj_call (maxL := 1) (wr := [zO m 6 [.int fa, .ref ta, .int tn, .ref re, .int sz, .ref da, .int dn, .ref ro, .int rn, .int ba, .ref li, .ref di, .ref lc, .ref la, .ref ou, .int (nI s2.2.1), .int (nI s2.2.2.1), .int (nI s2.2.2.2), .ref he, .ref ch], zB K ou 65536 (zby oo2)]) F E (m_MO_distanceBits l K d (by omega)) (zi_S (As := [.int (nI d)]) (rest := [.int (nI 1), .int (nI (ztab 2 d))]) F d_MO_putCopy_88 q_679 q_680 q_7 q_681 (Or.inl ⟨_, _, rfl⟩) (by decide) (show Option.map (fun d => d.parameters.length) (parseMethodDescriptor y_MO_distanceBits.desc) = some 1 from by decide +kernel)) d_MO_putCopy_88 q_681 (Or.inl ⟨_, _, rfl⟩) q_7 [] [0, 1] rfl rfl rfl rfl (by decide) ⟨by decide, by decide, by decide, by decide⟩ (Nat.le_of_ble_eq_true rfl) (fun v w1 hq => ?_) (fun X w1 hq => ?_)
              · obtain ⟨rfl, rfl⟩ := hq
                rw [zdb_tab d (by omega)]
                show zj G 0 0 91 [(0, .ref m), (2, .int (nI dist)), (5, .int (nI d)), (6, .int (nI (ztab 2 d)))] [.int (nI (ztab 3 d)), .int (nI 1), .int (nI (ztab 2 d))] [zO m 6 [.int fa, .ref ta, .int tn, .ref re, .int sz, .ref da, .int dn, .ref ro, .int rn, .int ba, .ref li, .ref di, .ref lc, .ref la, .ref ou, .int (nI s2.2.1), .int (nI s2.2.2.1), .int (nI s2.2.2.2), .ref he, .ref ch], zB K ou 65536 (zby oo2)]
                refine zj_ishl (z := nI (1 * 2 ^ ztab 3 d)) F d_MO_putCopy_91 (zI_shl (by omega)) ?_
                refine zj_iadd (z := nI (ztab 2 (d + 1))) F d_MO_putCopy_92 (by rw [Nat.one_mul, nI_add, zlnd_tab d (by omega)]) ?_
                refine zj_iload_n F d_MO_putCopy_93 1 rfl rfl ?_
                refine zj_icmp_gt (tgt := 115) F d_MO_putCopy_94 (by decide) (nI_ltI (by omega) (by omega)) (fun h94 => ?_) (fun h94 => ?_)
                · rw [if_neg (by omega), Nat.add_sub_cancel] at d3
                  subst d3
                  refine zj_aload_n F d_MO_putCopy_115 0 rfl rfl ?_
                  refine zj_iload F d_MO_putCopy_116 2 rfl ?_
                  refine zj_iconst (v := nI 5) F d_MO_putCopy_118 (by decide) ?_
                  refine zj_call (maxL := 4) (wr := []) F E (m_MO_putCode l K m ta re da ro li di lc la ou he ch fa tn sz dn rn ba d 5 s2 s3 oo2 a2.1 hB1 hB2 (by omega) (by omega) (by decide) hs3) (zi_V (As := [.int (nI d), .int (nI 5)]) (rest := []) F d_MO_putCopy_119 0 rfl rfl rfl q_728 q_730 sel_MO_putCode q_731 (Or.inl ⟨_, _, rfl⟩) (by decide) (show Option.map (fun d => d.parameters.length) (parseMethodDescriptor y_MO_putCode.desc) = some 2 from by decide +kernel)) d_MO_putCopy_119 q_731 (Or.inl ⟨_, _, rfl⟩) q_7 [0, 1] [] rfl rfl rfl rfl (by decide) ⟨by decide, by decide, by decide, by decide⟩ (Nat.le_of_ble_eq_true rfl) (fun v w1 hq => ?_) (fun X w1 hq => ?_)
                  · obtain ⟨oo3, hC1, hC2, rfl, rfl⟩ := hq
                    show zj G 0 0 122 [(0, .ref m), (2, .int (nI dist)), (5, .int (nI d)), (6, .int (nI (ztab 2 d)))] [] [zO m 6 [.int fa, .ref ta, .int tn, .ref re, .int sz, .ref da, .int dn, .ref ro, .int rn, .int ba, .ref li, .ref di, .ref lc, .ref la, .ref ou, .int (nI s3.2.1), .int (nI s3.2.2.1), .int (nI s3.2.2.2), .ref he, .ref ch], zB K ou 65536 (zby oo3)]
                    refine zj_aload_n F d_MO_putCopy_122 0 rfl rfl ?_
                    refine zj_iload_n F d_MO_putCopy_123 1 rfl rfl ?_
                    refine zj_iload F d_MO_putCopy_124 3 rfl ?_
                    refine zj_isub F d_MO_putCopy_126 (pk_sub (by omega)) ?_
                    refine zj_iload F d_MO_putCopy_127 2 rfl ?_
                    refine zj_call (maxL := 1) (wr := [zO m 6 [.int fa, .ref ta, .int tn, .ref re, .int sz, .ref da, .int dn, .ref ro, .int rn, .int ba, .ref li, .ref di, .ref lc, .ref la, .ref ou, .int (nI s3.2.1), .int (nI s3.2.2.1), .int (nI s3.2.2.2), .ref he, .ref ch], zB K ou 65536 (zby oo3)]) F E (m_MO_distanceBits l K d (by omega)) (zi_S (As := [.int (nI d)]) (rest := [.int (nI (dist - (ztab 2 d))), .ref m]) F d_MO_putCopy_129 q_679 q_680 q_7 q_681 (Or.inl ⟨_, _, rfl⟩) (by decide) (show Option.map (fun d => d.parameters.length) (parseMethodDescriptor y_MO_distanceBits.desc) = some 1 from by decide +kernel)) d_MO_putCopy_129 q_681 (Or.inl ⟨_, _, rfl⟩) q_7 [] [0, 1] rfl rfl rfl rfl (by decide) ⟨by decide, by decide, by decide, by decide⟩ (Nat.le_of_ble_eq_true rfl) (fun v w1 hq => ?_) (fun X w1 hq => ?_)
                    · obtain ⟨rfl, rfl⟩ := hq
                      rw [zdb_tab d (by omega)]
                      show zj G 0 0 132 [(0, .ref m), (2, .int (nI dist)), (5, .int (nI d)), (6, .int (nI (ztab 2 d)))] [.int (nI (ztab 3 d)), .int (nI (dist - (ztab 2 d))), .ref m] [zO m 6 [.int fa, .ref ta, .int tn, .ref re, .int sz, .ref da, .int dn, .ref ro, .int rn, .int ba, .ref li, .ref di, .ref lc, .ref la, .ref ou, .int (nI s3.2.1), .int (nI s3.2.2.1), .int (nI s3.2.2.2), .ref he, .ref ch], zB K ou 65536 (zby oo3)]
                      refine zj_call (maxL := 4) (wr := []) F E (m_MO_putBits l K m ta re da ro li di lc la ou he ch fa tn sz dn rn ba (dist - ztab 2 d) (ztab 3 d) s3 R oo3 a3.1 hC1 hC2 (by omega) hd1.2.2 (by omega) hR) (zi_V (As := [.int (nI (dist - ztab 2 d)), .int (nI (ztab 3 d))]) (rest := []) F d_MO_putCopy_132 0 rfl rfl rfl q_705 q_707 sel_MO_putBits q_708 (Or.inl ⟨_, _, rfl⟩) (by decide) (show Option.map (fun d => d.parameters.length) (parseMethodDescriptor y_MO_putBits.desc) = some 2 from by decide +kernel)) d_MO_putCopy_132 q_708 (Or.inl ⟨_, _, rfl⟩) q_7 [0, 1] [] rfl rfl rfl rfl (by decide) ⟨by decide, by decide, by decide, by decide⟩ (Nat.le_of_ble_eq_true rfl) (fun v w1 hq => ?_) (fun X w1 hq => ?_)
                      · obtain ⟨oo4, hD1, hD2, rfl, rfl⟩ := hq
                        show zj G 0 0 135 [(0, .ref m), (2, .int (nI dist)), (5, .int (nI d)), (6, .int (nI (ztab 2 d)))] [] [zO m 6 [.int fa, .ref ta, .int tn, .ref re, .int sz, .ref da, .int dn, .ref ro, .int rn, .int ba, .ref li, .ref di, .ref lc, .ref la, .ref ou, .int (nI R.2.1), .int (nI R.2.2.1), .int (nI R.2.2.2), .ref he, .ref ch], zB K ou 65536 (zby oo4)]
                        exact zj_vret F E d_MO_putCopy_135 (Nat.le_refl _) (Nat.le_refl _) ⟨oo4, hD1, hD2, rfl, rfl⟩
                      · exact hq.elim
                    · exact hq.elim
                  · exact hq.elim
                · rw [if_pos (by omega)] at d3
                  refine zj_iload F d_MO_putCopy_97 3 rfl ?_
                  refine zj_iconst (v := nI 1) F d_MO_putCopy_99 (by decide) ?_
                  refine zj_iload F d_MO_putCopy_100 2 rfl ?_
                  refine zj_call (maxL := 1) (wr := [zO m 6 [.int fa, .ref ta, .int tn, .ref re, .int sz, .ref da, .int dn, .ref ro, .int rn, .int ba, .ref li, .ref di, .ref lc, .ref la, .ref ou, .int (nI s2.2.1), .int (nI s2.2.2.1), .int (nI s2.2.2.2), .ref he, .ref ch], zB K ou 65536 (zby oo2)]) F E (m_MO_distanceBits l K d (by omega)) (zi_S (As := [.int (nI d)]) (rest := [.int (nI 1), .int (nI (ztab 2 d))]) F d_MO_putCopy_102 q_679 q_680 q_7 q_681 (Or.inl ⟨_, _, rfl⟩) (by decide) (show Option.map (fun d => d.parameters.length) (parseMethodDescriptor y_MO_distanceBits.desc) = some 1 from by decide +kernel)) d_MO_putCopy_102 q_681 (Or.inl ⟨_, _, rfl⟩) q_7 [] [0, 1] rfl rfl rfl rfl (by decide) ⟨by decide, by decide, by decide, by decide⟩ (Nat.le_of_ble_eq_true rfl) (fun v w1 hq => ?_) (fun X w1 hq => ?_)
                  · obtain ⟨rfl, rfl⟩ := hq
                    rw [zdb_tab d (by omega)]
                    show zj G 0 0 105 [(0, .ref m), (2, .int (nI dist)), (5, .int (nI d)), (6, .int (nI (ztab 2 d)))] [.int (nI (ztab 3 d)), .int (nI 1), .int (nI (ztab 2 d))] [zO m 6 [.int fa, .ref ta, .int tn, .ref re, .int sz, .ref da, .int dn, .ref ro, .int rn, .int ba, .ref li, .ref di, .ref lc, .ref la, .ref ou, .int (nI s2.2.1), .int (nI s2.2.2.1), .int (nI s2.2.2.2), .ref he, .ref ch], zB K ou 65536 (zby oo2)]
                    refine zj_ishl (z := nI (1 * 2 ^ ztab 3 d)) F d_MO_putCopy_105 (zI_shl (by omega)) ?_
                    refine zj_iadd (z := nI (ztab 2 (d + 1))) F d_MO_putCopy_106 (by rw [Nat.one_mul, nI_add, zlnd_tab d (by omega)]) ?_
                    refine zj_istore (L' := [(6, .int (nI (ztab 2 (d + 1)))), (0, .ref m), (2, .int (nI dist)), (5, .int (nI d))]) F d_MO_putCopy_107 (by decide) rfl ?_
                    refine zj_iinc (v := nI (d + 1)) (L' := [(5, .int (nI (d + 1))), (6, .int (nI (ztab 2 (d + 1)))), (0, .ref m), (2, .int (nI dist))]) F d_MO_putCopy_109 3 rfl (nI_add _ _) (by decide) rfl ?_
                    refine zj_goto F d_MO_putCopy_112 (tgt := 83) (by decide) ?_
                    exact zj_sub [2, 3, 0, 1] rfl (ih (d + 1) (by omega) (by omega) d3)
                  · exact hq.elim
              · exact hq.elim
          exact zj_sub [2, 4, 1, 0] rfl (keyD 29 0 (by decide) g3 hkd)
        · exact hq.elim
      · exact hq.elim
    · exact hq.elim
  refine zj_sipush (v := nI 257) F d_MO_putCopy_0 (by decide) ?_
  refine zj_istore_n (L' := [(3, .int (nI 257)), (0, .ref m), (1, .int (nI len)), (2, .int (nI dist))]) F d_MO_putCopy_3 rfl (by decide) rfl ?_
  refine zj_iconst (v := nI 3) F d_MO_putCopy_4 (by decide) ?_
  refine zj_istore (L' := [(4, .int (nI 3)), (3, .int (nI 257)), (0, .ref m), (1, .int (nI len)), (2, .int (nI dist))]) F d_MO_putCopy_5 (by decide) rfl ?_
  have keyL : ∀ q i, i + q = 27 → zlbs i ≤ len → zlna zlbs len q (i + 1) = zlna zlbs len 27 1 → zj G 0 0 7 [(0, .ref m), (1, .int (nI len)), (2, .int (nI dist)), (3, .int (nI (257 + i))), (4, .int (nI (zlbs i)))] [] [zO m 6 [.int fa, .ref ta, .int tn, .ref re, .int sz, .ref da, .int dn, .ref ro, .int rn, .int ba, .ref li, .ref di, .ref lc, .ref la, .ref ou, .int (nI s.2.1), .int (nI s.2.2.1), .int (nI s.2.2.2), .ref he, .ref ch], zB K ou 65536 (zby oo)] := by
    have done : ∀ i, i < 28 → i = zlna zlbs len 27 1 → zlbs i ≤ len → zj G 0 0 44 [(0, .ref m), (1, .int (nI len)), (2, .int (nI dist)), (3, .int (nI (257 + i))), (4, .int (nI (zlbs i)))] [] [zO m 6 [.int fa, .ref ta, .int tn, .ref re, .int sz, .ref da, .int dn, .ref ro, .int rn, .int ba, .ref li, .ref di, .ref lc, .ref la, .ref ou, .int (nI s.2.1), .int (nI s.2.2.1), .int (nI s.2.2.2), .ref he, .ref ch], zB K ou 65536 (zby oo)] := by
      intro i j1 j2 j3
      show zj G 0 0 44 [(0, .ref m), (1, .int (nI len)), (2, .int (nI dist)), (3, .int (nI (257 + i))), (4, .int (nI (zlbs i)))] [] [zO m 6 [.int fa, .ref ta, .int tn, .ref re, .int sz, .ref da, .int dn, .ref ro, .int rn, .int ba, .ref li, .ref di, .ref lc, .ref la, .ref ou, .int (nI s.2.1), .int (nI s.2.2.1), .int (nI s.2.2.2), .ref he, .ref ch], zB K ou 65536 (zby oo)]
      refine zj_iload_n F d_MO_putCopy_44 1 rfl rfl ?_
      refine zj_sipush (v := nI 258) F d_MO_putCopy_45 (by decide) ?_
      refine zj_icmp_ne (tgt := 60) F d_MO_putCopy_48 (by decide) (nI_eq (by omega) (by omega)) (fun h48 => ?_) (fun h48 => ?_)
      · rw [if_neg h48, ← j2] at hml
        rw [← hml, ← zlbs_tab i j1] at tail
        exact zj_sub [0, 1, 2, 3, 4] rfl tail
      · rw [if_pos h48] at hml
        rw [← hml] at tail
        refine zj_sipush (v := nI 285) F d_MO_putCopy_51 (by decide) ?_
        refine zj_istore_n (L' := [(3, .int (nI 285)), (0, .ref m), (1, .int (nI len)), (2, .int (nI dist)), (4, .int (nI (zlbs i)))]) F d_MO_putCopy_54 rfl (by decide) rfl ?_
        refine zj_sipush (v := nI 258) F d_MO_putCopy_55 (by decide) ?_
        refine zj_istore (L' := [(4, .int (nI 258)), (3, .int (nI 285)), (0, .ref m), (1, .int (nI len)), (2, .int (nI dist))]) F d_MO_putCopy_58 (by decide) rfl ?_
        exact zj_sub [2, 3, 4, 1, 0] rfl tail
    intro q
    induction q with
    | zero =>
      intro i j1 j2 j3
      show zj G 0 0 7 [(0, .ref m), (1, .int (nI len)), (2, .int (nI dist)), (3, .int (nI (257 + i))), (4, .int (nI (zlbs i)))] [] [zO m 6 [.int fa, .ref ta, .int tn, .ref re, .int sz, .ref da, .int dn, .ref ro, .int rn, .int ba, .ref li, .ref di, .ref lc, .ref la, .ref ou, .int (nI s.2.1), .int (nI s.2.2.1), .int (nI s.2.2.2), .ref he, .ref ch], zB K ou 65536 (zby oo)]
      refine zj_iload_n F d_MO_putCopy_7 3 rfl rfl ?_
      refine zj_sipush (v := nI 284) F d_MO_putCopy_8 (by decide) ?_
      refine zj_icmp_ge (tgt := 44) F d_MO_putCopy_11 (by decide) (nI_leI (by omega) (by omega)) (fun h11 => ?_) (fun h11 => ?_)
      · exact zj_sub [0, 1, 2, 3, 4] rfl (done i (by omega) j3 j2)
      · exact absurd h11 (by omega)
    | succ q ih =>
      intro i j1 j2 j3
      have hli := zlbs_le i (by omega)
      have hlj := zlbs_le (i + 1) (by omega)
      show zj G 0 0 7 [(0, .ref m), (1, .int (nI len)), (2, .int (nI dist)), (3, .int (nI (257 + i))), (4, .int (nI (zlbs i)))] [] [zO m 6 [.int fa, .ref ta, .int tn, .ref re, .int sz, .ref da, .int dn, .ref ro, .int rn, .int ba, .ref li, .ref di, .ref lc, .ref la, .ref ou, .int (nI s.2.1), .int (nI s.2.2.1), .int (nI s.2.2.2), .ref he, .ref ch], zB K ou 65536 (zby oo)]
      refine zj_iload_n F d_MO_putCopy_7 3 rfl rfl ?_
      refine zj_sipush (v := nI 284) F d_MO_putCopy_8 (by decide) ?_
      refine zj_icmp_ge (tgt := 44) F d_MO_putCopy_11 (by decide) (nI_leI (by omega) (by omega)) (fun h11 => ?_) (fun h11 => ?_)
      · exact absurd h11 (by omega)
      · refine zj_iload F d_MO_putCopy_14 4 rfl ?_
        refine zj_iconst (v := nI 1) F d_MO_putCopy_16 (by decide) ?_
        refine zj_iload_n F d_MO_putCopy_17 3 rfl rfl ?_
        refine zj_call (maxL := 1) (wr := [zO m 6 [.int fa, .ref ta, .int tn, .ref re, .int sz, .ref da, .int dn, .ref ro, .int rn, .int ba, .ref li, .ref di, .ref lc, .ref la, .ref ou, .int (nI s.2.1), .int (nI s.2.2.1), .int (nI s.2.2.2), .ref he, .ref ch], zB K ou 65536 (zby oo)]) F E (m_MO_lengthBits l K (257 + i) (by omega)) (zi_S (As := [.int (nI (257 + i))]) (rest := [.int (nI 1), .int (nI (zlbs i))]) F d_MO_putCopy_18 q_676 q_677 q_7 q_678 (Or.inl ⟨_, _, rfl⟩) (by decide) (show Option.map (fun d => d.parameters.length) (parseMethodDescriptor y_MO_lengthBits.desc) = some 1 from by decide +kernel)) d_MO_putCopy_18 q_678 (Or.inl ⟨_, _, rfl⟩) q_7 [] [0, 1] rfl rfl rfl rfl (by decide) ⟨by decide, by decide, by decide, by decide⟩ (Nat.le_of_ble_eq_true rfl) (fun v w1 hq => ?_) (fun X w1 hq => ?_)
        · obtain ⟨rfl, rfl⟩ := hq
          show zj G 0 0 21 [(0, .ref m), (1, .int (nI len)), (2, .int (nI dist)), (3, .int (nI (257 + i))), (4, .int (nI (zlbs i)))] [.int (nI (zlb (257 + i))), .int (nI 1), .int (nI (zlbs i))] [zO m 6 [.int fa, .ref ta, .int tn, .ref re, .int sz, .ref da, .int dn, .ref ro, .int rn, .int ba, .ref li, .ref di, .ref lc, .ref la, .ref ou, .int (nI s.2.1), .int (nI s.2.2.1), .int (nI s.2.2.2), .ref he, .ref ch], zB K ou 65536 (zby oo)]
          refine zj_ishl (z := nI (1 * 2 ^ zlb (257 + i))) F d_MO_putCopy_21 (zI_shl (by omega)) ?_
          refine zj_iadd (z := nI (zlbs (i + 1))) F d_MO_putCopy_22 (by rw [Nat.one_mul, nI_add]; rfl) ?_
          refine zj_iload_n F d_MO_putCopy_23 1 rfl rfl ?_
          refine zj_icmp_gt (tgt := 44) F d_MO_putCopy_24 (by decide) (nI_ltI (by omega) (by omega)) (fun h24 => ?_) (fun h24 => ?_)
          · have j4 : zlna zlbs len (q + 1) (i + 1) = i := by
              unfold zlna
              rw [if_neg (by omega), Nat.add_sub_cancel]
            exact zj_sub [0, 1, 2, 3, 4] rfl (done i (by omega) (j4.symm.trans j3) j2)
          · have j4 : zlna zlbs len (q + 1) (i + 1) = zlna zlbs len q (i + 1 + 1) := by
              conv => lhs; unfold zlna
              rw [if_pos (by omega)]
            refine zj_iload F d_MO_putCopy_27 4 rfl ?_
            refine zj_iconst (v := nI 1) F d_MO_putCopy_29 (by decide) ?_
            refine zj_iload_n F d_MO_putCopy_30 3 rfl rfl ?_
            refine zj_call (maxL := 1) (wr := [zO m 6 [.int fa, .ref ta, .int tn, .ref re, .int sz, .ref da, .int dn, .ref ro, .int rn, .int ba, .ref li, .ref di, .ref lc, .ref la, .ref ou, .int (nI s.2.1), .int (nI s.2.2.1), .int (nI s.2.2.2), .ref he, .ref ch], zB K ou 65536 (zby oo)]) F E (m_MO_lengthBits l K (257 + i) (by omega)) (zi_S (As := [.int (nI (257 + i))]) (rest := [.int (nI 1), .int (nI (zlbs i))]) F d_MO_putCopy_31 q_676 q_677 q_7 q_678 (Or.inl ⟨_, _, rfl⟩) (by decide) (show Option.map (fun d => d.parameters.length) (parseMethodDescriptor y_MO_lengthBits.desc) = some 1 from by decide +kernel)) d_MO_putCopy_31 q_678 (Or.inl ⟨_, _, rfl⟩) q_7 [] [0, 1] rfl rfl rfl rfl (by decide) ⟨by decide, by decide, by decide, by decide⟩ (Nat.le_of_ble_eq_true rfl) (fun v w1 hq => ?_) (fun X w1 hq => ?_)
            · obtain ⟨rfl, rfl⟩ := hq
              show zj G 0 0 34 [(0, .ref m), (1, .int (nI len)), (2, .int (nI dist)), (3, .int (nI (257 + i))), (4, .int (nI (zlbs i)))] [.int (nI (zlb (257 + i))), .int (nI 1), .int (nI (zlbs i))] [zO m 6 [.int fa, .ref ta, .int tn, .ref re, .int sz, .ref da, .int dn, .ref ro, .int rn, .int ba, .ref li, .ref di, .ref lc, .ref la, .ref ou, .int (nI s.2.1), .int (nI s.2.2.1), .int (nI s.2.2.2), .ref he, .ref ch], zB K ou 65536 (zby oo)]
              refine zj_ishl (z := nI (1 * 2 ^ zlb (257 + i))) F d_MO_putCopy_34 (zI_shl (by omega)) ?_
              refine zj_iadd (z := nI (zlbs (i + 1))) F d_MO_putCopy_35 (by rw [Nat.one_mul, nI_add]; rfl) ?_
              refine zj_istore (L' := [(4, .int (nI (zlbs (i + 1)))), (0, .ref m), (1, .int (nI len)), (2, .int (nI dist)), (3, .int (nI (257 + i)))]) F d_MO_putCopy_36 (by decide) rfl ?_
              refine zj_iinc (v := nI (257 + (i + 1))) (L' := [(3, .int (nI (257 + (i + 1)))), (4, .int (nI (zlbs (i + 1)))), (0, .ref m), (1, .int (nI len)), (2, .int (nI dist))]) F d_MO_putCopy_38 4 rfl (by rw [← Nat.add_assoc]; exact nI_add _ _) (by decide) rfl ?_
              refine zj_goto F d_MO_putCopy_41 (tgt := 7) (by decide) ?_
              exact zj_sub [2, 3, 4, 0, 1] rfl (ih (i + 1) (by omega) (by omega) (j4.symm.trans j3))
            · exact hq.elim
        · exact hq.elim
  exact zj_sub [2, 3, 4, 1, 0] rfl (keyL 27 0 (by decide) g1 rfl)
