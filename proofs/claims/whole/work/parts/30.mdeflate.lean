theorem zlow_shr {x k : Nat} (hk : k ≤ 24) : zlow (nI x >>> (nI k &&& 31)) = x / 2 ^ k % 256 := by
  show (BitVec.sshiftRight (BitVec.ofNat 32 x) ((nI k &&& 31).toBitVec.smod 32).toNat).toNat % 2 ^ 8 = x / 2 ^ k % 2 ^ 8
  rw [zI_sh k (by omega)]
  apply Nat.eq_of_testBit_eq
  intro i
  rw [Nat.testBit_mod_two_pow, Nat.testBit_mod_two_pow, Nat.testBit_div_two_pow, BitVec.testBit_toNat, BitVec.getLsbD_sshiftRight, BitVec.getLsbD_ofNat]
  by_cases h : i < 8
  · have h1 : k + i < 32 := by omega
    have h2 : ¬ 32 ≤ i := by omega
    simp [h, h1, h2, Nat.add_comm]
  · simp [h]
theorem zI_sh64 : ∀ k, k < 32 → (((nI k).toInt64 &&& 63).toBitVec.smod 64).toNat = k := by decide +kernel
theorem zlow_shr64 {x k : Nat} (hk : k ≤ 24) : zlow (Int64.ofNat x >>> ((nI k).toInt64 &&& 63)).toInt32 = x / 2 ^ k % 256 := by
  show (BitVec.signExtend 32 (BitVec.sshiftRight (BitVec.ofNat 64 x) (((nI k).toInt64 &&& 63).toBitVec.smod 64).toNat)).toNat % 2 ^ 8 = x / 2 ^ k % 2 ^ 8
  rw [zI_sh64 k (by omega)]
  apply Nat.eq_of_testBit_eq
  intro i
  rw [Nat.testBit_mod_two_pow, Nat.testBit_mod_two_pow, Nat.testBit_div_two_pow, BitVec.testBit_toNat, BitVec.getLsbD_signExtend, BitVec.getLsbD_sshiftRight, BitVec.getLsbD_ofNat]
  by_cases h : i < 8
  · have h1 : k + i < 64 := by omega
    have h2 : ¬ 64 ≤ i := by omega
    have h3 : i < 32 := by omega
    have h4 : i < 64 := by omega
    simp [h, h1, h2, h3, h4, Nat.add_comm]
  · simp [h]
theorem zint_big (o : Nat → Nat) (w x : Nat) : zint o w (nI x) = va_up (va_up (va_up (va_up o w (x / 2 ^ 24 % 256)) (w + 1) (x / 2 ^ 16 % 256)) (w + 2) (x / 2 ^ 8 % 256)) (w + 3) (x / 2 ^ 0 % 256) := by
  unfold zint
  rw [zlow_shr (by decide), zlow_shr (by decide), zlow_shr (by decide), zlow_nI, Nat.pow_zero, Nat.div_one]
theorem zI_nat (x : Int32) : nI x.toBitVec.toNat = x := by
  apply zI_inj
  show BitVec.ofNat 32 x.toBitVec.toNat = x.toBitVec
  simp
/-- the mark of three bytes -/
def zmv (a b c : Nat) : Nat := ((nI ((a * 65793 + b * 257 + c) * 40503) >>> (nI 4 &&& 31)) &&& nI 65535).toBitVec.toNat
def zmk (t : Nat → Nat) (p : Nat) : Nat := zmv (t p) (t (p + 1)) (t (p + 2))
theorem zmk_lt (t : Nat → Nat) (p : Nat) : zmk t p < 65536 := by
  have h : ∀ x : Int32, (x &&& nI 65535).toBitVec.toNat < 65536 := by
    intro x
    show (x.toBitVec &&& (nI 65535).toBitVec).toNat < 65536
    rw [BitVec.toNat_and]
    have h1 : (nI 65535).toBitVec.toNat = 65535 := by decide
    rw [h1]
    have := Nat.and_le_right (n := x.toBitVec.toNat) (m := 65535)
    omega
  exact h _
theorem zmk_eq (t : Nat → Nat) : ∀ a b, t a = t b → t (a + 1) = t (b + 1) → t (a + 2) = t (b + 2) → zmk t a = zmk t b := by
  intro a b h1 h2 h3
  unfold zmk
  rw [h1, h2, h3]
/-- the reference's rows of places, when all before E are marked -/
def zinM (ch hg cg : Nat → Nat) (E : Nat) : Prop := (∀ c, c < 65536 → hg c = zlst ch c E) ∧ ∀ q, q < E → cg q = zlst ch (ch q) q
theorem zinM_s {ch hg cg : Nat → Nat} {E : Nat} (hc : ch E < 65536) (h : zinM ch hg cg E) : zinM ch (va_up hg (ch E) (E + 1)) (va_up cg E (hg (ch E))) (E + 1) := by
  refine ⟨?_, ?_⟩
  · intro c h1
    unfold zlst va_up
    by_cases h2 : ch E = c
    · rw [if_pos h2.symm, if_pos h2]
    · rw [if_neg (fun h3 => h2 h3.symm), if_neg h2]
      exact h.1 c h1
  · intro q h1
    by_cases h3 : q = E
    · subst h3
      rw [va_up_self]
      exact h.1 _ hc
    · rw [va_up_ne _ _ h3]
      exact h.2 q (by omega)
theorem zm1_updm (g : Nat → Nat) (k : Nat) : upd (zm1 g) k (-1) = zm1 (va_up g k 0) := by
  rw [← zm1_upd]
  rfl
theorem zlit_bits (s : zps) (x : Nat) : 8 * (zlit s x).2.1 + (zlit s x).2.2.2 ≤ 8 * s.2.1 + s.2.2.2 + 9 := by
  have h1 := zput_bits s (ztu (zlitC x) (zlitB x)) (zlitB x)
  have h2 : zlitB x ≤ 9 := by unfold zlitB; (repeat' split) <;> decide
  have h3 : 8 * (zlit s x).2.1 + (zlit s x).2.2.2 = 8 * s.2.1 + s.2.2.2 + zlitB x := h1
  omega
theorem zcpP_bits {s : zps} {len dist : Nat} (h1 : 3 ≤ len) (h2 : len ≤ 258) (h3 : 1 ≤ dist) (h4 : dist ≤ 4096) : 8 * (zcpP s len dist).2.1 + (zcpP s len dist).2.2.2 ≤ 8 * s.2.1 + s.2.2.2 + 32 := by
  unfold zcpP
  rw [zput_bits, zput_bits, zput_bits]
  have a1 := zlit_bits s (257 + zlnl len)
  have a2 := (ztab_len _ (zlnl_ok len (by omega) h1).1).1
  have a3 := (ztab_dis _ (show zlnd dist < 30 by have := (zlnd_ok h3 h4).1; omega)).1
  omega
set_option maxHeartbeats 4000000 in
set_option maxRecDepth 100000 in
/-- putBig(v) -/
theorem m_MO_putBig (l : Launch) (K : zk) (m ta re da ro li di lc la ou he ch : Nat) (fa tn sz dn rn ba bb bc : Int32) (w x : Nat) (o oo : Nat → Nat) (hw : w + 4 < 65536) (hag : ∀ j, j < w → oo j = o j) (hoo : ∀ j, oo j < 256) : zc l K y_MO_putBig w_MO_putBig { frames := 1, cells := 0, slots := 0, locals := 21 } 0 0 0 0 [.ref m, .long (Int64.ofNat x)] [zO m 6 [.int fa, .ref ta, .int tn, .ref re, .int sz, .ref da, .int dn, .ref ro, .int rn, .int ba, .ref li, .ref di, .ref lc, .ref la, .ref ou, .int (nI w), .int bb, .int bc, .ref he, .ref ch], zB K ou 65536 (zby oo)] (fun r w1 => ∃ oo', (∀ j, j < w + 4 → oo' j = zint o w (nI x) j) ∧ (∀ j, oo' j < 256) ∧ r = none ∧ w1 = [zO m 6 [.int fa, .ref ta, .int tn, .ref re, .int sz, .ref da, .int dn, .ref ro, .int rn, .int ba, .ref li, .ref di, .ref lc, .ref la, .ref ou, .int (nI (w + 4)), .int bb, .int bc, .ref he, .ref ch], zB K ou 65536 (zby oo')]) (fun _ _ => False) := by
  refine zc_of (cc := c_MO_putBig) (nl := 4) (ret := none) (by decide) (Nat.le_of_ble_eq_true rfl) (fun G F E => ?_)
  have F : zf G l K { frames := 1, cells := 0, slots := 0, locals := 21 } "ZlibBoxModel" c_MO_putBig 4 := F
  show zj G 0 0 0 [(0, .ref m), (1, .long (Int64.ofNat x))] [] [zO m 6 [.int fa, .ref ta, .int tn, .ref re, .int sz, .ref da, .int dn, .ref ro, .int rn, .int ba, .ref li, .ref di, .ref lc, .ref la, .ref ou, .int (nI w), .int bb, .int bc, .ref he, .ref ch], zB K ou 65536 (zby oo)]
  refine zj_bipush (v := nI 24) F d_MO_putBig_0 (by decide) ?_
  refine zj_istore_n (L' := [(3, .int (nI 24)), (0, .ref m), (1, .long (Int64.ofNat x))]) F d_MO_putBig_2 rfl (by decide) rfl ?_
  refine zj_iload_n F d_MO_putBig_3 0 rfl rfl ?_
  refine zj_if_lt (tgt := 21) F d_MO_putBig_4 (by decide) (zI_lt0 (by omega)) (fun h4 => ?_) (fun h4 => ?_)
  · exact absurd h4 (by decide)
  · refine zj_aload_n F d_MO_putBig_7 1 rfl rfl ?_
    refine zj_lload_n F d_MO_putBig_8 2 rfl rfl ?_
    refine zj_iload_n F d_MO_putBig_9 0 rfl rfl ?_
    refine zj_lshr (z := Int64.ofNat x >>> ((nI 24).toInt64 &&& 63)) F d_MO_putBig_10 rfl ?_
    refine zj_l2i F d_MO_putBig_11 rfl ?_
    refine zj_call (maxL := 2) (wr := []) F E (m_MO_put l K m ta re da ro li di lc la ou he ch fa tn sz dn rn ba bb bc w (x / 2 ^ 24 % 256) (Int64.ofNat x >>> ((nI 24).toInt64 &&& 63)).toInt32 oo (by omega) (zlow_shr64 (by decide))) (zi_V (As := [.int ((Int64.ofNat x >>> ((nI 24).toInt64 &&& 63)).toInt32)]) (rest := []) F d_MO_putBig_12 0 rfl rfl rfl q_697 q_699 sel_MO_put q_700 (Or.inl ⟨_, _, rfl⟩) (by decide) (show Option.map (fun d => d.parameters.length) (parseMethodDescriptor y_MO_put.desc) = some 1 from by decide +kernel)) d_MO_putBig_12 q_700 (Or.inl ⟨_, _, rfl⟩) q_7 [0, 1] [] rfl rfl rfl rfl (by decide) ⟨by decide, by decide, by decide, by decide⟩ (Nat.le_of_ble_eq_true rfl) (fun v w1 hq => ?_) (fun X w1 hq => ?_)
    · obtain ⟨rfl, rfl⟩ := hq
      show zj G 0 0 15 [(3, .int (nI 24)), (0, .ref m), (1, .long (Int64.ofNat x))] [] [zO m 6 [.int fa, .ref ta, .int tn, .ref re, .int sz, .ref da, .int dn, .ref ro, .int rn, .int ba, .ref li, .ref di, .ref lc, .ref la, .ref ou, .int (nI (w + 1)), .int bb, .int bc, .ref he, .ref ch], zB K ou 65536 (zby (va_up oo w (x / 2 ^ 24 % 256)))]
      refine zj_iinc (v := nI 16) (L' := [(3, .int (nI 16)), (0, .ref m), (1, .long (Int64.ofNat x))]) F d_MO_putBig_15 0 rfl (by decide) (by decide) rfl ?_
      refine zj_goto F d_MO_putBig_18 (tgt := 3) (by decide) ?_
      refine zj_iload_n F d_MO_putBig_3 0 rfl rfl ?_
      refine zj_if_lt (tgt := 21) F d_MO_putBig_4 (by decide) (zI_lt0 (by omega)) (fun h4 => ?_) (fun h4 => ?_)
      · exact absurd h4 (by decide)
      · refine zj_aload_n F d_MO_putBig_7 1 rfl rfl ?_
        refine zj_lload_n F d_MO_putBig_8 2 rfl rfl ?_
        refine zj_iload_n F d_MO_putBig_9 0 rfl rfl ?_
        refine zj_lshr (z := Int64.ofNat x >>> ((nI 16).toInt64 &&& 63)) F d_MO_putBig_10 rfl ?_
        refine zj_l2i F d_MO_putBig_11 rfl ?_
        refine zj_call (maxL := 2) (wr := []) F E (m_MO_put l K m ta re da ro li di lc la ou he ch fa tn sz dn rn ba bb bc (w + 1) (x / 2 ^ 16 % 256) (Int64.ofNat x >>> ((nI 16).toInt64 &&& 63)).toInt32 (va_up oo w (x / 2 ^ 24 % 256)) (by omega) (zlow_shr64 (by decide))) (zi_V (As := [.int ((Int64.ofNat x >>> ((nI 16).toInt64 &&& 63)).toInt32)]) (rest := []) F d_MO_putBig_12 0 rfl rfl rfl q_697 q_699 sel_MO_put q_700 (Or.inl ⟨_, _, rfl⟩) (by decide) (show Option.map (fun d => d.parameters.length) (parseMethodDescriptor y_MO_put.desc) = some 1 from by decide +kernel)) d_MO_putBig_12 q_700 (Or.inl ⟨_, _, rfl⟩) q_7 [0, 1] [] rfl rfl rfl rfl (by decide) ⟨by decide, by decide, by decide, by decide⟩ (Nat.le_of_ble_eq_true rfl) (fun v w1 hq => ?_) (fun X w1 hq => ?_)
        · obtain ⟨rfl, rfl⟩ := hq
          show zj G 0 0 15 [(3, .int (nI 16)), (0, .ref m), (1, .long (Int64.ofNat x))] [] [zO m 6 [.int fa, .ref ta, .int tn, .ref re, .int sz, .ref da, .int dn, .ref ro, .int rn, .int ba, .ref li, .ref di, .ref lc, .ref la, .ref ou, .int (nI (w + 2)), .int bb, .int bc, .ref he, .ref ch], zB K ou 65536 (zby (va_up (va_up oo w (x / 2 ^ 24 % 256)) (w + 1) (x / 2 ^ 16 % 256)))]
          refine zj_iinc (v := nI 8) (L' := [(3, .int (nI 8)), (0, .ref m), (1, .long (Int64.ofNat x))]) F d_MO_putBig_15 0 rfl (by decide) (by decide) rfl ?_
          refine zj_goto F d_MO_putBig_18 (tgt := 3) (by decide) ?_
          refine zj_iload_n F d_MO_putBig_3 0 rfl rfl ?_
          refine zj_if_lt (tgt := 21) F d_MO_putBig_4 (by decide) (zI_lt0 (by omega)) (fun h4 => ?_) (fun h4 => ?_)
          · exact absurd h4 (by decide)
          · refine zj_aload_n F d_MO_putBig_7 1 rfl rfl ?_
            refine zj_lload_n F d_MO_putBig_8 2 rfl rfl ?_
            refine zj_iload_n F d_MO_putBig_9 0 rfl rfl ?_
            refine zj_lshr (z := Int64.ofNat x >>> ((nI 8).toInt64 &&& 63)) F d_MO_putBig_10 rfl ?_
            refine zj_l2i F d_MO_putBig_11 rfl ?_
            refine zj_call (maxL := 2) (wr := []) F E (m_MO_put l K m ta re da ro li di lc la ou he ch fa tn sz dn rn ba bb bc (w + 2) (x / 2 ^ 8 % 256) (Int64.ofNat x >>> ((nI 8).toInt64 &&& 63)).toInt32 (va_up (va_up oo w (x / 2 ^ 24 % 256)) (w + 1) (x / 2 ^ 16 % 256)) (by omega) (zlow_shr64 (by decide))) (zi_V (As := [.int ((Int64.ofNat x >>> ((nI 8).toInt64 &&& 63)).toInt32)]) (rest := []) F d_MO_putBig_12 0 rfl rfl rfl q_697 q_699 sel_MO_put q_700 (Or.inl ⟨_, _, rfl⟩) (by decide) (show Option.map (fun d => d.parameters.length) (parseMethodDescriptor y_MO_put.desc) = some 1 from by decide +kernel)) d_MO_putBig_12 q_700 (Or.inl ⟨_, _, rfl⟩) q_7 [0, 1] [] rfl rfl rfl rfl (by decide) ⟨by decide, by decide, by decide, by decide⟩ (Nat.le_of_ble_eq_true rfl) (fun v w1 hq => ?_) (fun X w1 hq => ?_)
            · obtain ⟨rfl, rfl⟩ := hq
              show zj G 0 0 15 [(3, .int (nI 8)), (0, .ref m), (1, .long (Int64.ofNat x))] [] [zO m 6 [.int fa, .ref ta, .int tn, .ref re, .int sz, .ref da, .int dn, .ref ro, .int rn, .int ba, .ref li, .ref di, .ref lc, .ref la, .ref ou, .int (nI (w + 3)), .int bb, .int bc, .ref he, .ref ch], zB K ou 65536 (zby (va_up (va_up (va_up oo w (x / 2 ^ 24 % 256)) (w + 1) (x / 2 ^ 16 % 256)) (w + 2) (x / 2 ^ 8 % 256)))]
              refine zj_iinc (v := nI 0) (L' := [(3, .int (nI 0)), (0, .ref m), (1, .long (Int64.ofNat x))]) F d_MO_putBig_15 0 rfl (by decide) (by decide) rfl ?_
              refine zj_goto F d_MO_putBig_18 (tgt := 3) (by decide) ?_
              refine zj_iload_n F d_MO_putBig_3 0 rfl rfl ?_
              refine zj_if_lt (tgt := 21) F d_MO_putBig_4 (by decide) (zI_lt0 (by omega)) (fun h4 => ?_) (fun h4 => ?_)
              · exact absurd h4 (by decide)
              · refine zj_aload_n F d_MO_putBig_7 1 rfl rfl ?_
                refine zj_lload_n F d_MO_putBig_8 2 rfl rfl ?_
                refine zj_iload_n F d_MO_putBig_9 0 rfl rfl ?_
                refine zj_lshr (z := Int64.ofNat x >>> ((nI 0).toInt64 &&& 63)) F d_MO_putBig_10 rfl ?_
                refine zj_l2i F d_MO_putBig_11 rfl ?_
                refine zj_call (maxL := 2) (wr := []) F E (m_MO_put l K m ta re da ro li di lc la ou he ch fa tn sz dn rn ba bb bc (w + 3) (x / 2 ^ 0 % 256) (Int64.ofNat x >>> ((nI 0).toInt64 &&& 63)).toInt32 (va_up (va_up (va_up oo w (x / 2 ^ 24 % 256)) (w + 1) (x / 2 ^ 16 % 256)) (w + 2) (x / 2 ^ 8 % 256)) (by omega) (zlow_shr64 (by decide))) (zi_V (As := [.int ((Int64.ofNat x >>> ((nI 0).toInt64 &&& 63)).toInt32)]) (rest := []) F d_MO_putBig_12 0 rfl rfl rfl q_697 q_699 sel_MO_put q_700 (Or.inl ⟨_, _, rfl⟩) (by decide) (show Option.map (fun d => d.parameters.length) (parseMethodDescriptor y_MO_put.desc) = some 1 from by decide +kernel)) d_MO_putBig_12 q_700 (Or.inl ⟨_, _, rfl⟩) q_7 [0, 1] [] rfl rfl rfl rfl (by decide) ⟨by decide, by decide, by decide, by decide⟩ (Nat.le_of_ble_eq_true rfl) (fun v w1 hq => ?_) (fun X w1 hq => ?_)
                · obtain ⟨rfl, rfl⟩ := hq
                  show zj G 0 0 15 [(3, .int (nI 0)), (0, .ref m), (1, .long (Int64.ofNat x))] [] [zO m 6 [.int fa, .ref ta, .int tn, .ref re, .int sz, .ref da, .int dn, .ref ro, .int rn, .int ba, .ref li, .ref di, .ref lc, .ref la, .ref ou, .int (nI (w + 4)), .int bb, .int bc, .ref he, .ref ch], zB K ou 65536 (zby (va_up (va_up (va_up (va_up oo w (x / 2 ^ 24 % 256)) (w + 1) (x / 2 ^ 16 % 256)) (w + 2) (x / 2 ^ 8 % 256)) (w + 3) (x / 2 ^ 0 % 256)))]
                  refine zj_iinc (v := (-8)) (L' := [(3, .int (-8)), (0, .ref m), (1, .long (Int64.ofNat x))]) F d_MO_putBig_15 0 rfl (by decide) (by decide) rfl ?_
                  refine zj_goto F d_MO_putBig_18 (tgt := 3) (by decide) ?_
                  refine zj_iload_n F d_MO_putBig_3 0 rfl rfl ?_
                  refine zj_if_lt (tgt := 21) F d_MO_putBig_4 (by decide) Iff.rfl (fun h4 => ?_) (fun h4 => ?_)
                  · have hu : ∀ y, y % 256 < 256 := fun y => Nat.mod_lt _ (by decide)
                    exact zj_vret F E d_MO_putBig_21 (Nat.le_refl _) (Nat.le_refl _) ⟨_, by rw [zint_big]; exact zag_up (zag_up (zag_up (zag_up hag _) _) _) _, zup_lt (zup_lt (zup_lt (zup_lt hoo _ (hu _)) _ (hu _)) _ (hu _)) _ (hu _), rfl, rfl⟩
                  · exact absurd (show (-8 : Int32) < 0 by decide) h4
                · exact hq.elim
            · exact hq.elim
        · exact hq.elim
    · exact hq.elim
set_option maxHeartbeats 4000000 in
set_option maxRecDepth 100000 in
/-- mark(k) -/
theorem m_MO_mark (l : Launch) (K : zk) (m ta re da ro li di lc la ou he ch : Nat) (fa tn sz dn rn ba os bb bc : Int32) (k : Nat) (t rr : Nat → Nat) (hb : ∀ j, t j < 256) (h0 : rr k = t k) (h1 : rr (k + 1) = t (k + 1)) (h2 : rr (k + 2) = t (k + 2)) (hk : k + 2 < 16384) : zc l K y_MO_mark w_MO_mark { frames := 0, cells := 0, slots := 0, locals := 0 } 0 0 0 0 [.ref m, .int (nI k)] [zO m 6 [.int fa, .ref ta, .int tn, .ref re, .int sz, .ref da, .int dn, .ref ro, .int rn, .int ba, .ref li, .ref di, .ref lc, .ref la, .ref ou, .int os, .int bb, .int bc, .ref he, .ref ch], zB K ro 16640 (zby rr)] (fun r w1 => r = some (.int (nI (zmk t k))) ∧ w1 = [zO m 6 [.int fa, .ref ta, .int tn, .ref re, .int sz, .ref da, .int dn, .ref ro, .int rn, .int ba, .ref li, .ref di, .ref lc, .ref la, .ref ou, .int os, .int bb, .int bc, .ref he, .ref ch], zB K ro 16640 (zby rr)]) (fun _ _ => False) := by
  refine zc_of (cc := c_MO_mark) (nl := 2) (ret := (some .int)) (by decide) (Nat.le_of_ble_eq_true rfl) (fun G F E => ?_)
  have F : zf G l K { frames := 0, cells := 0, slots := 0, locals := 0 } "ZlibBoxModel" c_MO_mark 2 := F
  show zj G 0 0 0 [(0, .ref m), (1, .int (nI k))] [] [zO m 6 [.int fa, .ref ta, .int tn, .ref re, .int sz, .ref da, .int dn, .ref ro, .int rn, .int ba, .ref li, .ref di, .ref lc, .ref la, .ref ou, .int os, .int bb, .int bc, .ref he, .ref ch], zB K ro 16640 (zby rr)]
  refine zj_aload_n F d_MO_mark_0 0 rfl rfl ?_
  refine zj_get F d_MO_mark_1 0 7 rfl rfl in_MO (by decide) q_558 rfl ?_
  refine zj_iload_n F d_MO_mark_4 1 rfl rfl ?_
  refine zj_bald F d_MO_mark_5 1 0 k rfl rfl rfl (by omega) (by omega) rfl ?_
  refine zj_sipush (v := nI 255) F d_MO_mark_6 (by decide) ?_
  refine zj_iand (z := nI (t k)) F d_MO_mark_9 ((zby_and (by rw [h0]; exact hb _)).trans (by rw [h0])) ?_
  refine zj_ldc (v := nI 65793) F d_MO_mark_10 q_717 ?_
  refine zj_imul F d_MO_mark_12 (pk_mul _ _) ?_
  refine zj_aload_n F d_MO_mark_13 0 rfl rfl ?_
  refine zj_get F d_MO_mark_14 0 7 rfl rfl in_MO (by decide) q_558 rfl ?_
  refine zj_iload_n F d_MO_mark_17 1 rfl rfl ?_
  refine zj_iconst (v := nI 1) F d_MO_mark_18 (by decide) ?_
  refine zj_iadd F d_MO_mark_19 (nI_add _ _) ?_
  refine zj_bald F d_MO_mark_20 1 0 (k + 1) rfl rfl rfl (by omega) (by omega) rfl ?_
  refine zj_sipush (v := nI 255) F d_MO_mark_21 (by decide) ?_
  refine zj_iand (z := nI (t (k + 1))) F d_MO_mark_24 ((zby_and (by rw [h1]; exact hb _)).trans (by rw [h1])) ?_
  refine zj_sipush (v := nI 257) F d_MO_mark_25 (by decide) ?_
  refine zj_imul F d_MO_mark_28 (pk_mul _ _) ?_
  refine zj_iadd F d_MO_mark_29 (nI_add _ _) ?_
  refine zj_aload_n F d_MO_mark_30 0 rfl rfl ?_
  refine zj_get F d_MO_mark_31 0 7 rfl rfl in_MO (by decide) q_558 rfl ?_
  refine zj_iload_n F d_MO_mark_34 1 rfl rfl ?_
  refine zj_iconst (v := nI 2) F d_MO_mark_35 (by decide) ?_
  refine zj_iadd F d_MO_mark_36 (nI_add _ _) ?_
  refine zj_bald F d_MO_mark_37 1 0 (k + 2) rfl rfl rfl (by omega) (by omega) rfl ?_
  refine zj_sipush (v := nI 255) F d_MO_mark_38 (by decide) ?_
  refine zj_iand (z := nI (t (k + 2))) F d_MO_mark_41 ((zby_and (by rw [h2]; exact hb _)).trans (by rw [h2])) ?_
  refine zj_iadd F d_MO_mark_42 (nI_add _ _) ?_
  refine zj_ldc (v := nI 40503) F d_MO_mark_43 q_718 ?_
  refine zj_imul F d_MO_mark_45 (pk_mul _ _) ?_
  refine zj_iconst (v := nI 4) F d_MO_mark_46 (by decide) ?_
  refine zj_ishr (z := nI ((t k * 65793 + t (k + 1) * 257 + t (k + 2)) * 40503) >>> (nI 4 &&& 31)) F d_MO_mark_47 rfl ?_
  refine zj_ldc (v := nI 65535) F d_MO_mark_48 q_644 ?_
  refine zj_iand (z := nI (zmk t k)) F d_MO_mark_50 ((zI_nat _).symm) ?_
  exact zj_iret F E d_MO_mark_51 (Nat.le_refl _) (Nat.le_refl _) ⟨rfl, rfl⟩
theorem zfd_two (t : Nat → Nat) (n p : Nat) : (zfind t n p).2 = 0 ∨ 3 ≤ (zfind t n p).1 := by
  unfold zfind
  by_cases h : 3 ≤ zmost n p
  · rw [if_pos h]
    have h1 := zfd_ok t p (zmost n p) h (min p 4096)
    by_cases h2 : (zfd t p (zmost n p) (min p 4096)).2 = 0
    · left; exact h2
    · right
      dsimp only
      rw [if_neg h2]
      by_cases h5 : (zfd t p (zmost n p) (min p 4096)).1 = 2
      · exact absurd (h1.2.2.2.mpr h5) h2
      · omega
  · rw [if_neg h]; left; rfl
set_option maxHeartbeats 4000000 in
set_option maxRecDepth 100000 in
/-- deflate() -/
theorem m_MO_deflate (l : Launch) (K : zk) (m ta re da ro li di lc la ou he ch : Nat) (fa tn sz dn ba bb bc : Int32) (n w : Nat) (t rr o oo hg cg : Nat → Nat) (R : (Nat → Nat) × Nat) (hb : ∀ j, t j < 256) (hn : n ≤ 16384) (hrr : ∀ j, rr j < 256) (hrt : ∀ j, j < n → rr j = t j) (hw : w = 2) (ho : ∀ j, o j < 256) (hag : ∀ j, j < w → oo j = o j) (hoo : ∀ j, oo j < 256) (hR : zfl (zlit (zwt t n n 0 (zput (o, w, 0, 0) 3 3)) 256) = R) : zc l K y_MO_deflate w_MO_deflate { frames := 6, cells := 0, slots := 0, locals := 134 } 0 0 0 0 [.ref m] [zO m 6 [.int fa, .ref ta, .int tn, .ref re, .int sz, .ref da, .int dn, .ref ro, .int (nI n), .int ba, .ref li, .ref di, .ref lc, .ref la, .ref ou, .int (nI w), .int bb, .int bc, .ref he, .ref ch], zB K ou 65536 (zby oo), zB K ro 16640 (zby rr), zI K he 65536 (zm1 hg), zI K ch 16640 (zm1 cg)] (fun r w1 => ∃ (bb' bc' : Int32) (oo' hg' cg' : Nat → Nat), R.2 ≤ 60000 ∧ (∀ j, j < R.2 → oo' j = R.1 j) ∧ (∀ j, oo' j < 256) ∧ r = none ∧ w1 = [zO m 6 [.int fa, .ref ta, .int tn, .ref re, .int sz, .ref da, .int dn, .ref ro, .int (nI n), .int ba, .ref li, .ref di, .ref lc, .ref la, .ref ou, .int (nI R.2), .int bb', .int bc', .ref he, .ref ch], zB K ou 65536 (zby oo'), zB K ro 16640 (zby rr), zI K he 65536 (zm1 hg'), zI K ch 16640 (zm1 cg')]) (fun _ _ => False) := by
  refine zc_of (cc := c_MO_deflate) (nl := 8) (ret := none) (by decide) (Nat.le_of_ble_eq_true rfl) (fun G F E => ?_)
  have F : zf G l K { frames := 6, cells := 0, slots := 0, locals := 134 } "ZlibBoxModel" c_MO_deflate 8 := F
  show zj G 0 0 0 [(0, .ref m)] [] [zO m 6 [.int fa, .ref ta, .int tn, .ref re, .int sz, .ref da, .int dn, .ref ro, .int (nI n), .int ba, .ref li, .ref di, .ref lc, .ref la, .ref ou, .int (nI w), .int bb, .int bc, .ref he, .ref ch], zB K ou 65536 (zby oo), zB K ro 16640 (zby rr), zI K he 65536 (zm1 hg), zI K ch 16640 (zm1 cg)]
  generalize hS2 : zwt t n n 0 (zput (o, w, 0, 0) 3 3) = S2 at hR
  have key : ∀ f k en (s : zps) (oo hg cg : Nat → Nat), n ≤ k + f → k ≤ n → en ≤ k → zpk s → 8 * s.2.1 + s.2.2.2 ≤ 40 + 16 * k → (∀ j, j < s.2.1 → oo j = s.1 j) → (∀ j, oo j < 256) → zinM (zmk t) hg cg en → zwt t n f k s = S2 → zj G 0 0 41 [(0, .ref m), (1, .int (nI k)), (2, .int (nI en))] [] [zO m 6 [.int fa, .ref ta, .int tn, .ref re, .int sz, .ref da, .int dn, .ref ro, .int (nI n), .int ba, .ref li, .ref di, .ref lc, .ref la, .ref ou, .int (nI s.2.1), .int (nI s.2.2.1), .int (nI s.2.2.2), .ref he, .ref ch], zB K ou 65536 (zby oo), zB K ro 16640 (zby rr), zI K he 65536 (zm1 hg), zI K ch 16640 (zm1 cg)] := by
    clear hS2 hag hoo
    intro f
    induction f with
    | zero =>
      intro k en s oo hg cg k1 k2 k3 hs k4 hag hoo hI hS2
      show zj G 0 0 41 [(0, .ref m), (1, .int (nI k)), (2, .int (nI en))] [] [zO m 6 [.int fa, .ref ta, .int tn, .ref re, .int sz, .ref da, .int dn, .ref ro, .int (nI n), .int ba, .ref li, .ref di, .ref lc, .ref la, .ref ou, .int (nI s.2.1), .int (nI s.2.2.1), .int (nI s.2.2.2), .ref he, .ref ch], zB K ou 65536 (zby oo), zB K ro 16640 (zby rr), zI K he 65536 (zm1 hg), zI K ch 16640 (zm1 cg)]
      refine zj_iload_n F d_MO_deflate_41 1 rfl rfl ?_
      refine zj_aload_n F d_MO_deflate_42 0 rfl rfl ?_
      refine zj_get F d_MO_deflate_43 0 8 rfl rfl in_MO (by decide) q_559 rfl ?_
      refine zj_icmp_ge (tgt := 261) F d_MO_deflate_46 (by decide) (nI_leI (by omega) (by omega)) (fun h46 => ?_) (fun h46 => ?_)
      · have hS3 : s = S2 := hS2
        subst hS3
        refine zj_aload_n F d_MO_deflate_261 0 rfl rfl ?_
        refine zj_sipush (v := nI 256) F d_MO_deflate_262 (by decide) ?_
        have a1 := zlit_ok 256 hs
        have t1 := zlit_bits s 256
        refine zj_call (maxL := 2) (wr := [zB K ro 16640 (zby rr), zI K he 65536 (zm1 hg), zI K ch 16640 (zm1 cg)]) F E (m_MO_putLiteral l K m ta re da ro li di lc la ou he ch fa tn sz dn (nI n) ba 256 s _ oo hs hag hoo (by omega) (by decide) rfl) (zi_V (As := [.int (nI 256)]) (rest := []) F d_MO_deflate_265 0 rfl rfl rfl q_724 q_726 sel_MO_putLiteral q_727 (Or.inl ⟨_, _, rfl⟩) (by decide) (show Option.map (fun d => d.parameters.length) (parseMethodDescriptor y_MO_putLiteral.desc) = some 1 from by decide +kernel)) d_MO_deflate_265 q_727 (Or.inl ⟨_, _, rfl⟩) q_7 [0, 1] [2, 3, 4] rfl rfl rfl rfl (by decide) ⟨by decide, by decide, by decide, by decide⟩ (Nat.le_of_ble_eq_true rfl) (fun v w1 hq => ?_) (fun X w1 hq => ?_)
        · obtain ⟨oo2, hA1, hA2, rfl, rfl⟩ := hq
          show zj G 0 0 268 [(0, .ref m), (1, .int (nI k)), (2, .int (nI en))] [] [zB K ro 16640 (zby rr), zI K he 65536 (zm1 hg), zI K ch 16640 (zm1 cg), zO m 6 [.int fa, .ref ta, .int tn, .ref re, .int sz, .ref da, .int dn, .ref ro, .int (nI n), .int ba, .ref li, .ref di, .ref lc, .ref la, .ref ou, .int (nI ((zlit s 256).2.1)), .int (nI ((zlit s 256).2.2.1)), .int (nI ((zlit s 256).2.2.2)), .ref he, .ref ch], zB K ou 65536 (zby oo2)]
          generalize hs1 : zlit s 256 = s1 at hR a1 t1 hA1 ⊢
          show zj G 0 0 268 [(0, .ref m), (1, .int (nI k)), (2, .int (nI en))] [] [zB K ro 16640 (zby rr), zI K he 65536 (zm1 hg), zI K ch 16640 (zm1 cg), zO m 6 [.int fa, .ref ta, .int tn, .ref re, .int sz, .ref da, .int dn, .ref ro, .int (nI n), .int ba, .ref li, .ref di, .ref lc, .ref la, .ref ou, .int (nI s1.2.1), .int (nI s1.2.2.1), .int (nI s1.2.2.2), .ref he, .ref ch], zB K ou 65536 (zby oo2)]
          have hc8 := a1.1.1
          have hbb := a1.1.2.1
          have hp8 : (2 : Nat) ^ s1.2.2.2 ≤ 2 ^ 7 := Nat.pow_le_pow_right (by decide) (by omega)
          unfold zfl at hR
          refine zj_aload_n F d_MO_deflate_268 0 rfl rfl ?_
          by_cases hz : s1.2.2.2 = 0
          · refine zj_call (maxL := 1) (wr := [zB K ro 16640 (zby rr), zI K he 65536 (zm1 hg), zI K ch 16640 (zm1 cg)]) F E (m_MO_flush l K m ta re da ro li di lc la ou he ch fa tn sz dn (nI n) ba s1.2.1 s1.2.2.1 s1.2.2.2 oo2 (by omega) (by omega) (by omega)) (zi_V (As := []) (rest := []) F d_MO_deflate_269 3 rfl rfl rfl q_709 q_711 sel_MO_flush q_712 (Or.inl ⟨_, _, rfl⟩) (by decide) (show Option.map (fun d => d.parameters.length) (parseMethodDescriptor y_MO_flush.desc) = some 0 from by decide +kernel)) d_MO_deflate_269 q_712 (Or.inl ⟨_, _, rfl⟩) q_7 [3, 4] [0, 1, 2] rfl rfl rfl rfl (by decide) ⟨by decide, by decide, by decide, by decide⟩ (Nat.le_of_ble_eq_true rfl) (fun v w1 hq => ?_) (fun X w1 hq => ?_)
            · obtain ⟨rfl, rfl⟩ := hq
              rw [if_pos hz]
              show zj G 0 0 272 [(0, .ref m), (1, .int (nI k)), (2, .int (nI en))] [] [zB K ro 16640 (zby rr), zI K he 65536 (zm1 hg), zI K ch 16640 (zm1 cg), zO m 6 [.int fa, .ref ta, .int tn, .ref re, .int sz, .ref da, .int dn, .ref ro, .int (nI n), .int ba, .ref li, .ref di, .ref lc, .ref la, .ref ou, .int (nI s1.2.1), .int (nI s1.2.2.1), .int (nI s1.2.2.2), .ref he, .ref ch], zB K ou 65536 (zby oo2)]
              rw [if_neg (by omega)] at hR
              subst hR
              refine zj_wsub (ws' := [zO m 6 [.int fa, .ref ta, .int tn, .ref re, .int sz, .ref da, .int dn, .ref ro, .int (nI n), .int ba, .ref li, .ref di, .ref lc, .ref la, .ref ou, .int (nI s1.2.1), .int (nI s1.2.2.1), .int (nI s1.2.2.2), .ref he, .ref ch], zB K ou 65536 (zby oo2), zB K ro 16640 (zby rr), zI K he 65536 (zm1 hg), zI K ch 16640 (zm1 cg)]) [3, 4, 0, 1, 2] rfl rfl rfl ?_
              exact zj_vret F E d_MO_deflate_272 (Nat.le_refl _) (Nat.le_refl _) ⟨_, _, oo2, _, _, by show s1.2.1 ≤ 60000; omega, hA1, hA2, rfl, rfl⟩
            · exact hq.elim
          · refine zj_call (maxL := 1) (wr := [zB K ro 16640 (zby rr), zI K he 65536 (zm1 hg), zI K ch 16640 (zm1 cg)]) F E (m_MO_flush l K m ta re da ro li di lc la ou he ch fa tn sz dn (nI n) ba s1.2.1 s1.2.2.1 s1.2.2.2 oo2 (by omega) (by omega) (by omega)) (zi_V (As := []) (rest := []) F d_MO_deflate_269 3 rfl rfl rfl q_709 q_711 sel_MO_flush q_712 (Or.inl ⟨_, _, rfl⟩) (by decide) (show Option.map (fun d => d.parameters.length) (parseMethodDescriptor y_MO_flush.desc) = some 0 from by decide +kernel)) d_MO_deflate_269 q_712 (Or.inl ⟨_, _, rfl⟩) q_7 [3, 4] [0, 1, 2] rfl rfl rfl rfl (by decide) ⟨by decide, by decide, by decide, by decide⟩ (Nat.le_of_ble_eq_true rfl) (fun v w1 hq => ?_) (fun X w1 hq => ?_)
            · obtain ⟨rfl, rfl⟩ := hq
              rw [if_neg hz]
              show zj G 0 0 272 [(0, .ref m), (1, .int (nI k)), (2, .int (nI en))] [] [zB K ro 16640 (zby rr), zI K he 65536 (zm1 hg), zI K ch 16640 (zm1 cg), zO m 6 [.int fa, .ref ta, .int tn, .ref re, .int sz, .ref da, .int dn, .ref ro, .int (nI n), .int ba, .ref li, .ref di, .ref lc, .ref la, .ref ou, .int (nI (s1.2.1 + 1)), .int (nI 0), .int (nI 0), .ref he, .ref ch], zB K ou 65536 (zby (va_up oo2 s1.2.1 s1.2.2.1))]
              rw [if_pos (by omega)] at hR
              subst hR
              refine zj_wsub (ws' := [zO m 6 [.int fa, .ref ta, .int tn, .ref re, .int sz, .ref da, .int dn, .ref ro, .int (nI n), .int ba, .ref li, .ref di, .ref lc, .ref la, .ref ou, .int (nI (s1.2.1 + 1)), .int (nI 0), .int (nI 0), .ref he, .ref ch], zB K ou 65536 (zby (va_up oo2 s1.2.1 s1.2.2.1)), zB K ro 16640 (zby rr), zI K he 65536 (zm1 hg), zI K ch 16640 (zm1 cg)]) [3, 4, 0, 1, 2] rfl rfl rfl ?_
              exact zj_vret F E d_MO_deflate_272 (Nat.le_refl _) (Nat.le_refl _) ⟨_, _, _, _, _, by show s1.2.1 + 1 ≤ 60000; omega, zag_up hA1 _, zup_lt hA2 _ (by omega), rfl, rfl⟩
            · exact hq.elim
        · exact hq.elim
      · exact absurd h46 (by omega)
    | succ f ih =>
      intro k en s oo hg cg k1 k2 k3 hs k4 hag hoo hI hS2
      unfold zwt at hS2
      show zj G 0 0 41 [(0, .ref m), (1, .int (nI k)), (2, .int (nI en))] [] [zO m 6 [.int fa, .ref ta, .int tn, .ref re, .int sz, .ref da, .int dn, .ref ro, .int (nI n), .int ba, .ref li, .ref di, .ref lc, .ref la, .ref ou, .int (nI s.2.1), .int (nI s.2.2.1), .int (nI s.2.2.2), .ref he, .ref ch], zB K ou 65536 (zby oo), zB K ro 16640 (zby rr), zI K he 65536 (zm1 hg), zI K ch 16640 (zm1 cg)]
      refine zj_iload_n F d_MO_deflate_41 1 rfl rfl ?_
      refine zj_aload_n F d_MO_deflate_42 0 rfl rfl ?_
      refine zj_get F d_MO_deflate_43 0 8 rfl rfl in_MO (by decide) q_559 rfl ?_
      refine zj_icmp_ge (tgt := 261) F d_MO_deflate_46 (by decide) (nI_leI (by omega) (by omega)) (fun h46 => ?_) (fun h46 => ?_)
      · rw [if_neg (by omega)] at hS2
        have hS3 : s = S2 := hS2
        subst hS3
        refine zj_aload_n F d_MO_deflate_261 0 rfl rfl ?_
        refine zj_sipush (v := nI 256) F d_MO_deflate_262 (by decide) ?_
        have a1 := zlit_ok 256 hs
        have t1 := zlit_bits s 256
        refine zj_call (maxL := 2) (wr := [zB K ro 16640 (zby rr), zI K he 65536 (zm1 hg), zI K ch 16640 (zm1 cg)]) F E (m_MO_putLiteral l K m ta re da ro li di lc la ou he ch fa tn sz dn (nI n) ba 256 s _ oo hs hag hoo (by omega) (by decide) rfl) (zi_V (As := [.int (nI 256)]) (rest := []) F d_MO_deflate_265 0 rfl rfl rfl q_724 q_726 sel_MO_putLiteral q_727 (Or.inl ⟨_, _, rfl⟩) (by decide) (show Option.map (fun d => d.parameters.length) (parseMethodDescriptor y_MO_putLiteral.desc) = some 1 from by decide +kernel)) d_MO_deflate_265 q_727 (Or.inl ⟨_, _, rfl⟩) q_7 [0, 1] [2, 3, 4] rfl rfl rfl rfl (by decide) ⟨by decide, by decide, by decide, by decide⟩ (Nat.le_of_ble_eq_true rfl) (fun v w1 hq => ?_) (fun X w1 hq => ?_)
        · obtain ⟨oo2, hA1, hA2, rfl, rfl⟩ := hq
          show zj G 0 0 268 [(0, .ref m), (1, .int (nI k)), (2, .int (nI en))] [] [zB K ro 16640 (zby rr), zI K he 65536 (zm1 hg), zI K ch 16640 (zm1 cg), zO m 6 [.int fa, .ref ta, .int tn, .ref re, .int sz, .ref da, .int dn, .ref ro, .int (nI n), .int ba, .ref li, .ref di, .ref lc, .ref la, .ref ou, .int (nI ((zlit s 256).2.1)), .int (nI ((zlit s 256).2.2.1)), .int (nI ((zlit s 256).2.2.2)), .ref he, .ref ch], zB K ou 65536 (zby oo2)]
          generalize hs1 : zlit s 256 = s1 at hR a1 t1 hA1 ⊢
          show zj G 0 0 268 [(0, .ref m), (1, .int (nI k)), (2, .int (nI en))] [] [zB K ro 16640 (zby rr), zI K he 65536 (zm1 hg), zI K ch 16640 (zm1 cg), zO m 6 [.int fa, .ref ta, .int tn, .ref re, .int sz, .ref da, .int dn, .ref ro, .int (nI n), .int ba, .ref li, .ref di, .ref lc, .ref la, .ref ou, .int (nI s1.2.1), .int (nI s1.2.2.1), .int (nI s1.2.2.2), .ref he, .ref ch], zB K ou 65536 (zby oo2)]
          have hc8 := a1.1.1
          have hbb := a1.1.2.1
          have hp8 : (2 : Nat) ^ s1.2.2.2 ≤ 2 ^ 7 := Nat.pow_le_pow_right (by decide) (by omega)
          unfold zfl at hR
          refine zj_aload_n F d_MO_deflate_268 0 rfl rfl ?_
          by_cases hz : s1.2.2.2 = 0
          · refine zj_call (maxL := 1) (wr := [zB K ro 16640 (zby rr), zI K he 65536 (zm1 hg), zI K ch 16640 (zm1 cg)]) F E (m_MO_flush l K m ta re da ro li di lc la ou he ch fa tn sz dn (nI n) ba s1.2.1 s1.2.2.1 s1.2.2.2 oo2 (by omega) (by omega) (by omega)) (zi_V (As := []) (rest := []) F d_MO_deflate_269 3 rfl rfl rfl q_709 q_711 sel_MO_flush q_712 (Or.inl ⟨_, _, rfl⟩) (by decide) (show Option.map (fun d => d.parameters.length) (parseMethodDescriptor y_MO_flush.desc) = some 0 from by decide +kernel)) d_MO_deflate_269 q_712 (Or.inl ⟨_, _, rfl⟩) q_7 [3, 4] [0, 1, 2] rfl rfl rfl rfl (by decide) ⟨by decide, by decide, by decide, by decide⟩ (Nat.le_of_ble_eq_true rfl) (fun v w1 hq => ?_) (fun X w1 hq => ?_)
            · obtain ⟨rfl, rfl⟩ := hq
              rw [if_pos hz]
              show zj G 0 0 272 [(0, .ref m), (1, .int (nI k)), (2, .int (nI en))] [] [zB K ro 16640 (zby rr), zI K he 65536 (zm1 hg), zI K ch 16640 (zm1 cg), zO m 6 [.int fa, .ref ta, .int tn, .ref re, .int sz, .ref da, .int dn, .ref ro, .int (nI n), .int ba, .ref li, .ref di, .ref lc, .ref la, .ref ou, .int (nI s1.2.1), .int (nI s1.2.2.1), .int (nI s1.2.2.2), .ref he, .ref ch], zB K ou 65536 (zby oo2)]
              rw [if_neg (by omega)] at hR
              subst hR
              refine zj_wsub (ws' := [zO m 6 [.int fa, .ref ta, .int tn, .ref re, .int sz, .ref da, .int dn, .ref ro, .int (nI n), .int ba, .ref li, .ref di, .ref lc, .ref la, .ref ou, .int (nI s1.2.1), .int (nI s1.2.2.1), .int (nI s1.2.2.2), .ref he, .ref ch], zB K ou 65536 (zby oo2), zB K ro 16640 (zby rr), zI K he 65536 (zm1 hg), zI K ch 16640 (zm1 cg)]) [3, 4, 0, 1, 2] rfl rfl rfl ?_
              exact zj_vret F E d_MO_deflate_272 (Nat.le_refl _) (Nat.le_refl _) ⟨_, _, oo2, _, _, by show s1.2.1 ≤ 60000; omega, hA1, hA2, rfl, rfl⟩
            · exact hq.elim
          · refine zj_call (maxL := 1) (wr := [zB K ro 16640 (zby rr), zI K he 65536 (zm1 hg), zI K ch 16640 (zm1 cg)]) F E (m_MO_flush l K m ta re da ro li di lc la ou he ch fa tn sz dn (nI n) ba s1.2.1 s1.2.2.1 s1.2.2.2 oo2 (by omega) (by omega) (by omega)) (zi_V (As := []) (rest := []) F d_MO_deflate_269 3 rfl rfl rfl q_709 q_711 sel_MO_flush q_712 (Or.inl ⟨_, _, rfl⟩) (by decide) (show Option.map (fun d => d.parameters.length) (parseMethodDescriptor y_MO_flush.desc) = some 0 from by decide +kernel)) d_MO_deflate_269 q_712 (Or.inl ⟨_, _, rfl⟩) q_7 [3, 4] [0, 1, 2] rfl rfl rfl rfl (by decide) ⟨by decide, by decide, by decide, by decide⟩ (Nat.le_of_ble_eq_true rfl) (fun v w1 hq => ?_) (fun X w1 hq => ?_)
            · obtain ⟨rfl, rfl⟩ := hq
              rw [if_neg hz]
              show zj G 0 0 272 [(0, .ref m), (1, .int (nI k)), (2, .int (nI en))] [] [zB K ro 16640 (zby rr), zI K he 65536 (zm1 hg), zI K ch 16640 (zm1 cg), zO m 6 [.int fa, .ref ta, .int tn, .ref re, .int sz, .ref da, .int dn, .ref ro, .int (nI n), .int ba, .ref li, .ref di, .ref lc, .ref la, .ref ou, .int (nI (s1.2.1 + 1)), .int (nI 0), .int (nI 0), .ref he, .ref ch], zB K ou 65536 (zby (va_up oo2 s1.2.1 s1.2.2.1))]
              rw [if_pos (by omega)] at hR
              subst hR
              refine zj_wsub (ws' := [zO m 6 [.int fa, .ref ta, .int tn, .ref re, .int sz, .ref da, .int dn, .ref ro, .int (nI n), .int ba, .ref li, .ref di, .ref lc, .ref la, .ref ou, .int (nI (s1.2.1 + 1)), .int (nI 0), .int (nI 0), .ref he, .ref ch], zB K ou 65536 (zby (va_up oo2 s1.2.1 s1.2.2.1)), zB K ro 16640 (zby rr), zI K he 65536 (zm1 hg), zI K ch 16640 (zm1 cg)]) [3, 4, 0, 1, 2] rfl rfl rfl ?_
              exact zj_vret F E d_MO_deflate_272 (Nat.le_refl _) (Nat.le_refl _) ⟨_, _, _, _, _, by show s1.2.1 + 1 ≤ 60000; omega, zag_up hA1 _, zup_lt hA2 _ (by omega), rfl, rfl⟩
            · exact hq.elim
        · exact hq.elim
      · rw [if_pos (by omega)] at hS2
        have hfo := zfind_ok t n k
        have fin : ∀ (r : Nat × Nat) en1 (hg1 cg1 : Nat → Nat), en1 ≤ k → zinM (zmk t) hg1 cg1 en1 → r.2 < 2 ^ 20 → (zfind t n k).1 = (if r.2 = 0 then 0 else r.1) → (r.2 ≠ 0 → (zfind t n k).2 = r.2) → zj G 0 0 222 [(0, .ref m), (1, .int (nI k)), (2, .int (nI en1)), (3, .int (nI r.1)), (4, .int (nI r.2))] [] [zO m 6 [.int fa, .ref ta, .int tn, .ref re, .int sz, .ref da, .int dn, .ref ro, .int (nI n), .int ba, .ref li, .ref di, .ref lc, .ref la, .ref ou, .int (nI s.2.1), .int (nI s.2.2.1), .int (nI s.2.2.2), .ref he, .ref ch], zB K ou 65536 (zby oo), zB K ro 16640 (zby rr), zI K he 65536 (zm1 hg1), zI K ch 16640 (zm1 cg1)] := by
          intro r en1 hg1 cg1 j1 hI1 j2 j3 j4
          show zj G 0 0 222 [(0, .ref m), (1, .int (nI k)), (2, .int (nI en1)), (3, .int (nI r.1)), (4, .int (nI r.2))] [] [zO m 6 [.int fa, .ref ta, .int tn, .ref re, .int sz, .ref da, .int dn, .ref ro, .int (nI n), .int ba, .ref li, .ref di, .ref lc, .ref la, .ref ou, .int (nI s.2.1), .int (nI s.2.2.1), .int (nI s.2.2.2), .ref he, .ref ch], zB K ou 65536 (zby oo), zB K ro 16640 (zby rr), zI K he 65536 (zm1 hg1), zI K ch 16640 (zm1 cg1)]
          refine zj_iload F d_MO_deflate_222 4 rfl ?_
          refine zj_if_le (tgt := 241) F d_MO_deflate_224 (by decide) (zI_le0 (by omega)) (fun h224 => ?_) (fun h224 => ?_)
          · rw [if_pos h224] at j3
            rw [if_pos j3] at hS2
            have hrk := hrt k (by omega)
            have htk := hb k
            have a1 := zlit_ok (t k) hs
            have t1 := zlit_bits s (t k)
            refine zj_aload_n F d_MO_deflate_241 0 rfl rfl ?_
            refine zj_aload_n F d_MO_deflate_242 0 rfl rfl ?_
            refine zj_get F d_MO_deflate_243 0 7 rfl rfl in_MO (by decide) q_558 rfl ?_
            refine zj_iload_n F d_MO_deflate_246 1 rfl rfl ?_
            refine zj_bald F d_MO_deflate_247 2 0 k rfl rfl rfl (by omega) (by omega) rfl ?_
            refine zj_sipush (v := nI 255) F d_MO_deflate_248 (by decide) ?_
            refine zj_iand (z := nI (t k)) F d_MO_deflate_251 ((zby_and (hrr _)).trans (by rw [hrk])) ?_
            refine zj_call (maxL := 2) (wr := [zB K ro 16640 (zby rr), zI K he 65536 (zm1 hg1), zI K ch 16640 (zm1 cg1)]) F E (m_MO_putLiteral l K m ta re da ro li di lc la ou he ch fa tn sz dn (nI n) ba (t k) s _ oo hs hag hoo (by omega) (by omega) rfl) (zi_V (As := [.int (nI (t k))]) (rest := []) F d_MO_deflate_252 0 rfl rfl rfl q_724 q_726 sel_MO_putLiteral q_727 (Or.inl ⟨_, _, rfl⟩) (by decide) (show Option.map (fun d => d.parameters.length) (parseMethodDescriptor y_MO_putLiteral.desc) = some 1 from by decide +kernel)) d_MO_deflate_252 q_727 (Or.inl ⟨_, _, rfl⟩) q_7 [0, 1] [2, 3, 4] rfl rfl rfl rfl (by decide) ⟨by decide, by decide, by decide, by decide⟩ (Nat.le_of_ble_eq_true rfl) (fun v w1 hq => ?_) (fun X w1 hq => ?_)
            · obtain ⟨oo2, hA1, hA2, rfl, rfl⟩ := hq
              show zj G 0 0 255 [(0, .ref m), (1, .int (nI k)), (2, .int (nI en1)), (3, .int (nI r.1)), (4, .int (nI r.2))] [] [zB K ro 16640 (zby rr), zI K he 65536 (zm1 hg1), zI K ch 16640 (zm1 cg1), zO m 6 [.int fa, .ref ta, .int tn, .ref re, .int sz, .ref da, .int dn, .ref ro, .int (nI n), .int ba, .ref li, .ref di, .ref lc, .ref la, .ref ou, .int (nI ((zlit s (t k)).2.1)), .int (nI ((zlit s (t k)).2.2.1)), .int (nI ((zlit s (t k)).2.2.2)), .ref he, .ref ch], zB K ou 65536 (zby oo2)]
              refine zj_iinc (v := nI (k + 1)) (L' := [(1, .int (nI (k + 1))), (0, .ref m), (2, .int (nI en1)), (3, .int (nI r.1)), (4, .int (nI r.2))]) F d_MO_deflate_255 1 rfl (nI_add _ _) (by decide) rfl ?_
              refine zj_goto F d_MO_deflate_258 (tgt := 41) (by decide) ?_
              refine zj_wsub (ws' := [zO m 6 [.int fa, .ref ta, .int tn, .ref re, .int sz, .ref da, .int dn, .ref ro, .int (nI n), .int ba, .ref li, .ref di, .ref lc, .ref la, .ref ou, .int (nI ((zlit s (t k)).2.1)), .int (nI ((zlit s (t k)).2.2.1)), .int (nI ((zlit s (t k)).2.2.2)), .ref he, .ref ch], zB K ou 65536 (zby oo2), zB K ro 16640 (zby rr), zI K he 65536 (zm1 hg1), zI K ch 16640 (zm1 cg1)]) [3, 4, 0, 1, 2] rfl rfl rfl ?_
              exact zj_sub [1, 0, 2] rfl (ih (k + 1) en1 _ oo2 hg1 cg1 (by omega) (by omega) (by omega) a1.1 (by omega) hA1 hA2 hI1 hS2)
            · exact hq.elim
          · rw [if_neg (by omega)] at j3
            have j5 := j4 (by omega)
            rw [j3, j5] at hfo
            rw [j3, j5] at hS2
            have hr1 : ¬ r.1 = 0 := by
              intro h9
              have h8 := zfd_two t n k
              rw [j3, j5] at h8
              omega
            rw [if_neg hr1] at hS2
            have hf2 := hfo.resolve_left hr1
            have a1 := zcpP_ok hs hf2.1 hf2.2.1 hf2.2.2.2.1 hf2.2.2.2.2
            have t1 := zcpP_bits (s := s) hf2.1 hf2.2.1 hf2.2.2.2.1 hf2.2.2.2.2
            refine zj_aload_n F d_MO_deflate_227 0 rfl rfl ?_
            refine zj_iload_n F d_MO_deflate_228 3 rfl rfl ?_
            refine zj_iload F d_MO_deflate_229 4 rfl ?_
            refine zj_call (maxL := 7) (wr := [zB K ro 16640 (zby rr), zI K he 65536 (zm1 hg1), zI K ch 16640 (zm1 cg1)]) F E (m_MO_putCopy l K m ta re da ro li di lc la ou he ch fa tn sz dn (nI n) ba r.1 r.2 s _ oo hs hag hoo (by omega) hf2.1 hf2.2.1 hf2.2.2.2.1 hf2.2.2.2.2 rfl) (zi_V (As := [.int (nI r.1), .int (nI r.2)]) (rest := []) F d_MO_deflate_231 0 rfl rfl rfl q_720 q_722 sel_MO_putCopy q_723 (Or.inl ⟨_, _, rfl⟩) (by decide) (show Option.map (fun d => d.parameters.length) (parseMethodDescriptor y_MO_putCopy.desc) = some 2 from by decide +kernel)) d_MO_deflate_231 q_723 (Or.inl ⟨_, _, rfl⟩) q_7 [0, 1] [2, 3, 4] rfl rfl rfl rfl (by decide) ⟨by decide, by decide, by decide, by decide⟩ (Nat.le_of_ble_eq_true rfl) (fun v w1 hq => ?_) (fun X w1 hq => ?_)
            · obtain ⟨oo2, hA1, hA2, rfl, rfl⟩ := hq
              show zj G 0 0 234 [(0, .ref m), (1, .int (nI k)), (2, .int (nI en1)), (3, .int (nI r.1)), (4, .int (nI r.2))] [] [zB K ro 16640 (zby rr), zI K he 65536 (zm1 hg1), zI K ch 16640 (zm1 cg1), zO m 6 [.int fa, .ref ta, .int tn, .ref re, .int sz, .ref da, .int dn, .ref ro, .int (nI n), .int ba, .ref li, .ref di, .ref lc, .ref la, .ref ou, .int (nI ((zcpP s r.1 r.2).2.1)), .int (nI ((zcpP s r.1 r.2).2.2.1)), .int (nI ((zcpP s r.1 r.2).2.2.2)), .ref he, .ref ch], zB K ou 65536 (zby oo2)]
              refine zj_iload_n F d_MO_deflate_234 1 rfl rfl ?_
              refine zj_iload_n F d_MO_deflate_235 3 rfl rfl ?_
              refine zj_iadd F d_MO_deflate_236 (nI_add _ _) ?_
              refine zj_istore_n (L' := [(1, .int (nI (k + r.1))), (0, .ref m), (2, .int (nI en1)), (3, .int (nI r.1)), (4, .int (nI r.2))]) F d_MO_deflate_237 rfl (by decide) rfl ?_
              refine zj_goto F d_MO_deflate_238 (tgt := 258) (by decide) ?_
              refine zj_goto F d_MO_deflate_258 (tgt := 41) (by decide) ?_
              refine zj_wsub (ws' := [zO m 6 [.int fa, .ref ta, .int tn, .ref re, .int sz, .ref da, .int dn, .ref ro, .int (nI n), .int ba, .ref li, .ref di, .ref lc, .ref la, .ref ou, .int (nI ((zcpP s r.1 r.2).2.1)), .int (nI ((zcpP s r.1 r.2).2.2.1)), .int (nI ((zcpP s r.1 r.2).2.2.2)), .ref he, .ref ch], zB K ou 65536 (zby oo2), zB K ro 16640 (zby rr), zI K he 65536 (zm1 hg1), zI K ch 16640 (zm1 cg1)]) [3, 4, 0, 1, 2] rfl rfl rfl ?_
              exact zj_sub [1, 0, 2] rfl (ih (k + r.1) en1 _ oo2 hg1 cg1 (by omega) (by omega) (by omega) a1.1 (by omega) hA1 hA2 hI1 hS2)
            · exact hq.elim
        have srch : ∀ en1 (hg1 cg1 : Nat → Nat), en1 ≤ k → (en1 = k ∨ n ≤ en1 + 2) → zinM (zmk t) hg1 cg1 en1 → zj G 0 0 95 [(0, .ref m), (1, .int (nI k)), (2, .int (nI en1))] [] [zO m 6 [.int fa, .ref ta, .int tn, .ref re, .int sz, .ref da, .int dn, .ref ro, .int (nI n), .int ba, .ref li, .ref di, .ref lc, .ref la, .ref ou, .int (nI s.2.1), .int (nI s.2.2.1), .int (nI s.2.2.2), .ref he, .ref ch], zB K ou 65536 (zby oo), zB K ro 16640 (zby rr), zI K he 65536 (zm1 hg1), zI K ch 16640 (zm1 cg1)] := by
          clear hI
          intro en1 hg1 cg1 j1 j2 hI
          show zj G 0 0 95 [(0, .ref m), (1, .int (nI k)), (2, .int (nI en1))] [] [zO m 6 [.int fa, .ref ta, .int tn, .ref re, .int sz, .ref da, .int dn, .ref ro, .int (nI n), .int ba, .ref li, .ref di, .ref lc, .ref la, .ref ou, .int (nI s.2.1), .int (nI s.2.2.1), .int (nI s.2.2.2), .ref he, .ref ch], zB K ou 65536 (zby oo), zB K ro 16640 (zby rr), zI K he 65536 (zm1 hg1), zI K ch 16640 (zm1 cg1)]
          refine zj_iconst (v := nI 2) F d_MO_deflate_95 (by decide) ?_
          refine zj_istore_n (L' := [(3, .int (nI 2)), (0, .ref m), (1, .int (nI k)), (2, .int (nI en1))]) F d_MO_deflate_96 rfl (by decide) rfl ?_
          refine zj_iconst (v := nI 0) F d_MO_deflate_97 (by decide) ?_
          refine zj_istore (L' := [(4, .int (nI 0)), (3, .int (nI 2)), (0, .ref m), (1, .int (nI k)), (2, .int (nI en1))]) F d_MO_deflate_98 (by decide) rfl ?_
          refine zj_sipush (v := nI 258) F d_MO_deflate_100 (by decide) ?_
          refine zj_aload_n F d_MO_deflate_103 2 rfl rfl ?_
          refine zj_get F d_MO_deflate_104 0 8 rfl rfl in_MO (by decide) q_559 rfl ?_
          refine zj_iload_n F d_MO_deflate_107 3 rfl rfl ?_
          refine zj_isub F d_MO_deflate_108 (pk_sub (by omega)) ?_
          refine zj_min F d_MO_deflate_109 q_719 (by decide) (by omega) (by decide) (by decide) (by decide) (by decide) ?_
          show zj G 0 0 112 [(4, .int (nI 0)), (3, .int (nI 2)), (0, .ref m), (1, .int (nI k)), (2, .int (nI en1))] [.int (nI (zmost n k))] [zO m 6 [.int fa, .ref ta, .int tn, .ref re, .int sz, .ref da, .int dn, .ref ro, .int (nI n), .int ba, .ref li, .ref di, .ref lc, .ref la, .ref ou, .int (nI s.2.1), .int (nI s.2.2.1), .int (nI s.2.2.2), .ref he, .ref ch], zB K ou 65536 (zby oo), zB K ro 16640 (zby rr), zI K he 65536 (zm1 hg1), zI K ch 16640 (zm1 cg1)]
          have hm1 : zmost n k ≤ 258 := Nat.min_le_left _ _
          have hm2 : zmost n k ≤ n - k := Nat.min_le_right _ _
          have hm3 : zmost n k = 258 ∨ zmost n k = n - k := by unfold zmost; omega
          have hfd : zfind t n k = _ := rfl
          skip
          generalize hm0 : zmost n k = mx at hm1 hm2 hm3 ⊢
          show zj G 0 0 112 [(4, .int (nI 0)), (3, .int (nI 2)), (0, .ref m), (1, .int (nI k)), (2, .int (nI en1))] [.int (nI mx)] [zO m 6 [.int fa, .ref ta, .int tn, .ref re, .int sz, .ref da, .int dn, .ref ro, .int (nI n), .int ba, .ref li, .ref di, .ref lc, .ref la, .ref ou, .int (nI s.2.1), .int (nI s.2.2.1), .int (nI s.2.2.2), .ref he, .ref ch], zB K ou 65536 (zby oo), zB K ro 16640 (zby rr), zI K he 65536 (zm1 hg1), zI K ch 16640 (zm1 cg1)]
          refine zj_istore (L' := [(5, .int (nI mx)), (4, .int (nI 0)), (3, .int (nI 2)), (0, .ref m), (1, .int (nI k)), (2, .int (nI en1))]) F d_MO_deflate_112 (by decide) rfl ?_
          refine zj_iload F d_MO_deflate_114 0 rfl ?_
          refine zj_iconst (v := nI 2) F d_MO_deflate_116 (by decide) ?_
          refine zj_icmp_le (tgt := 133) F d_MO_deflate_117 (by decide) (nI_leI (by omega) (by omega)) (fun h117 => ?_) (fun h117 => ?_)
          · refine zj_iconst (v := (-1)) F d_MO_deflate_133 (by decide) ?_
            refine zj_istore (L' := [(6, .int (-1)), (5, .int (nI mx)), (4, .int (nI 0)), (3, .int (nI 2)), (0, .ref m), (1, .int (nI k)), (2, .int (nI en1))]) F d_MO_deflate_134 (by decide) rfl ?_
            have hz0 : zfind t n k = (0, 0) := by unfold zfind; rw [hm0, if_neg (by omega)]
            refine zj_iload F d_MO_deflate_136 0 rfl ?_
            refine zj_if_lt (tgt := 222) (P := (-1 : Int32) < 0) F d_MO_deflate_138 (by decide) Iff.rfl (fun h138 => ?_) (fun h138 => ?_)
            · exact zj_sub [4, 5, 6, 3, 2] rfl (fin (2, 0) en1 hg1 cg1 j1 hI (by decide) (by rw [hz0]; rfl) (fun h => absurd rfl h))
            · exact absurd (by decide) h138
          · have hm : 3 ≤ mx := by omega
            have hen : en1 = k := by omega
            subst hen
            have hzf : zfind t n en1 = (if (zfd t en1 mx (min en1 4096)).2 = 0 then 0 else (zfd t en1 mx (min en1 4096)).1, (zfd t en1 mx (min en1 4096)).2) := by unfold zfind; rw [hm0, if_pos hm]
            have hcl := zmk_lt t en1
            refine zj_aload_n F d_MO_deflate_120 3 rfl rfl ?_
            refine zj_get F d_MO_deflate_121 0 18 rfl rfl in_MO (by decide) q_569 rfl ?_
            refine zj_aload_n F d_MO_deflate_124 3 rfl rfl ?_
            refine zj_iload_n F d_MO_deflate_125 4 rfl rfl ?_
            refine zj_call (maxL := 2) (wr := [zB K ou 65536 (zby oo), zI K he 65536 (zm1 hg1), zI K ch 16640 (zm1 cg1)]) F E (m_MO_mark l K m ta re da ro li di lc la ou he ch fa tn sz dn (nI n) ba (nI s.2.1) (nI s.2.2.1) (nI s.2.2.2) en1 t rr hb (hrt _ (by omega)) (hrt _ (by omega)) (hrt _ (by omega)) (by omega)) (zi_V (As := [.int (nI en1)]) (rest := [.ref he]) F d_MO_deflate_126 0 rfl rfl rfl q_713 q_715 sel_MO_mark q_716 (Or.inl ⟨_, _, rfl⟩) (by decide) (show Option.map (fun d => d.parameters.length) (parseMethodDescriptor y_MO_mark.desc) = some 1 from by decide +kernel)) d_MO_deflate_126 q_716 (Or.inl ⟨_, _, rfl⟩) q_7 [0, 2] [1, 3, 4] rfl rfl rfl rfl (by decide) ⟨by decide, by decide, by decide, by decide⟩ (Nat.le_of_ble_eq_true rfl) (fun v w1 hq => ?_) (fun X w1 hq => ?_)
            · obtain ⟨rfl, rfl⟩ := hq
              show zj G 0 0 129 [(5, .int (nI mx)), (4, .int (nI 0)), (3, .int (nI 2)), (0, .ref m), (1, .int (nI en1)), (2, .int (nI en1))] [.int (nI (zmk t en1)), .ref he] [zB K ou 65536 (zby oo), zI K he 65536 (zm1 hg1), zI K ch 16640 (zm1 cg1), zO m 6 [.int fa, .ref ta, .int tn, .ref re, .int sz, .ref da, .int dn, .ref ro, .int (nI n), .int ba, .ref li, .ref di, .ref lc, .ref la, .ref ou, .int (nI s.2.1), .int (nI s.2.2.1), .int (nI s.2.2.2), .ref he, .ref ch], zB K ro 16640 (zby rr)]
              refine zj_iald (z := nI (zlst (zmk t) (zmk t en1) en1) - 1) F d_MO_deflate_129 1 1 (zmk t en1) rfl rfl rfl (by omega) (by omega) (by show nI (hg1 _) - 1 = _; rw [hI.1 _ hcl]) ?_
              refine zj_goto F d_MO_deflate_130 (tgt := 134) (by decide) ?_
              refine zj_istore (L' := [(6, .int (nI (zlst (zmk t) (zmk t en1) en1) - 1)), (5, .int (nI mx)), (4, .int (nI 0)), (3, .int (nI 2)), (0, .ref m), (1, .int (nI en1)), (2, .int (nI en1))]) F d_MO_deflate_134 (by decide) rfl ?_
              refine zj_wsub (ws' := [zO m 6 [.int fa, .ref ta, .int tn, .ref re, .int sz, .ref da, .int dn, .ref ro, .int (nI n), .int ba, .ref li, .ref di, .ref lc, .ref la, .ref ou, .int (nI s.2.1), .int (nI s.2.2.1), .int (nI s.2.2.2), .ref he, .ref ch], zB K ou 65536 (zby oo), zB K ro 16640 (zby rr), zI K he 65536 (zm1 hg1), zI K ch 16640 (zm1 cg1)]) [3, 0, 4, 1, 2] rfl rfl rfl ?_
              have keyF : ∀ f (r : Nat × Nat), f ≤ en1 → (1 ≤ f → zmk t (f - 1) = zmk t en1) → zfd t en1 mx (min (en1 - f) (min en1 4096)) = r → zj G 0 0 136 [(0, .ref m), (1, .int (nI en1)), (2, .int (nI en1)), (3, .int (nI r.1)), (4, .int (nI r.2)), (5, .int (nI mx)), (6, .int (nI f - 1))] [] [zO m 6 [.int fa, .ref ta, .int tn, .ref re, .int sz, .ref da, .int dn, .ref ro, .int (nI n), .int ba, .ref li, .ref di, .ref lc, .ref la, .ref ou, .int (nI s.2.1), .int (nI s.2.2.1), .int (nI s.2.2.2), .ref he, .ref ch], zB K ou 65536 (zby oo), zB K ro 16640 (zby rr), zI K he 65536 (zm1 hg1), zI K ch 16640 (zm1 cg1)] := by
                intro f
                induction f using Nat.strongRecOn with
                | _ f ihf =>
                  intro r f1 f2 f3
                  have hz := zfd_ok t en1 mx hm (min (en1 - f) (min en1 4096))
                  rw [f3] at hz
                  have out : zfd t en1 mx (min en1 4096) = r → (zfind t n en1).1 = (if r.2 = 0 then 0 else r.1) ∧ (r.2 ≠ 0 → (zfind t n en1).2 = r.2) := fun h => by rw [hzf, h]; exact ⟨rfl, fun _ => rfl⟩
                  show zj G 0 0 136 [(0, .ref m), (1, .int (nI en1)), (2, .int (nI en1)), (3, .int (nI r.1)), (4, .int (nI r.2)), (5, .int (nI mx)), (6, .int (nI f - 1))] [] [zO m 6 [.int fa, .ref ta, .int tn, .ref re, .int sz, .ref da, .int dn, .ref ro, .int (nI n), .int ba, .ref li, .ref di, .ref lc, .ref la, .ref ou, .int (nI s.2.1), .int (nI s.2.2.1), .int (nI s.2.2.2), .ref he, .ref ch], zB K ou 65536 (zby oo), zB K ro 16640 (zby rr), zI K he 65536 (zm1 hg1), zI K ch 16640 (zm1 cg1)]
                  refine zj_iload F d_MO_deflate_136 6 rfl ?_
                  refine zj_if_lt (tgt := 222) (P := f = 0) F d_MO_deflate_138 (by decide) (zI_m1n0 (by omega)) (fun h138 => ?_) (fun h138 => ?_)
                  · exact zj_sub [0, 1, 2, 3, 4] rfl (fin r en1 hg1 cg1 (Nat.le_refl _) hI (by omega) (out (by rw [show min (en1 - f) (min en1 4096) = min en1 4096 by omega] at f3; exact f3)).1 (out (by rw [show min (en1 - f) (min en1 4096) = min en1 4096 by omega] at f3; exact f3)).2)
                  · have hf1 : 1 ≤ f := by omega
                    rw [zI_m1s hf1]
                    show zj G 0 0 141 [(0, .ref m), (1, .int (nI en1)), (2, .int (nI en1)), (3, .int (nI r.1)), (4, .int (nI r.2)), (5, .int (nI mx)), (6, .int (nI (f - 1)))] [] [zO m 6 [.int fa, .ref ta, .int tn, .ref re, .int sz, .ref da, .int dn, .ref ro, .int (nI n), .int ba, .ref li, .ref di, .ref lc, .ref la, .ref ou, .int (nI s.2.1), .int (nI s.2.2.1), .int (nI s.2.2.2), .ref he, .ref ch], zB K ou 65536 (zby oo), zB K ro 16640 (zby rr), zI K he 65536 (zm1 hg1), zI K ch 16640 (zm1 cg1)]
                    refine zj_iload_n F d_MO_deflate_141 1 rfl rfl ?_
                    refine zj_iload F d_MO_deflate_142 6 rfl ?_
                    refine zj_isub F d_MO_deflate_144 (pk_sub (by omega)) ?_
                    refine zj_sipush (v := nI 4096) F d_MO_deflate_145 (by decide) ?_
                    refine zj_icmp_gt (tgt := 222) F d_MO_deflate_148 (by decide) (nI_ltI (by omega) (by omega)) (fun h148 => ?_) (fun h148 => ?_)
                    · exact zj_sub [0, 1, 2, 3, 4] rfl (fin r en1 hg1 cg1 (Nat.le_refl _) hI (by omega) (out (by rw [show min (en1 - f) (min en1 4096) = min en1 4096 by omega] at f3; exact f3)).1 (out (by rw [show min (en1 - f) (min en1 4096) = min en1 4096 by omega] at f3; exact f3)).2)
                    · refine zj_iload_n F d_MO_deflate_151 3 rfl rfl ?_
                      refine zj_iload F d_MO_deflate_152 5 rfl ?_
                      refine zj_icmp_ge (tgt := 222) F d_MO_deflate_154 (by decide) (nI_leI (by omega) (by omega)) (fun h154 => ?_) (fun h154 => ?_)
                      · exact zj_sub [0, 1, 2, 3, 4] rfl (fin r en1 hg1 cg1 (Nat.le_refl _) hI (by omega) (out (by rw [← f3]; exact zfd_full hm (by omega) (by rw [f3]; exact h154))).1 (out (by rw [← f3]; exact zfd_full hm (by omega) (by rw [f3]; exact h154))).2)
                      · have e2 : min (en1 - f) (min en1 4096) = en1 - f := by omega
                        rw [e2] at f3
                        have hsx := zfd_s t en1 mx (en1 - f)
                        rw [f3, show en1 - (en1 - f + 1) = f - 1 by omega] at hsx
                        have hal := zagr_le t (f - 1) en1 mx
                        have nxt : ∀ r1 : Nat × Nat, zfd t en1 mx (en1 - f + 1) = r1 → zj G 0 0 210 [(0, .ref m), (1, .int (nI en1)), (2, .int (nI en1)), (3, .int (nI r1.1)), (4, .int (nI r1.2)), (5, .int (nI mx)), (6, .int (nI (f - 1)))] [] [zO m 6 [.int fa, .ref ta, .int tn, .ref re, .int sz, .ref da, .int dn, .ref ro, .int (nI n), .int ba, .ref li, .ref di, .ref lc, .ref la, .ref ou, .int (nI s.2.1), .int (nI s.2.2.1), .int (nI s.2.2.2), .ref he, .ref ch], zB K ou 65536 (zby oo), zB K ro 16640 (zby rr), zI K he 65536 (zm1 hg1), zI K ch 16640 (zm1 cg1)] := by
                          intro r1 r2
                          show zj G 0 0 210 [(0, .ref m), (1, .int (nI en1)), (2, .int (nI en1)), (3, .int (nI r1.1)), (4, .int (nI r1.2)), (5, .int (nI mx)), (6, .int (nI (f - 1)))] [] [zO m 6 [.int fa, .ref ta, .int tn, .ref re, .int sz, .ref da, .int dn, .ref ro, .int (nI n), .int ba, .ref li, .ref di, .ref lc, .ref la, .ref ou, .int (nI s.2.1), .int (nI s.2.2.1), .int (nI s.2.2.2), .ref he, .ref ch], zB K ou 65536 (zby oo), zB K ro 16640 (zby rr), zI K he 65536 (zm1 hg1), zI K ch 16640 (zm1 cg1)]
                          have hnx := zfd_next (zmk_eq t) hm hf1 f1 (by omega) (f2 hf1)
                          have hzl := zlst_ok (zmk t) (zmk t en1) (f - 1)
                          have hog : cg1 (f - 1) = zlst (zmk t) (zmk t en1) (f - 1) := by rw [hI.2 (f - 1) (by omega), f2 hf1]
                          generalize zlst (zmk t) (zmk t en1) (f - 1) = f4 at hnx hzl hog
                          refine zj_aload_n F d_MO_deflate_210 0 rfl rfl ?_
                          refine zj_get F d_MO_deflate_211 0 19 rfl rfl in_MO (by decide) q_570 rfl ?_
                          refine zj_iload F d_MO_deflate_214 6 rfl ?_
                          refine zj_iald (z := nI f4 - 1) F d_MO_deflate_216 4 1 (f - 1) rfl rfl rfl (by omega) (by omega) (by show nI (cg1 _) - 1 = _; rw [hog]) ?_
                          refine zj_istore (L' := [(6, .int (nI f4 - 1)), (0, .ref m), (1, .int (nI en1)), (2, .int (nI en1)), (3, .int (nI r1.1)), (4, .int (nI r1.2)), (5, .int (nI mx))]) F d_MO_deflate_217 (by decide) rfl ?_
                          refine zj_goto F d_MO_deflate_219 (tgt := 136) (by decide) ?_
                          exact zj_sub [1, 2, 3, 4, 5, 6, 0] rfl (ihf f4 (by omega) r1 (by omega) hzl.2.1 (hnx.trans r2))
                        have cmp : zj G 0 0 195 [(0, .ref m), (1, .int (nI en1)), (2, .int (nI en1)), (3, .int (nI r.1)), (4, .int (nI r.2)), (5, .int (nI mx)), (6, .int (nI (f - 1))), (7, .int (nI (zagr t (f - 1) en1 mx)))] [] [zO m 6 [.int fa, .ref ta, .int tn, .ref re, .int sz, .ref da, .int dn, .ref ro, .int (nI n), .int ba, .ref li, .ref di, .ref lc, .ref la, .ref ou, .int (nI s.2.1), .int (nI s.2.2.1), .int (nI s.2.2.2), .ref he, .ref ch], zB K ou 65536 (zby oo), zB K ro 16640 (zby rr), zI K he 65536 (zm1 hg1), zI K ch 16640 (zm1 cg1)] := by
                          show zj G 0 0 195 [(0, .ref m), (1, .int (nI en1)), (2, .int (nI en1)), (3, .int (nI r.1)), (4, .int (nI r.2)), (5, .int (nI mx)), (6, .int (nI (f - 1))), (7, .int (nI (zagr t (f - 1) en1 mx)))] [] [zO m 6 [.int fa, .ref ta, .int tn, .ref re, .int sz, .ref da, .int dn, .ref ro, .int (nI n), .int ba, .ref li, .ref di, .ref lc, .ref la, .ref ou, .int (nI s.2.1), .int (nI s.2.2.1), .int (nI s.2.2.2), .ref he, .ref ch], zB K ou 65536 (zby oo), zB K ro 16640 (zby rr), zI K he 65536 (zm1 hg1), zI K ch 16640 (zm1 cg1)]
                          refine zj_iload F d_MO_deflate_195 7 rfl ?_
                          refine zj_iload_n F d_MO_deflate_197 3 rfl rfl ?_
                          refine zj_icmp_le (tgt := 210) F d_MO_deflate_198 (by decide) (nI_leI (by omega) (by omega)) (fun h198 => ?_) (fun h198 => ?_)
                          · exact zj_sub [0, 1, 2, 3, 4, 5, 6] rfl (nxt r (hsx.trans (if_neg (by omega))))
                          · rw [if_pos (by omega)] at hsx
                            refine zj_iload F d_MO_deflate_201 7 rfl ?_
                            refine zj_istore_n (L' := [(3, .int (nI (zagr t (f - 1) en1 mx))), (0, .ref m), (1, .int (nI en1)), (2, .int (nI en1)), (4, .int (nI r.2)), (5, .int (nI mx)), (6, .int (nI (f - 1))), (7, .int (nI (zagr t (f - 1) en1 mx)))]) F d_MO_deflate_203 rfl (by decide) rfl ?_
                            refine zj_iload_n F d_MO_deflate_204 2 rfl rfl ?_
                            refine zj_iload F d_MO_deflate_205 6 rfl ?_
                            refine zj_isub F d_MO_deflate_207 (pk_sub (by omega)) ?_
                            refine zj_istore (L' := [(4, .int (nI (en1 - (f - 1)))), (3, .int (nI (zagr t (f - 1) en1 mx))), (0, .ref m), (1, .int (nI en1)), (2, .int (nI en1)), (5, .int (nI mx)), (6, .int (nI (f - 1))), (7, .int (nI (zagr t (f - 1) en1 mx)))]) F d_MO_deflate_208 (by decide) rfl ?_
                            have h9 := nxt _ hsx
                            rw [show en1 - f + 1 = en1 - (f - 1) by omega] at h9
                            exact zj_sub [2, 3, 4, 1, 0, 5, 6] rfl h9
                        refine zj_iconst (v := nI 0) F d_MO_deflate_157 (by decide) ?_
                        refine zj_istore (L' := [(7, .int (nI 0)), (0, .ref m), (1, .int (nI en1)), (2, .int (nI en1)), (3, .int (nI r.1)), (4, .int (nI r.2)), (5, .int (nI mx)), (6, .int (nI (f - 1)))]) F d_MO_deflate_158 (by decide) rfl ?_
                        have keyA : ∀ q i, i + q = mx → zagF t (f - 1) en1 q i = zagr t (f - 1) en1 mx → zj G 0 0 160 [(0, .ref m), (1, .int (nI en1)), (2, .int (nI en1)), (3, .int (nI r.1)), (4, .int (nI r.2)), (5, .int (nI mx)), (6, .int (nI (f - 1))), (7, .int (nI i))] [] [zO m 6 [.int fa, .ref ta, .int tn, .ref re, .int sz, .ref da, .int dn, .ref ro, .int (nI n), .int ba, .ref li, .ref di, .ref lc, .ref la, .ref ou, .int (nI s.2.1), .int (nI s.2.2.1), .int (nI s.2.2.2), .ref he, .ref ch], zB K ou 65536 (zby oo), zB K ro 16640 (zby rr), zI K he 65536 (zm1 hg1), zI K ch 16640 (zm1 cg1)] := by
                          intro q
                          induction q with
                          | zero =>
                            intro i i1 i2
                            have i3 : i = zagr t (f - 1) en1 mx := i2
                            show zj G 0 0 160 [(0, .ref m), (1, .int (nI en1)), (2, .int (nI en1)), (3, .int (nI r.1)), (4, .int (nI r.2)), (5, .int (nI mx)), (6, .int (nI (f - 1))), (7, .int (nI i))] [] [zO m 6 [.int fa, .ref ta, .int tn, .ref re, .int sz, .ref da, .int dn, .ref ro, .int (nI n), .int ba, .ref li, .ref di, .ref lc, .ref la, .ref ou, .int (nI s.2.1), .int (nI s.2.2.1), .int (nI s.2.2.2), .ref he, .ref ch], zB K ou 65536 (zby oo), zB K ro 16640 (zby rr), zI K he 65536 (zm1 hg1), zI K ch 16640 (zm1 cg1)]
                            refine zj_iload F d_MO_deflate_160 7 rfl ?_
                            refine zj_iload F d_MO_deflate_162 5 rfl ?_
                            refine zj_icmp_ge (tgt := 195) F d_MO_deflate_164 (by decide) (nI_leI (by omega) (by omega)) (fun h164 => ?_) (fun h164 => ?_)
                            · rw [← i3] at cmp
                              exact zj_sub [0, 1, 2, 3, 4, 5, 6, 7] rfl cmp
                            · exact absurd h164 (by omega)
                          | succ q iha =>
                            intro i i1 i2
                            show zj G 0 0 160 [(0, .ref m), (1, .int (nI en1)), (2, .int (nI en1)), (3, .int (nI r.1)), (4, .int (nI r.2)), (5, .int (nI mx)), (6, .int (nI (f - 1))), (7, .int (nI i))] [] [zO m 6 [.int fa, .ref ta, .int tn, .ref re, .int sz, .ref da, .int dn, .ref ro, .int (nI n), .int ba, .ref li, .ref di, .ref lc, .ref la, .ref ou, .int (nI s.2.1), .int (nI s.2.2.1), .int (nI s.2.2.2), .ref he, .ref ch], zB K ou 65536 (zby oo), zB K ro 16640 (zby rr), zI K he 65536 (zm1 hg1), zI K ch 16640 (zm1 cg1)]
                            refine zj_iload F d_MO_deflate_160 7 rfl ?_
                            refine zj_iload F d_MO_deflate_162 5 rfl ?_
                            refine zj_icmp_ge (tgt := 195) F d_MO_deflate_164 (by decide) (nI_leI (by omega) (by omega)) (fun h164 => ?_) (fun h164 => ?_)
                            · exact absurd h164 (by omega)
                            · refine zj_aload_n F d_MO_deflate_167 0 rfl rfl ?_
                              refine zj_get F d_MO_deflate_168 0 7 rfl rfl in_MO (by decide) q_558 rfl ?_
                              refine zj_iload F d_MO_deflate_171 6 rfl ?_
                              refine zj_iload F d_MO_deflate_173 7 rfl ?_
                              refine zj_iadd F d_MO_deflate_175 (nI_add _ _) ?_
                              refine zj_bald F d_MO_deflate_176 2 0 ((f - 1) + i) rfl rfl rfl (by omega) (by omega) rfl ?_
                              refine zj_aload_n F d_MO_deflate_177 0 rfl rfl ?_
                              refine zj_get F d_MO_deflate_178 0 7 rfl rfl in_MO (by decide) q_558 rfl ?_
                              refine zj_iload_n F d_MO_deflate_181 1 rfl rfl ?_
                              refine zj_iload F d_MO_deflate_182 7 rfl ?_
                              refine zj_iadd F d_MO_deflate_184 (nI_add _ _) ?_
                              refine zj_bald F d_MO_deflate_185 2 0 (en1 + i) rfl rfl rfl (by omega) (by omega) rfl ?_
                              refine zj_icmp_ne (tgt := 195) (P := t (f - 1 + i) = t (en1 + i)) F d_MO_deflate_186 (by decide) ((zby_eq hrr _ _).trans (by rw [hrt _ (by omega), hrt _ (by omega)])) (fun h186 => ?_) (fun h186 => ?_)
                              · have i4 : zagF t (f - 1) en1 (q + 1) i = i := by unfold zagF; rw [if_neg h186]
                                rw [i4] at i2
                                rw [← i2] at cmp
                                exact zj_sub [0, 1, 2, 3, 4, 5, 6, 7] rfl cmp
                              · have i4 : zagF t (f - 1) en1 (q + 1) i = zagF t (f - 1) en1 q (i + 1) := by conv => lhs; unfold zagF; rw [if_pos h186]
                                rw [i4] at i2
                                refine zj_iinc (v := nI (i + 1)) (L' := [(7, .int (nI (i + 1))), (0, .ref m), (1, .int (nI en1)), (2, .int (nI en1)), (3, .int (nI r.1)), (4, .int (nI r.2)), (5, .int (nI mx)), (6, .int (nI (f - 1)))]) F d_MO_deflate_189 7 rfl (nI_add _ _) (by decide) rfl ?_
                                refine zj_goto F d_MO_deflate_192 (tgt := 160) (by decide) ?_
                                exact zj_sub [1, 2, 3, 4, 5, 6, 7, 0] rfl (iha (i + 1) (by omega) i2)
                        exact zj_sub [1, 2, 3, 4, 5, 6, 7, 0] rfl (keyA mx 0 (Nat.zero_add _) rfl)
              have hzp := zlst_ok (zmk t) (zmk t en1) en1
              exact zj_sub [4, 5, 6, 3, 2, 1, 0] rfl (keyF _ (2, 0) hzp.1 hzp.2.1 (zfd_first (zmk_eq t) hm))
            · exact hq.elim
        have keyM : ∀ q en1 (hg1 cg1 : Nat → Nat), en1 + q = k → zinM (zmk t) hg1 cg1 en1 → zj G 0 0 49 [(0, .ref m), (1, .int (nI k)), (2, .int (nI en1))] [] [zO m 6 [.int fa, .ref ta, .int tn, .ref re, .int sz, .ref da, .int dn, .ref ro, .int (nI n), .int ba, .ref li, .ref di, .ref lc, .ref la, .ref ou, .int (nI s.2.1), .int (nI s.2.2.1), .int (nI s.2.2.2), .ref he, .ref ch], zB K ou 65536 (zby oo), zB K ro 16640 (zby rr), zI K he 65536 (zm1 hg1), zI K ch 16640 (zm1 cg1)] := by
          clear hI
          intro q
          induction q with
          | zero =>
            intro en1 hg1 cg1 j1 hI
            show zj G 0 0 49 [(0, .ref m), (1, .int (nI k)), (2, .int (nI en1))] [] [zO m 6 [.int fa, .ref ta, .int tn, .ref re, .int sz, .ref da, .int dn, .ref ro, .int (nI n), .int ba, .ref li, .ref di, .ref lc, .ref la, .ref ou, .int (nI s.2.1), .int (nI s.2.2.1), .int (nI s.2.2.2), .ref he, .ref ch], zB K ou 65536 (zby oo), zB K ro 16640 (zby rr), zI K he 65536 (zm1 hg1), zI K ch 16640 (zm1 cg1)]
            refine zj_iload_n F d_MO_deflate_49 2 rfl rfl ?_
            refine zj_iload_n F d_MO_deflate_50 1 rfl rfl ?_
            refine zj_icmp_ge (tgt := 95) F d_MO_deflate_51 (by decide) (nI_leI (by omega) (by omega)) (fun h51 => ?_) (fun h51 => ?_)
            · exact zj_sub [0, 1, 2] rfl (srch en1 hg1 cg1 (by omega) (by omega) hI)
            · exact absurd h51 (by omega)
          | succ q ihm =>
            intro en1 hg1 cg1 j1 hI
            show zj G 0 0 49 [(0, .ref m), (1, .int (nI k)), (2, .int (nI en1))] [] [zO m 6 [.int fa, .ref ta, .int tn, .ref re, .int sz, .ref da, .int dn, .ref ro, .int (nI n), .int ba, .ref li, .ref di, .ref lc, .ref la, .ref ou, .int (nI s.2.1), .int (nI s.2.2.1), .int (nI s.2.2.2), .ref he, .ref ch], zB K ou 65536 (zby oo), zB K ro 16640 (zby rr), zI K he 65536 (zm1 hg1), zI K ch 16640 (zm1 cg1)]
            refine zj_iload_n F d_MO_deflate_49 2 rfl rfl ?_
            refine zj_iload_n F d_MO_deflate_50 1 rfl rfl ?_
            refine zj_icmp_ge (tgt := 95) F d_MO_deflate_51 (by decide) (nI_leI (by omega) (by omega)) (fun h51 => ?_) (fun h51 => ?_)
            · exact absurd h51 (by omega)
            · refine zj_iload_n F d_MO_deflate_54 2 rfl rfl ?_
              refine zj_iconst (v := nI 2) F d_MO_deflate_55 (by decide) ?_
              refine zj_iadd F d_MO_deflate_56 (nI_add _ _) ?_
              refine zj_aload_n F d_MO_deflate_57 0 rfl rfl ?_
              refine zj_get F d_MO_deflate_58 0 8 rfl rfl in_MO (by decide) q_559 rfl ?_
              refine zj_icmp_ge (tgt := 95) F d_MO_deflate_61 (by decide) (nI_leI (by omega) (by omega)) (fun h61 => ?_) (fun h61 => ?_)
              · exact zj_sub [0, 1, 2] rfl (srch en1 hg1 cg1 (by omega) (by omega) hI)
              · have hcl := zmk_lt t en1
                refine zj_aload_n F d_MO_deflate_64 0 rfl rfl ?_
                refine zj_iload_n F d_MO_deflate_65 2 rfl rfl ?_
                refine zj_call (maxL := 2) (wr := [zB K ou 65536 (zby oo), zI K he 65536 (zm1 hg1), zI K ch 16640 (zm1 cg1)]) F E (m_MO_mark l K m ta re da ro li di lc la ou he ch fa tn sz dn (nI n) ba (nI s.2.1) (nI s.2.2.1) (nI s.2.2.2) en1 t rr hb (hrt _ (by omega)) (hrt _ (by omega)) (hrt _ (by omega)) (by omega)) (zi_V (As := [.int (nI en1)]) (rest := []) F d_MO_deflate_66 0 rfl rfl rfl q_713 q_715 sel_MO_mark q_716 (Or.inl ⟨_, _, rfl⟩) (by decide) (show Option.map (fun d => d.parameters.length) (parseMethodDescriptor y_MO_mark.desc) = some 1 from by decide +kernel)) d_MO_deflate_66 q_716 (Or.inl ⟨_, _, rfl⟩) q_7 [0, 2] [1, 3, 4] rfl rfl rfl rfl (by decide) ⟨by decide, by decide, by decide, by decide⟩ (Nat.le_of_ble_eq_true rfl) (fun v w1 hq => ?_) (fun X w1 hq => ?_)
                · obtain ⟨rfl, rfl⟩ := hq
                  show zj G 0 0 69 [(0, .ref m), (1, .int (nI k)), (2, .int (nI en1))] [.int (nI (zmk t en1))] [zB K ou 65536 (zby oo), zI K he 65536 (zm1 hg1), zI K ch 16640 (zm1 cg1), zO m 6 [.int fa, .ref ta, .int tn, .ref re, .int sz, .ref da, .int dn, .ref ro, .int (nI n), .int ba, .ref li, .ref di, .ref lc, .ref la, .ref ou, .int (nI s.2.1), .int (nI s.2.2.1), .int (nI s.2.2.2), .ref he, .ref ch], zB K ro 16640 (zby rr)]
                  refine zj_istore_n (L' := [(3, .int (nI (zmk t en1))), (0, .ref m), (1, .int (nI k)), (2, .int (nI en1))]) F d_MO_deflate_69 rfl (by decide) rfl ?_
                  refine zj_aload_n F d_MO_deflate_70 1 rfl rfl ?_
                  refine zj_get F d_MO_deflate_71 3 19 rfl rfl in_MO (by decide) q_570 rfl ?_
                  refine zj_iload_n F d_MO_deflate_74 3 rfl rfl ?_
                  refine zj_aload_n F d_MO_deflate_75 1 rfl rfl ?_
                  refine zj_get F d_MO_deflate_76 3 18 rfl rfl in_MO (by decide) q_569 rfl ?_
                  refine zj_iload_n F d_MO_deflate_79 0 rfl rfl ?_
                  refine zj_iald F d_MO_deflate_80 1 1 (zmk t en1) rfl rfl rfl (by omega) (by omega) rfl ?_
                  refine zj_iast (ws' := [zB K ou 65536 (zby oo), zI K he 65536 (zm1 hg1), zI K ch 16640 (zm1 (va_up cg1 en1 (hg1 (zmk t en1)))), zO m 6 [.int fa, .ref ta, .int tn, .ref re, .int sz, .ref da, .int dn, .ref ro, .int (nI n), .int ba, .ref li, .ref di, .ref lc, .ref la, .ref ou, .int (nI s.2.1), .int (nI s.2.2.1), .int (nI s.2.2.2), .ref he, .ref ch], zB K ro 16640 (zby rr)]) F d_MO_deflate_81 2 1 en1 rfl rfl rfl (by omega) (by omega) (by rw [← zm1_upd]; rfl) ?_
                  refine zj_aload_n F d_MO_deflate_82 1 rfl rfl ?_
                  refine zj_get F d_MO_deflate_83 3 18 rfl rfl in_MO (by decide) q_569 rfl ?_
                  refine zj_iload_n F d_MO_deflate_86 0 rfl rfl ?_
                  refine zj_iload_n F d_MO_deflate_87 3 rfl rfl ?_
                  refine zj_iast (ws' := [zB K ou 65536 (zby oo), zI K he 65536 (zm1 (va_up hg1 (zmk t en1) (en1 + 1))), zI K ch 16640 (zm1 (va_up cg1 en1 (hg1 (zmk t en1)))), zO m 6 [.int fa, .ref ta, .int tn, .ref re, .int sz, .ref da, .int dn, .ref ro, .int (nI n), .int ba, .ref li, .ref di, .ref lc, .ref la, .ref ou, .int (nI s.2.1), .int (nI s.2.2.1), .int (nI s.2.2.2), .ref he, .ref ch], zB K ro 16640 (zby rr)]) F d_MO_deflate_88 1 1 (zmk t en1) rfl rfl rfl (by omega) (by omega) (by rw [← zm1_upd1]; rfl) ?_
                  refine zj_iinc (v := nI (en1 + 1)) (L' := [(2, .int (nI (en1 + 1))), (3, .int (nI (zmk t en1))), (0, .ref m), (1, .int (nI k))]) F d_MO_deflate_89 3 rfl (nI_add _ _) (by decide) rfl ?_
                  refine zj_wsub (ws' := [zO m 6 [.int fa, .ref ta, .int tn, .ref re, .int sz, .ref da, .int dn, .ref ro, .int (nI n), .int ba, .ref li, .ref di, .ref lc, .ref la, .ref ou, .int (nI s.2.1), .int (nI s.2.2.1), .int (nI s.2.2.2), .ref he, .ref ch], zB K ou 65536 (zby oo), zB K ro 16640 (zby rr), zI K he 65536 (zm1 (va_up hg1 (zmk t en1) (en1 + 1))), zI K ch 16640 (zm1 (va_up cg1 en1 (hg1 (zmk t en1))))]) [3, 0, 4, 1, 2] rfl rfl rfl ?_
                  refine zj_goto F d_MO_deflate_92 (tgt := 49) (by decide) ?_
                  exact zj_sub [2, 3, 0] rfl (ihm (en1 + 1) _ _ (by omega) (zinM_s hcl hI))
                · exact hq.elim
        exact zj_sub [0, 1, 2] rfl (keyM (k - en) en hg cg (by omega) hI)
  refine zj_iconst (v := nI 0) F d_MO_deflate_0 (by decide) ?_
  refine zj_istore_n (L' := [(1, .int (nI 0)), (0, .ref m)]) F d_MO_deflate_1 rfl (by decide) rfl ?_
  have keyH : ∀ i, i ≤ 65536 → zj G 0 0 2 [(0, .ref m), (1, .int (nI i))] [] [zO m 6 [.int fa, .ref ta, .int tn, .ref re, .int sz, .ref da, .int dn, .ref ro, .int (nI n), .int ba, .ref li, .ref di, .ref lc, .ref la, .ref ou, .int (nI w), .int bb, .int bc, .ref he, .ref ch], zB K ou 65536 (zby oo), zB K ro 16640 (zby rr), zI K he 65536 (zm1 (zpre (fun _ => 0) hg i)), zI K ch 16640 (zm1 cg)] := by
    refine zdown 65536 ?_ ?_
    · show zj G 0 0 2 [(0, .ref m), (1, .int (nI 65536))] [] [zO m 6 [.int fa, .ref ta, .int tn, .ref re, .int sz, .ref da, .int dn, .ref ro, .int (nI n), .int ba, .ref li, .ref di, .ref lc, .ref la, .ref ou, .int (nI w), .int bb, .int bc, .ref he, .ref ch], zB K ou 65536 (zby oo), zB K ro 16640 (zby rr), zI K he 65536 (zm1 (zpre (fun _ => 0) hg 65536)), zI K ch 16640 (zm1 cg)]
      refine zj_iload_n F d_MO_deflate_2 1 rfl rfl ?_
      refine zj_ldc (v := nI 65536) F d_MO_deflate_3 q_550 ?_
      refine zj_icmp_ge (tgt := 21) F d_MO_deflate_5 (by decide) (nI_leI (by omega) (by omega)) (fun h5 => ?_) (fun h5 => ?_)
      · refine zj_aload_n F d_MO_deflate_21 0 rfl rfl ?_
        refine zj_iconst (v := nI 0) F d_MO_deflate_22 (by decide) ?_
        refine zj_put (ws' := [zO m 6 [.int fa, .ref ta, .int tn, .ref re, .int sz, .ref da, .int dn, .ref ro, .int (nI n), .int ba, .ref li, .ref di, .ref lc, .ref la, .ref ou, .int (nI w), .int (nI 0), .int bc, .ref he, .ref ch], zB K ou 65536 (zby oo), zB K ro 16640 (zby rr), zI K he 65536 (zm1 (zpre (fun _ => 0) hg 65536)), zI K ch 16640 (zm1 cg)]) F d_MO_deflate_23 0 16 rfl rfl in_MO ty_MO nm_MO (by decide) q_567 rfl rfl rfl (Nat.le_of_ble_eq_true rfl) rfl ?_
        refine zj_aload_n F d_MO_deflate_26 0 rfl rfl ?_
        refine zj_iconst (v := nI 0) F d_MO_deflate_27 (by decide) ?_
        refine zj_put (ws' := [zO m 6 [.int fa, .ref ta, .int tn, .ref re, .int sz, .ref da, .int dn, .ref ro, .int (nI n), .int ba, .ref li, .ref di, .ref lc, .ref la, .ref ou, .int (nI w), .int (nI 0), .int (nI 0), .ref he, .ref ch], zB K ou 65536 (zby oo), zB K ro 16640 (zby rr), zI K he 65536 (zm1 (zpre (fun _ => 0) hg 65536)), zI K ch 16640 (zm1 cg)]) F d_MO_deflate_28 0 17 rfl rfl in_MO ty_MO nm_MO (by decide) q_568 rfl rfl rfl (Nat.le_of_ble_eq_true rfl) rfl ?_
        refine zj_aload_n F d_MO_deflate_31 0 rfl rfl ?_
        refine zj_iconst (v := nI 3) F d_MO_deflate_32 (by decide) ?_
        refine zj_iconst (v := nI 3) F d_MO_deflate_33 (by decide) ?_
        have hs0 : zpk (o, w, 0, 0) := ⟨by show 0 < 8; decide, by show 0 < 2 ^ 0; decide, ho⟩
        have hs1 := (zput_ok hs0 (show 3 < 2 ^ 3 by decide)).1
        have t1 := zput_bits (o, w, 0, 0) 3 3
        have t2 : 8 * (zput (o, w, 0, 0) 3 3).2.1 + (zput (o, w, 0, 0) 3 3).2.2.2 = 8 * w + 0 + 3 := t1
        refine zj_call (maxL := 4) (wr := [zB K ro 16640 (zby rr), zI K he 65536 (zm1 (zpre (fun _ => 0) hg 65536)), zI K ch 16640 (zm1 cg)]) F E (m_MO_putBits l K m ta re da ro li di lc la ou he ch fa tn sz dn (nI n) ba 3 3 (o, w, 0, 0) _ oo hs0 hag hoo (by show 8 * w + 0 + 3 ≤ 500000; omega) (by decide) (by decide) rfl) (zi_V (As := [.int (nI 3), .int (nI 3)]) (rest := []) F d_MO_deflate_34 0 rfl rfl rfl q_705 q_707 sel_MO_putBits q_708 (Or.inl ⟨_, _, rfl⟩) (by decide) (show Option.map (fun d => d.parameters.length) (parseMethodDescriptor y_MO_putBits.desc) = some 2 from by decide +kernel)) d_MO_deflate_34 q_708 (Or.inl ⟨_, _, rfl⟩) q_7 [0, 1] [2, 3, 4] rfl rfl rfl rfl (by decide) ⟨by decide, by decide, by decide, by decide⟩ (Nat.le_of_ble_eq_true rfl) (fun v w1 hq => ?_) (fun X w1 hq => ?_)
        · obtain ⟨oo2, hA1, hA2, rfl, rfl⟩ := hq
          show zj G 0 0 37 [(0, .ref m), (1, .int (nI 65536))] [] [zB K ro 16640 (zby rr), zI K he 65536 (zm1 (zpre (fun _ => 0) hg 65536)), zI K ch 16640 (zm1 cg), zO m 6 [.int fa, .ref ta, .int tn, .ref re, .int sz, .ref da, .int dn, .ref ro, .int (nI n), .int ba, .ref li, .ref di, .ref lc, .ref la, .ref ou, .int (nI ((zput (o, w, 0, 0) 3 3).2.1)), .int (nI ((zput (o, w, 0, 0) 3 3).2.2.1)), .int (nI ((zput (o, w, 0, 0) 3 3).2.2.2)), .ref he, .ref ch], zB K ou 65536 (zby oo2)]
          refine zj_iconst (v := nI 0) F d_MO_deflate_37 (by decide) ?_
          refine zj_istore_n (L' := [(1, .int (nI 0)), (0, .ref m)]) F d_MO_deflate_38 rfl (by decide) rfl ?_
          refine zj_iconst (v := nI 0) F d_MO_deflate_39 (by decide) ?_
          refine zj_istore_n (L' := [(2, .int (nI 0)), (1, .int (nI 0)), (0, .ref m)]) F d_MO_deflate_40 rfl (by decide) rfl ?_
          refine zj_wsub (ws' := [zO m 6 [.int fa, .ref ta, .int tn, .ref re, .int sz, .ref da, .int dn, .ref ro, .int (nI n), .int ba, .ref li, .ref di, .ref lc, .ref la, .ref ou, .int (nI ((zput (o, w, 0, 0) 3 3).2.1)), .int (nI ((zput (o, w, 0, 0) 3 3).2.2.1)), .int (nI ((zput (o, w, 0, 0) 3 3).2.2.2)), .ref he, .ref ch], zB K ou 65536 (zby oo2), zB K ro 16640 (zby rr), zI K he 65536 (zm1 (zpre (fun _ => 0) hg 65536)), zI K ch 16640 (zm1 cg)]) [3, 4, 0, 1, 2] rfl rfl rfl ?_
          have hI0 : zinM (zmk t) (zpre (fun _ => 0) hg 65536) cg 0 := ⟨fun c hc => zpre_lt hc, fun q hq => absurd hq (by omega)⟩
          exact zj_sub [2, 1, 0] rfl (key n 0 0 _ oo2 _ cg (by omega) (by omega) (Nat.le_refl _) hs1 (by omega) hA1 hA2 hI0 hS2)
        · exact hq.elim
      · exact absurd (Nat.le_refl _) h5
    · intro i hi ih
      show zj G 0 0 2 [(0, .ref m), (1, .int (nI i))] [] [zO m 6 [.int fa, .ref ta, .int tn, .ref re, .int sz, .ref da, .int dn, .ref ro, .int (nI n), .int ba, .ref li, .ref di, .ref lc, .ref la, .ref ou, .int (nI w), .int bb, .int bc, .ref he, .ref ch], zB K ou 65536 (zby oo), zB K ro 16640 (zby rr), zI K he 65536 (zm1 (zpre (fun _ => 0) hg i)), zI K ch 16640 (zm1 cg)]
      refine zj_iload_n F d_MO_deflate_2 1 rfl rfl ?_
      refine zj_ldc (v := nI 65536) F d_MO_deflate_3 q_550 ?_
      refine zj_icmp_ge (tgt := 21) F d_MO_deflate_5 (by decide) (nI_leI (by omega) (by omega)) (fun h5 => ?_) (fun h5 => ?_)
      · exact absurd h5 (by omega)
      · refine zj_aload_n F d_MO_deflate_8 0 rfl rfl ?_
        refine zj_get F d_MO_deflate_9 0 18 rfl rfl in_MO (by decide) q_569 rfl ?_
        refine zj_iload_n F d_MO_deflate_12 1 rfl rfl ?_
        refine zj_iconst (v := (-1)) F d_MO_deflate_13 (by decide) ?_
        refine zj_iast (ws' := [zO m 6 [.int fa, .ref ta, .int tn, .ref re, .int sz, .ref da, .int dn, .ref ro, .int (nI n), .int ba, .ref li, .ref di, .ref lc, .ref la, .ref ou, .int (nI w), .int bb, .int bc, .ref he, .ref ch], zB K ou 65536 (zby oo), zB K ro 16640 (zby rr), zI K he 65536 (zm1 (zpre (fun _ => 0) hg (i + 1))), zI K ch 16640 (zm1 cg)]) F d_MO_deflate_14 3 1 i rfl rfl rfl (by omega) (by omega) (by rw [show zpre (fun _ => 0) hg (i + 1) = va_up (zpre (fun _ => 0) hg i) i 0 from (zpre_up (fun _ => 0) hg i).symm, ← zm1_updm]; rfl) ?_
        refine zj_iinc (v := nI (i + 1)) (L' := [(1, .int (nI (i + 1))), (0, .ref m)]) F d_MO_deflate_15 1 rfl (nI_add _ _) (by decide) rfl ?_
        refine zj_goto F d_MO_deflate_18 (tgt := 2) (by decide) ?_
        exact zj_sub [1, 0] rfl ih
  have h0 := keyH 0 (Nat.zero_le _)
  rw [zpre_0] at h0
  exact zj_sub [1, 0] rfl h0

