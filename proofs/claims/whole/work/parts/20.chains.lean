/-- the chain of a place -/
def zch (t : Nat → Nat) (p : Nat) : Nat := ((t p * 16 ^^^ t (p + 1) * 4) ^^^ t (p + 2)) % 4096
theorem zch_lt (t : Nat → Nat) (p : Nat) : zch t p < 4096 := Nat.mod_lt _ (by decide)
theorem zch_b {a b c : Nat} (ha : a < 256) (hb : b < 256) (hc : c < 256) : ((a * 16 ^^^ b * 4) ^^^ c) < 2 ^ 32 :=
  Nat.xor_lt_two_pow (Nat.xor_lt_two_pow (by omega) (by omega)) (by omega)
theorem zch_eq (t : Nat → Nat) : ∀ a b, t a = t b → t (a + 1) = t (b + 1) → t (a + 2) = t (b + 2) → zch t a = zch t b := by
  intro a b h1 h2 h3
  unfold zch
  rw [h1, h2, h3]
theorem zby_eq {t : Nat → Nat} (hb : ∀ j, t j < 256) (i j : Nat) : zby t i = zby t j ↔ t i = t j := by
  constructor
  · intro h
    have h1 : zlow (zby t i) = zlow (zby t j) := by rw [h]
    rwa [zby_low (hb i), zby_low (hb j)] at h1
  · intro h
    unfold zby
    rw [h]
/-- what the rows of a search hold when all places before P are marked -/
def zinv (ch : Nat → Nat) (n : Nat) (ng og : Nat → Nat) (P : Nat) : Prop :=
  (∀ c, c < 4096 → ng c = zlst ch c (min P (n - 2))) ∧ ∀ q, q < min P (n - 2) → min P (n - 2) ≤ q + 4096 → og (q % 4096) = zlst ch (ch q) q
theorem zinv_s {ch : Nat → Nat} {n : Nat} {ng og : Nat → Nat} {P : Nat} (hc : ch P < 4096) (h : zinv ch n ng og P) (hP : P + 3 ≤ n) : zinv ch n (va_up ng (ch P) (P + 1)) (va_up og (P % 4096) (ng (ch P))) (P + 1) := by
  have e1 : min P (n - 2) = P := by omega
  have e2 : min (P + 1) (n - 2) = P + 1 := by omega
  unfold zinv at h ⊢
  rw [e1] at h
  rw [e2]
  refine ⟨?_, ?_⟩
  · intro c h1
    unfold zlst va_up
    by_cases h2 : ch P = c
    · rw [if_pos h2.symm, if_pos h2]
    · rw [if_neg (fun h3 => h2 h3.symm), if_neg h2]
      exact h.1 c h1
  · intro q h1 h2
    by_cases h3 : q = P
    · subst h3
      rw [va_up_self]
      exact h.1 _ hc
    · rw [va_up_ne _ _ (by omega)]
      exact h.2 q (by omega) (by omega)
theorem zinv_n {ch : Nat → Nat} {n : Nat} {ng og : Nat → Nat} {P : Nat} (h : zinv ch n ng og P) (hP : ¬ P + 3 ≤ n) : zinv ch n ng og (P + 1) := by
  have e1 : min (P + 1) (n - 2) = min P (n - 2) := by omega
  unfold zinv at h ⊢
  rw [e1]
  exact h
theorem zI_max0 {a : Nat} (ha : a < 2 ^ 31) : (if nI 0 < nI a - nI 4096 then nI a - nI 4096 else nI 0) = nI (a - 4096) := by
  by_cases h : 4096 ≤ a
  · rw [pk_sub h]
    by_cases h1 : nI 0 < nI (a - 4096)
    · rw [if_pos h1]
    · rw [if_neg h1]
      rw [nI_ltI (by decide) (by omega)] at h1
      rw [show a - 4096 = 0 by omega]
  · have h2 : ∀ x, x < 64 → ∀ y, y < 64 → ¬ (nI 0 < nI (64 * x + y) - nI 4096) := by decide +kernel
    have h3 := h2 (a / 64) (by omega) (a % 64) (by omega)
    rw [show 64 * (a / 64) + a % 64 = a by omega] at h3
    rw [if_neg h3, show a - 4096 = 0 by omega]
theorem zI_max1 {a : Nat} (ha : a < 2 ^ 31) : (if nI 1 < nI a then nI a else nI 1) = nI (max 1 a) := by
  by_cases h : nI 1 < nI a
  · rw [if_pos h]
    rw [nI_ltI (by decide) ha] at h
    rw [show max 1 a = a by omega]
  · rw [if_neg h]
    rw [nI_ltI (by decide) ha] at h
    rw [show max 1 a = 1 by omega]
set_option maxHeartbeats 4000000 in
set_option maxRecDepth 100000 in
/-- chainOf(place) -/
theorem m_PA_chainOf (l : Launch) (K : zk) (p ne ol ib n ob : Nat) (pl : Nat) (w h c x y : Int32) (t : Nat → Nat) (hb : ∀ j, t j < 256) (hp : pl + 3 ≤ 16384) : zc l K y_PA_chainOf w_PA_chainOf { frames := 0, cells := 0, slots := 0, locals := 0 } 0 0 0 0 [.ref p, .int (nI pl)] [zO p 2 [.ref ne, .ref ol, .ref ib, .int (nI n), .ref ob, .int w, .int h, .int c, .int x, .int y], zB K ib 16384 (zby t)] (fun r w1 => r = some (.int (nI (zch t pl))) ∧ w1 = [zO p 2 [.ref ne, .ref ol, .ref ib, .int (nI n), .ref ob, .int w, .int h, .int c, .int x, .int y], zB K ib 16384 (zby t)]) (fun _ _ => False) := by
  refine zc_of (cc := c_PA_chainOf) (nl := 5) (ret := (some .int)) (by decide) (Nat.le_of_ble_eq_true rfl) (fun G F E => ?_)
  have F : zf G l K { frames := 0, cells := 0, slots := 0, locals := 0 } "ZlibBox$Packer" c_PA_chainOf 5 := F
  show zj G 0 0 0 [(0, .ref p), (1, .int (nI pl))] [] [zO p 2 [.ref ne, .ref ol, .ref ib, .int (nI n), .ref ob, .int w, .int h, .int c, .int x, .int y], zB K ib 16384 (zby t)]
  refine zj_aload_n F d_PA_chainOf_0 0 rfl rfl ?_
  refine zj_get F d_PA_chainOf_1 0 2 rfl rfl in_PA (by decide) q_117 rfl ?_
  refine zj_iload_n F d_PA_chainOf_4 1 rfl rfl ?_
  refine zj_bald F d_PA_chainOf_5 1 0 pl rfl rfl rfl (by omega) (by omega) rfl ?_
  refine zj_sipush (v := nI 255) F d_PA_chainOf_6 (by decide) ?_
  refine zj_iand (z := nI (t pl)) F d_PA_chainOf_9 (zby_and (hb _)) ?_
  refine zj_istore_n (L' := [(2, .int (nI (t pl))), (0, .ref p), (1, .int (nI pl))]) F d_PA_chainOf_10 rfl (by decide) rfl ?_
  refine zj_aload_n F d_PA_chainOf_11 1 rfl rfl ?_
  refine zj_get F d_PA_chainOf_12 0 2 rfl rfl in_PA (by decide) q_117 rfl ?_
  refine zj_iload_n F d_PA_chainOf_15 2 rfl rfl ?_
  refine zj_iconst (v := nI 1) F d_PA_chainOf_16 (by decide) ?_
  refine zj_iadd F d_PA_chainOf_17 (nI_add _ _) ?_
  refine zj_bald F d_PA_chainOf_18 1 0 (pl + 1) rfl rfl rfl (by omega) (by omega) rfl ?_
  refine zj_sipush (v := nI 255) F d_PA_chainOf_19 (by decide) ?_
  refine zj_iand (z := nI (t (pl + 1))) F d_PA_chainOf_22 (zby_and (hb _)) ?_
  refine zj_istore_n (L' := [(3, .int (nI (t (pl + 1)))), (2, .int (nI (t pl))), (0, .ref p), (1, .int (nI pl))]) F d_PA_chainOf_23 rfl (by decide) rfl ?_
  refine zj_aload_n F d_PA_chainOf_24 2 rfl rfl ?_
  refine zj_get F d_PA_chainOf_25 0 2 rfl rfl in_PA (by decide) q_117 rfl ?_
  refine zj_iload_n F d_PA_chainOf_28 3 rfl rfl ?_
  refine zj_iconst (v := nI 2) F d_PA_chainOf_29 (by decide) ?_
  refine zj_iadd F d_PA_chainOf_30 (nI_add _ _) ?_
  refine zj_bald F d_PA_chainOf_31 1 0 (pl + 2) rfl rfl rfl (by omega) (by omega) rfl ?_
  refine zj_sipush (v := nI 255) F d_PA_chainOf_32 (by decide) ?_
  refine zj_iand (z := nI (t (pl + 2))) F d_PA_chainOf_35 (zby_and (hb _)) ?_
  refine zj_istore (L' := [(4, .int (nI (t (pl + 2)))), (3, .int (nI (t (pl + 1)))), (2, .int (nI (t pl))), (0, .ref p), (1, .int (nI pl))]) F d_PA_chainOf_36 (by decide) rfl ?_
  refine zj_iload_n F d_PA_chainOf_38 2 rfl rfl ?_
  refine zj_iconst (v := nI 4) F d_PA_chainOf_39 (by decide) ?_
  refine zj_ishl F d_PA_chainOf_40 (zI_shl (by decide)) ?_
  refine zj_iload_n F d_PA_chainOf_41 1 rfl rfl ?_
  refine zj_iconst (v := nI 2) F d_PA_chainOf_42 (by decide) ?_
  refine zj_ishl F d_PA_chainOf_43 (zI_shl (by decide)) ?_
  refine zj_ixor (z := nI ((t pl * 16) ^^^ (t (pl + 1) * 4))) F d_PA_chainOf_44 (zI_xor _ _) ?_
  refine zj_iload F d_PA_chainOf_45 0 rfl ?_
  refine zj_ixor (z := nI (((t pl * 16) ^^^ (t (pl + 1) * 4)) ^^^ (t (pl + 2)))) F d_PA_chainOf_47 (zI_xor _ _) ?_
  refine zj_sipush (v := nI 4095) F d_PA_chainOf_48 (by decide) ?_
  refine zj_iand (z := nI (zch t pl)) F d_PA_chainOf_51 (pk_andN (zch_b (hb _) (hb _) (hb _)) 12 (by decide)) ?_
  exact zj_iret F E d_PA_chainOf_52 (Nat.le_refl _) (Nat.le_refl _) ⟨rfl, rfl⟩
set_option maxHeartbeats 4000000 in
set_option maxRecDepth 100000 in
/-- remember(place) -/
theorem m_PA_remember (l : Launch) (K : zk) (p ne ol ib n ob : Nat) (pl : Nat) (w h c x y : Int32) (t ng og : Nat → Nat) (hb : ∀ j, t j < 256) (hn : n ≤ 16384) (hp : pl < n) (hI : zinv (zch t) n ng og pl) : zc l K y_PA_remember w_PA_remember { frames := 1, cells := 0, slots := 0, locals := 24 } 0 0 0 0 [.ref p, .int (nI pl)] [zO p 2 [.ref ne, .ref ol, .ref ib, .int (nI n), .ref ob, .int w, .int h, .int c, .int x, .int y], zB K ib 16384 (zby t), zI K ne 4096 (zm1 ng), zI K ol 4096 (zm1 og)] (fun r w1 => ∃ ng' og', zinv (zch t) n ng' og' (pl + 1) ∧ r = none ∧ w1 = [zO p 2 [.ref ne, .ref ol, .ref ib, .int (nI n), .ref ob, .int w, .int h, .int c, .int x, .int y], zB K ib 16384 (zby t), zI K ne 4096 (zm1 ng'), zI K ol 4096 (zm1 og')]) (fun _ _ => False) := by
  refine zc_of (cc := c_PA_remember) (nl := 3) (ret := none) (by decide) (Nat.le_of_ble_eq_true rfl) (fun G F E => ?_)
  have F : zf G l K { frames := 1, cells := 0, slots := 0, locals := 24 } "ZlibBox$Packer" c_PA_remember 3 := F
  show zj G 0 0 0 [(0, .ref p), (1, .int (nI pl))] [] [zO p 2 [.ref ne, .ref ol, .ref ib, .int (nI n), .ref ob, .int w, .int h, .int c, .int x, .int y], zB K ib 16384 (zby t), zI K ne 4096 (zm1 ng), zI K ol 4096 (zm1 og)]
  refine zj_aload_n F d_PA_remember_0 0 rfl rfl ?_
  refine zj_get F d_PA_remember_1 0 3 rfl rfl in_PA (by decide) q_118 rfl ?_
  refine zj_iload_n F d_PA_remember_4 1 rfl rfl ?_
  refine zj_isub F d_PA_remember_5 (pk_sub (by omega)) ?_
  refine zj_iconst (v := nI 3) F d_PA_remember_6 (by decide) ?_
  refine zj_icmp_lt (tgt := 39) F d_PA_remember_7 (by decide) (nI_ltI (by omega) (by omega)) (fun h7 => ?_) (fun h7 => ?_)
  · exact zj_vret F E d_PA_remember_39 (Nat.le_refl _) (Nat.le_refl _) ⟨ng, og, zinv_n hI (by omega), rfl, rfl⟩
  · have hc := zch_lt t pl
    refine zj_aload_n F d_PA_remember_10 0 rfl rfl ?_
    refine zj_iload_n F d_PA_remember_11 1 rfl rfl ?_
    refine zj_call (maxL := 5) (wr := [zI K ne 4096 (zm1 ng), zI K ol 4096 (zm1 og)]) F E (m_PA_chainOf l K p ne ol ib n ob pl w h c x y t hb (by omega)) (zi_V (As := [.int (nI pl)]) (rest := []) F d_PA_remember_12 0 rfl rfl rfl q_470 q_472 sel_PA_chainOf q_473 (Or.inl ⟨_, _, rfl⟩) (by decide) (show Option.map (fun d => d.parameters.length) (parseMethodDescriptor y_PA_chainOf.desc) = some 1 from by decide +kernel)) d_PA_remember_12 q_473 (Or.inl ⟨_, _, rfl⟩) q_6 [0, 1] [2, 3] rfl rfl rfl rfl (by decide) ⟨by decide, by decide, by decide, by decide⟩ (Nat.le_of_ble_eq_true rfl) (fun v w1 hq => ?_) (fun X w1 hq => ?_)
    · obtain ⟨rfl, rfl⟩ := hq
      show zj G 0 0 15 [(0, .ref p), (1, .int (nI pl))] [.int (nI (zch t pl))] [zI K ne 4096 (zm1 ng), zI K ol 4096 (zm1 og), zO p 2 [.ref ne, .ref ol, .ref ib, .int (nI n), .ref ob, .int w, .int h, .int c, .int x, .int y], zB K ib 16384 (zby t)]
      refine zj_istore_n (L' := [(2, .int (nI (zch t pl))), (0, .ref p), (1, .int (nI pl))]) F d_PA_remember_15 rfl (by decide) rfl ?_
      refine zj_aload_n F d_PA_remember_16 1 rfl rfl ?_
      refine zj_get F d_PA_remember_17 2 1 rfl rfl in_PA (by decide) q_116 rfl ?_
      refine zj_iload_n F d_PA_remember_20 2 rfl rfl ?_
      refine zj_sipush (v := nI 4096) F d_PA_remember_21 (by decide) ?_
      refine zj_irem F d_PA_remember_24 (by decide) (pk_rem (by omega) (by decide) (by decide)) ?_
      refine zj_aload_n F d_PA_remember_25 1 rfl rfl ?_
      refine zj_get F d_PA_remember_26 2 0 rfl rfl in_PA (by decide) q_115 rfl ?_
      refine zj_iload_n F d_PA_remember_29 0 rfl rfl ?_
      refine zj_iald F d_PA_remember_30 0 1 (zch t pl) rfl rfl rfl (by omega) (by omega) rfl ?_
      refine zj_iast (ws' := [zI K ne 4096 (zm1 ng), zI K ol 4096 (zm1 (va_up og (pl % 4096) (ng (zch t pl)))), zO p 2 [.ref ne, .ref ol, .ref ib, .int (nI n), .ref ob, .int w, .int h, .int c, .int x, .int y], zB K ib 16384 (zby t)]) F d_PA_remember_31 1 1 (pl % 4096) rfl rfl rfl (by omega) (by omega) (by rw [← zm1_upd]; rfl) ?_
      refine zj_aload_n F d_PA_remember_32 1 rfl rfl ?_
      refine zj_get F d_PA_remember_33 2 0 rfl rfl in_PA (by decide) q_115 rfl ?_
      refine zj_iload_n F d_PA_remember_36 0 rfl rfl ?_
      refine zj_iload_n F d_PA_remember_37 2 rfl rfl ?_
      refine zj_iast (ws' := [zI K ne 4096 (zm1 (va_up ng (zch t pl) (pl + 1))), zI K ol 4096 (zm1 (va_up og (pl % 4096) (ng (zch t pl)))), zO p 2 [.ref ne, .ref ol, .ref ib, .int (nI n), .ref ob, .int w, .int h, .int c, .int x, .int y], zB K ib 16384 (zby t)]) F d_PA_remember_38 0 1 (zch t pl) rfl rfl rfl (by omega) (by omega) (by rw [← zm1_upd1]; rfl) ?_
      refine zj_wsub (ws' := [zO p 2 [.ref ne, .ref ol, .ref ib, .int (nI n), .ref ob, .int w, .int h, .int c, .int x, .int y], zB K ib 16384 (zby t), zI K ne 4096 (zm1 (va_up ng (zch t pl) (pl + 1))), zI K ol 4096 (zm1 (va_up og (pl % 4096) (ng (zch t pl))))]) [2, 3, 0, 1] rfl rfl rfl ?_
      exact zj_vret F E d_PA_remember_39 (Nat.le_refl _) (Nat.le_refl _) ⟨_, _, zinv_s hc hI (by omega), rfl, rfl⟩
    · exact hq.elim
set_option maxHeartbeats 4000000 in
set_option maxRecDepth 100000 in
/-- agreement(from, place, most) -/
theorem m_PA_agreement (l : Launch) (K : zk) (p ne ol ib n ob : Nat) (a b m R : Nat) (w h c x y : Int32) (t : Nat → Nat) (hb : ∀ j, t j < 256) (ha : a ≤ b) (hm : b + m ≤ 16384) (hR : zagr t a b m = R) : zc l K y_PA_agreement w_PA_agreement { frames := 0, cells := 0, slots := 0, locals := 0 } 0 0 0 0 [.ref p, .int (nI a), .int (nI b), .int (nI m)] [zO p 2 [.ref ne, .ref ol, .ref ib, .int (nI n), .ref ob, .int w, .int h, .int c, .int x, .int y], zB K ib 16384 (zby t)] (fun r w1 => r = some (.int (nI R)) ∧ w1 = [zO p 2 [.ref ne, .ref ol, .ref ib, .int (nI n), .ref ob, .int w, .int h, .int c, .int x, .int y], zB K ib 16384 (zby t)]) (fun _ _ => False) := by
  refine zc_of (cc := c_PA_agreement) (nl := 5) (ret := (some .int)) (by decide) (Nat.le_of_ble_eq_true rfl) (fun G F E => ?_)
  have F : zf G l K { frames := 0, cells := 0, slots := 0, locals := 0 } "ZlibBox$Packer" c_PA_agreement 5 := F
  show zj G 0 0 0 [(0, .ref p), (1, .int (nI a)), (2, .int (nI b)), (3, .int (nI m))] [] [zO p 2 [.ref ne, .ref ol, .ref ib, .int (nI n), .ref ob, .int w, .int h, .int c, .int x, .int y], zB K ib 16384 (zby t)]
  refine zj_iconst (v := nI 0) F d_PA_agreement_0 (by decide) ?_
  refine zj_istore (L' := [(4, .int (nI 0)), (0, .ref p), (1, .int (nI a)), (2, .int (nI b)), (3, .int (nI m))]) F d_PA_agreement_1 (by decide) rfl ?_
  have key : ∀ q i, i + q = m → zagF t a b q i = R → zj G 0 0 3 [(0, .ref p), (1, .int (nI a)), (2, .int (nI b)), (3, .int (nI m)), (4, .int (nI i))] [] [zO p 2 [.ref ne, .ref ol, .ref ib, .int (nI n), .ref ob, .int w, .int h, .int c, .int x, .int y], zB K ib 16384 (zby t)] := by
    clear hR
    intro q
    induction q with
    | zero =>
      intro i h1 h2
      show zj G 0 0 3 [(0, .ref p), (1, .int (nI a)), (2, .int (nI b)), (3, .int (nI m)), (4, .int (nI i))] [] [zO p 2 [.ref ne, .ref ol, .ref ib, .int (nI n), .ref ob, .int w, .int h, .int c, .int x, .int y], zB K ib 16384 (zby t)]
      refine zj_iload F d_PA_agreement_3 4 rfl ?_
      refine zj_iload_n F d_PA_agreement_5 3 rfl rfl ?_
      refine zj_icmp_ge (tgt := 36) F d_PA_agreement_6 (by decide) (nI_leI (by omega) (by omega)) (fun h6 => ?_) (fun h6 => ?_)
      · refine zj_iload F d_PA_agreement_36 4 rfl ?_
        exact zj_iret F E d_PA_agreement_38 (Nat.le_refl _) (Nat.le_refl _) ⟨by rw [← h2]; rfl, rfl⟩
      · exact absurd h6 (by omega)
    | succ q ih =>
      intro i h1 h2
      unfold zagF at h2
      show zj G 0 0 3 [(0, .ref p), (1, .int (nI a)), (2, .int (nI b)), (3, .int (nI m)), (4, .int (nI i))] [] [zO p 2 [.ref ne, .ref ol, .ref ib, .int (nI n), .ref ob, .int w, .int h, .int c, .int x, .int y], zB K ib 16384 (zby t)]
      refine zj_iload F d_PA_agreement_3 4 rfl ?_
      refine zj_iload_n F d_PA_agreement_5 3 rfl rfl ?_
      refine zj_icmp_ge (tgt := 36) F d_PA_agreement_6 (by decide) (nI_leI (by omega) (by omega)) (fun h6 => ?_) (fun h6 => ?_)
      · exact absurd h6 (by omega)
      · refine zj_aload_n F d_PA_agreement_9 0 rfl rfl ?_
        refine zj_get F d_PA_agreement_10 0 2 rfl rfl in_PA (by decide) q_117 rfl ?_
        refine zj_iload_n F d_PA_agreement_13 1 rfl rfl ?_
        refine zj_iload F d_PA_agreement_14 4 rfl ?_
        refine zj_iadd F d_PA_agreement_16 (nI_add _ _) ?_
        refine zj_bald F d_PA_agreement_17 1 0 (a + i) rfl rfl rfl (by omega) (by omega) rfl ?_
        refine zj_aload_n F d_PA_agreement_18 0 rfl rfl ?_
        refine zj_get F d_PA_agreement_19 0 2 rfl rfl in_PA (by decide) q_117 rfl ?_
        refine zj_iload_n F d_PA_agreement_22 2 rfl rfl ?_
        refine zj_iload F d_PA_agreement_23 4 rfl ?_
        refine zj_iadd F d_PA_agreement_25 (nI_add _ _) ?_
        refine zj_bald F d_PA_agreement_26 1 0 (b + i) rfl rfl rfl (by omega) (by omega) rfl ?_
        refine zj_icmp_ne (tgt := 36) (P := t (a + i) = t (b + i)) F d_PA_agreement_27 (by decide) (zby_eq hb _ _) (fun h27 => ?_) (fun h27 => ?_)
        · rw [if_neg h27] at h2
          refine zj_iload F d_PA_agreement_36 4 rfl ?_
          exact zj_iret F E d_PA_agreement_38 (Nat.le_refl _) (Nat.le_refl _) ⟨by rw [← h2], rfl⟩
        · rw [if_pos h27] at h2
          refine zj_iinc (v := nI (i + 1)) (L' := [(4, .int (nI (i + 1))), (0, .ref p), (1, .int (nI a)), (2, .int (nI b)), (3, .int (nI m))]) F d_PA_agreement_30 4 rfl (nI_add _ _) (by decide) rfl ?_
          refine zj_goto F d_PA_agreement_33 (tgt := 3) (by decide) ?_
          exact zj_sub [1, 2, 3, 4, 0] rfl (ih (i + 1) (by omega) h2)
  exact zj_sub [1, 2, 3, 4, 0] rfl (key m 0 (Nat.zero_add _) hR)
set_option maxHeartbeats 4000000 in
set_option maxRecDepth 100000 in
/-- findCopy(place) -/
theorem m_PA_findCopy (l : Launch) (K : zk) (p ne ol ib n ob : Nat) (pl : Nat) (w h c x y : Int32) (t ng og : Nat → Nat) (R : Nat × Nat) (hb : ∀ j, t j < 256) (hn : n ≤ 16384) (hp : pl < n) (hI : zinv (zch t) n ng og pl) (hR : zfind t n pl = R) : zc l K y_PA_findCopy w_PA_findCopy { frames := 1, cells := 0, slots := 0, locals := 24 } 0 0 0 0 [.ref p, .int (nI pl)] [zO p 2 [.ref ne, .ref ol, .ref ib, .int (nI n), .ref ob, .int w, .int h, .int c, .int x, .int y], zB K ib 16384 (zby t), zI K ne 4096 (zm1 ng), zI K ol 4096 (zm1 og)] (fun r w1 => ∃ y', (R.1 ≠ 0 → y' = nI R.2) ∧ r = none ∧ w1 = [zO p 2 [.ref ne, .ref ol, .ref ib, .int (nI n), .ref ob, .int w, .int h, .int c, .int (nI R.1), .int y'], zB K ib 16384 (zby t), zI K ne 4096 (zm1 ng), zI K ol 4096 (zm1 og)]) (fun _ _ => False) := by
  refine zc_of (cc := c_PA_findCopy) (nl := 8) (ret := none) (by decide) (Nat.le_of_ble_eq_true rfl) (fun G F E => ?_)
  have F : zf G l K { frames := 1, cells := 0, slots := 0, locals := 24 } "ZlibBox$Packer" c_PA_findCopy 8 := F
  show zj G 0 0 0 [(0, .ref p), (1, .int (nI pl))] [] [zO p 2 [.ref ne, .ref ol, .ref ib, .int (nI n), .ref ob, .int w, .int h, .int c, .int x, .int y], zB K ib 16384 (zby t), zI K ne 4096 (zm1 ng), zI K ol 4096 (zm1 og)]
  unfold zfind at hR
  refine zj_aload_n F d_PA_findCopy_0 0 rfl rfl ?_
  refine zj_iconst (v := nI 0) F d_PA_findCopy_1 (by decide) ?_
  refine zj_put (ws' := [zO p 2 [.ref ne, .ref ol, .ref ib, .int (nI n), .ref ob, .int w, .int h, .int c, .int (nI 0), .int y], zB K ib 16384 (zby t), zI K ne 4096 (zm1 ng), zI K ol 4096 (zm1 og)]) F d_PA_findCopy_2 0 8 rfl rfl in_PA ty_PA nm_PA (by decide) q_123 rfl rfl rfl (Nat.le_of_ble_eq_true rfl) rfl ?_
  refine zj_sipush (v := nI 258) F d_PA_findCopy_5 (by decide) ?_
  refine zj_aload_n F d_PA_findCopy_8 0 rfl rfl ?_
  refine zj_get F d_PA_findCopy_9 0 3 rfl rfl in_PA (by decide) q_118 rfl ?_
  refine zj_iload_n F d_PA_findCopy_12 1 rfl rfl ?_
  refine zj_isub F d_PA_findCopy_13 (pk_sub (by omega)) ?_
  refine zj_min F d_PA_findCopy_14 q_464 (by decide) (by omega) (by decide) (by decide) (by decide) (by decide) ?_
  show zj G 0 0 17 [(0, .ref p), (1, .int (nI pl))] [.int (nI (zmost n pl))] [zO p 2 [.ref ne, .ref ol, .ref ib, .int (nI n), .ref ob, .int w, .int h, .int c, .int (nI 0), .int y], zB K ib 16384 (zby t), zI K ne 4096 (zm1 ng), zI K ol 4096 (zm1 og)]
  have hm1 : zmost n pl ≤ 258 := Nat.min_le_left _ _
  have hm2 : zmost n pl ≤ n - pl := Nat.min_le_right _ _
  generalize zmost n pl = m at hR hm1 hm2 ⊢
  show zj G 0 0 17 [(0, .ref p), (1, .int (nI pl))] [.int (nI m)] [zO p 2 [.ref ne, .ref ol, .ref ib, .int (nI n), .ref ob, .int w, .int h, .int c, .int (nI 0), .int y], zB K ib 16384 (zby t), zI K ne 4096 (zm1 ng), zI K ol 4096 (zm1 og)]
  refine zj_istore_n (L' := [(2, .int (nI m)), (0, .ref p), (1, .int (nI pl))]) F d_PA_findCopy_17 rfl (by decide) rfl ?_
  refine zj_iload_n F d_PA_findCopy_18 0 rfl rfl ?_
  refine zj_iconst (v := nI 3) F d_PA_findCopy_19 (by decide) ?_
  refine zj_icmp_ge (tgt := 24) F d_PA_findCopy_20 (by decide) (nI_leI (by omega) (by omega)) (fun h20 => ?_) (fun h20 => ?_)
  · rw [if_pos h20] at hR
    have e1 : min pl (n - 2) = pl := by omega
    unfold zinv at hI
    rw [e1] at hI
    obtain ⟨hI1, hI2⟩ := hI
    have hcl := zch_lt t pl
    refine zj_iconst (v := nI 2) F d_PA_findCopy_24 (by decide) ?_
    refine zj_istore_n (L' := [(3, .int (nI 2)), (2, .int (nI m)), (0, .ref p), (1, .int (nI pl))]) F d_PA_findCopy_25 rfl (by decide) rfl ?_
    refine zj_iconst (v := nI 0) F d_PA_findCopy_26 (by decide) ?_
    refine zj_iload_n F d_PA_findCopy_27 3 rfl rfl ?_
    refine zj_sipush (v := nI 4096) F d_PA_findCopy_28 (by decide) ?_
    refine zj_isub (z := nI pl - nI 4096) F d_PA_findCopy_31 rfl ?_
    refine zj_max (z := nI (pl - 4096)) F d_PA_findCopy_32 q_467 (by decide) (by decide) (by decide) (by decide) (zI_max0 (by omega)) ?_
    refine zj_istore (L' := [(4, .int (nI (pl - 4096))), (3, .int (nI 2)), (2, .int (nI m)), (0, .ref p), (1, .int (nI pl))]) F d_PA_findCopy_35 (by decide) rfl ?_
    refine zj_aload_n F d_PA_findCopy_37 3 rfl rfl ?_
    refine zj_get F d_PA_findCopy_38 0 0 rfl rfl in_PA (by decide) q_115 rfl ?_
    refine zj_aload_n F d_PA_findCopy_41 3 rfl rfl ?_
    refine zj_iload_n F d_PA_findCopy_42 4 rfl rfl ?_
    refine zj_call (maxL := 5) (wr := [zI K ne 4096 (zm1 ng), zI K ol 4096 (zm1 og)]) F E (m_PA_chainOf l K p ne ol ib n ob pl w h c (nI 0) y t hb (by omega)) (zi_V (As := [.int (nI pl)]) (rest := [.ref ne]) F d_PA_findCopy_43 0 rfl rfl rfl q_470 q_472 sel_PA_chainOf q_473 (Or.inl ⟨_, _, rfl⟩) (by decide) (show Option.map (fun d => d.parameters.length) (parseMethodDescriptor y_PA_chainOf.desc) = some 1 from by decide +kernel)) d_PA_findCopy_43 q_473 (Or.inl ⟨_, _, rfl⟩) q_6 [0, 1] [2, 3] rfl rfl rfl rfl (by decide) ⟨by decide, by decide, by decide, by decide⟩ (Nat.le_of_ble_eq_true rfl) (fun v w1 hq => ?_) (fun X w1 hq => ?_)
    · obtain ⟨rfl, rfl⟩ := hq
      show zj G 0 0 46 [(4, .int (nI (pl - 4096))), (3, .int (nI 2)), (2, .int (nI m)), (0, .ref p), (1, .int (nI pl))] [.int (nI (zch t pl)), .ref ne] [zI K ne 4096 (zm1 ng), zI K ol 4096 (zm1 og), zO p 2 [.ref ne, .ref ol, .ref ib, .int (nI n), .ref ob, .int w, .int h, .int c, .int (nI 0), .int y], zB K ib 16384 (zby t)]
      refine zj_iald (z := nI (zlst (zch t) (zch t pl) pl) - 1) F d_PA_findCopy_46 0 1 (zch t pl) rfl rfl rfl (by omega) (by omega) (by show nI (ng _) - 1 = _; rw [hI1 _ hcl]) ?_
      refine zj_istore (L' := [(5, .int (nI (zlst (zch t) (zch t pl) pl) - 1)), (4, .int (nI (pl - 4096))), (3, .int (nI 2)), (2, .int (nI m)), (0, .ref p), (1, .int (nI pl))]) F d_PA_findCopy_47 (by decide) rfl ?_
      refine zj_iconst (v := nI 0) F d_PA_findCopy_49 (by decide) ?_
      refine zj_istore (L' := [(6, .int (nI 0)), (5, .int (nI (zlst (zch t) (zch t pl) pl) - 1)), (4, .int (nI (pl - 4096))), (3, .int (nI 2)), (2, .int (nI m)), (0, .ref p), (1, .int (nI pl))]) F d_PA_findCopy_50 (by decide) rfl ?_
      refine zj_wsub (ws' := [zO p 2 [.ref ne, .ref ol, .ref ib, .int (nI n), .ref ob, .int w, .int h, .int c, .int (nI 0), .int y], zB K ib 16384 (zby t), zI K ne 4096 (zm1 ng), zI K ol 4096 (zm1 og)]) [2, 3, 0, 1] rfl rfl rfl ?_
      have fin : ∀ (r : Nat × Nat) (y1 : Int32), zfd t pl m (min pl 4096) = r → (r.2 ≠ 0 → y1 = nI r.2) → zj G 0 0 144 [] [] [zO p 2 [.ref ne, .ref ol, .ref ib, .int (nI n), .ref ob, .int w, .int h, .int c, .int (nI (if r.2 = 0 then 0 else r.1)), .int y1], zB K ib 16384 (zby t), zI K ne 4096 (zm1 ng), zI K ol 4096 (zm1 og)] := by
        intro r y1 hr hy
        rw [hr] at hR
        subst hR
        show zj G 0 0 144 [] [] [zO p 2 [.ref ne, .ref ol, .ref ib, .int (nI n), .ref ob, .int w, .int h, .int c, .int (nI (if r.2 = 0 then 0 else r.1)), .int y1], zB K ib 16384 (zby t), zI K ne 4096 (zm1 ng), zI K ol 4096 (zm1 og)]
        exact zj_vret F E d_PA_findCopy_144 (Nat.le_refl _) (Nat.le_refl _) ⟨_, fun h => hy (fun h2 => h (if_pos h2)), rfl, rfl⟩
      have key : ∀ q i f (r : Nat × Nat) (y1 : Int32), i + q = 4096 → f + i ≤ pl → (1 ≤ f → zch t (f - 1) = zch t pl) → zfd t pl m (min (pl - f) (min pl 4096)) = r → (r.2 ≠ 0 → y1 = nI r.2) → zj G 0 0 52 [(0, .ref p), (1, .int (nI pl)), (2, .int (nI m)), (3, .int (nI r.1)), (4, .int (nI (pl - 4096))), (5, .int (nI f - 1)), (6, .int (nI i))] [] [zO p 2 [.ref ne, .ref ol, .ref ib, .int (nI n), .ref ob, .int w, .int h, .int c, .int (nI (if r.2 = 0 then 0 else r.1)), .int y1], zB K ib 16384 (zby t), zI K ne 4096 (zm1 ng), zI K ol 4096 (zm1 og)] := by
        clear hR
        intro q
        induction q with
        | zero =>
          intro i f r y1 k1 k2 k3 k4 k5
          show zj G 0 0 52 [(0, .ref p), (1, .int (nI pl)), (2, .int (nI m)), (3, .int (nI r.1)), (4, .int (nI (pl - 4096))), (5, .int (nI f - 1)), (6, .int (nI i))] [] [zO p 2 [.ref ne, .ref ol, .ref ib, .int (nI n), .ref ob, .int w, .int h, .int c, .int (nI (if r.2 = 0 then 0 else r.1)), .int y1], zB K ib 16384 (zby t), zI K ne 4096 (zm1 ng), zI K ol 4096 (zm1 og)]
          refine zj_iload F d_PA_findCopy_52 6 rfl ?_
          refine zj_sipush (v := nI 4096) F d_PA_findCopy_54 (by decide) ?_
          refine zj_icmp_ge (tgt := 144) F d_PA_findCopy_57 (by decide) (nI_leI (by omega) (by omega)) (fun h57 => ?_) (fun h57 => ?_)
          · exact zj_sub [] rfl (fin r y1 (by rw [show min (pl - f) (min pl 4096) = min pl 4096 by omega] at k4; exact k4) k5)
          · exact absurd h57 (by omega)
        | succ q ih =>
          intro i f r y1 k1 k2 k3 k4 k5
          have hz := zfd_ok t pl m h20 (min (pl - f) (min pl 4096))
          rw [k4] at hz
          show zj G 0 0 52 [(0, .ref p), (1, .int (nI pl)), (2, .int (nI m)), (3, .int (nI r.1)), (4, .int (nI (pl - 4096))), (5, .int (nI f - 1)), (6, .int (nI i))] [] [zO p 2 [.ref ne, .ref ol, .ref ib, .int (nI n), .ref ob, .int w, .int h, .int c, .int (nI (if r.2 = 0 then 0 else r.1)), .int y1], zB K ib 16384 (zby t), zI K ne 4096 (zm1 ng), zI K ol 4096 (zm1 og)]
          refine zj_iload F d_PA_findCopy_52 6 rfl ?_
          refine zj_sipush (v := nI 4096) F d_PA_findCopy_54 (by decide) ?_
          refine zj_icmp_ge (tgt := 144) F d_PA_findCopy_57 (by decide) (nI_leI (by omega) (by omega)) (fun h57 => ?_) (fun h57 => ?_)
          · exact absurd h57 (by omega)
          · refine zj_iload F d_PA_findCopy_60 5 rfl ?_
            refine zj_iload F d_PA_findCopy_62 4 rfl ?_
            refine zj_icmp_lt (tgt := 144) (P := f < pl - 4096 + 1) F d_PA_findCopy_64 (by decide) (zI_m1lt (by omega) (by omega)) (fun h64 => ?_) (fun h64 => ?_)
            · exact zj_sub [] rfl (fin r y1 (by rw [show min (pl - f) (min pl 4096) = min pl 4096 by omega] at k4; exact k4) k5)
            · refine zj_iload_n F d_PA_findCopy_67 3 rfl rfl ?_
              refine zj_iload_n F d_PA_findCopy_68 2 rfl rfl ?_
              refine zj_icmp_ge (tgt := 144) F d_PA_findCopy_69 (by decide) (nI_leI (by omega) (by omega)) (fun h69 => ?_) (fun h69 => ?_)
              · exact zj_sub [] rfl (fin r y1 (by rw [← k4]; exact zfd_full h20 (by omega) (by rw [k4]; exact h69)) k5)
              · have hf1 : 1 ≤ f := by omega
                have e2 : min (pl - f) (min pl 4096) = pl - f := by omega
                rw [e2] at k4
                have hs := zfd_s t pl m (pl - f)
                rw [k4, show pl - (pl - f + 1) = f - 1 by omega] at hs
                rw [zI_m1s hf1]
                show zj G 0 0 72 [(0, .ref p), (1, .int (nI pl)), (2, .int (nI m)), (3, .int (nI r.1)), (4, .int (nI (pl - 4096))), (5, .int (nI (f - 1))), (6, .int (nI i))] [] [zO p 2 [.ref ne, .ref ol, .ref ib, .int (nI n), .ref ob, .int w, .int h, .int c, .int (nI (if r.2 = 0 then 0 else r.1)), .int y1], zB K ib 16384 (zby t), zI K ne 4096 (zm1 ng), zI K ol 4096 (zm1 og)]
                have tail : ∀ (r1 : Nat × Nat) (y2 : Int32), zfd t pl m (pl - f + 1) = r1 → (r1.2 ≠ 0 → y2 = nI r1.2) → zj G 0 0 125 [(0, .ref p), (1, .int (nI pl)), (2, .int (nI m)), (3, .int (nI r1.1)), (4, .int (nI (pl - 4096))), (5, .int (nI (f - 1))), (6, .int (nI i))] [] [zO p 2 [.ref ne, .ref ol, .ref ib, .int (nI n), .ref ob, .int w, .int h, .int c, .int (nI (if r1.2 = 0 then 0 else r1.1)), .int y2], zB K ib 16384 (zby t), zI K ne 4096 (zm1 ng), zI K ol 4096 (zm1 og)] := by
                  intro r1 y2 j1 j2
                  show zj G 0 0 125 [(0, .ref p), (1, .int (nI pl)), (2, .int (nI m)), (3, .int (nI r1.1)), (4, .int (nI (pl - 4096))), (5, .int (nI (f - 1))), (6, .int (nI i))] [] [zO p 2 [.ref ne, .ref ol, .ref ib, .int (nI n), .ref ob, .int w, .int h, .int c, .int (nI (if r1.2 = 0 then 0 else r1.1)), .int y2], zB K ib 16384 (zby t), zI K ne 4096 (zm1 ng), zI K ol 4096 (zm1 og)]
                  have hnx := zfd_next (zch_eq t) h20 hf1 (by omega) (by omega) (k3 hf1)
                  have hzl := zlst_ok (zch t) (zch t pl) (f - 1)
                  have hog : og ((f - 1) % 4096) = zlst (zch t) (zch t pl) (f - 1) := by rw [hI2 (f - 1) (by omega) (by omega), k3 hf1]
                  generalize zlst (zch t) (zch t pl) (f - 1) = f2 at hnx hzl hog
                  refine zj_aload_n F d_PA_findCopy_125 0 rfl rfl ?_
                  refine zj_get F d_PA_findCopy_126 0 1 rfl rfl in_PA (by decide) q_116 rfl ?_
                  refine zj_iload F d_PA_findCopy_129 5 rfl ?_
                  refine zj_sipush (v := nI 4096) F d_PA_findCopy_131 (by decide) ?_
                  refine zj_irem F d_PA_findCopy_134 (by decide) (pk_rem (by omega) (by decide) (by decide)) ?_
                  refine zj_iald (z := nI f2 - 1) F d_PA_findCopy_135 3 1 ((f - 1) % 4096) rfl rfl rfl (by omega) (by omega) (by show nI (og _) - 1 = _; rw [hog]) ?_
                  refine zj_istore (L' := [(5, .int (nI f2 - 1)), (0, .ref p), (1, .int (nI pl)), (2, .int (nI m)), (3, .int (nI r1.1)), (4, .int (nI (pl - 4096))), (6, .int (nI i))]) F d_PA_findCopy_136 (by decide) rfl ?_
                  refine zj_iinc (v := nI (i + 1)) (L' := [(6, .int (nI (i + 1))), (5, .int (nI f2 - 1)), (0, .ref p), (1, .int (nI pl)), (2, .int (nI m)), (3, .int (nI r1.1)), (4, .int (nI (pl - 4096)))]) F d_PA_findCopy_138 6 rfl (nI_add _ _) (by decide) rfl ?_
                  refine zj_goto F d_PA_findCopy_141 (tgt := 52) (by decide) ?_
                  exact zj_sub [2, 3, 4, 5, 6, 1, 0] rfl (ih (i + 1) f2 r1 y2 (by omega) (by omega) hzl.2.1 (hnx.trans j1) j2)
                refine zj_aload_n F d_PA_findCopy_72 0 rfl rfl ?_
                refine zj_get F d_PA_findCopy_73 0 2 rfl rfl in_PA (by decide) q_117 rfl ?_
                refine zj_iload F d_PA_findCopy_76 5 rfl ?_
                refine zj_iload_n F d_PA_findCopy_78 3 rfl rfl ?_
                refine zj_iadd F d_PA_findCopy_79 (nI_add _ _) ?_
                refine zj_bald F d_PA_findCopy_80 1 0 ((f - 1) + r.1) rfl rfl rfl (by omega) (by omega) rfl ?_
                refine zj_aload_n F d_PA_findCopy_81 0 rfl rfl ?_
                refine zj_get F d_PA_findCopy_82 0 2 rfl rfl in_PA (by decide) q_117 rfl ?_
                refine zj_iload_n F d_PA_findCopy_85 1 rfl rfl ?_
                refine zj_iload_n F d_PA_findCopy_86 3 rfl rfl ?_
                refine zj_iadd F d_PA_findCopy_87 (nI_add _ _) ?_
                refine zj_bald F d_PA_findCopy_88 1 0 (pl + r.1) rfl rfl rfl (by omega) (by omega) rfl ?_
                refine zj_icmp_ne (tgt := 125) (P := t (f - 1 + r.1) = t (pl + r.1)) F d_PA_findCopy_89 (by decide) (zby_eq hb _ _) (fun h89 => ?_) (fun h89 => ?_)
                · exact zj_sub [0, 1, 2, 3, 4, 5, 6] rfl (tail r y1 (hs.trans (if_neg (fun h => h89 (zagr_eq h)))) k5)
                · refine zj_aload_n F d_PA_findCopy_92 0 rfl rfl ?_
                  refine zj_iload F d_PA_findCopy_93 5 rfl ?_
                  refine zj_iload_n F d_PA_findCopy_95 1 rfl rfl ?_
                  refine zj_iload_n F d_PA_findCopy_96 2 rfl rfl ?_
                  refine zj_call (maxL := 5) (wr := [zI K ne 4096 (zm1 ng), zI K ol 4096 (zm1 og)]) F E (m_PA_agreement l K p ne ol ib n ob (f - 1) pl m _ w h c (nI (if r.2 = 0 then 0 else r.1)) y1 t hb (by omega) (by omega) rfl) (zi_V (As := [.int (nI (f - 1)), .int (nI pl), .int (nI m)]) (rest := []) F d_PA_findCopy_97 0 rfl rfl rfl q_474 q_476 sel_PA_agreement q_477 (Or.inl ⟨_, _, rfl⟩) (by decide) (show Option.map (fun d => d.parameters.length) (parseMethodDescriptor y_PA_agreement.desc) = some 3 from by decide +kernel)) d_PA_findCopy_97 q_477 (Or.inl ⟨_, _, rfl⟩) q_6 [0, 1] [2, 3] rfl rfl rfl rfl (by decide) ⟨by decide, by decide, by decide, by decide⟩ (Nat.le_of_ble_eq_true rfl) (fun v w1 hq => ?_) (fun X w1 hq => ?_)
                  · obtain ⟨rfl, rfl⟩ := hq
                    show zj G 0 0 100 [(0, .ref p), (1, .int (nI pl)), (2, .int (nI m)), (3, .int (nI r.1)), (4, .int (nI (pl - 4096))), (5, .int (nI (f - 1))), (6, .int (nI i))] [.int (nI (zagr t (f - 1) pl m))] [zI K ne 4096 (zm1 ng), zI K ol 4096 (zm1 og), zO p 2 [.ref ne, .ref ol, .ref ib, .int (nI n), .ref ob, .int w, .int h, .int c, .int (nI (if r.2 = 0 then 0 else r.1)), .int y1], zB K ib 16384 (zby t)]
                    have hal := zagr_le t (f - 1) pl m
                    refine zj_istore (L' := [(7, .int (nI (zagr t (f - 1) pl m))), (0, .ref p), (1, .int (nI pl)), (2, .int (nI m)), (3, .int (nI r.1)), (4, .int (nI (pl - 4096))), (5, .int (nI (f - 1))), (6, .int (nI i))]) F d_PA_findCopy_100 (by decide) rfl ?_
                    refine zj_iload F d_PA_findCopy_102 0 rfl ?_
                    refine zj_iload_n F d_PA_findCopy_104 4 rfl rfl ?_
                    refine zj_icmp_le (tgt := 125) F d_PA_findCopy_105 (by decide) (nI_leI (by omega) (by omega)) (fun h105 => ?_) (fun h105 => ?_)
                    · refine zj_wsub (ws' := [zO p 2 [.ref ne, .ref ol, .ref ib, .int (nI n), .ref ob, .int w, .int h, .int c, .int (nI (if r.2 = 0 then 0 else r.1)), .int y1], zB K ib 16384 (zby t), zI K ne 4096 (zm1 ng), zI K ol 4096 (zm1 og)]) [2, 3, 0, 1] rfl rfl rfl ?_
                      exact zj_sub [1, 2, 3, 4, 5, 6, 7] rfl (tail r y1 (hs.trans (if_neg (by omega))) k5)
                    · rw [if_pos (by omega)] at hs
                      refine zj_iload F d_PA_findCopy_108 0 rfl ?_
                      refine zj_istore_n (L' := [(3, .int (nI (zagr t (f - 1) pl m))), (7, .int (nI (zagr t (f - 1) pl m))), (0, .ref p), (1, .int (nI pl)), (2, .int (nI m)), (4, .int (nI (pl - 4096))), (5, .int (nI (f - 1))), (6, .int (nI i))]) F d_PA_findCopy_110 rfl (by decide) rfl ?_
                      refine zj_aload_n F d_PA_findCopy_111 2 rfl rfl ?_
                      refine zj_iload F d_PA_findCopy_112 1 rfl ?_
                      refine zj_put (ws' := [zI K ne 4096 (zm1 ng), zI K ol 4096 (zm1 og), zO p 2 [.ref ne, .ref ol, .ref ib, .int (nI n), .ref ob, .int w, .int h, .int c, .int (nI (zagr t (f - 1) pl m)), .int y1], zB K ib 16384 (zby t)]) F d_PA_findCopy_114 2 8 rfl rfl in_PA ty_PA nm_PA (by decide) q_123 rfl rfl rfl (Nat.le_of_ble_eq_true rfl) rfl ?_
                      refine zj_aload_n F d_PA_findCopy_117 2 rfl rfl ?_
                      refine zj_iload_n F d_PA_findCopy_118 3 rfl rfl ?_
                      refine zj_iload F d_PA_findCopy_119 6 rfl ?_
                      refine zj_isub F d_PA_findCopy_121 (pk_sub (by omega)) ?_
                      refine zj_put (ws' := [zI K ne 4096 (zm1 ng), zI K ol 4096 (zm1 og), zO p 2 [.ref ne, .ref ol, .ref ib, .int (nI n), .ref ob, .int w, .int h, .int c, .int (nI (zagr t (f - 1) pl m)), .int (nI (pl - (f - 1)))], zB K ib 16384 (zby t)]) F d_PA_findCopy_122 2 9 rfl rfl in_PA ty_PA nm_PA (by decide) q_124 rfl rfl rfl (Nat.le_of_ble_eq_true rfl) rfl ?_
                      refine zj_wsub (ws' := [zO p 2 [.ref ne, .ref ol, .ref ib, .int (nI n), .ref ob, .int w, .int h, .int c, .int (nI (zagr t (f - 1) pl m)), .int (nI (pl - (f - 1)))], zB K ib 16384 (zby t), zI K ne 4096 (zm1 ng), zI K ol 4096 (zm1 og)]) [2, 3, 0, 1] rfl rfl rfl ?_
                      have htl := tail _ (nI (pl - (f - 1))) hs (fun _ => by show nI (pl - (f - 1)) = nI (pl - f + 1); rw [show pl - (f - 1) = pl - f + 1 by omega])
                      dsimp only at htl
                      rw [if_neg (by omega)] at htl
                      exact zj_sub [2, 3, 4, 0, 5, 6, 7] rfl htl
                  · exact hq.elim
      have hzp := zlst_ok (zch t) (zch t pl) pl
      exact zj_sub [5, 6, 4, 3, 2, 1, 0] rfl (key 4096 0 _ (2, 0) y rfl (by omega) hzp.2.1 (zfd_first (zch_eq t) h20) (fun h => absurd rfl h))
    · exact hq.elim
  · rw [if_neg h20] at hR
    subst hR
    exact zj_vret F E d_PA_findCopy_23 (Nat.le_refl _) (Nat.le_refl _) ⟨y, fun h => absurd rfl h, rfl, rfl⟩
