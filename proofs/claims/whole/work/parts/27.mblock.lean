def zbnd (r : Except String (Nat × (Nat → Nat) × Nat)) (k : Nat → (Nat → Nat) → Nat → Except String (Nat × (Nat → Nat) × Nat)) : Except String (Nat × (Nat → Nat) × Nat) := match r with
  | .error X => .error X
  | .ok (p, o, w) => k p o w
def zcpR (q : Nat) (r : Except String ((Nat → Nat) × Nat)) : Except String (Nat × (Nat → Nat) × Nat) := match r with
  | .error X => .error X
  | .ok (o', w') => .ok (q, o', w')
def zcopB (t : Nat → Nat) (e : Nat) (cd : Nat → Nat) (md : Nat → Nat → Nat) (p2 len : Nat) (o : Nat → Nat) (w : Nat) : Except String (Nat × (Nat → Nat) × Nat) :=
  match zdec t e cd md 15 1 0 0 p2 with
  | none => .error zU
  | some (far, p3) =>
    if far < 30 then
      if p3 + ztab 3 far ≤ e then
        if ztab 2 far + znum t p3 (ztab 3 far) ≤ w then zcpR (p3 + ztab 3 far) (zcpy (ztab 2 far + znum t p3 (ztab 3 far)) len o w)
        else .error zU
      else .error zU
    else .error zU
theorem zcop_eq {t : Nat → Nat} {e : Nat} {cd : Nat → Nat} {md : Nat → Nat → Nat} {kind p : Nat} {o : Nat → Nat} {w : Nat} (h1 : kind < 29) (h2 : p + ztab 1 kind ≤ e) : zcop t e cd md kind p o w = zcopB t e cd md (p + ztab 1 kind) (ztab 0 kind + znum t p (ztab 1 kind)) o w := by
  unfold zcop zcopB
  rw [if_pos h1, if_pos h2]
  cases zdec t e cd md 15 1 0 0 (p + ztab 1 kind) with
  | none => rfl
  | some r =>
    obtain ⟨far, p3⟩ := r
    dsimp only
    by_cases a1 : far < 30
    · rw [if_pos a1, if_pos a1]
      by_cases a2 : p3 + ztab 3 far ≤ e
      · rw [if_pos a2, if_pos a2]
        by_cases a3 : ztab 2 far + znum t p3 (ztab 3 far) ≤ w
        · rw [if_pos a3, if_pos a3]
          generalize zcpy (ztab 2 far + znum t p3 (ztab 3 far)) (ztab 0 kind + znum t p (ztab 1 kind)) o w = C
          cases C with
          | error X => rfl
          | ok r => rfl
        · rw [if_neg a3, if_neg a3]
      · rw [if_neg a2, if_neg a2]
    · rw [if_neg a1, if_neg a1]
theorem zcodS_cop {t : Nat → Nat} {e : Nat} {cl : Nat → Nat} {ml : Nat → Nat → Nat} {cd : Nat → Nat} {md : Nat → Nat → Nat} {k : Nat → (Nat → Nat) → Nat → Except String (Nat × (Nat → Nat) × Nat)} {p sym p1 : Nat} {o : Nat → Nat} {w : Nat} (h : zdec t e cl ml 15 1 0 0 p = some (sym, p1)) (h1 : ¬ sym = 256) (h2 : ¬ sym < 256) : zcodS t e cl ml cd md k p o w = zbnd (zcop t e cd md (sym - 257) p1 o w) k := by
  unfold zcodS
  rw [h]
  dsimp only
  rw [if_neg h1, if_neg h2]
  generalize zcop t e cd md (sym - 257) p1 o w = C
  cases C with
  | error X => rfl
  | ok r => rfl
def zlbs : Nat → Nat
  | 0 => 3
  | i + 1 => zlbs i + 2 ^ zlb (257 + i)
theorem zlbs_tab : ∀ i, i < 28 → zlbs i = ztab 0 i := by decide +kernel
theorem zlbs_le : ∀ i, i < 30 → zlb (257 + i) ≤ 7 ∧ zlbs i < 2 ^ 16 := by decide +kernel
theorem zag_up {f g : Nat → Nat} {w : Nat} (h : ∀ j, j < w → f j = g j) (v : Nat) : ∀ j, j < w + 1 → va_up f w v j = va_up g w v j := by
  intro j hj
  unfold va_up
  split
  · rfl
  · exact h j (by omega)
set_option maxHeartbeats 4000000 in
set_option maxRecDepth 100000 in
/-- block() -/
theorem m_MO_block (l : Launch) (hl : l.stackTraces = false) (K : zk) (m ta re da ro li di lc la ou he ch : Nat) (fa tn sz os bb bc : Int32) (dn p w lica lima dica dima : Nat) (xl xd : Int32) (t dd rr o ci gi cd gd : Nat → Nat) (ml md : Nat → Nat → Nat) (f : Nat) (R : Except String (Nat × (Nat → Nat) × Nat)) (hb : ∀ j, t j < 256) (hdn : dn ≤ 16384) (hdd : ∀ j, j < dn → dd j = t j) (hp : p ≤ 8 * dn) (hf : 8 * dn < p + f) (hw : w ≤ 16384) (hrr : ∀ j, rr j < 256) (hag : ∀ j, j < w → rr j = o j) (hCL : zCS ci gi ml) (hCD : zCS cd gd md) (hR : zcod t (8 * dn) ci ml cd md f p o w = R) : zc l K y_MO_block w_MO_block { frames := 9, cells := 1, slots := 6, locals := 169 } 0 0 1 6 [.ref m] [zO m 6 [.int fa, .ref ta, .int tn, .ref re, .int sz, .ref da, .int (nI dn), .ref ro, .int (nI w), .int (nI p), .ref li, .ref di, .ref lc, .ref la, .ref ou, .int os, .int bb, .int bc, .ref he, .ref ch], zB K da 16384 (zby dd), zB K ro 16640 (zby rr), zO li 5 [.ref lica, .ref lima, .int xl], zI K lica 16 (zna ci), zI K lima 320 (zna gi), zO di 5 [.ref dica, .ref dima, .int xd], zI K dica 16 (zna cd), zI K dima 320 (zna gd)] (fun r w1 => ∃ p' o' w' rr', R = .ok (p', o', w') ∧ p ≤ p' ∧ p' ≤ 8 * dn ∧ w' ≤ 16384 ∧ (∀ j, rr' j < 256) ∧ (∀ j, j < w' → rr' j = o' j) ∧ r = none ∧ w1 = [zO m 6 [.int fa, .ref ta, .int tn, .ref re, .int sz, .ref da, .int (nI dn), .ref ro, .int (nI w'), .int (nI p'), .ref li, .ref di, .ref lc, .ref la, .ref ou, .int os, .int bb, .int bc, .ref he, .ref ch], zB K da 16384 (zby dd), zB K ro 16640 (zby rr'), zO li 5 [.ref lica, .ref lima, .int xl], zI K lica 16 (zna ci), zI K lima 320 (zna gi), zO di 5 [.ref dica, .ref dima, .int xd], zI K dica 16 (zna cd), zI K dima 320 (zna gd)]) (fun X w1 => R = .error X ∧ ∃ p' w' rr', p' ≤ 8 * dn ∧ w' ≤ 16384 ∧ (∀ j, rr' j < 256) ∧ w1 = [zO m 6 [.int fa, .ref ta, .int tn, .ref re, .int sz, .ref da, .int (nI dn), .ref ro, .int (nI w'), .int (nI p'), .ref li, .ref di, .ref lc, .ref la, .ref ou, .int os, .int bb, .int bc, .ref he, .ref ch], zB K da 16384 (zby dd), zB K ro 16640 (zby rr'), zO li 5 [.ref lica, .ref lima, .int xl], zI K lica 16 (zna ci), zI K lima 320 (zna gi), zO di 5 [.ref dica, .ref dima, .int xd], zI K dica 16 (zna cd), zI K dima 320 (zna gd)]) := by
  refine zc_of (cc := c_MO_block) (nl := 6) (ret := none) (by decide) (Nat.le_of_ble_eq_true rfl) (fun G F E => ?_)
  have F : zf G l K { frames := 9, cells := 1, slots := 6, locals := 169 } "ZlibBoxModel" c_MO_block 6 := F
  show zj G 0 0 0 [(0, .ref m)] [] [zO m 6 [.int fa, .ref ta, .int tn, .ref re, .int sz, .ref da, .int (nI dn), .ref ro, .int (nI w), .int (nI p), .ref li, .ref di, .ref lc, .ref la, .ref ou, .int os, .int bb, .int bc, .ref he, .ref ch], zB K da 16384 (zby dd), zB K ro 16640 (zby rr), zO li 5 [.ref lica, .ref lima, .int xl], zI K lica 16 (zna ci), zI K lima 320 (zna gi), zO di 5 [.ref dica, .ref dima, .int xd], zI K dica 16 (zna cd), zI K dima 320 (zna gd)]
  have key : ∀ f p1 (o1 : Nat → Nat) w1 (rr1 : Nat → Nat), p ≤ p1 → p1 ≤ 8 * dn → 8 * dn < p1 + f → w1 ≤ 16384 → (∀ j, rr1 j < 256) → (∀ j, j < w1 → rr1 j = o1 j) → zcod t (8 * dn) ci ml cd md f p1 o1 w1 = R → zj G 0 0 0 [(0, .ref m)] [] [zO m 6 [.int fa, .ref ta, .int tn, .ref re, .int sz, .ref da, .int (nI dn), .ref ro, .int (nI w1), .int (nI p1), .ref li, .ref di, .ref lc, .ref la, .ref ou, .int os, .int bb, .int bc, .ref he, .ref ch], zB K da 16384 (zby dd), zB K ro 16640 (zby rr1), zO li 5 [.ref lica, .ref lima, .int xl], zI K lica 16 (zna ci), zI K lima 320 (zna gi), zO di 5 [.ref dica, .ref dima, .int xd], zI K dica 16 (zna cd), zI K dima 320 (zna gd)] := by
    clear hR hf
    intro f
    induction f with
    | zero =>
      intro p1 o1 w1 rr1 k0 k1 k2 k3 k4 k5 k6
      exact absurd k2 (by omega)
    | succ f ih =>
      intro p1 o1 w1 rr1 k0 k1 k2 k3 k4 k5 k6
      rw [zcod_s] at k6
      show zj G 0 0 0 [(0, .ref m)] [] [zO m 6 [.int fa, .ref ta, .int tn, .ref re, .int sz, .ref da, .int (nI dn), .ref ro, .int (nI w1), .int (nI p1), .ref li, .ref di, .ref lc, .ref la, .ref ou, .int os, .int bb, .int bc, .ref he, .ref ch], zB K da 16384 (zby dd), zB K ro 16640 (zby rr1), zO li 5 [.ref lica, .ref lima, .int xl], zI K lica 16 (zna ci), zI K lima 320 (zna gi), zO di 5 [.ref dica, .ref dima, .int xd], zI K dica 16 (zna cd), zI K dima 320 (zna gd)]
      refine zj_aload_n F d_MO_block_0 0 rfl rfl ?_
      refine zj_aload_n F d_MO_block_1 0 rfl rfl ?_
      refine zj_get F d_MO_block_2 0 10 rfl rfl in_MO (by decide) q_561 rfl ?_
      refine zj_call (maxL := 6) (wr := [zB K ro 16640 (zby rr1), zO di 5 [.ref dica, .ref dima, .int xd], zI K dica 16 (zna cd), zI K dima 320 (zna gd)]) F E (m_MO_meaning l hl K m ta re da ro li di lc la ou he ch fa tn sz (nI w1) os bb bc dn p1 li lica lima xl t dd ci gi ml hb hdn hdd (by omega) hCL.1 hCL.2.1) (zi_V (As := [.ref li]) (rest := []) F d_MO_block_5 0 rfl rfl rfl q_668 q_670 sel_MO_meaning q_671 (Or.inl ⟨_, _, rfl⟩) (by decide) (show Option.map (fun d => d.parameters.length) (parseMethodDescriptor y_MO_meaning.desc) = some 1 from by decide +kernel)) d_MO_block_5 q_671 (Or.inl ⟨_, _, rfl⟩) q_7 [0, 1, 3, 4, 5] [2, 6, 7, 8] rfl rfl rfl rfl (by decide) ⟨by decide, by decide, by decide, by decide⟩ (Nat.le_of_ble_eq_true rfl) (fun v w1 hq => ?_) (fun X w1 hq => ?_)
      · obtain ⟨x, p2, hM1, hM2, rfl, rfl⟩ := hq
        show zj G 0 0 8 [(0, .ref m)] [.int (nI x)] [zB K ro 16640 (zby rr1), zO di 5 [.ref dica, .ref dima, .int xd], zI K dica 16 (zna cd), zI K dima 320 (zna gd), zO m 6 [.int fa, .ref ta, .int tn, .ref re, .int sz, .ref da, .int (nI dn), .ref ro, .int (nI w1), .int (nI p2), .ref li, .ref di, .ref lc, .ref la, .ref ou, .int os, .int bb, .int bc, .ref he, .ref ch], zB K da 16384 (zby dd), zO li 5 [.ref lica, .ref lima, .int xl], zI K lica 16 (zna ci), zI K lima 320 (zna gi)]
        have hM3 := (zdec_le _ _ _ _ _ _ _ hM1).1
        have hM4 := zdec_val hCL.2.2 _ _ _ _ _ _ _ hM1
        refine zj_istore_n (L' := [(1, .int (nI x)), (0, .ref m)]) F d_MO_block_8 rfl (by decide) rfl ?_
        refine zj_iload_n F d_MO_block_9 0 rfl rfl ?_
        refine zj_sipush (v := nI 256) F d_MO_block_10 (by decide) ?_
        refine zj_icmp_ge (tgt := 24) F d_MO_block_13 (by decide) (nI_leI (by omega) (by omega)) (fun h13 => ?_) (fun h13 => ?_)
        · refine zj_iload_n F d_MO_block_24 0 rfl rfl ?_
          refine zj_sipush (v := nI 256) F d_MO_block_25 (by decide) ?_
          refine zj_icmp_ne (tgt := 32) F d_MO_block_28 (by decide) (nI_eq (by omega) (by omega)) (fun h28 => ?_) (fun h28 => ?_)
          · rw [zcodS_cop hM1 h28 (by omega)] at k6
            refine zj_aload_n F d_MO_block_32 1 rfl rfl ?_
            refine zj_iload_n F d_MO_block_33 0 rfl rfl ?_
            refine zj_sipush (v := nI 286) F d_MO_block_34 (by decide) ?_
            refine zj_icmp_ge (tgt := 44) F d_MO_block_37 (by decide) (nI_leI (by omega) (by omega)) (fun h37 => ?_) (fun h37 => ?_)
            · refine zj_iconst (v := nI 0) F d_MO_block_44 (by decide) ?_
              refine zj_call (maxL := 2) (wr := [zB K ro 16640 (zby rr1), zO di 5 [.ref dica, .ref dima, .int xd], zI K dica 16 (zna cd), zI K dima 320 (zna gd), zO m 6 [.int fa, .ref ta, .int tn, .ref re, .int sz, .ref da, .int (nI dn), .ref ro, .int (nI w1), .int (nI p2), .ref li, .ref di, .ref lc, .ref la, .ref ou, .int os, .int bb, .int bc, .ref he, .ref ch], zB K da 16384 (zby dd), zO li 5 [.ref lica, .ref lima, .int xl], zI K lica 16 (zna ci), zI K lima 320 (zna gi)]) F E (m_MO_can l hl K m (nI 0)) (zi_V (As := [.int (nI 0)]) (rest := []) F d_MO_block_45 4 rfl rfl rfl q_626 q_628 sel_MO_can q_629 (Or.inl ⟨_, _, rfl⟩) (by decide) (show Option.map (fun d => d.parameters.length) (parseMethodDescriptor y_MO_can.desc) = some 1 from by decide +kernel)) d_MO_block_45 q_629 (Or.inl ⟨_, _, rfl⟩) q_7 [] [0, 1, 2, 3, 4, 5, 6, 7, 8] rfl rfl rfl rfl (by decide) ⟨by decide, by decide, by decide, by decide⟩ (Nat.le_of_ble_eq_true rfl) (fun v w1 hq => ?_) (fun X w1 hq => ?_)
              · obtain ⟨hq0, rfl, rfl⟩ := hq
                show zj G 0 0 48 [(1, .int (nI x)), (0, .ref m)] [] [zB K ro 16640 (zby rr1), zO di 5 [.ref dica, .ref dima, .int xd], zI K dica 16 (zna cd), zI K dima 320 (zna gd), zO m 6 [.int fa, .ref ta, .int tn, .ref re, .int sz, .ref da, .int (nI dn), .ref ro, .int (nI w1), .int (nI p2), .ref li, .ref di, .ref lc, .ref la, .ref ou, .int os, .int bb, .int bc, .ref he, .ref ch], zB K da 16384 (zby dd), zO li 5 [.ref lica, .ref lima, .int xl], zI K lica 16 (zna ci), zI K lima 320 (zna gi)]
                exact absurd (by decide) hq0
              · obtain ⟨hx0, rfl, rfl⟩ := hq
                exact ⟨rfl, by decide, by decide, [4, 5, 0, 6, 7, 8, 1, 2, 3], [zO m 6 [.int fa, .ref ta, .int tn, .ref re, .int sz, .ref da, .int (nI dn), .ref ro, .int (nI w1), .int (nI p2), .ref li, .ref di, .ref lc, .ref la, .ref ou, .int os, .int bb, .int bc, .ref he, .ref ch], zB K da 16384 (zby dd), zB K ro 16640 (zby rr1), zO li 5 [.ref lica, .ref lima, .int xl], zI K lica 16 (zna ci), zI K lima 320 (zna gi), zO di 5 [.ref dica, .ref dima, .int xd], zI K dica 16 (zna cd), zI K dima 320 (zna gd)], rfl, rfl, ⟨k6.symm.trans (by unfold zcop; rw [if_neg (by omega)]; rfl), _, _, _, hM2, k3, k4, rfl⟩⟩
            · refine zj_iconst (v := nI 1) F d_MO_block_40 (by decide) ?_
              refine zj_goto F d_MO_block_41 (tgt := 45) (by decide) ?_
              refine zj_call (maxL := 2) (wr := [zB K ro 16640 (zby rr1), zO di 5 [.ref dica, .ref dima, .int xd], zI K dica 16 (zna cd), zI K dima 320 (zna gd), zO m 6 [.int fa, .ref ta, .int tn, .ref re, .int sz, .ref da, .int (nI dn), .ref ro, .int (nI w1), .int (nI p2), .ref li, .ref di, .ref lc, .ref la, .ref ou, .int os, .int bb, .int bc, .ref he, .ref ch], zB K da 16384 (zby dd), zO li 5 [.ref lica, .ref lima, .int xl], zI K lica 16 (zna ci), zI K lima 320 (zna gi)]) F E (m_MO_can l hl K m (nI 1)) (zi_V (As := [.int (nI 1)]) (rest := []) F d_MO_block_45 4 rfl rfl rfl q_626 q_628 sel_MO_can q_629 (Or.inl ⟨_, _, rfl⟩) (by decide) (show Option.map (fun d => d.parameters.length) (parseMethodDescriptor y_MO_can.desc) = some 1 from by decide +kernel)) d_MO_block_45 q_629 (Or.inl ⟨_, _, rfl⟩) q_7 [] [0, 1, 2, 3, 4, 5, 6, 7, 8] rfl rfl rfl rfl (by decide) ⟨by decide, by decide, by decide, by decide⟩ (Nat.le_of_ble_eq_true rfl) (fun v w1 hq => ?_) (fun X w1 hq => ?_)
              · obtain ⟨hq0, rfl, rfl⟩ := hq
                show zj G 0 0 48 [(1, .int (nI x)), (0, .ref m)] [] [zB K ro 16640 (zby rr1), zO di 5 [.ref dica, .ref dima, .int xd], zI K dica 16 (zna cd), zI K dima 320 (zna gd), zO m 6 [.int fa, .ref ta, .int tn, .ref re, .int sz, .ref da, .int (nI dn), .ref ro, .int (nI w1), .int (nI p2), .ref li, .ref di, .ref lc, .ref la, .ref ou, .int os, .int bb, .int bc, .ref he, .ref ch], zB K da 16384 (zby dd), zO li 5 [.ref lica, .ref lima, .int xl], zI K lica 16 (zna ci), zI K lima 320 (zna gi)]
                obtain ⟨kd, rfl⟩ : ∃ kd, x = 257 + kd := ⟨x - 257, by omega⟩
                rw [Nat.add_sub_cancel_left] at k6
                have hkd : kd < 29 := by omega
                show zj G 0 0 48 [(1, .int (nI (257 + kd))), (0, .ref m)] [] [zB K ro 16640 (zby rr1), zO di 5 [.ref dica, .ref dima, .int xd], zI K dica 16 (zna cd), zI K dima 320 (zna gd), zO m 6 [.int fa, .ref ta, .int tn, .ref re, .int sz, .ref da, .int (nI dn), .ref ro, .int (nI w1), .int (nI p2), .ref li, .ref di, .ref lc, .ref la, .ref ou, .int os, .int bb, .int bc, .ref he, .ref ch], zB K da 16384 (zby dd), zO li 5 [.ref lica, .ref lima, .int xl], zI K lica 16 (zna ci), zI K lima 320 (zna gi)]
                have hlt := ztab_len kd hkd
                have tail : ∀ p3 len, p2 ≤ p3 → p3 ≤ 8 * dn → len < 2 ^ 16 → zbnd (zcopB t (8 * dn) cd md p3 len o1 w1) (zcod t (8 * dn) ci ml cd md f) = R → zj G 0 0 97 [(0, .ref m)] [.int (nI len)] [zO m 6 [.int fa, .ref ta, .int tn, .ref re, .int sz, .ref da, .int (nI dn), .ref ro, .int (nI w1), .int (nI p3), .ref li, .ref di, .ref lc, .ref la, .ref ou, .int os, .int bb, .int bc, .ref he, .ref ch], zB K da 16384 (zby dd), zB K ro 16640 (zby rr1), zO li 5 [.ref lica, .ref lima, .int xl], zI K lica 16 (zna ci), zI K lima 320 (zna gi), zO di 5 [.ref dica, .ref dima, .int xd], zI K dica 16 (zna cd), zI K dima 320 (zna gd)] := by
                  clear k6
                  intro p3 len m1 m2 m3 k6
                  unfold zcopB at k6
                  show zj G 0 0 97 [(0, .ref m)] [.int (nI len)] [zO m 6 [.int fa, .ref ta, .int tn, .ref re, .int sz, .ref da, .int (nI dn), .ref ro, .int (nI w1), .int (nI p3), .ref li, .ref di, .ref lc, .ref la, .ref ou, .int os, .int bb, .int bc, .ref he, .ref ch], zB K da 16384 (zby dd), zB K ro 16640 (zby rr1), zO li 5 [.ref lica, .ref lima, .int xl], zI K lica 16 (zna ci), zI K lima 320 (zna gi), zO di 5 [.ref dica, .ref dima, .int xd], zI K dica 16 (zna cd), zI K dima 320 (zna gd)]
                  refine zj_istore_n (L' := [(2, .int (nI len)), (0, .ref m)]) F d_MO_block_97 rfl (by decide) rfl ?_
                  refine zj_aload_n F d_MO_block_98 1 rfl rfl ?_
                  refine zj_aload_n F d_MO_block_99 1 rfl rfl ?_
                  refine zj_get F d_MO_block_100 0 11 rfl rfl in_MO (by decide) q_562 rfl ?_
                  clear hM1
                  have hM2a := hM2
                  clear hM2
                  refine zj_call (maxL := 6) (wr := [zB K ro 16640 (zby rr1), zO li 5 [.ref lica, .ref lima, .int xl], zI K lica 16 (zna ci), zI K lima 320 (zna gi)]) F E (m_MO_meaning l hl K m ta re da ro li di lc la ou he ch fa tn sz (nI w1) os bb bc dn p3 di dica dima xd t dd cd gd md hb hdn hdd (by omega) hCD.1 hCD.2.1) (zi_V (As := [.ref di]) (rest := []) F d_MO_block_103 0 rfl rfl rfl q_668 q_670 sel_MO_meaning q_671 (Or.inl ⟨_, _, rfl⟩) (by decide) (show Option.map (fun d => d.parameters.length) (parseMethodDescriptor y_MO_meaning.desc) = some 1 from by decide +kernel)) d_MO_block_103 q_671 (Or.inl ⟨_, _, rfl⟩) q_7 [0, 1, 6, 7, 8] [2, 3, 4, 5] rfl rfl rfl rfl (by decide) ⟨by decide, by decide, by decide, by decide⟩ (Nat.le_of_ble_eq_true rfl) (fun v w1 hq => ?_) (fun X w1 hq => ?_)
                  · obtain ⟨fr, p4, hM1, hM2, rfl, rfl⟩ := hq
                    show zj G 0 0 106 [(2, .int (nI len)), (0, .ref m)] [.int (nI fr)] [zB K ro 16640 (zby rr1), zO li 5 [.ref lica, .ref lima, .int xl], zI K lica 16 (zna ci), zI K lima 320 (zna gi), zO m 6 [.int fa, .ref ta, .int tn, .ref re, .int sz, .ref da, .int (nI dn), .ref ro, .int (nI w1), .int (nI p4), .ref li, .ref di, .ref lc, .ref la, .ref ou, .int os, .int bb, .int bc, .ref he, .ref ch], zB K da 16384 (zby dd), zO di 5 [.ref dica, .ref dima, .int xd], zI K dica 16 (zna cd), zI K dima 320 (zna gd)]
                    have hN3 := (zdec_le _ _ _ _ _ _ _ hM1).1
                    have hN4 := zdec_val hCD.2.2 _ _ _ _ _ _ _ hM1
                    rw [hM1] at k6
                    dsimp only at k6
                    refine zj_istore_n (L' := [(3, .int (nI fr)), (2, .int (nI len)), (0, .ref m)]) F d_MO_block_106 rfl (by decide) rfl ?_
                    refine zj_aload_n F d_MO_block_107 2 rfl rfl ?_
                    refine zj_iload_n F d_MO_block_108 0 rfl rfl ?_
                    refine zj_bipush (v := nI 30) F d_MO_block_109 (by decide) ?_
                    refine zj_icmp_ge (tgt := 118) F d_MO_block_111 (by decide) (nI_leI (by omega) (by omega)) (fun h111 => ?_) (fun h111 => ?_)
                    · refine zj_iconst (v := nI 0) F d_MO_block_118 (by decide) ?_
                      refine zj_call (maxL := 2) (wr := [zB K ro 16640 (zby rr1), zO li 5 [.ref lica, .ref lima, .int xl], zI K lica 16 (zna ci), zI K lima 320 (zna gi), zO m 6 [.int fa, .ref ta, .int tn, .ref re, .int sz, .ref da, .int (nI dn), .ref ro, .int (nI w1), .int (nI p4), .ref li, .ref di, .ref lc, .ref la, .ref ou, .int os, .int bb, .int bc, .ref he, .ref ch], zB K da 16384 (zby dd), zO di 5 [.ref dica, .ref dima, .int xd], zI K dica 16 (zna cd), zI K dima 320 (zna gd)]) F E (m_MO_can l hl K m (nI 0)) (zi_V (As := [.int (nI 0)]) (rest := []) F d_MO_block_119 4 rfl rfl rfl q_626 q_628 sel_MO_can q_629 (Or.inl ⟨_, _, rfl⟩) (by decide) (show Option.map (fun d => d.parameters.length) (parseMethodDescriptor y_MO_can.desc) = some 1 from by decide +kernel)) d_MO_block_119 q_629 (Or.inl ⟨_, _, rfl⟩) q_7 [] [0, 1, 2, 3, 4, 5, 6, 7, 8] rfl rfl rfl rfl (by decide) ⟨by decide, by decide, by decide, by decide⟩ (Nat.le_of_ble_eq_true rfl) (fun v w1 hq => ?_) (fun X w1 hq => ?_)
                      · obtain ⟨hq0, rfl, rfl⟩ := hq
                        show zj G 0 0 122 [(3, .int (nI fr)), (2, .int (nI len)), (0, .ref m)] [] [zB K ro 16640 (zby rr1), zO li 5 [.ref lica, .ref lima, .int xl], zI K lica 16 (zna ci), zI K lima 320 (zna gi), zO m 6 [.int fa, .ref ta, .int tn, .ref re, .int sz, .ref da, .int (nI dn), .ref ro, .int (nI w1), .int (nI p4), .ref li, .ref di, .ref lc, .ref la, .ref ou, .int os, .int bb, .int bc, .ref he, .ref ch], zB K da 16384 (zby dd), zO di 5 [.ref dica, .ref dima, .int xd], zI K dica 16 (zna cd), zI K dima 320 (zna gd)]
                        exact absurd (by decide) hq0
                      · obtain ⟨hx0, rfl, rfl⟩ := hq
                        exact ⟨rfl, by decide, by decide, [4, 5, 0, 1, 2, 3, 6, 7, 8], [zO m 6 [.int fa, .ref ta, .int tn, .ref re, .int sz, .ref da, .int (nI dn), .ref ro, .int (nI w1), .int (nI p4), .ref li, .ref di, .ref lc, .ref la, .ref ou, .int os, .int bb, .int bc, .ref he, .ref ch], zB K da 16384 (zby dd), zB K ro 16640 (zby rr1), zO li 5 [.ref lica, .ref lima, .int xl], zI K lica 16 (zna ci), zI K lima 320 (zna gi), zO di 5 [.ref dica, .ref dima, .int xd], zI K dica 16 (zna cd), zI K dima 320 (zna gd)], rfl, rfl, ⟨k6.symm.trans (by rw [if_neg (by omega)]; rfl), _, _, _, hM2, k3, k4, rfl⟩⟩
                    · refine zj_iconst (v := nI 1) F d_MO_block_114 (by decide) ?_
                      refine zj_goto F d_MO_block_115 (tgt := 119) (by decide) ?_
                      refine zj_call (maxL := 2) (wr := [zB K ro 16640 (zby rr1), zO li 5 [.ref lica, .ref lima, .int xl], zI K lica 16 (zna ci), zI K lima 320 (zna gi), zO m 6 [.int fa, .ref ta, .int tn, .ref re, .int sz, .ref da, .int (nI dn), .ref ro, .int (nI w1), .int (nI p4), .ref li, .ref di, .ref lc, .ref la, .ref ou, .int os, .int bb, .int bc, .ref he, .ref ch], zB K da 16384 (zby dd), zO di 5 [.ref dica, .ref dima, .int xd], zI K dica 16 (zna cd), zI K dima 320 (zna gd)]) F E (m_MO_can l hl K m (nI 1)) (zi_V (As := [.int (nI 1)]) (rest := []) F d_MO_block_119 4 rfl rfl rfl q_626 q_628 sel_MO_can q_629 (Or.inl ⟨_, _, rfl⟩) (by decide) (show Option.map (fun d => d.parameters.length) (parseMethodDescriptor y_MO_can.desc) = some 1 from by decide +kernel)) d_MO_block_119 q_629 (Or.inl ⟨_, _, rfl⟩) q_7 [] [0, 1, 2, 3, 4, 5, 6, 7, 8] rfl rfl rfl rfl (by decide) ⟨by decide, by decide, by decide, by decide⟩ (Nat.le_of_ble_eq_true rfl) (fun v w1 hq => ?_) (fun X w1 hq => ?_)
                      · obtain ⟨hq0, rfl, rfl⟩ := hq
                        show zj G 0 0 122 [(3, .int (nI fr)), (2, .int (nI len)), (0, .ref m)] [] [zB K ro 16640 (zby rr1), zO li 5 [.ref lica, .ref lima, .int xl], zI K lica 16 (zna ci), zI K lima 320 (zna gi), zO m 6 [.int fa, .ref ta, .int tn, .ref re, .int sz, .ref da, .int (nI dn), .ref ro, .int (nI w1), .int (nI p4), .ref li, .ref di, .ref lc, .ref la, .ref ou, .int os, .int bb, .int bc, .ref he, .ref ch], zB K da 16384 (zby dd), zO di 5 [.ref dica, .ref dima, .int xd], zI K dica 16 (zna cd), zI K dima 320 (zna gd)]
                        rw [if_pos (show fr < 30 by omega)] at k6
                        have hdt := ztab_dis fr (by omega)
                        refine zj_iconst (v := nI 1) F d_MO_block_122 (by decide) ?_
                        refine zj_istore (L' := [(4, .int (nI 1)), (3, .int (nI fr)), (2, .int (nI len)), (0, .ref m)]) F d_MO_block_123 (by decide) rfl ?_
                        refine zj_iconst (v := nI 0) F d_MO_block_125 (by decide) ?_
                        refine zj_istore (L' := [(5, .int (nI 0)), (4, .int (nI 1)), (3, .int (nI fr)), (2, .int (nI len)), (0, .ref m)]) F d_MO_block_126 (by decide) rfl ?_
                        refine zj_wsub (ws' := [zO m 6 [.int fa, .ref ta, .int tn, .ref re, .int sz, .ref da, .int (nI dn), .ref ro, .int (nI w1), .int (nI p4), .ref li, .ref di, .ref lc, .ref la, .ref ou, .int os, .int bb, .int bc, .ref he, .ref ch], zB K da 16384 (zby dd), zB K ro 16640 (zby rr1), zO li 5 [.ref lica, .ref lima, .int xl], zI K lica 16 (zna ci), zI K lima 320 (zna gi), zO di 5 [.ref dica, .ref dima, .int xd], zI K dica 16 (zna cd), zI K dima 320 (zna gd)]) [4, 5, 0, 1, 2, 3, 6, 7, 8] rfl rfl rfl ?_
                        have keyD : ∀ i, i ≤ fr → zj G 0 0 128 [(0, .ref m), (2, .int (nI len)), (3, .int (nI fr)), (4, .int (nI (ztab 2 i))), (5, .int (nI i))] [] [zO m 6 [.int fa, .ref ta, .int tn, .ref re, .int sz, .ref da, .int (nI dn), .ref ro, .int (nI w1), .int (nI p4), .ref li, .ref di, .ref lc, .ref la, .ref ou, .int os, .int bb, .int bc, .ref he, .ref ch], zB K da 16384 (zby dd), zB K ro 16640 (zby rr1), zO li 5 [.ref lica, .ref lima, .int xl], zI K lica 16 (zna ci), zI K lima 320 (zna gi), zO di 5 [.ref dica, .ref dima, .int xd], zI K dica 16 (zna cd), zI K dima 320 (zna gd)] := by
                          refine zdown fr ?_ ?_
                          · show zj G 0 0 128 [(0, .ref m), (2, .int (nI len)), (3, .int (nI fr)), (4, .int (nI (ztab 2 fr))), (5, .int (nI fr))] [] [zO m 6 [.int fa, .ref ta, .int tn, .ref re, .int sz, .ref da, .int (nI dn), .ref ro, .int (nI w1), .int (nI p4), .ref li, .ref di, .ref lc, .ref la, .ref ou, .int os, .int bb, .int bc, .ref he, .ref ch], zB K da 16384 (zby dd), zB K ro 16640 (zby rr1), zO li 5 [.ref lica, .ref lima, .int xl], zI K lica 16 (zna ci), zI K lima 320 (zna gi), zO di 5 [.ref dica, .ref dima, .int xd], zI K dica 16 (zna cd), zI K dima 320 (zna gd)]
                            refine zj_iload F d_MO_block_128 4 rfl ?_
                            refine zj_iload_n F d_MO_block_130 2 rfl rfl ?_
                            refine zj_icmp_ge (tgt := 152) F d_MO_block_131 (by decide) (nI_leI (by omega) (by omega)) (fun h131 => ?_) (fun h131 => ?_)
                            · refine zj_iload F d_MO_block_152 3 rfl ?_
                              refine zj_aload_n F d_MO_block_154 0 rfl rfl ?_
                              refine zj_iload_n F d_MO_block_155 2 rfl rfl ?_
                              refine zj_call (maxL := 1) (wr := [zO m 6 [.int fa, .ref ta, .int tn, .ref re, .int sz, .ref da, .int (nI dn), .ref ro, .int (nI w1), .int (nI p4), .ref li, .ref di, .ref lc, .ref la, .ref ou, .int os, .int bb, .int bc, .ref he, .ref ch], zB K da 16384 (zby dd), zB K ro 16640 (zby rr1), zO li 5 [.ref lica, .ref lima, .int xl], zI K lica 16 (zna ci), zI K lima 320 (zna gi), zO di 5 [.ref dica, .ref dima, .int xd], zI K dica 16 (zna cd), zI K dima 320 (zna gd)]) F E (m_MO_distanceBits l K fr (by omega)) (zi_S (As := [.int (nI fr)]) (rest := [.ref m, .int (nI (ztab 2 fr))]) F d_MO_block_156 q_679 q_680 q_7 q_681 (Or.inl ⟨_, _, rfl⟩) (by decide) (show Option.map (fun d => d.parameters.length) (parseMethodDescriptor y_MO_distanceBits.desc) = some 1 from by decide +kernel)) d_MO_block_156 q_681 (Or.inl ⟨_, _, rfl⟩) q_7 [] [0, 1, 2, 3, 4, 5, 6, 7, 8] rfl rfl rfl rfl (by decide) ⟨by decide, by decide, by decide, by decide⟩ (Nat.le_of_ble_eq_true rfl) (fun v w1 hq => ?_) (fun X w1 hq => ?_)
                              · obtain ⟨rfl, rfl⟩ := hq
                                rw [zdb_tab fr (by omega)]
                                show zj G 0 0 159 [(0, .ref m), (2, .int (nI len)), (3, .int (nI fr)), (4, .int (nI (ztab 2 fr))), (5, .int (nI fr))] [.int (nI (ztab 3 fr)), .ref m, .int (nI (ztab 2 fr))] [zO m 6 [.int fa, .ref ta, .int tn, .ref re, .int sz, .ref da, .int (nI dn), .ref ro, .int (nI w1), .int (nI p4), .ref li, .ref di, .ref lc, .ref la, .ref ou, .int os, .int bb, .int bc, .ref he, .ref ch], zB K da 16384 (zby dd), zB K ro 16640 (zby rr1), zO li 5 [.ref lica, .ref lima, .int xl], zI K lica 16 (zna ci), zI K lima 320 (zna gi), zO di 5 [.ref dica, .ref dima, .int xd], zI K dica 16 (zna cd), zI K dima 320 (zna gd)]
                                refine zj_call (maxL := 4) (wr := [zB K ro 16640 (zby rr1), zO li 5 [.ref lica, .ref lima, .int xl], zI K lica 16 (zna ci), zI K lima 320 (zna gi), zO di 5 [.ref dica, .ref dima, .int xd], zI K dica 16 (zna cd), zI K dima 320 (zna gd)]) F E (m_MO_bits l hl K m ta re da ro li di lc la ou he ch fa tn sz (nI w1) os bb bc dn p4 (ztab 3 fr) t dd hb hdn hdd hM2 (by omega)) (zi_V (As := [.int (nI (ztab 3 fr))]) (rest := [.int (nI (ztab 2 fr))]) F d_MO_block_159 0 rfl rfl rfl q_640 q_642 sel_MO_bits q_643 (Or.inl ⟨_, _, rfl⟩) (by decide) (show Option.map (fun d => d.parameters.length) (parseMethodDescriptor y_MO_bits.desc) = some 1 from by decide +kernel)) d_MO_block_159 q_643 (Or.inl ⟨_, _, rfl⟩) q_7 [0, 1] [2, 3, 4, 5, 6, 7, 8] rfl rfl rfl rfl (by decide) ⟨by decide, by decide, by decide, by decide⟩ (Nat.le_of_ble_eq_true rfl) (fun v w1 hq => ?_) (fun X w1 hq => ?_)
                                · obtain ⟨hq6, rfl, rfl⟩ := hq
                                  show zj G 0 0 162 [(0, .ref m), (2, .int (nI len)), (3, .int (nI fr)), (4, .int (nI (ztab 2 fr))), (5, .int (nI fr))] [.int (nI (znum t p4 (ztab 3 fr))), .int (nI (ztab 2 fr))] [zB K ro 16640 (zby rr1), zO li 5 [.ref lica, .ref lima, .int xl], zI K lica 16 (zna ci), zI K lima 320 (zna gi), zO di 5 [.ref dica, .ref dima, .int xd], zI K dica 16 (zna cd), zI K dima 320 (zna gd), zO m 6 [.int fa, .ref ta, .int tn, .ref re, .int sz, .ref da, .int (nI dn), .ref ro, .int (nI w1), .int (nI (p4 + (ztab 3 fr))), .ref li, .ref di, .ref lc, .ref la, .ref ou, .int os, .int bb, .int bc, .ref he, .ref ch], zB K da 16384 (zby dd)]
                                  refine zj_iadd (z := nI (ztab 2 fr + znum t p4 (ztab 3 fr))) F d_MO_block_162 (nI_add _ _) ?_
                                  rw [if_pos hq6] at k6
                                  have hbn := znum_lt t p4 (ztab 3 fr)
                                  have hbp : (2 : Nat) ^ ztab 3 fr ≤ 2 ^ 13 := Nat.pow_le_pow_right (by decide) hdt.1
                                  have hbm : ztab 2 fr + znum t p4 (ztab 3 fr) ≤ 32768 := by
                                    have hx : ∀ d, d < 30 → ztab 2 d + 2 ^ ztab 3 d ≤ 32769 := by decide +kernel
                                    have := hx fr (by omega)
                                    omega
                                  generalize hds : ztab 2 fr + znum t p4 (ztab 3 fr) = dist at k6 hbm ⊢
                                  have hd1 : 1 ≤ dist := by omega
                                  generalize hp50 : p4 + ztab 3 fr = p5 at k6 hq6 ⊢
                                  show zj G 0 0 163 [(0, .ref m), (2, .int (nI len)), (3, .int (nI fr)), (4, .int (nI (ztab 2 fr))), (5, .int (nI fr))] [.int (nI dist)] [zB K ro 16640 (zby rr1), zO li 5 [.ref lica, .ref lima, .int xl], zI K lica 16 (zna ci), zI K lima 320 (zna gi), zO di 5 [.ref dica, .ref dima, .int xd], zI K dica 16 (zna cd), zI K dima 320 (zna gd), zO m 6 [.int fa, .ref ta, .int tn, .ref re, .int sz, .ref da, .int (nI dn), .ref ro, .int (nI w1), .int (nI p5), .ref li, .ref di, .ref lc, .ref la, .ref ou, .int os, .int bb, .int bc, .ref he, .ref ch], zB K da 16384 (zby dd)]
                                  refine zj_istore (L' := [(4, .int (nI dist)), (0, .ref m), (2, .int (nI len)), (3, .int (nI fr)), (5, .int (nI fr))]) F d_MO_block_163 (by decide) rfl ?_
                                  refine zj_aload_n F d_MO_block_165 1 rfl rfl ?_
                                  refine zj_iload F d_MO_block_166 0 rfl ?_
                                  refine zj_ldc (v := nI 32768) F d_MO_block_168 q_682 ?_
                                  refine zj_icmp_gt (tgt := 186) F d_MO_block_170 (by decide) (nI_ltI (by omega) (by omega)) (fun h170 => ?_) (fun h170 => ?_)
                                  · exact absurd h170 (by omega)
                                  · refine zj_iload F d_MO_block_173 0 rfl ?_
                                    refine zj_aload_n F d_MO_block_175 1 rfl rfl ?_
                                    refine zj_get F d_MO_block_176 7 8 rfl rfl in_MO (by decide) q_559 rfl ?_
                                    refine zj_icmp_gt (tgt := 186) F d_MO_block_179 (by decide) (nI_ltI (by omega) (by omega)) (fun h179 => ?_) (fun h179 => ?_)
                                    · refine zj_iconst (v := nI 0) F d_MO_block_186 (by decide) ?_
                                      refine zj_call (maxL := 2) (wr := [zB K ro 16640 (zby rr1), zO li 5 [.ref lica, .ref lima, .int xl], zI K lica 16 (zna ci), zI K lima 320 (zna gi), zO di 5 [.ref dica, .ref dima, .int xd], zI K dica 16 (zna cd), zI K dima 320 (zna gd), zO m 6 [.int fa, .ref ta, .int tn, .ref re, .int sz, .ref da, .int (nI dn), .ref ro, .int (nI w1), .int (nI p5), .ref li, .ref di, .ref lc, .ref la, .ref ou, .int os, .int bb, .int bc, .ref he, .ref ch], zB K da 16384 (zby dd)]) F E (m_MO_can l hl K m (nI 0)) (zi_V (As := [.int (nI 0)]) (rest := []) F d_MO_block_187 7 rfl rfl rfl q_626 q_628 sel_MO_can q_629 (Or.inl ⟨_, _, rfl⟩) (by decide) (show Option.map (fun d => d.parameters.length) (parseMethodDescriptor y_MO_can.desc) = some 1 from by decide +kernel)) d_MO_block_187 q_629 (Or.inl ⟨_, _, rfl⟩) q_7 [] [0, 1, 2, 3, 4, 5, 6, 7, 8] rfl rfl rfl rfl (by decide) ⟨by decide, by decide, by decide, by decide⟩ (Nat.le_of_ble_eq_true rfl) (fun v w1 hq => ?_) (fun X w1 hq => ?_)
                                      · obtain ⟨hq0, rfl, rfl⟩ := hq
                                        show zj G 0 0 190 [(4, .int (nI dist)), (0, .ref m), (2, .int (nI len)), (3, .int (nI fr)), (5, .int (nI fr))] [] [zB K ro 16640 (zby rr1), zO li 5 [.ref lica, .ref lima, .int xl], zI K lica 16 (zna ci), zI K lima 320 (zna gi), zO di 5 [.ref dica, .ref dima, .int xd], zI K dica 16 (zna cd), zI K dima 320 (zna gd), zO m 6 [.int fa, .ref ta, .int tn, .ref re, .int sz, .ref da, .int (nI dn), .ref ro, .int (nI w1), .int (nI p5), .ref li, .ref di, .ref lc, .ref la, .ref ou, .int os, .int bb, .int bc, .ref he, .ref ch], zB K da 16384 (zby dd)]
                                        exact absurd (by decide) hq0
                                      · obtain ⟨hx0, rfl, rfl⟩ := hq
                                        exact ⟨rfl, by decide, by decide, [7, 8, 0, 1, 2, 3, 4, 5, 6], [zO m 6 [.int fa, .ref ta, .int tn, .ref re, .int sz, .ref da, .int (nI dn), .ref ro, .int (nI w1), .int (nI p5), .ref li, .ref di, .ref lc, .ref la, .ref ou, .int os, .int bb, .int bc, .ref he, .ref ch], zB K da 16384 (zby dd), zB K ro 16640 (zby rr1), zO li 5 [.ref lica, .ref lima, .int xl], zI K lica 16 (zna ci), zI K lima 320 (zna gi), zO di 5 [.ref dica, .ref dima, .int xd], zI K dica 16 (zna cd), zI K dima 320 (zna gd)], rfl, rfl, ⟨k6.symm.trans (by rw [if_neg (by omega)]; rfl), _, _, _, hq6, k3, k4, rfl⟩⟩
                                    · refine zj_iconst (v := nI 1) F d_MO_block_182 (by decide) ?_
                                      refine zj_goto F d_MO_block_183 (tgt := 187) (by decide) ?_
                                      refine zj_call (maxL := 2) (wr := [zB K ro 16640 (zby rr1), zO li 5 [.ref lica, .ref lima, .int xl], zI K lica 16 (zna ci), zI K lima 320 (zna gi), zO di 5 [.ref dica, .ref dima, .int xd], zI K dica 16 (zna cd), zI K dima 320 (zna gd), zO m 6 [.int fa, .ref ta, .int tn, .ref re, .int sz, .ref da, .int (nI dn), .ref ro, .int (nI w1), .int (nI p5), .ref li, .ref di, .ref lc, .ref la, .ref ou, .int os, .int bb, .int bc, .ref he, .ref ch], zB K da 16384 (zby dd)]) F E (m_MO_can l hl K m (nI 1)) (zi_V (As := [.int (nI 1)]) (rest := []) F d_MO_block_187 7 rfl rfl rfl q_626 q_628 sel_MO_can q_629 (Or.inl ⟨_, _, rfl⟩) (by decide) (show Option.map (fun d => d.parameters.length) (parseMethodDescriptor y_MO_can.desc) = some 1 from by decide +kernel)) d_MO_block_187 q_629 (Or.inl ⟨_, _, rfl⟩) q_7 [] [0, 1, 2, 3, 4, 5, 6, 7, 8] rfl rfl rfl rfl (by decide) ⟨by decide, by decide, by decide, by decide⟩ (Nat.le_of_ble_eq_true rfl) (fun v w1 hq => ?_) (fun X w1 hq => ?_)
                                      · obtain ⟨hq0, rfl, rfl⟩ := hq
                                        show zj G 0 0 190 [(4, .int (nI dist)), (0, .ref m), (2, .int (nI len)), (3, .int (nI fr)), (5, .int (nI fr))] [] [zB K ro 16640 (zby rr1), zO li 5 [.ref lica, .ref lima, .int xl], zI K lica 16 (zna ci), zI K lima 320 (zna gi), zO di 5 [.ref dica, .ref dima, .int xd], zI K dica 16 (zna cd), zI K dima 320 (zna gd), zO m 6 [.int fa, .ref ta, .int tn, .ref re, .int sz, .ref da, .int (nI dn), .ref ro, .int (nI w1), .int (nI p5), .ref li, .ref di, .ref lc, .ref la, .ref ou, .int os, .int bb, .int bc, .ref he, .ref ch], zB K da 16384 (zby dd)]
                                        rw [if_pos (by omega)] at k6
                                        generalize hCq : zcpy dist len o1 w1 = Cq at k6
                                        refine zj_iconst (v := nI 0) F d_MO_block_190 (by decide) ?_
                                        refine zj_istore (L' := [(5, .int (nI 0)), (4, .int (nI dist)), (0, .ref m), (2, .int (nI len)), (3, .int (nI fr))]) F d_MO_block_191 (by decide) rfl ?_
                                        refine zj_wsub (ws' := [zO m 6 [.int fa, .ref ta, .int tn, .ref re, .int sz, .ref da, .int (nI dn), .ref ro, .int (nI w1), .int (nI p5), .ref li, .ref di, .ref lc, .ref la, .ref ou, .int os, .int bb, .int bc, .ref he, .ref ch], zB K da 16384 (zby dd), zB K ro 16640 (zby rr1), zO li 5 [.ref lica, .ref lima, .int xl], zI K lica 16 (zna ci), zI K lima 320 (zna gi), zO di 5 [.ref dica, .ref dima, .int xd], zI K dica 16 (zna cd), zI K dima 320 (zna gd)]) [7, 8, 0, 1, 2, 3, 4, 5, 6] rfl rfl rfl ?_
                                        have keyC : ∀ q i (o2 : Nat → Nat) w2 (rr2 : Nat → Nat), i + q = len → w1 ≤ w2 → w2 ≤ 16384 → (∀ j, rr2 j < 256) → (∀ j, j < w2 → rr2 j = o2 j) → zcpy dist q o2 w2 = Cq → zj G 0 0 193 [(0, .ref m), (2, .int (nI len)), (4, .int (nI dist)), (5, .int (nI i))] [] [zO m 6 [.int fa, .ref ta, .int tn, .ref re, .int sz, .ref da, .int (nI dn), .ref ro, .int (nI w2), .int (nI p5), .ref li, .ref di, .ref lc, .ref la, .ref ou, .int os, .int bb, .int bc, .ref he, .ref ch], zB K da 16384 (zby dd), zB K ro 16640 (zby rr2), zO li 5 [.ref lica, .ref lima, .int xl], zI K lica 16 (zna ci), zI K lima 320 (zna gi), zO di 5 [.ref dica, .ref dima, .int xd], zI K dica 16 (zna cd), zI K dima 320 (zna gd)] := by
                                          clear hCq
                                          intro q
                                          induction q with
                                          | zero =>
                                            intro i o2 w2 rr2 c1 c2 k3 k4 k5 c6
                                            show zj G 0 0 193 [(0, .ref m), (2, .int (nI len)), (4, .int (nI dist)), (5, .int (nI i))] [] [zO m 6 [.int fa, .ref ta, .int tn, .ref re, .int sz, .ref da, .int (nI dn), .ref ro, .int (nI w2), .int (nI p5), .ref li, .ref di, .ref lc, .ref la, .ref ou, .int os, .int bb, .int bc, .ref he, .ref ch], zB K da 16384 (zby dd), zB K ro 16640 (zby rr2), zO li 5 [.ref lica, .ref lima, .int xl], zI K lica 16 (zna ci), zI K lima 320 (zna gi), zO di 5 [.ref dica, .ref dima, .int xd], zI K dica 16 (zna cd), zI K dima 320 (zna gd)]
                                            refine zj_iload F d_MO_block_193 3 rfl ?_
                                            refine zj_iload_n F d_MO_block_195 1 rfl rfl ?_
                                            refine zj_icmp_ge (tgt := 221) F d_MO_block_196 (by decide) (nI_leI (by omega) (by omega)) (fun h196 => ?_) (fun h196 => ?_)
                                            · have c7 : (Except.ok (o2, w2) : Except String ((Nat → Nat) × Nat)) = Cq := c6
                                              clear c6
                                              subst c7
                                              refine zj_goto F d_MO_block_221 (tgt := 0) (by decide) ?_
                                              exact zj_sub [0] rfl (ih p5 o2 w2 rr2 (by omega) hq6 (by omega) k3 k4 k5 k6)
                                            · exact absurd h196 (by omega)
                                          | succ q ihc =>
                                            intro i o2 w2 rr2 c1 c2 k3 k4 k5 c6
                                            unfold zcpy at c6
                                            show zj G 0 0 193 [(0, .ref m), (2, .int (nI len)), (4, .int (nI dist)), (5, .int (nI i))] [] [zO m 6 [.int fa, .ref ta, .int tn, .ref re, .int sz, .ref da, .int (nI dn), .ref ro, .int (nI w2), .int (nI p5), .ref li, .ref di, .ref lc, .ref la, .ref ou, .int os, .int bb, .int bc, .ref he, .ref ch], zB K da 16384 (zby dd), zB K ro 16640 (zby rr2), zO li 5 [.ref lica, .ref lima, .int xl], zI K lica 16 (zna ci), zI K lima 320 (zna gi), zO di 5 [.ref dica, .ref dima, .int xd], zI K dica 16 (zna cd), zI K dima 320 (zna gd)]
                                            refine zj_iload F d_MO_block_193 3 rfl ?_
                                            refine zj_iload_n F d_MO_block_195 1 rfl rfl ?_
                                            refine zj_icmp_ge (tgt := 221) F d_MO_block_196 (by decide) (nI_leI (by omega) (by omega)) (fun h196 => ?_) (fun h196 => ?_)
                                            · exact absurd h196 (by omega)
                                            · have hdw : dist ≤ w2 := by omega
                                              refine zj_aload_n F d_MO_block_199 0 rfl rfl ?_
                                              refine zj_aload_n F d_MO_block_200 0 rfl rfl ?_
                                              refine zj_get F d_MO_block_201 0 7 rfl rfl in_MO (by decide) q_558 rfl ?_
                                              refine zj_aload_n F d_MO_block_204 0 rfl rfl ?_
                                              refine zj_get F d_MO_block_205 0 8 rfl rfl in_MO (by decide) q_559 rfl ?_
                                              refine zj_iload F d_MO_block_208 2 rfl ?_
                                              refine zj_isub F d_MO_block_210 (pk_sub (by omega)) ?_
                                              refine zj_bald (z := zby rr2 (w2 - dist)) F d_MO_block_211 2 0 (w2 - dist) rfl rfl rfl (by omega) (by omega) rfl ?_
                                              refine zj_call (maxL := 2) (wr := [zB K da 16384 (zby dd), zO li 5 [.ref lica, .ref lima, .int xl], zI K lica 16 (zna ci), zI K lima 320 (zna gi), zO di 5 [.ref dica, .ref dima, .int xd], zI K dica 16 (zna cd), zI K dima 320 (zna gd)]) F E (m_MO_give l hl K m ta re da ro li di lc la ou he ch fa tn sz (nI dn) (nI p5) os bb bc w2 (o2 (w2 - dist)) (zby rr2 (w2 - dist)) rr2 k3 ((zby_low (k4 _)).trans (k5 _ (by omega)))) (zi_V (As := [.int (zby rr2 (w2 - dist))]) (rest := []) F d_MO_block_212 0 rfl rfl rfl q_645 q_647 sel_MO_give q_648 (Or.inl ⟨_, _, rfl⟩) (by decide) (show Option.map (fun d => d.parameters.length) (parseMethodDescriptor y_MO_give.desc) = some 1 from by decide +kernel)) d_MO_block_212 q_648 (Or.inl ⟨_, _, rfl⟩) q_7 [0, 2] [1, 3, 4, 5, 6, 7, 8] rfl rfl rfl rfl (by decide) ⟨by decide, by decide, by decide, by decide⟩ (Nat.le_of_ble_eq_true rfl) (fun v w1 hq => ?_) (fun X w1 hq => ?_)
                                              · obtain ⟨hq5, rfl, rfl⟩ := hq
                                                show zj G 0 0 215 [(0, .ref m), (2, .int (nI len)), (4, .int (nI dist)), (5, .int (nI i))] [] [zB K da 16384 (zby dd), zO li 5 [.ref lica, .ref lima, .int xl], zI K lica 16 (zna ci), zI K lima 320 (zna gi), zO di 5 [.ref dica, .ref dima, .int xd], zI K dica 16 (zna cd), zI K dima 320 (zna gd), zO m 6 [.int fa, .ref ta, .int tn, .ref re, .int sz, .ref da, .int (nI dn), .ref ro, .int (nI (w2 + 1)), .int (nI p5), .ref li, .ref di, .ref lc, .ref la, .ref ou, .int os, .int bb, .int bc, .ref he, .ref ch], zB K ro 16640 (zby (va_up rr2 w2 (o2 (w2 - dist))))]
                                                rw [if_pos hq5] at c6
                                                refine zj_iinc (v := nI (i + 1)) (L' := [(5, .int (nI (i + 1))), (0, .ref m), (2, .int (nI len)), (4, .int (nI dist))]) F d_MO_block_215 3 rfl (nI_add _ _) (by decide) rfl ?_
                                                refine zj_wsub (ws' := [zO m 6 [.int fa, .ref ta, .int tn, .ref re, .int sz, .ref da, .int (nI dn), .ref ro, .int (nI (w2 + 1)), .int (nI p5), .ref li, .ref di, .ref lc, .ref la, .ref ou, .int os, .int bb, .int bc, .ref he, .ref ch], zB K da 16384 (zby dd), zB K ro 16640 (zby (va_up rr2 w2 (o2 (w2 - dist)))), zO li 5 [.ref lica, .ref lima, .int xl], zI K lica 16 (zna ci), zI K lima 320 (zna gi), zO di 5 [.ref dica, .ref dima, .int xd], zI K dica 16 (zna cd), zI K dima 320 (zna gd)]) [7, 0, 8, 1, 2, 3, 4, 5, 6] rfl rfl rfl ?_
                                                refine zj_goto F d_MO_block_218 (tgt := 193) (by decide) ?_
                                                exact zj_sub [1, 2, 3, 0] rfl (ihc (i + 1) _ (w2 + 1) _ (by omega) (by omega) (by omega) (zup_lt k4 w2 (by rw [← k5 _ (show w2 - dist < w2 by omega)]; exact k4 _)) (zag_up k5 _) c6)
                                              · obtain ⟨hx5, rfl, rfl⟩ := hq
                                                exact ⟨rfl, by decide, by decide, [7, 0, 8, 1, 2, 3, 4, 5, 6], [zO m 6 [.int fa, .ref ta, .int tn, .ref re, .int sz, .ref da, .int (nI dn), .ref ro, .int (nI w2), .int (nI p5), .ref li, .ref di, .ref lc, .ref la, .ref ou, .int os, .int bb, .int bc, .ref he, .ref ch], zB K da 16384 (zby dd), zB K ro 16640 (zby rr2), zO li 5 [.ref lica, .ref lima, .int xl], zI K lica 16 (zna ci), zI K lima 320 (zna gi), zO di 5 [.ref dica, .ref dima, .int xd], zI K dica 16 (zna cd), zI K dima 320 (zna gd)], rfl, rfl, ⟨k6.symm.trans (by rw [← c6, if_neg hx5]; rfl), _, _, _, hq6, k3, k4, rfl⟩⟩
                                        exact zj_sub [2, 3, 1, 0] rfl (keyC len 0 o1 w1 rr1 (Nat.zero_add _) (Nat.le_refl _) k3 k4 k5 hCq)
                                      · obtain ⟨hx0, rfl, rfl⟩ := hq
                                        exact ⟨rfl, by decide, by decide, [0, 1, 2, 3, 4, 5, 6, 7, 8], [zB K ro 16640 (zby rr1), zO li 5 [.ref lica, .ref lima, .int xl], zI K lica 16 (zna ci), zI K lima 320 (zna gi), zO di 5 [.ref dica, .ref dima, .int xd], zI K dica 16 (zna cd), zI K dima 320 (zna gd), zO m 6 [.int fa, .ref ta, .int tn, .ref re, .int sz, .ref da, .int (nI dn), .ref ro, .int (nI w1), .int (nI p5), .ref li, .ref di, .ref lc, .ref la, .ref ou, .int os, .int bb, .int bc, .ref he, .ref ch], zB K da 16384 (zby dd)], rfl, rfl, absurd hx0 (by decide)⟩
                                · obtain ⟨hx0, rfl, p9, hp9, rfl⟩ := hq
                                  exact ⟨rfl, by decide, by decide, [7, 8, 0, 1, 2, 3, 4, 5, 6], [zO m 6 [.int fa, .ref ta, .int tn, .ref re, .int sz, .ref da, .int (nI dn), .ref ro, .int (nI w1), .int (nI p9), .ref li, .ref di, .ref lc, .ref la, .ref ou, .int os, .int bb, .int bc, .ref he, .ref ch], zB K da 16384 (zby dd), zB K ro 16640 (zby rr1), zO li 5 [.ref lica, .ref lima, .int xl], zI K lica 16 (zna ci), zI K lima 320 (zna gi), zO di 5 [.ref dica, .ref dima, .int xd], zI K dica 16 (zna cd), zI K dima 320 (zna gd)], rfl, rfl, ⟨k6.symm.trans (by rw [if_neg hx0]; rfl), _, _, _, hp9, k3, k4, rfl⟩⟩
                              · exact hq.elim
                            · exact absurd (Nat.le_refl fr) h131
                          · intro i hi ihd
                            have hdi := ztab_dis i (by omega)
                            show zj G 0 0 128 [(0, .ref m), (2, .int (nI len)), (3, .int (nI fr)), (4, .int (nI (ztab 2 i))), (5, .int (nI i))] [] [zO m 6 [.int fa, .ref ta, .int tn, .ref re, .int sz, .ref da, .int (nI dn), .ref ro, .int (nI w1), .int (nI p4), .ref li, .ref di, .ref lc, .ref la, .ref ou, .int os, .int bb, .int bc, .ref he, .ref ch], zB K da 16384 (zby dd), zB K ro 16640 (zby rr1), zO li 5 [.ref lica, .ref lima, .int xl], zI K lica 16 (zna ci), zI K lima 320 (zna gi), zO di 5 [.ref dica, .ref dima, .int xd], zI K dica 16 (zna cd), zI K dima 320 (zna gd)]
                            refine zj_iload F d_MO_block_128 4 rfl ?_
                            refine zj_iload_n F d_MO_block_130 2 rfl rfl ?_
                            refine zj_icmp_ge (tgt := 152) F d_MO_block_131 (by decide) (nI_leI (by omega) (by omega)) (fun h131 => ?_) (fun h131 => ?_)
                            · exact absurd h131 (by omega)
                            · refine zj_iload F d_MO_block_134 3 rfl ?_
                              refine zj_iconst (v := nI 1) F d_MO_block_136 (by decide) ?_
                              refine zj_iload F d_MO_block_137 4 rfl ?_
                              refine zj_call (maxL := 1) (wr := [zO m 6 [.int fa, .ref ta, .int tn, .ref re, .int sz, .ref da, .int (nI dn), .ref ro, .int (nI w1), .int (nI p4), .ref li, .ref di, .ref lc, .ref la, .ref ou, .int os, .int bb, .int bc, .ref he, .ref ch], zB K da 16384 (zby dd), zB K ro 16640 (zby rr1), zO li 5 [.ref lica, .ref lima, .int xl], zI K lica 16 (zna ci), zI K lima 320 (zna gi), zO di 5 [.ref dica, .ref dima, .int xd], zI K dica 16 (zna cd), zI K dima 320 (zna gd)]) F E (m_MO_distanceBits l K i (by omega)) (zi_S (As := [.int (nI i)]) (rest := [.int (nI 1), .int (nI (ztab 2 i))]) F d_MO_block_139 q_679 q_680 q_7 q_681 (Or.inl ⟨_, _, rfl⟩) (by decide) (show Option.map (fun d => d.parameters.length) (parseMethodDescriptor y_MO_distanceBits.desc) = some 1 from by decide +kernel)) d_MO_block_139 q_681 (Or.inl ⟨_, _, rfl⟩) q_7 [] [0, 1, 2, 3, 4, 5, 6, 7, 8] rfl rfl rfl rfl (by decide) ⟨by decide, by decide, by decide, by decide⟩ (Nat.le_of_ble_eq_true rfl) (fun v w1 hq => ?_) (fun X w1 hq => ?_)
                              · obtain ⟨rfl, rfl⟩ := hq
                                rw [zdb_tab i (by omega)]
                                show zj G 0 0 142 [(0, .ref m), (2, .int (nI len)), (3, .int (nI fr)), (4, .int (nI (ztab 2 i))), (5, .int (nI i))] [.int (nI (ztab 3 i)), .int (nI 1), .int (nI (ztab 2 i))] [zO m 6 [.int fa, .ref ta, .int tn, .ref re, .int sz, .ref da, .int (nI dn), .ref ro, .int (nI w1), .int (nI p4), .ref li, .ref di, .ref lc, .ref la, .ref ou, .int os, .int bb, .int bc, .ref he, .ref ch], zB K da 16384 (zby dd), zB K ro 16640 (zby rr1), zO li 5 [.ref lica, .ref lima, .int xl], zI K lica 16 (zna ci), zI K lima 320 (zna gi), zO di 5 [.ref dica, .ref dima, .int xd], zI K dica 16 (zna cd), zI K dima 320 (zna gd)]
                                refine zj_ishl (z := nI (1 * 2 ^ ztab 3 i)) F d_MO_block_142 (zI_shl (by omega)) ?_
                                refine zj_iadd (z := nI (ztab 2 (i + 1))) F d_MO_block_143 (by rw [Nat.one_mul, nI_add, zlnd_tab i (by omega)]) ?_
                                refine zj_istore (L' := [(4, .int (nI (ztab 2 (i + 1)))), (0, .ref m), (2, .int (nI len)), (3, .int (nI fr)), (5, .int (nI i))]) F d_MO_block_144 (by decide) rfl ?_
                                refine zj_iinc (v := nI (i + 1)) (L' := [(5, .int (nI (i + 1))), (4, .int (nI (ztab 2 (i + 1)))), (0, .ref m), (2, .int (nI len)), (3, .int (nI fr))]) F d_MO_block_146 4 rfl (nI_add _ _) (by decide) rfl ?_
                                refine zj_goto F d_MO_block_149 (tgt := 128) (by decide) ?_
                                exact zj_sub [2, 3, 4, 1, 0] rfl ihd
                              · exact hq.elim
                        exact zj_sub [4, 3, 2, 1, 0] rfl (keyD 0 (Nat.zero_le _))
                      · obtain ⟨hx0, rfl, rfl⟩ := hq
                        exact ⟨rfl, by decide, by decide, [0, 1, 2, 3, 4, 5, 6, 7, 8], [zB K ro 16640 (zby rr1), zO li 5 [.ref lica, .ref lima, .int xl], zI K lica 16 (zna ci), zI K lima 320 (zna gi), zO m 6 [.int fa, .ref ta, .int tn, .ref re, .int sz, .ref da, .int (nI dn), .ref ro, .int (nI w1), .int (nI p4), .ref li, .ref di, .ref lc, .ref la, .ref ou, .int os, .int bb, .int bc, .ref he, .ref ch], zB K da 16384 (zby dd), zO di 5 [.ref dica, .ref dima, .int xd], zI K dica 16 (zna cd), zI K dima 320 (zna gd)], rfl, rfl, absurd hx0 (by decide)⟩
                  · obtain ⟨hM1, rfl, p9, hp9, rfl⟩ := hq
                    exact ⟨rfl, by decide, by decide, [4, 5, 0, 1, 2, 3, 6, 7, 8], [zO m 6 [.int fa, .ref ta, .int tn, .ref re, .int sz, .ref da, .int (nI dn), .ref ro, .int (nI w1), .int (nI p9), .ref li, .ref di, .ref lc, .ref la, .ref ou, .int os, .int bb, .int bc, .ref he, .ref ch], zB K da 16384 (zby dd), zB K ro 16640 (zby rr1), zO li 5 [.ref lica, .ref lima, .int xl], zI K lica 16 (zna ci), zI K lima 320 (zna gi), zO di 5 [.ref dica, .ref dima, .int xd], zI K dica 16 (zna cd), zI K dima 320 (zna gd)], rfl, rfl, ⟨k6.symm.trans (by rw [hM1]; rfl), _, _, _, hp9, k3, k4, rfl⟩⟩
                refine zj_iconst (v := nI 3) F d_MO_block_48 (by decide) ?_
                refine zj_istore_n (L' := [(2, .int (nI 3)), (1, .int (nI (257 + kd))), (0, .ref m)]) F d_MO_block_49 rfl (by decide) rfl ?_
                refine zj_sipush (v := nI 257) F d_MO_block_50 (by decide) ?_
                refine zj_istore_n (L' := [(3, .int (nI 257)), (2, .int (nI 3)), (1, .int (nI (257 + kd))), (0, .ref m)]) F d_MO_block_53 rfl (by decide) rfl ?_
                refine zj_wsub (ws' := [zO m 6 [.int fa, .ref ta, .int tn, .ref re, .int sz, .ref da, .int (nI dn), .ref ro, .int (nI w1), .int (nI p2), .ref li, .ref di, .ref lc, .ref la, .ref ou, .int os, .int bb, .int bc, .ref he, .ref ch], zB K da 16384 (zby dd), zB K ro 16640 (zby rr1), zO li 5 [.ref lica, .ref lima, .int xl], zI K lica 16 (zna ci), zI K lima 320 (zna gi), zO di 5 [.ref dica, .ref dima, .int xd], zI K dica 16 (zna cd), zI K dima 320 (zna gd)]) [4, 5, 0, 6, 7, 8, 1, 2, 3] rfl rfl rfl ?_
                have keyL : ∀ i, i ≤ kd → zj G 0 0 54 [(0, .ref m), (1, .int (nI (257 + kd))), (2, .int (nI (zlbs i))), (3, .int (nI (257 + i)))] [] [zO m 6 [.int fa, .ref ta, .int tn, .ref re, .int sz, .ref da, .int (nI dn), .ref ro, .int (nI w1), .int (nI p2), .ref li, .ref di, .ref lc, .ref la, .ref ou, .int os, .int bb, .int bc, .ref he, .ref ch], zB K da 16384 (zby dd), zB K ro 16640 (zby rr1), zO li 5 [.ref lica, .ref lima, .int xl], zI K lica 16 (zna ci), zI K lima 320 (zna gi), zO di 5 [.ref dica, .ref dima, .int xd], zI K dica 16 (zna cd), zI K dima 320 (zna gd)] := by
                  refine zdown kd ?_ ?_
                  · have hls := zlbs_le kd (by omega)
                    show zj G 0 0 54 [(0, .ref m), (1, .int (nI (257 + kd))), (2, .int (nI (zlbs kd))), (3, .int (nI (257 + kd)))] [] [zO m 6 [.int fa, .ref ta, .int tn, .ref re, .int sz, .ref da, .int (nI dn), .ref ro, .int (nI w1), .int (nI p2), .ref li, .ref di, .ref lc, .ref la, .ref ou, .int os, .int bb, .int bc, .ref he, .ref ch], zB K da 16384 (zby dd), zB K ro 16640 (zby rr1), zO li 5 [.ref lica, .ref lima, .int xl], zI K lica 16 (zna ci), zI K lima 320 (zna gi), zO di 5 [.ref dica, .ref dima, .int xd], zI K dica 16 (zna cd), zI K dima 320 (zna gd)]
                    refine zj_iload_n F d_MO_block_54 3 rfl rfl ?_
                    refine zj_iload_n F d_MO_block_55 1 rfl rfl ?_
                    refine zj_icmp_ge (tgt := 74) F d_MO_block_56 (by decide) (nI_leI (by omega) (by omega)) (fun h56 => ?_) (fun h56 => ?_)
                    · refine zj_iload_n F d_MO_block_74 1 rfl rfl ?_
                      refine zj_sipush (v := nI 285) F d_MO_block_75 (by decide) ?_
                      refine zj_icmp_ne (tgt := 87) F d_MO_block_78 (by decide) (nI_eq (by omega) (by omega)) (fun h78 => ?_) (fun h78 => ?_)
                      · have hkd2 : kd < 28 := by omega
                        rw [zlbs_tab kd hkd2]
                        show zj G 0 0 87 [(0, .ref m), (1, .int (nI (257 + kd))), (2, .int (nI (ztab 0 kd))), (3, .int (nI (257 + kd)))] [] [zO m 6 [.int fa, .ref ta, .int tn, .ref re, .int sz, .ref da, .int (nI dn), .ref ro, .int (nI w1), .int (nI p2), .ref li, .ref di, .ref lc, .ref la, .ref ou, .int os, .int bb, .int bc, .ref he, .ref ch], zB K da 16384 (zby dd), zB K ro 16640 (zby rr1), zO li 5 [.ref lica, .ref lima, .int xl], zI K lica 16 (zna ci), zI K lima 320 (zna gi), zO di 5 [.ref dica, .ref dima, .int xd], zI K dica 16 (zna cd), zI K dima 320 (zna gd)]
                        refine zj_iload_n F d_MO_block_87 2 rfl rfl ?_
                        refine zj_aload_n F d_MO_block_88 0 rfl rfl ?_
                        refine zj_iload_n F d_MO_block_89 1 rfl rfl ?_
                        refine zj_call (maxL := 1) (wr := [zO m 6 [.int fa, .ref ta, .int tn, .ref re, .int sz, .ref da, .int (nI dn), .ref ro, .int (nI w1), .int (nI p2), .ref li, .ref di, .ref lc, .ref la, .ref ou, .int os, .int bb, .int bc, .ref he, .ref ch], zB K da 16384 (zby dd), zB K ro 16640 (zby rr1), zO li 5 [.ref lica, .ref lima, .int xl], zI K lica 16 (zna ci), zI K lima 320 (zna gi), zO di 5 [.ref dica, .ref dima, .int xd], zI K dica 16 (zna cd), zI K dima 320 (zna gd)]) F E (m_MO_lengthBits l K (257 + kd) (by omega)) (zi_S (As := [.int (nI (257 + kd))]) (rest := [.ref m, .int (nI (ztab 0 kd))]) F d_MO_block_90 q_676 q_677 q_7 q_678 (Or.inl ⟨_, _, rfl⟩) (by decide) (show Option.map (fun d => d.parameters.length) (parseMethodDescriptor y_MO_lengthBits.desc) = some 1 from by decide +kernel)) d_MO_block_90 q_678 (Or.inl ⟨_, _, rfl⟩) q_7 [] [0, 1, 2, 3, 4, 5, 6, 7, 8] rfl rfl rfl rfl (by decide) ⟨by decide, by decide, by decide, by decide⟩ (Nat.le_of_ble_eq_true rfl) (fun v w1 hq => ?_) (fun X w1 hq => ?_)
                        · obtain ⟨rfl, rfl⟩ := hq
                          rw [zlb_tab kd hkd]
                          show zj G 0 0 93 [(0, .ref m), (1, .int (nI (257 + kd))), (2, .int (nI (ztab 0 kd))), (3, .int (nI (257 + kd)))] [.int (nI (ztab 1 kd)), .ref m, .int (nI (ztab 0 kd))] [zO m 6 [.int fa, .ref ta, .int tn, .ref re, .int sz, .ref da, .int (nI dn), .ref ro, .int (nI w1), .int (nI p2), .ref li, .ref di, .ref lc, .ref la, .ref ou, .int os, .int bb, .int bc, .ref he, .ref ch], zB K da 16384 (zby dd), zB K ro 16640 (zby rr1), zO li 5 [.ref lica, .ref lima, .int xl], zI K lica 16 (zna ci), zI K lima 320 (zna gi), zO di 5 [.ref dica, .ref dima, .int xd], zI K dica 16 (zna cd), zI K dima 320 (zna gd)]
                          refine zj_call (maxL := 4) (wr := [zB K ro 16640 (zby rr1), zO li 5 [.ref lica, .ref lima, .int xl], zI K lica 16 (zna ci), zI K lima 320 (zna gi), zO di 5 [.ref dica, .ref dima, .int xd], zI K dica 16 (zna cd), zI K dima 320 (zna gd)]) F E (m_MO_bits l hl K m ta re da ro li di lc la ou he ch fa tn sz (nI w1) os bb bc dn p2 (ztab 1 kd) t dd hb hdn hdd hM2 (by omega)) (zi_V (As := [.int (nI (ztab 1 kd))]) (rest := [.int (nI (ztab 0 kd))]) F d_MO_block_93 0 rfl rfl rfl q_640 q_642 sel_MO_bits q_643 (Or.inl ⟨_, _, rfl⟩) (by decide) (show Option.map (fun d => d.parameters.length) (parseMethodDescriptor y_MO_bits.desc) = some 1 from by decide +kernel)) d_MO_block_93 q_643 (Or.inl ⟨_, _, rfl⟩) q_7 [0, 1] [2, 3, 4, 5, 6, 7, 8] rfl rfl rfl rfl (by decide) ⟨by decide, by decide, by decide, by decide⟩ (Nat.le_of_ble_eq_true rfl) (fun v w1 hq => ?_) (fun X w1 hq => ?_)
                          · obtain ⟨hq7, rfl, rfl⟩ := hq
                            show zj G 0 0 96 [(0, .ref m), (1, .int (nI (257 + kd))), (2, .int (nI (ztab 0 kd))), (3, .int (nI (257 + kd)))] [.int (nI (znum t p2 (ztab 1 kd))), .int (nI (ztab 0 kd))] [zB K ro 16640 (zby rr1), zO li 5 [.ref lica, .ref lima, .int xl], zI K lica 16 (zna ci), zI K lima 320 (zna gi), zO di 5 [.ref dica, .ref dima, .int xd], zI K dica 16 (zna cd), zI K dima 320 (zna gd), zO m 6 [.int fa, .ref ta, .int tn, .ref re, .int sz, .ref da, .int (nI dn), .ref ro, .int (nI w1), .int (nI (p2 + (ztab 1 kd))), .ref li, .ref di, .ref lc, .ref la, .ref ou, .int os, .int bb, .int bc, .ref he, .ref ch], zB K da 16384 (zby dd)]
                            rw [zcop_eq hkd hq7] at k6
                            have hbn := znum_lt t p2 (ztab 1 kd)
                            have hbp : (2 : Nat) ^ ztab 1 kd ≤ 2 ^ 5 := Nat.pow_le_pow_right (by decide) hlt.1
                            refine zj_iadd F d_MO_block_96 (nI_add _ _) ?_
                            refine zj_wsub (ws' := [zO m 6 [.int fa, .ref ta, .int tn, .ref re, .int sz, .ref da, .int (nI dn), .ref ro, .int (nI w1), .int (nI (p2 + (ztab 1 kd))), .ref li, .ref di, .ref lc, .ref la, .ref ou, .int os, .int bb, .int bc, .ref he, .ref ch], zB K da 16384 (zby dd), zB K ro 16640 (zby rr1), zO li 5 [.ref lica, .ref lima, .int xl], zI K lica 16 (zna ci), zI K lima 320 (zna gi), zO di 5 [.ref dica, .ref dima, .int xd], zI K dica 16 (zna cd), zI K dima 320 (zna gd)]) [7, 8, 0, 1, 2, 3, 4, 5, 6] rfl rfl rfl ?_
                            exact zj_sub [0] rfl (tail _ _ (by omega) hq7 (by omega) k6)
                          · obtain ⟨hx0, rfl, p9, hp9, rfl⟩ := hq
                            exact ⟨rfl, by decide, by decide, [7, 8, 0, 1, 2, 3, 4, 5, 6], [zO m 6 [.int fa, .ref ta, .int tn, .ref re, .int sz, .ref da, .int (nI dn), .ref ro, .int (nI w1), .int (nI p9), .ref li, .ref di, .ref lc, .ref la, .ref ou, .int os, .int bb, .int bc, .ref he, .ref ch], zB K da 16384 (zby dd), zB K ro 16640 (zby rr1), zO li 5 [.ref lica, .ref lima, .int xl], zI K lica 16 (zna ci), zI K lima 320 (zna gi), zO di 5 [.ref dica, .ref dima, .int xd], zI K dica 16 (zna cd), zI K dima 320 (zna gd)], rfl, rfl, ⟨k6.symm.trans (by unfold zcop; rw [if_pos hkd, if_neg hx0]; rfl), _, _, _, hp9, k3, k4, rfl⟩⟩
                        · exact hq.elim
                      · have hkd2 : kd = 28 := by omega
                        subst hkd2
                        rw [zcop_eq hkd (by show p2 + 0 ≤ 8 * dn; omega)] at k6
                        refine zj_sipush (v := nI 258) F d_MO_block_81 (by decide) ?_
                        refine zj_goto F d_MO_block_84 (tgt := 97) (by decide) ?_
                        exact zj_sub [0] rfl (tail p2 258 (Nat.le_refl _) hM2 (by decide) k6)
                    · exact absurd (Nat.le_refl _) h56
                  · intro i hi ihl
                    have hli := zlbs_le i (by omega)
                    show zj G 0 0 54 [(0, .ref m), (1, .int (nI (257 + kd))), (2, .int (nI (zlbs i))), (3, .int (nI (257 + i)))] [] [zO m 6 [.int fa, .ref ta, .int tn, .ref re, .int sz, .ref da, .int (nI dn), .ref ro, .int (nI w1), .int (nI p2), .ref li, .ref di, .ref lc, .ref la, .ref ou, .int os, .int bb, .int bc, .ref he, .ref ch], zB K da 16384 (zby dd), zB K ro 16640 (zby rr1), zO li 5 [.ref lica, .ref lima, .int xl], zI K lica 16 (zna ci), zI K lima 320 (zna gi), zO di 5 [.ref dica, .ref dima, .int xd], zI K dica 16 (zna cd), zI K dima 320 (zna gd)]
                    refine zj_iload_n F d_MO_block_54 3 rfl rfl ?_
                    refine zj_iload_n F d_MO_block_55 1 rfl rfl ?_
                    refine zj_icmp_ge (tgt := 74) F d_MO_block_56 (by decide) (nI_leI (by omega) (by omega)) (fun h56 => ?_) (fun h56 => ?_)
                    · exact absurd h56 (by omega)
                    · refine zj_iload_n F d_MO_block_59 2 rfl rfl ?_
                      refine zj_iconst (v := nI 1) F d_MO_block_60 (by decide) ?_
                      refine zj_iload_n F d_MO_block_61 3 rfl rfl ?_
                      refine zj_call (maxL := 1) (wr := [zO m 6 [.int fa, .ref ta, .int tn, .ref re, .int sz, .ref da, .int (nI dn), .ref ro, .int (nI w1), .int (nI p2), .ref li, .ref di, .ref lc, .ref la, .ref ou, .int os, .int bb, .int bc, .ref he, .ref ch], zB K da 16384 (zby dd), zB K ro 16640 (zby rr1), zO li 5 [.ref lica, .ref lima, .int xl], zI K lica 16 (zna ci), zI K lima 320 (zna gi), zO di 5 [.ref dica, .ref dima, .int xd], zI K dica 16 (zna cd), zI K dima 320 (zna gd)]) F E (m_MO_lengthBits l K (257 + i) (by omega)) (zi_S (As := [.int (nI (257 + i))]) (rest := [.int (nI 1), .int (nI (zlbs i))]) F d_MO_block_62 q_676 q_677 q_7 q_678 (Or.inl ⟨_, _, rfl⟩) (by decide) (show Option.map (fun d => d.parameters.length) (parseMethodDescriptor y_MO_lengthBits.desc) = some 1 from by decide +kernel)) d_MO_block_62 q_678 (Or.inl ⟨_, _, rfl⟩) q_7 [] [0, 1, 2, 3, 4, 5, 6, 7, 8] rfl rfl rfl rfl (by decide) ⟨by decide, by decide, by decide, by decide⟩ (Nat.le_of_ble_eq_true rfl) (fun v w1 hq => ?_) (fun X w1 hq => ?_)
                      · obtain ⟨rfl, rfl⟩ := hq
                        show zj G 0 0 65 [(0, .ref m), (1, .int (nI (257 + kd))), (2, .int (nI (zlbs i))), (3, .int (nI (257 + i)))] [.int (nI (zlb (257 + i))), .int (nI 1), .int (nI (zlbs i))] [zO m 6 [.int fa, .ref ta, .int tn, .ref re, .int sz, .ref da, .int (nI dn), .ref ro, .int (nI w1), .int (nI p2), .ref li, .ref di, .ref lc, .ref la, .ref ou, .int os, .int bb, .int bc, .ref he, .ref ch], zB K da 16384 (zby dd), zB K ro 16640 (zby rr1), zO li 5 [.ref lica, .ref lima, .int xl], zI K lica 16 (zna ci), zI K lima 320 (zna gi), zO di 5 [.ref dica, .ref dima, .int xd], zI K dica 16 (zna cd), zI K dima 320 (zna gd)]
                        refine zj_ishl (z := nI (1 * 2 ^ zlb (257 + i))) F d_MO_block_65 (zI_shl (by omega)) ?_
                        refine zj_iadd (z := nI (zlbs (i + 1))) F d_MO_block_66 (by rw [Nat.one_mul, nI_add]; rfl) ?_
                        refine zj_istore_n (L' := [(2, .int (nI (zlbs (i + 1)))), (0, .ref m), (1, .int (nI (257 + kd))), (3, .int (nI (257 + i)))]) F d_MO_block_67 rfl (by decide) rfl ?_
                        refine zj_iinc (v := nI (257 + (i + 1))) (L' := [(3, .int (nI (257 + (i + 1)))), (2, .int (nI (zlbs (i + 1)))), (0, .ref m), (1, .int (nI (257 + kd)))]) F d_MO_block_68 3 rfl (by rw [← Nat.add_assoc]; exact nI_add _ _) (by decide) rfl ?_
                        refine zj_goto F d_MO_block_71 (tgt := 54) (by decide) ?_
                        exact zj_sub [2, 3, 1, 0] rfl ihl
                      · exact hq.elim
                exact zj_sub [3, 2, 1, 0] rfl (keyL 0 (Nat.zero_le _))
              · obtain ⟨hx0, rfl, rfl⟩ := hq
                exact ⟨rfl, by decide, by decide, [0, 1, 2, 3, 4, 5, 6, 7, 8], [zB K ro 16640 (zby rr1), zO di 5 [.ref dica, .ref dima, .int xd], zI K dica 16 (zna cd), zI K dima 320 (zna gd), zO m 6 [.int fa, .ref ta, .int tn, .ref re, .int sz, .ref da, .int (nI dn), .ref ro, .int (nI w1), .int (nI p2), .ref li, .ref di, .ref lc, .ref la, .ref ou, .int os, .int bb, .int bc, .ref he, .ref ch], zB K da 16384 (zby dd), zO li 5 [.ref lica, .ref lima, .int xl], zI K lica 16 (zna ci), zI K lima 320 (zna gi)], rfl, rfl, absurd hx0 (by decide)⟩
          · unfold zcodS at k6
            rw [hM1] at k6
            dsimp only at k6
            rw [if_pos h28] at k6
            refine zj_wsub (ws' := [zO m 6 [.int fa, .ref ta, .int tn, .ref re, .int sz, .ref da, .int (nI dn), .ref ro, .int (nI w1), .int (nI p2), .ref li, .ref di, .ref lc, .ref la, .ref ou, .int os, .int bb, .int bc, .ref he, .ref ch], zB K da 16384 (zby dd), zB K ro 16640 (zby rr1), zO li 5 [.ref lica, .ref lima, .int xl], zI K lica 16 (zna ci), zI K lima 320 (zna gi), zO di 5 [.ref dica, .ref dima, .int xd], zI K dica 16 (zna cd), zI K dima 320 (zna gd)]) [4, 5, 0, 6, 7, 8, 1, 2, 3] rfl rfl rfl ?_
            exact zj_vret F E d_MO_block_31 (Nat.le_refl _) (Nat.le_refl _) ⟨p2, o1, w1, rr1, k6.symm, by omega, hM2, k3, k4, k5, rfl, rfl⟩
        · unfold zcodS at k6
          rw [hM1] at k6
          dsimp only at k6
          rw [if_neg (show ¬ x = 256 by omega), if_pos (show x < 256 by omega)] at k6
          refine zj_aload_n F d_MO_block_16 1 rfl rfl ?_
          refine zj_iload_n F d_MO_block_17 0 rfl rfl ?_
          refine zj_call (maxL := 2) (wr := [zO di 5 [.ref dica, .ref dima, .int xd], zI K dica 16 (zna cd), zI K dima 320 (zna gd), zB K da 16384 (zby dd), zO li 5 [.ref lica, .ref lima, .int xl], zI K lica 16 (zna ci), zI K lima 320 (zna gi)]) F E (m_MO_give l hl K m ta re da ro li di lc la ou he ch fa tn sz (nI dn) (nI p2) os bb bc w1 x (nI x) rr1 k3 ((zlow_nI x).trans (Nat.mod_eq_of_lt (by omega)))) (zi_V (As := [.int (nI x)]) (rest := []) F d_MO_block_18 4 rfl rfl rfl q_645 q_647 sel_MO_give q_648 (Or.inl ⟨_, _, rfl⟩) (by decide) (show Option.map (fun d => d.parameters.length) (parseMethodDescriptor y_MO_give.desc) = some 1 from by decide +kernel)) d_MO_block_18 q_648 (Or.inl ⟨_, _, rfl⟩) q_7 [4, 0] [1, 2, 3, 5, 6, 7, 8] rfl rfl rfl rfl (by decide) ⟨by decide, by decide, by decide, by decide⟩ (Nat.le_of_ble_eq_true rfl) (fun v w1 hq => ?_) (fun X w1 hq => ?_)
          · obtain ⟨hq5, rfl, rfl⟩ := hq
            show zj G 0 0 21 [(1, .int (nI x)), (0, .ref m)] [] [zO di 5 [.ref dica, .ref dima, .int xd], zI K dica 16 (zna cd), zI K dima 320 (zna gd), zB K da 16384 (zby dd), zO li 5 [.ref lica, .ref lima, .int xl], zI K lica 16 (zna ci), zI K lima 320 (zna gi), zO m 6 [.int fa, .ref ta, .int tn, .ref re, .int sz, .ref da, .int (nI dn), .ref ro, .int (nI (w1 + 1)), .int (nI p2), .ref li, .ref di, .ref lc, .ref la, .ref ou, .int os, .int bb, .int bc, .ref he, .ref ch], zB K ro 16640 (zby (va_up rr1 w1 x))]
            rw [if_pos hq5] at k6
            refine zj_goto F d_MO_block_21 (tgt := 0) (by decide) ?_
            refine zj_wsub (ws' := [zO m 6 [.int fa, .ref ta, .int tn, .ref re, .int sz, .ref da, .int (nI dn), .ref ro, .int (nI (w1 + 1)), .int (nI p2), .ref li, .ref di, .ref lc, .ref la, .ref ou, .int os, .int bb, .int bc, .ref he, .ref ch], zB K da 16384 (zby dd), zB K ro 16640 (zby (va_up rr1 w1 x)), zO li 5 [.ref lica, .ref lima, .int xl], zI K lica 16 (zna ci), zI K lima 320 (zna gi), zO di 5 [.ref dica, .ref dima, .int xd], zI K dica 16 (zna cd), zI K dima 320 (zna gd)]) [7, 3, 8, 4, 5, 6, 0, 1, 2] rfl rfl rfl ?_
            exact zj_sub [1] rfl (ih p2 _ (w1 + 1) _ (by omega) hM2 (by omega) (by omega) (zup_lt k4 w1 (by omega)) (zag_up k5 x) k6)
          · obtain ⟨hx5, rfl, rfl⟩ := hq
            exact ⟨rfl, by decide, by decide, [7, 3, 8, 4, 5, 6, 0, 1, 2], [zO m 6 [.int fa, .ref ta, .int tn, .ref re, .int sz, .ref da, .int (nI dn), .ref ro, .int (nI w1), .int (nI p2), .ref li, .ref di, .ref lc, .ref la, .ref ou, .int os, .int bb, .int bc, .ref he, .ref ch], zB K da 16384 (zby dd), zB K ro 16640 (zby rr1), zO li 5 [.ref lica, .ref lima, .int xl], zI K lica 16 (zna ci), zI K lima 320 (zna gi), zO di 5 [.ref dica, .ref dima, .int xd], zI K dica 16 (zna cd), zI K dima 320 (zna gd)], rfl, rfl, ⟨k6.symm.trans (by rw [if_neg hx5]), _, _, _, hM2, k3, k4, rfl⟩⟩
      · obtain ⟨hM1, rfl, p9, hp9, rfl⟩ := hq
        exact ⟨rfl, by decide, by decide, [4, 5, 0, 6, 7, 8, 1, 2, 3], [zO m 6 [.int fa, .ref ta, .int tn, .ref re, .int sz, .ref da, .int (nI dn), .ref ro, .int (nI w1), .int (nI p9), .ref li, .ref di, .ref lc, .ref la, .ref ou, .int os, .int bb, .int bc, .ref he, .ref ch], zB K da 16384 (zby dd), zB K ro 16640 (zby rr1), zO li 5 [.ref lica, .ref lima, .int xl], zI K lica 16 (zna ci), zI K lima 320 (zna gi), zO di 5 [.ref dica, .ref dima, .int xd], zI K dica 16 (zna cd), zI K dima 320 (zna gd)], rfl, rfl, ⟨k6.symm.trans (by unfold zcodS; rw [hM1]), _, _, _, hp9, k3, k4, rfl⟩⟩
  exact zj_sub [0] rfl (key f p o w rr (Nat.le_refl _) hp hf hw hrr hag hR)
