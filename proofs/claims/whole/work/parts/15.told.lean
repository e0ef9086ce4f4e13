theorem zcnt_congr {g g' : Nat → Nat} {a l : Nat} : ∀ n, (∀ i, i < n → g (a + i) = g' (a + i)) → zcnt g a l n = zcnt g' a l n
  | 0, _ => rfl
  | n + 1, h => by
    show zcnt g a l n + _ = zcnt g' a l n + _
    rw [zcnt_congr n (fun i hi => h i (by omega)), h n (by omega)]
theorem zth_congr {g g' : Nat → Nat} {a l : Nat} : ∀ n, (∀ i, i < n → g (a + i) = g' (a + i)) → ∀ r, zth g a l n r = zth g' a l n r
  | 0, _, _ => rfl
  | n + 1, h, r => by
    show (if g (a + n) = l ∧ zcnt g a l n = r then n else zth g a l n r) = (if g' (a + n) = l ∧ zcnt g' a l n = r then n else zth g' a l n r)
    rw [zth_congr n (fun i hi => h i (by omega)) r, zcnt_congr n (fun i hi => h i (by omega)), h n (by omega)]
theorem zuse_congr {g g' : Nat → Nat} {a : Nat} : ∀ n, (∀ i, i < n → g (a + i) = g' (a + i)) → zuse g a n = zuse g' a n
  | 0, _ => rfl
  | n + 1, h => by
    show zuse g a n + _ = zuse g' a n + _
    rw [zuse_congr n (fun i hi => h i (by omega)), h n (by omega)]
/-- the value v at the places a, a + 1 .. -/
def zset (c : Nat → Nat) (a v : Nat) : Nat → (Nat → Nat)
  | 0 => c
  | i + 1 => va_up (zset c a v i) (a + i) v
theorem zset_at (c : Nat → Nat) (a v : Nat) : ∀ n j, zset c a v n j = if a ≤ j ∧ j < a + n then v else c j
  | 0, j => by rw [if_neg (by omega)]; rfl
  | n + 1, j => by
    show (if j = a + n then v else zset c a v n j) = _
    by_cases h : j = a + n
    · rw [if_pos h, if_pos (by omega)]
    · rw [if_neg h, zset_at c a v n j]
      by_cases h2 : a ≤ j ∧ j < a + n
      · rw [if_pos h2, if_pos (by omega)]
      · rw [if_neg h2, if_neg (by omega)]
/-- a run of lengths -/
def zrunT (total h p : Nat) (c : Nat → Nat) (v times : Nat) : Except String (Nat × (Nat → Nat) × Nat) := if times ≤ total - h then .ok (p, zset c h v times, h + times) else .error zU
def zrunF (t : Nat → Nat) (e sym h total p : Nat) (c : Nat → Nat) : Except String (Nat × (Nat → Nat) × Nat) :=
  if sym = 16 ∧ h = 0 then .error zU
  else if sym = 16 then (if p + 2 ≤ e then zrunT total h (p + 2) c (c (h - 1)) (3 + znum t p 2) else .error zU)
  else if sym = 17 then (if p + 3 ≤ e then zrunT total h (p + 3) c 0 (3 + znum t p 3) else .error zU)
  else (if p + 7 ≤ e then zrunT total h (p + 7) c 0 (11 + znum t p 7) else .error zU)
/-- both rows of lengths: one symbol, then k -/
def zlenS (t : Nat → Nat) (e : Nat) (cc : Nat → Nat) (mc : Nat → Nat → Nat) (total : Nat) (k : Nat → (Nat → Nat) → Nat → Except String (Nat × (Nat → Nat) × Nat)) (p : Nat) (c : Nat → Nat) (h : Nat) : Except String (Nat × (Nat → Nat) × Nat) :=
  if h < total then
    match zdec t e cc mc 15 1 0 0 p with
    | none => .error zU
    | some (sym, p1) =>
      if sym < 16 then k p1 (va_up c h sym) (h + 1)
      else match zrunF t e sym h total p1 c with
        | .error X => .error X
        | .ok (p2, c2, h2) => k p2 c2 h2
  else .ok (p, c, h)
def zlen (t : Nat → Nat) (e : Nat) (cc : Nat → Nat) (mc : Nat → Nat → Nat) (total : Nat) : Nat → Nat → (Nat → Nat) → Nat → Except String (Nat × (Nat → Nat) × Nat)
  | 0 => fun p c h => .ok (p, c, h)
  | f + 1 => zlenS t e cc mc total (zlen t e cc mc total f)
theorem zlen_s (t : Nat → Nat) (e : Nat) (cc : Nat → Nat) (mc : Nat → Nat → Nat) (total f p : Nat) (c : Nat → Nat) (h : Nat) : zlen t e cc mc total (f + 1) p c h = zlenS t e cc mc total (zlen t e cc mc total f) p c h := rfl
/-- the lengths of the codes for lengths -/
def zlc (t : Nat → Nat) (e : Nat) : Nat → Nat → Nat → (Nat → Nat) → Option (Nat × (Nat → Nat))
  | 0, _, p, c => some (p, c)
  | k + 1, i, p, c => if p + 3 ≤ e then zlc t e k (i + 1) (p + 3) (va_up c (ztab 4 i) (znum t p 3)) else none
def zlcF (t : Nat → Nat) (e told p : Nat) : Except String (Nat × (Nat → Nat)) :=
  match zlc t e told 0 p (fun _ => 0) with
  | none => .error zU
  | some (p', c) => if zuse c 0 19 = 32768 then .ok (p', c) else .error zU
theorem ztab_ord : ∀ k, k < 19 → ztab 4 k < 19 := by decide +kernel
set_option maxHeartbeats 4000000 in
set_option maxRecDepth 100000 in
/-- readRun(symbol, have, total) -/
theorem m_UN_run (l : Launch) (hl : l.stackTraces = false) (K : zk) (u r fl fd li di lc la ob w : Nat) (b Nb e p : Nat) (t : Nat → Nat) (sym h total : Nat) (g c : Nat → Nat) (R : Except String (Nat × (Nat → Nat) × Nat)) (hb : ∀ j, t j < 256) (hN : Nb ≤ 16384) (he : e % 8 = 0 ∧ e ≤ 8 * Nb) (hp : p ≤ e) (hs : 16 ≤ sym) (hs2 : sym < 288) (hh : h < total) (ht : total ≤ 316) (hgc : ∀ j, j < h → g j = c j) (hc15 : ∀ j, j < h → c j ≤ 15) (hR : zrunF t e sym h total p c = R) : zc l K y_UN_readRun w_UN_readRun { frames := 7, cells := 1, slots := 6, locals := 123 } 0 0 1 6 [.ref u, .int (nI sym), .int (nI h), .int (nI total)] [zO u 3 [.ref r, .ref fl, .ref fd, .ref li, .ref di, .ref lc, .ref la, .ref ob, .int (nI w)], zO r 0 [.ref b, .int (nI e), .int (nI p)], zB K b Nb (zby t), zI K la 316 (zna g)] (fun v w1 => ∃ p' c' h' g', R = .ok (p', c', h') ∧ p' ≤ e ∧ h < h' ∧ h' ≤ total ∧ (∀ j, j < h' → g' j = c' j) ∧ (∀ j, j < h' → c' j ≤ 15) ∧ v = some (.int (nI h')) ∧ w1 = [zO u 3 [.ref r, .ref fl, .ref fd, .ref li, .ref di, .ref lc, .ref la, .ref ob, .int (nI w)], zO r 0 [.ref b, .int (nI e), .int (nI p')], zB K b Nb (zby t), zI K la 316 (zna g')]) (fun X w1 => R = .error X ∧ ∃ p' g', w1 = [zO u 3 [.ref r, .ref fl, .ref fd, .ref li, .ref di, .ref lc, .ref la, .ref ob, .int (nI w)], zO r 0 [.ref b, .int (nI e), .int (nI p')], zB K b Nb (zby t), zI K la 316 (zna g')]) := by
  refine zc_of (cc := c_UN_readRun) (nl := 7) (ret := (some .int)) (by decide) (Nat.le_of_ble_eq_true rfl) (fun G F E => ?_)
  have F : zf G l K { frames := 7, cells := 1, slots := 6, locals := 123 } "ZlibBox$Unpacker" c_UN_readRun 7 := F
  show zj G 0 0 0 [(0, .ref u), (1, .int (nI sym)), (2, .int (nI h)), (3, .int (nI total))] [] [zO u 3 [.ref r, .ref fl, .ref fd, .ref li, .ref di, .ref lc, .ref la, .ref ob, .int (nI w)], zO r 0 [.ref b, .int (nI e), .int (nI p)], zB K b Nb (zby t), zI K la 316 (zna g)]
  have hN2 : Nb < 2 ^ 24 := by omega
  have he2 : e ≤ 8 * Nb := by omega
  have tail : ∀ p1 v times, p1 ≤ e → v ≤ 15 → 1 ≤ times → times < 2 ^ 20 → zrunT total h p1 c v times = R → zj G 0 0 89 [(0, .ref u), (2, .int (nI h)), (3, .int (nI total)), (4, .int (nI v)), (5, .int (nI times))] [] [zO u 3 [.ref r, .ref fl, .ref fd, .ref li, .ref di, .ref lc, .ref la, .ref ob, .int (nI w)], zO r 0 [.ref b, .int (nI e), .int (nI p1)], zB K b Nb (zby t), zI K la 316 (zna g)] := by
    intro p1 v times hp1 hv ht1 ht2 h6
    show zj G 0 0 89 [(0, .ref u), (2, .int (nI h)), (3, .int (nI total)), (4, .int (nI v)), (5, .int (nI times))] [] [zO u 3 [.ref r, .ref fl, .ref fd, .ref li, .ref di, .ref lc, .ref la, .ref ob, .int (nI w)], zO r 0 [.ref b, .int (nI e), .int (nI p1)], zB K b Nb (zby t), zI K la 316 (zna g)]
    refine zj_iload F d_UN_readRun_89 4 rfl ?_
    refine zj_iload_n F d_UN_readRun_91 2 rfl rfl ?_
    refine zj_iload_n F d_UN_readRun_92 1 rfl rfl ?_
    refine zj_isub F d_UN_readRun_93 (pk_sub (by omega)) ?_
    refine zj_icmp_le (tgt := 107) F d_UN_readRun_94 (by decide) (nI_leI (by omega) (by omega)) (fun h94 => ?_) (fun h94 => ?_)
    · unfold zrunT at h6
      rw [if_pos h94] at h6
      refine zj_iconst (v := nI 0) F d_UN_readRun_107 (by decide) ?_
      refine zj_istore (L' := [(6, .int (nI 0)), (0, .ref u), (2, .int (nI h)), (3, .int (nI total)), (4, .int (nI v)), (5, .int (nI times))]) F d_UN_readRun_108 (by decide) rfl ?_
      have key : ∀ i, i ≤ times → zj G 0 0 110 [(0, .ref u), (2, .int (nI h)), (4, .int (nI v)), (5, .int (nI times)), (6, .int (nI i))] [] [zO u 3 [.ref r, .ref fl, .ref fd, .ref li, .ref di, .ref lc, .ref la, .ref ob, .int (nI w)], zO r 0 [.ref b, .int (nI e), .int (nI p1)], zB K b Nb (zby t), zI K la 316 (zna (zset g h v i))] := by
        refine zdown times ?_ ?_
        · show zj G 0 0 110 [(0, .ref u), (2, .int (nI h)), (4, .int (nI v)), (5, .int (nI times)), (6, .int (nI times))] [] [zO u 3 [.ref r, .ref fl, .ref fd, .ref li, .ref di, .ref lc, .ref la, .ref ob, .int (nI w)], zO r 0 [.ref b, .int (nI e), .int (nI p1)], zB K b Nb (zby t), zI K la 316 (zna (zset g h v times))]
          refine zj_iload F d_UN_readRun_110 4 rfl ?_
          refine zj_iload F d_UN_readRun_112 3 rfl ?_
          refine zj_icmp_ge (tgt := 134) F d_UN_readRun_114 (by decide) (nI_leI (by omega) (by omega)) (fun h114 => ?_) (fun h114 => ?_)
          · refine zj_iload_n F d_UN_readRun_134 1 rfl rfl ?_
            refine zj_iload F d_UN_readRun_135 3 rfl ?_
            refine zj_iadd F d_UN_readRun_137 (nI_add _ _) ?_
            exact zj_iret F E d_UN_readRun_138 (Nat.le_refl _) (Nat.le_refl _) ⟨_, _, _, _, h6.symm, hp1, by omega, by omega, fun j hj => by
                rw [zset_at, zset_at]
                by_cases hq : h ≤ j ∧ j < h + times
                · rw [if_pos hq, if_pos hq]
                · rw [if_neg hq, if_neg hq]; exact hgc j (by omega), fun j hj => by
                rw [zset_at]
                by_cases hq : h ≤ j ∧ j < h + times
                · rw [if_pos hq]; exact hv
                · rw [if_neg hq]; exact hc15 j (by omega), rfl, rfl⟩
          · exact absurd (Nat.le_refl times) h114
        · intro i hi ih
          show zj G 0 0 110 [(0, .ref u), (2, .int (nI h)), (4, .int (nI v)), (5, .int (nI times)), (6, .int (nI i))] [] [zO u 3 [.ref r, .ref fl, .ref fd, .ref li, .ref di, .ref lc, .ref la, .ref ob, .int (nI w)], zO r 0 [.ref b, .int (nI e), .int (nI p1)], zB K b Nb (zby t), zI K la 316 (zna (zset g h v i))]
          refine zj_iload F d_UN_readRun_110 4 rfl ?_
          refine zj_iload F d_UN_readRun_112 3 rfl ?_
          refine zj_icmp_ge (tgt := 134) F d_UN_readRun_114 (by decide) (nI_leI (by omega) (by omega)) (fun h114 => ?_) (fun h114 => ?_)
          · exact absurd h114 (by omega)
          · refine zj_aload_n F d_UN_readRun_117 0 rfl rfl ?_
            refine zj_get F d_UN_readRun_118 0 6 rfl rfl in_UN (by decide) q_87 rfl ?_
            refine zj_iload_n F d_UN_readRun_121 1 rfl rfl ?_
            refine zj_iload F d_UN_readRun_122 4 rfl ?_
            refine zj_iadd F d_UN_readRun_124 (nI_add _ _) ?_
            refine zj_iload F d_UN_readRun_125 2 rfl ?_
            refine zj_iast (ws' := [zO u 3 [.ref r, .ref fl, .ref fd, .ref li, .ref di, .ref lc, .ref la, .ref ob, .int (nI w)], zO r 0 [.ref b, .int (nI e), .int (nI p1)], zB K b Nb (zby t), zI K la 316 (zna (zset g h v (i + 1)))]) F d_UN_readRun_127 3 1 (h + i) rfl rfl rfl (by omega) (by omega) (by rw [zna_upd]; rfl) ?_
            refine zj_iinc (v := nI (i + 1)) (L' := [(6, .int (nI (i + 1))), (0, .ref u), (2, .int (nI h)), (4, .int (nI v)), (5, .int (nI times))]) F d_UN_readRun_128 4 rfl (nI_add _ _) (by decide) rfl ?_
            refine zj_goto F d_UN_readRun_131 (tgt := 110) (by decide) ?_
            exact zj_sub [1, 2, 3, 4, 0] rfl ih
      exact zj_sub [1, 2, 4, 5, 0] rfl (key 0 (Nat.zero_le _))
    · exact zj_throwS (names := zt_up) F E hl d_UN_readRun_97 d_UN_readRun_100 d_UN_readRun_101 d_UN_readRun_103 d_UN_readRun_106 (by decide +kernel) (by decide +kernel) q_407 (at_UN_83) ⟨by decide, by decide, by decide, by decide⟩ rfl (by decide) (by decide) ⟨h6.symm.trans (by unfold zrunT; rw [if_neg h94]), _, _, rfl⟩
  refine zj_iload_n F d_UN_readRun_0 1 rfl rfl ?_
  refine zj_bipush (v := nI 16) F d_UN_readRun_1 (by decide) ?_
  refine zj_icmp_ne (tgt := 20) F d_UN_readRun_3 (by decide) (nI_eq (by omega) (by omega)) (fun h3 => ?_) (fun h3 => ?_)
  · refine zj_iconst (v := nI 0) F d_UN_readRun_20 (by decide) ?_
    refine zj_istore (L' := [(4, .int (nI 0)), (0, .ref u), (1, .int (nI sym)), (2, .int (nI h)), (3, .int (nI total))]) F d_UN_readRun_21 (by decide) rfl ?_
    refine zj_iload_n F d_UN_readRun_23 2 rfl rfl ?_
    refine zj_bipush (v := nI 16) F d_UN_readRun_24 (by decide) ?_
    refine zj_icmp_ne (tgt := 54) F d_UN_readRun_26 (by decide) (nI_eq (by omega) (by omega)) (fun k16 => ?_) (fun k16 => ?_)
    · refine zj_iload_n F d_UN_readRun_54 2 rfl rfl ?_
      refine zj_bipush (v := nI 17) F d_UN_readRun_55 (by decide) ?_
      refine zj_icmp_ne (tgt := 75) F d_UN_readRun_57 (by decide) (nI_eq (by omega) (by omega)) (fun k17 => ?_) (fun k17 => ?_)
      · refine zj_bipush (v := nI 11) F d_UN_readRun_75 (by decide) ?_
        refine zj_aload_n F d_UN_readRun_77 1 rfl rfl ?_
        refine zj_get F d_UN_readRun_78 0 0 rfl rfl in_UN (by decide) q_81 rfl ?_
        refine zj_bipush (v := nI 7) F d_UN_readRun_81 (by decide) ?_
        refine zj_call (maxL := 4) (wr := [zO u 3 [.ref r, .ref fl, .ref fd, .ref li, .ref di, .ref lc, .ref la, .ref ob, .int (nI w)], zI K la 316 (zna g)]) F E (m_BR_number l hl K r b Nb e p 7 t hb hN2 he2 (by decide) hp) (zi_V (As := [.int (nI 7)]) (rest := [.int (nI 11)]) F d_UN_readRun_83 1 rfl rfl rfl q_306 q_307 q_308 q_309 (Or.inl ⟨_, _, rfl⟩) (by decide) (show Option.map (fun d => d.parameters.length) (parseMethodDescriptor y_BR_number.desc) = some 1 from by decide +kernel)) d_UN_readRun_83 q_309 (Or.inl ⟨_, _, rfl⟩) q_3 [1, 2] [0, 3] rfl rfl rfl rfl (by decide) ⟨by decide, by decide, by decide, by decide⟩ (Nat.le_of_ble_eq_true rfl) (fun v w1 hq => ?_) (fun X w1 hq => ?_)
        · obtain ⟨hq1, rfl, rfl⟩ := hq
          show zj G 0 0 86 [(4, .int (nI 0)), (0, .ref u), (1, .int (nI sym)), (2, .int (nI h)), (3, .int (nI total))] [.int (nI (znum t p 7)), .int (nI 11)] [zO u 3 [.ref r, .ref fl, .ref fd, .ref li, .ref di, .ref lc, .ref la, .ref ob, .int (nI w)], zI K la 316 (zna g), zO r 0 [.ref b, .int (nI e), .int (nI (p + 7))], zB K b Nb (zby t)]
          have hn := znum_lt t p 7
          refine zj_iadd F d_UN_readRun_86 (nI_add _ _) ?_
          refine zj_istore (L' := [(5, .int (nI (11 + (znum t p 7)))), (4, .int (nI 0)), (0, .ref u), (1, .int (nI sym)), (2, .int (nI h)), (3, .int (nI total))]) F d_UN_readRun_87 (by decide) rfl ?_
          refine zj_wsub (ws' := [zO u 3 [.ref r, .ref fl, .ref fd, .ref li, .ref di, .ref lc, .ref la, .ref ob, .int (nI w)], zO r 0 [.ref b, .int (nI e), .int (nI (p + 7))], zB K b Nb (zby t), zI K la 316 (zna g)]) [0, 2, 3, 1] rfl rfl rfl ?_
          exact zj_sub [2, 4, 5, 1, 0] rfl (tail _ _ _ hq1 (by decide) (by omega) (by omega) (by rw [← hR]; unfold zrunF; rw [if_neg (fun q => k16 q.1), if_neg k16, if_neg k17, if_pos hq1]))
        · obtain ⟨hx1, rfl, rfl⟩ := hq
          exact ⟨rfl, by decide, by decide, [0, 2, 3, 1], [zO u 3 [.ref r, .ref fl, .ref fd, .ref li, .ref di, .ref lc, .ref la, .ref ob, .int (nI w)], zO r 0 [.ref b, .int (nI e), .int (nI p)], zB K b Nb (zby t), zI K la 316 (zna g)], rfl, rfl, ⟨hR.symm.trans (by unfold zrunF; rw [if_neg (fun q => k16 q.1), if_neg k16, if_neg k17, if_neg hx1]), _, _, rfl⟩⟩
      · refine zj_iconst (v := nI 3) F d_UN_readRun_60 (by decide) ?_
        refine zj_aload_n F d_UN_readRun_61 1 rfl rfl ?_
        refine zj_get F d_UN_readRun_62 0 0 rfl rfl in_UN (by decide) q_81 rfl ?_
        refine zj_iconst (v := nI 3) F d_UN_readRun_65 (by decide) ?_
        refine zj_call (maxL := 4) (wr := [zO u 3 [.ref r, .ref fl, .ref fd, .ref li, .ref di, .ref lc, .ref la, .ref ob, .int (nI w)], zI K la 316 (zna g)]) F E (m_BR_number l hl K r b Nb e p 3 t hb hN2 he2 (by decide) hp) (zi_V (As := [.int (nI 3)]) (rest := [.int (nI 3)]) F d_UN_readRun_66 1 rfl rfl rfl q_306 q_307 q_308 q_309 (Or.inl ⟨_, _, rfl⟩) (by decide) (show Option.map (fun d => d.parameters.length) (parseMethodDescriptor y_BR_number.desc) = some 1 from by decide +kernel)) d_UN_readRun_66 q_309 (Or.inl ⟨_, _, rfl⟩) q_3 [1, 2] [0, 3] rfl rfl rfl rfl (by decide) ⟨by decide, by decide, by decide, by decide⟩ (Nat.le_of_ble_eq_true rfl) (fun v w1 hq => ?_) (fun X w1 hq => ?_)
        · obtain ⟨hq1, rfl, rfl⟩ := hq
          show zj G 0 0 69 [(4, .int (nI 0)), (0, .ref u), (1, .int (nI sym)), (2, .int (nI h)), (3, .int (nI total))] [.int (nI (znum t p 3)), .int (nI 3)] [zO u 3 [.ref r, .ref fl, .ref fd, .ref li, .ref di, .ref lc, .ref la, .ref ob, .int (nI w)], zI K la 316 (zna g), zO r 0 [.ref b, .int (nI e), .int (nI (p + 3))], zB K b Nb (zby t)]
          have hn := znum_lt t p 3
          refine zj_iadd F d_UN_readRun_69 (nI_add _ _) ?_
          refine zj_istore (L' := [(5, .int (nI (3 + (znum t p 3)))), (4, .int (nI 0)), (0, .ref u), (1, .int (nI sym)), (2, .int (nI h)), (3, .int (nI total))]) F d_UN_readRun_70 (by decide) rfl ?_
          refine zj_goto F d_UN_readRun_72 (tgt := 89) (by decide) ?_
          refine zj_wsub (ws' := [zO u 3 [.ref r, .ref fl, .ref fd, .ref li, .ref di, .ref lc, .ref la, .ref ob, .int (nI w)], zO r 0 [.ref b, .int (nI e), .int (nI (p + 3))], zB K b Nb (zby t), zI K la 316 (zna g)]) [0, 2, 3, 1] rfl rfl rfl ?_
          exact zj_sub [2, 4, 5, 1, 0] rfl (tail _ _ _ hq1 (by decide) (by omega) (by omega) (by rw [← hR]; unfold zrunF; rw [if_neg (fun q => k16 q.1), if_neg k16, if_pos k17, if_pos hq1]))
        · obtain ⟨hx1, rfl, rfl⟩ := hq
          exact ⟨rfl, by decide, by decide, [0, 2, 3, 1], [zO u 3 [.ref r, .ref fl, .ref fd, .ref li, .ref di, .ref lc, .ref la, .ref ob, .int (nI w)], zO r 0 [.ref b, .int (nI e), .int (nI p)], zB K b Nb (zby t), zI K la 316 (zna g)], rfl, rfl, ⟨hR.symm.trans (by unfold zrunF; rw [if_neg (fun q => k16 q.1), if_neg k16, if_pos k17, if_neg hx1]), _, _, rfl⟩⟩
    · exact absurd k16 h3
  · refine zj_iload_n F d_UN_readRun_6 2 rfl rfl ?_
    refine zj_if_ne (tgt := 20) F d_UN_readRun_7 (by decide) (zI_eq0 (by omega)) (fun h7 => ?_) (fun h7 => ?_)
    · refine zj_iconst (v := nI 0) F d_UN_readRun_20 (by decide) ?_
      refine zj_istore (L' := [(4, .int (nI 0)), (0, .ref u), (1, .int (nI sym)), (2, .int (nI h)), (3, .int (nI total))]) F d_UN_readRun_21 (by decide) rfl ?_
      refine zj_iload_n F d_UN_readRun_23 2 rfl rfl ?_
      refine zj_bipush (v := nI 16) F d_UN_readRun_24 (by decide) ?_
      refine zj_icmp_ne (tgt := 54) F d_UN_readRun_26 (by decide) (nI_eq (by omega) (by omega)) (fun k16 => ?_) (fun k16 => ?_)
      · exact absurd h3 k16
      · have hv15 := hc15 (h - 1) (by omega)
        have hgv := hgc (h - 1) (by omega)
        refine zj_aload_n F d_UN_readRun_29 1 rfl rfl ?_
        refine zj_get F d_UN_readRun_30 0 6 rfl rfl in_UN (by decide) q_87 rfl ?_
        refine zj_iload_n F d_UN_readRun_33 3 rfl rfl ?_
        refine zj_iconst (v := nI 1) F d_UN_readRun_34 (by decide) ?_
        refine zj_isub F d_UN_readRun_35 (pk_sub (by omega)) ?_
        refine zj_iald (z := nI (c (h - 1))) F d_UN_readRun_36 3 1 (h - 1) rfl rfl rfl (by omega) (by omega) (by unfold zna; rw [hgv]) ?_
        refine zj_istore (L' := [(4, .int (nI (c (h - 1)))), (0, .ref u), (1, .int (nI sym)), (2, .int (nI h)), (3, .int (nI total))]) F d_UN_readRun_37 (by decide) rfl ?_
        refine zj_iconst (v := nI 3) F d_UN_readRun_39 (by decide) ?_
        refine zj_aload_n F d_UN_readRun_40 1 rfl rfl ?_
        refine zj_get F d_UN_readRun_41 0 0 rfl rfl in_UN (by decide) q_81 rfl ?_
        refine zj_iconst (v := nI 2) F d_UN_readRun_44 (by decide) ?_
        refine zj_call (maxL := 4) (wr := [zO u 3 [.ref r, .ref fl, .ref fd, .ref li, .ref di, .ref lc, .ref la, .ref ob, .int (nI w)], zI K la 316 (zna g)]) F E (m_BR_number l hl K r b Nb e p 2 t hb hN2 he2 (by decide) hp) (zi_V (As := [.int (nI 2)]) (rest := [.int (nI 3)]) F d_UN_readRun_45 1 rfl rfl rfl q_306 q_307 q_308 q_309 (Or.inl ⟨_, _, rfl⟩) (by decide) (show Option.map (fun d => d.parameters.length) (parseMethodDescriptor y_BR_number.desc) = some 1 from by decide +kernel)) d_UN_readRun_45 q_309 (Or.inl ⟨_, _, rfl⟩) q_3 [1, 2] [0, 3] rfl rfl rfl rfl (by decide) ⟨by decide, by decide, by decide, by decide⟩ (Nat.le_of_ble_eq_true rfl) (fun v w1 hq => ?_) (fun X w1 hq => ?_)
        · obtain ⟨hq1, rfl, rfl⟩ := hq
          show zj G 0 0 48 [(4, .int (nI (c (h - 1)))), (0, .ref u), (1, .int (nI sym)), (2, .int (nI h)), (3, .int (nI total))] [.int (nI (znum t p 2)), .int (nI 3)] [zO u 3 [.ref r, .ref fl, .ref fd, .ref li, .ref di, .ref lc, .ref la, .ref ob, .int (nI w)], zI K la 316 (zna g), zO r 0 [.ref b, .int (nI e), .int (nI (p + 2))], zB K b Nb (zby t)]
          have hn := znum_lt t p 2
          refine zj_iadd F d_UN_readRun_48 (nI_add _ _) ?_
          refine zj_istore (L' := [(5, .int (nI (3 + (znum t p 2)))), (4, .int (nI (c (h - 1)))), (0, .ref u), (1, .int (nI sym)), (2, .int (nI h)), (3, .int (nI total))]) F d_UN_readRun_49 (by decide) rfl ?_
          refine zj_goto F d_UN_readRun_51 (tgt := 89) (by decide) ?_
          refine zj_wsub (ws' := [zO u 3 [.ref r, .ref fl, .ref fd, .ref li, .ref di, .ref lc, .ref la, .ref ob, .int (nI w)], zO r 0 [.ref b, .int (nI e), .int (nI (p + 2))], zB K b Nb (zby t), zI K la 316 (zna g)]) [0, 2, 3, 1] rfl rfl rfl ?_
          exact zj_sub [2, 4, 5, 1, 0] rfl (tail _ _ _ hq1 hv15 (by omega) (by omega) (by rw [← hR]; unfold zrunF; rw [if_neg (fun q => h7 q.2), if_pos h3, if_pos hq1]))
        · obtain ⟨hx1, rfl, rfl⟩ := hq
          exact ⟨rfl, by decide, by decide, [0, 2, 3, 1], [zO u 3 [.ref r, .ref fl, .ref fd, .ref li, .ref di, .ref lc, .ref la, .ref ob, .int (nI w)], zO r 0 [.ref b, .int (nI e), .int (nI p)], zB K b Nb (zby t), zI K la 316 (zna g)], rfl, rfl, ⟨hR.symm.trans (by unfold zrunF; rw [if_neg (fun q => h7 q.2), if_pos h3, if_neg hx1]), _, _, rfl⟩⟩
    · exact zj_throwS (names := zt_up) F E hl d_UN_readRun_10 d_UN_readRun_13 d_UN_readRun_14 d_UN_readRun_16 d_UN_readRun_19 (by decide +kernel) (by decide +kernel) q_406 (at_UN_83) ⟨by decide, by decide, by decide, by decide⟩ rfl (by decide) (by decide) ⟨hR.symm.trans (by unfold zrunF; rw [if_pos ⟨h3, h7⟩]), _, _, rfl⟩
set_option maxHeartbeats 4000000 in
set_option maxRecDepth 100000 in
/-- readLengths(total) -/
theorem m_UN_lengths (l : Launch) (hl : l.stackTraces = false) (K : zk) (u r fl fd li di lc la ob w : Nat) (b Nb e p : Nat) (t : Nat → Nat) (lca lma lpa lu total : Nat) (g cc gc : Nat → Nat) (mc : Nat → Nat → Nat) (R : Except String (Nat × (Nat → Nat) × Nat)) (hb : ∀ j, t j < 256) (hN : Nb ≤ 16384) (he : e % 8 = 0 ∧ e ≤ 8 * Nb) (hp : p ≤ e) (hC : zCS cc gc mc) (ht : total ≤ 316) (hR : zlen t e cc mc total total p (fun _ => 0) 0 = R) : zc l K y_UN_readLengths w_UN_readLengths { frames := 8, cells := 1, slots := 6, locals := 149 } 0 0 1 6 [.ref u, .int (nI total)] [zO u 3 [.ref r, .ref fl, .ref fd, .ref li, .ref di, .ref lc, .ref la, .ref ob, .int (nI w)], zO r 0 [.ref b, .int (nI e), .int (nI p)], zB K b Nb (zby t), zI K la 316 (zna g), zO lc 1 [.ref lca, .ref lma, .ref lpa, .int (nI lu)], zI K lca 16 (zna cc), zI K lma 288 (zna gc)] (fun v w1 => ∃ p' c' g', R = .ok (p', c', total) ∧ p' ≤ e ∧ (∀ j, j < total → g' j = c' j) ∧ (∀ j, j < total → c' j ≤ 15) ∧ v = none ∧ w1 = [zO u 3 [.ref r, .ref fl, .ref fd, .ref li, .ref di, .ref lc, .ref la, .ref ob, .int (nI w)], zO r 0 [.ref b, .int (nI e), .int (nI p')], zB K b Nb (zby t), zI K la 316 (zna g'), zO lc 1 [.ref lca, .ref lma, .ref lpa, .int (nI lu)], zI K lca 16 (zna cc), zI K lma 288 (zna gc)]) (fun X w1 => R = .error X ∧ ∃ p' g', w1 = [zO u 3 [.ref r, .ref fl, .ref fd, .ref li, .ref di, .ref lc, .ref la, .ref ob, .int (nI w)], zO r 0 [.ref b, .int (nI e), .int (nI p')], zB K b Nb (zby t), zI K la 316 (zna g'), zO lc 1 [.ref lca, .ref lma, .ref lpa, .int (nI lu)], zI K lca 16 (zna cc), zI K lma 288 (zna gc)]) := by
  refine zc_of (cc := c_UN_readLengths) (nl := 5) (ret := none) (by decide) (Nat.le_of_ble_eq_true rfl) (fun G F E => ?_)
  have F : zf G l K { frames := 8, cells := 1, slots := 6, locals := 149 } "ZlibBox$Unpacker" c_UN_readLengths 5 := F
  show zj G 0 0 0 [(0, .ref u), (1, .int (nI total))] [] [zO u 3 [.ref r, .ref fl, .ref fd, .ref li, .ref di, .ref lc, .ref la, .ref ob, .int (nI w)], zO r 0 [.ref b, .int (nI e), .int (nI p)], zB K b Nb (zby t), zI K la 316 (zna g), zO lc 1 [.ref lca, .ref lma, .ref lpa, .int (nI lu)], zI K lca 16 (zna cc), zI K lma 288 (zna gc)]
  have hN2 : Nb < 2 ^ 24 := by omega
  have he2 : e ≤ 8 * Nb := by omega
  refine zj_iconst (v := nI 0) F d_UN_readLengths_0 (by decide) ?_
  refine zj_istore_n (L' := [(2, .int (nI 0)), (0, .ref u), (1, .int (nI total))]) F d_UN_readLengths_1 rfl (by decide) rfl ?_
  refine zj_iconst (v := nI 0) F d_UN_readLengths_2 (by decide) ?_
  refine zj_istore_n (L' := [(3, .int (nI 0)), (2, .int (nI 0)), (0, .ref u), (1, .int (nI total))]) F d_UN_readLengths_3 rfl (by decide) rfl ?_
  have key : ∀ q i p1 c1 h g1, i + q = total → i ≤ h → h ≤ total → p1 ≤ e → (∀ j, j < h → g1 j = c1 j) → (∀ j, j < h → c1 j ≤ 15) → zlen t e cc mc total q p1 c1 h = R → zj G 0 0 4 [(0, .ref u), (1, .int (nI total)), (2, .int (nI h)), (3, .int (nI i))] [] [zO u 3 [.ref r, .ref fl, .ref fd, .ref li, .ref di, .ref lc, .ref la, .ref ob, .int (nI w)], zO r 0 [.ref b, .int (nI e), .int (nI p1)], zB K b Nb (zby t), zI K la 316 (zna g1), zO lc 1 [.ref lca, .ref lma, .ref lpa, .int (nI lu)], zI K lca 16 (zna cc), zI K lma 288 (zna gc)] := by
    clear hR
    intro q
    induction q with
    | zero =>
      intro i p1 c1 h g1 h1 hih hht hp1 hgc hc15 hz
      have hhT : h = total := by omega
      subst hhT
      show zj G 0 0 4 [(0, .ref u), (1, .int (nI h)), (2, .int (nI h)), (3, .int (nI i))] [] [zO u 3 [.ref r, .ref fl, .ref fd, .ref li, .ref di, .ref lc, .ref la, .ref ob, .int (nI w)], zO r 0 [.ref b, .int (nI e), .int (nI p1)], zB K b Nb (zby t), zI K la 316 (zna g1), zO lc 1 [.ref lca, .ref lma, .ref lpa, .int (nI lu)], zI K lca 16 (zna cc), zI K lma 288 (zna gc)]
      refine zj_iload_n F d_UN_readLengths_4 3 rfl rfl ?_
      refine zj_iload_n F d_UN_readLengths_5 1 rfl rfl ?_
      refine zj_icmp_ge (tgt := 63) F d_UN_readLengths_6 (by decide) (nI_leI (by omega) (by omega)) (fun h6 => ?_) (fun h6 => ?_)
      · exact zj_vret F E d_UN_readLengths_63 (Nat.le_refl _) (Nat.le_refl _) ⟨_, _, _, hz.symm, hp1, hgc, hc15, rfl, rfl⟩
      · exact absurd (show h ≤ i by omega) h6
    | succ q ih =>
      intro i p1 c1 h g1 h1 hih hht hp1 hgc hc15 hz
      show zj G 0 0 4 [(0, .ref u), (1, .int (nI total)), (2, .int (nI h)), (3, .int (nI i))] [] [zO u 3 [.ref r, .ref fl, .ref fd, .ref li, .ref di, .ref lc, .ref la, .ref ob, .int (nI w)], zO r 0 [.ref b, .int (nI e), .int (nI p1)], zB K b Nb (zby t), zI K la 316 (zna g1), zO lc 1 [.ref lca, .ref lma, .ref lpa, .int (nI lu)], zI K lca 16 (zna cc), zI K lma 288 (zna gc)]
      refine zj_iload_n F d_UN_readLengths_4 3 rfl rfl ?_
      refine zj_iload_n F d_UN_readLengths_5 1 rfl rfl ?_
      refine zj_icmp_ge (tgt := 63) F d_UN_readLengths_6 (by decide) (nI_leI (by omega) (by omega)) (fun h6 => ?_) (fun h6 => ?_)
      · exact absurd h6 (by omega)
      · refine zj_iload_n F d_UN_readLengths_9 2 rfl rfl ?_
        refine zj_iload_n F d_UN_readLengths_10 1 rfl rfl ?_
        refine zj_icmp_ge (tgt := 63) F d_UN_readLengths_11 (by decide) (nI_leI (by omega) (by omega)) (fun h11 => ?_) (fun h11 => ?_)
        · have hhT : h = total := by omega
          rw [zlen_s] at hz
          unfold zlenS at hz
          rw [if_neg (by omega), hhT] at hz
          exact zj_vret F E d_UN_readLengths_63 (Nat.le_refl _) (Nat.le_refl _) ⟨_, _, _, hz.symm, hp1, fun j hj => hgc j (by omega), fun j hj => hc15 j (by omega), rfl, rfl⟩
        · rw [zlen_s] at hz
          unfold zlenS at hz
          rw [if_pos (by omega)] at hz
          refine zj_aload_n F d_UN_readLengths_14 0 rfl rfl ?_
          refine zj_get F d_UN_readLengths_15 0 5 rfl rfl in_UN (by decide) q_86 rfl ?_
          refine zj_aload_n F d_UN_readLengths_18 0 rfl rfl ?_
          refine zj_get F d_UN_readLengths_19 0 0 rfl rfl in_UN (by decide) q_81 rfl ?_
          refine zj_call (maxL := 7) (wr := [zO u 3 [.ref r, .ref fl, .ref fd, .ref li, .ref di, .ref lc, .ref la, .ref ob, .int (nI w)], zI K la 316 (zna g1)]) F E (m_CO_read l hl K lc lca lma lpa lu r b Nb e p1 t cc gc mc hb hN2 he2 hp1 hC.1 hC.2.1) (zi_V (As := [.ref r]) (rest := []) F d_UN_readLengths_22 4 rfl rfl rfl q_359 q_360 q_361 q_362 (Or.inl ⟨_, _, rfl⟩) (by decide) (show Option.map (fun d => d.parameters.length) (parseMethodDescriptor y_CO_read.desc) = some 1 from by decide +kernel)) d_UN_readLengths_22 q_362 (Or.inl ⟨_, _, rfl⟩) q_4 [4, 5, 6, 1, 2] [0, 3] rfl rfl rfl rfl (by decide) ⟨by decide, by decide, by decide, by decide⟩ (Nat.le_of_ble_eq_true rfl) (fun v w1 hq => ?_) (fun X w1 hq => ?_)
          · obtain ⟨sym, p2, hq2, rfl, rfl⟩ := hq
            show zj G 0 0 25 [(0, .ref u), (1, .int (nI total)), (2, .int (nI h)), (3, .int (nI i))] [.int (nI sym)] [zO u 3 [.ref r, .ref fl, .ref fd, .ref li, .ref di, .ref lc, .ref la, .ref ob, .int (nI w)], zI K la 316 (zna g1), zO lc 1 [.ref lca, .ref lma, .ref lpa, .int (nI lu)], zI K lca 16 (zna cc), zI K lma 288 (zna gc), zO r 0 [.ref b, .int (nI e), .int (nI p2)], zB K b Nb (zby t)]
            obtain ⟨hp2a, hp2b⟩ := zdec_le _ _ _ _ _ _ _ hq2
            have hsym := zdec_val hC.2.2 _ _ _ _ _ _ _ hq2
            rw [hq2] at hz
            dsimp only at hz
            refine zj_istore (L' := [(4, .int (nI sym)), (0, .ref u), (1, .int (nI total)), (2, .int (nI h)), (3, .int (nI i))]) F d_UN_readLengths_25 (by decide) rfl ?_
            refine zj_iload F d_UN_readLengths_27 0 rfl ?_
            refine zj_bipush (v := nI 16) F d_UN_readLengths_29 (by decide) ?_
            refine zj_icmp_ge (tgt := 48) F d_UN_readLengths_31 (by decide) (nI_leI (by omega) (by omega)) (fun h31 => ?_) (fun h31 => ?_)
            · rw [if_neg (by omega)] at hz
              refine zj_aload_n F d_UN_readLengths_48 1 rfl rfl ?_
              refine zj_iload F d_UN_readLengths_49 0 rfl ?_
              refine zj_iload_n F d_UN_readLengths_51 3 rfl rfl ?_
              refine zj_iload_n F d_UN_readLengths_52 2 rfl rfl ?_
              refine zj_call (maxL := 7) (wr := [zO lc 1 [.ref lca, .ref lma, .ref lpa, .int (nI lu)], zI K lca 16 (zna cc), zI K lma 288 (zna gc)]) F E (m_UN_run l hl K u r fl fd li di lc la ob w b Nb e p2 t sym h total g1 c1 _ hb hN he hp2b h31 hsym (by omega) ht hgc hc15 rfl) (zi_V (As := [.int (nI sym), .int (nI h), .int (nI total)]) (rest := []) F d_UN_readLengths_53 0 rfl rfl rfl q_402 q_404 sel_UN_readRun q_405 (Or.inl ⟨_, _, rfl⟩) (by decide) (show Option.map (fun d => d.parameters.length) (parseMethodDescriptor y_UN_readRun.desc) = some 3 from by decide +kernel)) d_UN_readLengths_53 q_405 (Or.inl ⟨_, _, rfl⟩) q_2 [0, 5, 6, 1] [2, 3, 4] rfl rfl rfl rfl (by decide) ⟨by decide, by decide, by decide, by decide⟩ (Nat.le_of_ble_eq_true rfl) (fun v w1 hq => ?_) (fun X w1 hq => ?_)
              · obtain ⟨p3, c3, h3, g3, hq3, hp3, hh3, hh4, hgc3, hc3, rfl, rfl⟩ := hq
                show zj G 0 0 56 [(4, .int (nI sym)), (0, .ref u), (1, .int (nI total)), (2, .int (nI h)), (3, .int (nI i))] [.int (nI h3)] [zO lc 1 [.ref lca, .ref lma, .ref lpa, .int (nI lu)], zI K lca 16 (zna cc), zI K lma 288 (zna gc), zO u 3 [.ref r, .ref fl, .ref fd, .ref li, .ref di, .ref lc, .ref la, .ref ob, .int (nI w)], zO r 0 [.ref b, .int (nI e), .int (nI p3)], zB K b Nb (zby t), zI K la 316 (zna g3)]
                rw [hq3] at hz
                dsimp only at hz
                refine zj_istore_n (L' := [(2, .int (nI h3)), (4, .int (nI sym)), (0, .ref u), (1, .int (nI total)), (3, .int (nI i))]) F d_UN_readLengths_56 rfl (by decide) rfl ?_
                refine zj_iinc (v := nI (i + 1)) (L' := [(3, .int (nI (i + 1))), (2, .int (nI h3)), (4, .int (nI sym)), (0, .ref u), (1, .int (nI total))]) F d_UN_readLengths_57 4 rfl (nI_add _ _) (by decide) rfl ?_
                refine zj_goto F d_UN_readLengths_60 (tgt := 4) (by decide) ?_
                refine zj_wsub (ws' := [zO u 3 [.ref r, .ref fl, .ref fd, .ref li, .ref di, .ref lc, .ref la, .ref ob, .int (nI w)], zO r 0 [.ref b, .int (nI e), .int (nI p3)], zB K b Nb (zby t), zI K la 316 (zna g3), zO lc 1 [.ref lca, .ref lma, .ref lpa, .int (nI lu)], zI K lca 16 (zna cc), zI K lma 288 (zna gc)]) [3, 4, 5, 6, 0, 1, 2] rfl rfl rfl ?_
                exact zj_sub [3, 4, 1, 0] rfl (ih (i + 1) _ _ _ _ (by omega) (by omega) hh4 hp3 hgc3 hc3 hz)
              · obtain ⟨hx1, p9, g9, rfl⟩ := hq
                exact ⟨rfl, by decide, by decide, [3, 4, 5, 6, 0, 1, 2], [zO u 3 [.ref r, .ref fl, .ref fd, .ref li, .ref di, .ref lc, .ref la, .ref ob, .int (nI w)], zO r 0 [.ref b, .int (nI e), .int (nI p9)], zB K b Nb (zby t), zI K la 316 (zna g9), zO lc 1 [.ref lca, .ref lma, .ref lpa, .int (nI lu)], zI K lca 16 (zna cc), zI K lma 288 (zna gc)], rfl, rfl, ⟨hz.symm.trans (by rw [hx1]), _, _, rfl⟩⟩
            · rw [if_pos (by omega)] at hz
              refine zj_aload_n F d_UN_readLengths_34 1 rfl rfl ?_
              refine zj_get F d_UN_readLengths_35 0 6 rfl rfl in_UN (by decide) q_87 rfl ?_
              refine zj_iload_n F d_UN_readLengths_38 3 rfl rfl ?_
              refine zj_iload F d_UN_readLengths_39 0 rfl ?_
              refine zj_iast (ws' := [zO u 3 [.ref r, .ref fl, .ref fd, .ref li, .ref di, .ref lc, .ref la, .ref ob, .int (nI w)], zI K la 316 (zna (va_up g1 h sym)), zO lc 1 [.ref lca, .ref lma, .ref lpa, .int (nI lu)], zI K lca 16 (zna cc), zI K lma 288 (zna gc), zO r 0 [.ref b, .int (nI e), .int (nI p2)], zB K b Nb (zby t)]) F d_UN_readLengths_41 1 1 h rfl rfl rfl (by omega) (by omega) (by rw [zna_upd]; rfl) ?_
              refine zj_iinc (v := nI (h + 1)) (L' := [(2, .int (nI (h + 1))), (4, .int (nI sym)), (0, .ref u), (1, .int (nI total)), (3, .int (nI i))]) F d_UN_readLengths_42 3 rfl (nI_add _ _) (by decide) rfl ?_
              refine zj_goto F d_UN_readLengths_45 (tgt := 57) (by decide) ?_
              refine zj_iinc (v := nI (i + 1)) (L' := [(3, .int (nI (i + 1))), (2, .int (nI (h + 1))), (4, .int (nI sym)), (0, .ref u), (1, .int (nI total))]) F d_UN_readLengths_57 4 rfl (nI_add _ _) (by decide) rfl ?_
              refine zj_goto F d_UN_readLengths_60 (tgt := 4) (by decide) ?_
              refine zj_wsub (ws' := [zO u 3 [.ref r, .ref fl, .ref fd, .ref li, .ref di, .ref lc, .ref la, .ref ob, .int (nI w)], zO r 0 [.ref b, .int (nI e), .int (nI p2)], zB K b Nb (zby t), zI K la 316 (zna (va_up g1 h sym)), zO lc 1 [.ref lca, .ref lma, .ref lpa, .int (nI lu)], zI K lca 16 (zna cc), zI K lma 288 (zna gc)]) [0, 5, 6, 1, 2, 3, 4] rfl rfl rfl ?_
              exact zj_sub [3, 4, 1, 0] rfl (ih (i + 1) _ _ _ _ (by omega) (by omega) (by omega) hp2b (fun j hj => by
                  show (if j = h then sym else g1 j) = (if j = h then sym else c1 j)
                  by_cases hq : j = h
                  · rw [if_pos hq, if_pos hq]
                  · rw [if_neg hq, if_neg hq]; exact hgc j (by omega)) (fun j hj => by
                  show (if j = h then sym else c1 j) ≤ 15
                  by_cases hq : j = h
                  · rw [if_pos hq]; omega
                  · rw [if_neg hq]; exact hc15 j (by omega)) hz)
          · obtain ⟨hx1, rfl, p9, rfl⟩ := hq
            exact ⟨rfl, by decide, by decide, [0, 5, 6, 1, 2, 3, 4], [zO u 3 [.ref r, .ref fl, .ref fd, .ref li, .ref di, .ref lc, .ref la, .ref ob, .int (nI w)], zO r 0 [.ref b, .int (nI e), .int (nI p9)], zB K b Nb (zby t), zI K la 316 (zna g1), zO lc 1 [.ref lca, .ref lma, .ref lpa, .int (nI lu)], zI K lca 16 (zna cc), zI K lma 288 (zna gc)], rfl, rfl, ⟨hz.symm.trans (by rw [hx1]), _, _, rfl⟩⟩
  exact zj_sub [2, 3, 1, 0] rfl (key total 0 _ _ _ _ (Nat.zero_add _) (by omega) (by omega) hp (fun j hj => absurd hj (Nat.not_lt_zero j)) (fun j hj => absurd hj (Nat.not_lt_zero j)) hR)
set_option maxHeartbeats 4000000 in
set_option maxRecDepth 100000 in
/-- readLengthCodes(told) -/
theorem m_UN_lengthCodes (l : Launch) (hl : l.stackTraces = false) (K : zk) (u r fl fd li di lc la ob w : Nat) (b Nb e p : Nat) (t : Nat → Nat) (lca lma lpa lu told : Nat) (g cc gc pc : Nat → Nat) (R : Except String (Nat × (Nat → Nat))) (hb : ∀ j, t j < 256) (hN : Nb ≤ 16384) (he : e % 8 = 0 ∧ e ≤ 8 * Nb) (hp : p ≤ e) (hlu : lu < 2 ^ 31) (ht : told ≤ 19) (hR : zlcF t e told p = R) : zc l K y_UN_readLengthCodes w_UN_readLengthCodes { frames := 7, cells := 1, slots := 6, locals := 123 } 0 0 1 6 [.ref u, .int (nI told)] [zO u 3 [.ref r, .ref fl, .ref fd, .ref li, .ref di, .ref lc, .ref la, .ref ob, .int (nI w)], zO r 0 [.ref b, .int (nI e), .int (nI p)], zB K b Nb (zby t), zI K la 316 (zna g), zO lc 1 [.ref lca, .ref lma, .ref lpa, .int (nI lu)], zI K lca 16 (zna cc), zI K lma 288 (zna gc), zI K lpa 16 (zna pc)] (fun v w1 => ∃ p' c' g' cc' gc' pc', R = .ok (p', c') ∧ p' ≤ e ∧ zCS cc' gc' (fun l r => zth c' 0 l 19 r) ∧ (∀ l, l ≤ 15 → cc' l = zcnt c' 0 l 19) ∧ v = none ∧ w1 = [zO u 3 [.ref r, .ref fl, .ref fd, .ref li, .ref di, .ref lc, .ref la, .ref ob, .int (nI w)], zO r 0 [.ref b, .int (nI e), .int (nI p')], zB K b Nb (zby t), zI K la 316 (zna g'), zO lc 1 [.ref lca, .ref lma, .ref lpa, .int (nI 32768)], zI K lca 16 (zna cc'), zI K lma 288 (zna gc'), zI K lpa 16 (zna pc')]) (fun X w1 => R = .error X ∧ ∃ p' g' lu' cc' gc' pc', lu' < 2 ^ 31 ∧ w1 = [zO u 3 [.ref r, .ref fl, .ref fd, .ref li, .ref di, .ref lc, .ref la, .ref ob, .int (nI w)], zO r 0 [.ref b, .int (nI e), .int (nI p')], zB K b Nb (zby t), zI K la 316 (zna g'), zO lc 1 [.ref lca, .ref lma, .ref lpa, .int (nI lu')], zI K lca 16 (zna cc'), zI K lma 288 (zna gc'), zI K lpa 16 (zna pc')]) := by
  refine zc_of (cc := c_UN_readLengthCodes) (nl := 3) (ret := none) (by decide) (Nat.le_of_ble_eq_true rfl) (fun G F E => ?_)
  have F : zf G l K { frames := 7, cells := 1, slots := 6, locals := 123 } "ZlibBox$Unpacker" c_UN_readLengthCodes 3 := F
  show zj G 0 0 0 [(0, .ref u), (1, .int (nI told))] [] [zO u 3 [.ref r, .ref fl, .ref fd, .ref li, .ref di, .ref lc, .ref la, .ref ob, .int (nI w)], zO r 0 [.ref b, .int (nI e), .int (nI p)], zB K b Nb (zby t), zI K la 316 (zna g), zO lc 1 [.ref lca, .ref lma, .ref lpa, .int (nI lu)], zI K lca 16 (zna cc), zI K lma 288 (zna gc), zI K lpa 16 (zna pc)]
  have hN2 : Nb < 2 ^ 24 := by omega
  have he2 : e ≤ 8 * Nb := by omega
  refine zj_aload_n F d_UN_readLengthCodes_0 0 rfl rfl ?_
  refine zj_get F d_UN_readLengthCodes_1 0 6 rfl rfl in_UN (by decide) q_87 rfl ?_
  refine zj_iconst (v := nI 0) F d_UN_readLengthCodes_4 (by decide) ?_
  refine zj_call (maxL := 4) (wr := [zO u 3 [.ref r, .ref fl, .ref fd, .ref li, .ref di, .ref lc, .ref la, .ref ob, .int (nI w)], zO r 0 [.ref b, .int (nI e), .int (nI p)], zB K b Nb (zby t), zO lc 1 [.ref lca, .ref lma, .ref lpa, .int (nI lu)], zI K lca 16 (zna cc), zI K lma 288 (zna gc), zI K lpa 16 (zna pc)]) F E (m_fill l K la 316 (zna g) (nI 0) (by decide)) (zi_S (As := [.ref la, .int (nI 0)]) (rest := []) F d_UN_readLengthCodes_5 q_80 q_77 q_5 q_78 (Or.inl ⟨_, _, rfl⟩) (by decide) (show Option.map (fun d => d.parameters.length) (parseMethodDescriptor y_AR_fill.desc) = some 2 from by decide +kernel)) d_UN_readLengthCodes_5 q_78 (Or.inl ⟨_, _, rfl⟩) q_5 [3] [0, 1, 2, 4, 5, 6, 7] rfl rfl rfl rfl (by decide) ⟨by decide, by decide, by decide, by decide⟩ (Nat.le_of_ble_eq_true rfl) (fun v w1 hq => ?_) (fun X w1 hq => ?_)
  · obtain ⟨rfl, rfl⟩ := hq
    rw [zfil_na]
    show zj G 0 0 8 [(0, .ref u), (1, .int (nI told))] [] [zO u 3 [.ref r, .ref fl, .ref fd, .ref li, .ref di, .ref lc, .ref la, .ref ob, .int (nI w)], zO r 0 [.ref b, .int (nI e), .int (nI p)], zB K b Nb (zby t), zO lc 1 [.ref lca, .ref lma, .ref lpa, .int (nI lu)], zI K lca 16 (zna cc), zI K lma 288 (zna gc), zI K lpa 16 (zna pc), zI K la 316 (zna (fun j => if j < 316 then 0 else g j))]
    refine zj_iconst (v := nI 0) F d_UN_readLengthCodes_8 (by decide) ?_
    refine zj_istore_n (L' := [(2, .int (nI 0)), (0, .ref u), (1, .int (nI told))]) F d_UN_readLengthCodes_9 rfl (by decide) rfl ?_
    refine zj_wsub (ws' := [zO u 3 [.ref r, .ref fl, .ref fd, .ref li, .ref di, .ref lc, .ref la, .ref ob, .int (nI w)], zO r 0 [.ref b, .int (nI e), .int (nI p)], zB K b Nb (zby t), zI K la 316 (zna (fun j => if j < 316 then 0 else g j)), zO lc 1 [.ref lca, .ref lma, .ref lpa, .int (nI lu)], zI K lca 16 (zna cc), zI K lma 288 (zna gc), zI K lpa 16 (zna pc)]) [0, 1, 2, 7, 3, 4, 5, 6] rfl rfl rfl ?_
    have fin : ∀ p1 c1 g1, p1 ≤ e → (∀ j, j < 19 → g1 j = c1 j) → (∀ j, j < 19 → c1 j ≤ 15) → (if zuse c1 0 19 = 32768 then .ok (p1, c1) else .error zU) = R → zj G 0 0 39 [(0, .ref u)] [] [zO u 3 [.ref r, .ref fl, .ref fd, .ref li, .ref di, .ref lc, .ref la, .ref ob, .int (nI w)], zO r 0 [.ref b, .int (nI e), .int (nI p1)], zB K b Nb (zby t), zI K la 316 (zna g1), zO lc 1 [.ref lca, .ref lma, .ref lpa, .int (nI lu)], zI K lca 16 (zna cc), zI K lma 288 (zna gc), zI K lpa 16 (zna pc)] := by
      intro p1 c1 g1 hp1 hgc hc15 h6
      show zj G 0 0 39 [(0, .ref u)] [] [zO u 3 [.ref r, .ref fl, .ref fd, .ref li, .ref di, .ref lc, .ref la, .ref ob, .int (nI w)], zO r 0 [.ref b, .int (nI e), .int (nI p1)], zB K b Nb (zby t), zI K la 316 (zna g1), zO lc 1 [.ref lca, .ref lma, .ref lpa, .int (nI lu)], zI K lca 16 (zna cc), zI K lma 288 (zna gc), zI K lpa 16 (zna pc)]
      refine zj_aload_n F d_UN_readLengthCodes_39 0 rfl rfl ?_
      refine zj_get F d_UN_readLengthCodes_40 0 5 rfl rfl in_UN (by decide) q_86 rfl ?_
      refine zj_aload_n F d_UN_readLengthCodes_43 0 rfl rfl ?_
      refine zj_get F d_UN_readLengthCodes_44 0 6 rfl rfl in_UN (by decide) q_87 rfl ?_
      refine zj_iconst (v := nI 0) F d_UN_readLengthCodes_47 (by decide) ?_
      refine zj_bipush (v := nI 19) F d_UN_readLengthCodes_48 (by decide) ?_
      refine zj_call (maxL := 6) (wr := [zO u 3 [.ref r, .ref fl, .ref fd, .ref li, .ref di, .ref lc, .ref la, .ref ob, .int (nI w)], zO r 0 [.ref b, .int (nI e), .int (nI p1)], zB K b Nb (zby t)]) F E (m_CO_make l K lc lca lma lpa la 316 lu 0 19 g1 cc gc pc (by decide) (by decide) (by decide) (fun i hi => by rw [Nat.zero_add, hgc i hi]; exact hc15 i hi)) (zi_V (As := [.ref la, .int (nI 0), .int (nI 19)]) (rest := []) F d_UN_readLengthCodes_50 4 rfl rfl rfl q_72 q_73 q_74 q_75 (Or.inl ⟨_, _, rfl⟩) (by decide) (show Option.map (fun d => d.parameters.length) (parseMethodDescriptor y_CO_make.desc) = some 3 from by decide +kernel)) d_UN_readLengthCodes_50 q_75 (Or.inl ⟨_, _, rfl⟩) q_4 [4, 5, 6, 7, 3] [0, 1, 2] rfl rfl rfl rfl (by decide) ⟨by decide, by decide, by decide, by decide⟩ (Nat.le_of_ble_eq_true rfl) (fun v w1 hq => ?_) (fun X w1 hq => ?_)
      · obtain ⟨rfl, cc', gc', pc', hm1, hm2, hm3, rfl⟩ := hq
        show zj G 0 0 53 [(0, .ref u)] [] [zO u 3 [.ref r, .ref fl, .ref fd, .ref li, .ref di, .ref lc, .ref la, .ref ob, .int (nI w)], zO r 0 [.ref b, .int (nI e), .int (nI p1)], zB K b Nb (zby t), zO lc 1 [.ref lca, .ref lma, .ref lpa, .int (nI (zuse g1 0 19))], zI K lca 16 (zna cc'), zI K lma 288 (zna gc'), zI K lpa 16 (zna pc'), zI K la 316 (zna g1)]
        have hgz : ∀ i, i < 19 → g1 (0 + i) = c1 (0 + i) := fun i hi => by rw [Nat.zero_add]; exact hgc i hi
        have hus := zuse_congr 19 hgz
        have hul := zuse_le g1 0 19
        refine zj_aload_n F d_UN_readLengthCodes_53 0 rfl rfl ?_
        refine zj_get F d_UN_readLengthCodes_54 0 5 rfl rfl in_UN (by decide) q_86 rfl ?_
        refine zj_call (maxL := 1) (wr := [zO u 3 [.ref r, .ref fl, .ref fd, .ref li, .ref di, .ref lc, .ref la, .ref ob, .int (nI w)], zO r 0 [.ref b, .int (nI e), .int (nI p1)], zB K b Nb (zby t), zI K lca 16 (zna cc'), zI K lma 288 (zna gc'), zI K lpa 16 (zna pc'), zI K la 316 (zna g1)]) F E (m_CO_useAll l K lc lca lma lpa (zuse g1 0 19) (by omega)) (zi_V (As := []) (rest := []) F d_UN_readLengthCodes_57 3 rfl rfl rfl q_393 q_394 q_395 q_396 (Or.inl ⟨_, _, rfl⟩) (by decide) (show Option.map (fun d => d.parameters.length) (parseMethodDescriptor y_CO_useAllWords.desc) = some 0 from by decide +kernel)) d_UN_readLengthCodes_57 q_396 (Or.inl ⟨_, _, rfl⟩) q_4 [3] [0, 1, 2, 4, 5, 6, 7] rfl rfl rfl rfl (by decide) ⟨by decide, by decide, by decide, by decide⟩ (Nat.le_of_ble_eq_true rfl) (fun v w1 hq => ?_) (fun X w1 hq => ?_)
        · obtain ⟨rfl, rfl⟩ := hq
          show zj G 0 0 60 [(0, .ref u)] [.int (nI (if zuse g1 0 19 = 32768 then 1 else 0))] [zO u 3 [.ref r, .ref fl, .ref fd, .ref li, .ref di, .ref lc, .ref la, .ref ob, .int (nI w)], zO r 0 [.ref b, .int (nI e), .int (nI p1)], zB K b Nb (zby t), zI K lca 16 (zna cc'), zI K lma 288 (zna gc'), zI K lpa 16 (zna pc'), zI K la 316 (zna g1), zO lc 1 [.ref lca, .ref lma, .ref lpa, .int (nI (zuse g1 0 19))]]
          have hi2 : (if zuse g1 0 19 = 32768 then 1 else 0) < 2 ^ 31 := by by_cases hq : zuse g1 0 19 = 32768 <;> simp [hq]
          refine zj_if_ne (tgt := 73) F d_UN_readLengthCodes_60 (by decide) (zI_eq0 hi2) (fun h60 => ?_) (fun h60 => ?_)
          · have hq : zuse g1 0 19 = 32768 := Decidable.byContradiction (fun q => h60 (if_neg q))
            rw [if_pos (by rw [← hus]; exact hq)] at h6
            refine zj_wsub (ws' := [zO u 3 [.ref r, .ref fl, .ref fd, .ref li, .ref di, .ref lc, .ref la, .ref ob, .int (nI w)], zO r 0 [.ref b, .int (nI e), .int (nI p1)], zB K b Nb (zby t), zI K la 316 (zna g1), zO lc 1 [.ref lca, .ref lma, .ref lpa, .int (nI (zuse g1 0 19))], zI K lca 16 (zna cc'), zI K lma 288 (zna gc'), zI K lpa 16 (zna pc')]) [0, 1, 2, 6, 7, 3, 4, 5] rfl rfl rfl ?_
            refine zj_vret F E d_UN_readLengthCodes_73 (Nat.le_refl _) (Nat.le_refl _) ⟨_, _, _, _, _, _, h6.symm, hp1, ⟨Nat.le_trans hm2 (by decide), fun l h1 h2 r hr => (hm3 l h1 h2 r hr).trans (zth_congr 19 hgz r), fun l r => Nat.lt_of_lt_of_le (zth_lt c1 0 l 19 r (by decide)) (by decide)⟩, fun l hl => (hm1 l hl).trans (zcnt_congr 19 hgz), rfl, by rw [hq]⟩
          · have hq : ¬ zuse g1 0 19 = 32768 := fun q => by rw [if_pos q] at h60; cases h60
            rw [if_neg (by rw [← hus]; exact hq)] at h6
            refine zj_wsub (ws' := [zO u 3 [.ref r, .ref fl, .ref fd, .ref li, .ref di, .ref lc, .ref la, .ref ob, .int (nI w)], zO r 0 [.ref b, .int (nI e), .int (nI p1)], zB K b Nb (zby t), zI K la 316 (zna g1), zO lc 1 [.ref lca, .ref lma, .ref lpa, .int (nI (zuse g1 0 19))], zI K lca 16 (zna cc'), zI K lma 288 (zna gc'), zI K lpa 16 (zna pc')]) [0, 1, 2, 6, 7, 3, 4, 5] rfl rfl rfl ?_
            exact zj_throwS (names := zt_up) F E hl d_UN_readLengthCodes_63 d_UN_readLengthCodes_66 d_UN_readLengthCodes_67 d_UN_readLengthCodes_69 d_UN_readLengthCodes_72 (by decide +kernel) (by decide +kernel) q_397 (at_UN_83) ⟨by decide, by decide, by decide, by decide⟩ rfl (by decide) (by decide) ⟨h6.symm, _, _, _, _, _, _, by omega, rfl⟩
        · exact hq.elim
      · exact hq.elim
    have key : ∀ q i p1 c1 g1, i + q = told → p1 ≤ e → (∀ j, j < 19 → g1 j = c1 j) → (∀ j, j < 19 → c1 j ≤ 15) → (match zlc t e q i p1 c1 with | none => .error zU | some (p', c) => if zuse c 0 19 = 32768 then .ok (p', c) else .error zU) = R → zj G 0 0 10 [(0, .ref u), (1, .int (nI told)), (2, .int (nI i))] [] [zO u 3 [.ref r, .ref fl, .ref fd, .ref li, .ref di, .ref lc, .ref la, .ref ob, .int (nI w)], zO r 0 [.ref b, .int (nI e), .int (nI p1)], zB K b Nb (zby t), zI K la 316 (zna g1), zO lc 1 [.ref lca, .ref lma, .ref lpa, .int (nI lu)], zI K lca 16 (zna cc), zI K lma 288 (zna gc), zI K lpa 16 (zna pc)] := by
      clear hR
      intro q
      induction q with
      | zero =>
        intro i p1 c1 g1 h1 hp1 hgc hc15 h6
        show zj G 0 0 10 [(0, .ref u), (1, .int (nI told)), (2, .int (nI i))] [] [zO u 3 [.ref r, .ref fl, .ref fd, .ref li, .ref di, .ref lc, .ref la, .ref ob, .int (nI w)], zO r 0 [.ref b, .int (nI e), .int (nI p1)], zB K b Nb (zby t), zI K la 316 (zna g1), zO lc 1 [.ref lca, .ref lma, .ref lpa, .int (nI lu)], zI K lca 16 (zna cc), zI K lma 288 (zna gc), zI K lpa 16 (zna pc)]
        refine zj_iload_n F d_UN_readLengthCodes_10 2 rfl rfl ?_
        refine zj_iload_n F d_UN_readLengthCodes_11 1 rfl rfl ?_
        refine zj_icmp_ge (tgt := 39) F d_UN_readLengthCodes_12 (by decide) (nI_leI (by omega) (by omega)) (fun h12 => ?_) (fun h12 => ?_)
        · exact zj_sub [0] rfl (fin p1 c1 g1 hp1 hgc hc15 h6)
        · exact absurd h12 (by omega)
      | succ q ih =>
        intro i p1 c1 g1 h1 hp1 hgc hc15 h6
        have hor := ztab_ord i (by omega)
        show zj G 0 0 10 [(0, .ref u), (1, .int (nI told)), (2, .int (nI i))] [] [zO u 3 [.ref r, .ref fl, .ref fd, .ref li, .ref di, .ref lc, .ref la, .ref ob, .int (nI w)], zO r 0 [.ref b, .int (nI e), .int (nI p1)], zB K b Nb (zby t), zI K la 316 (zna g1), zO lc 1 [.ref lca, .ref lma, .ref lpa, .int (nI lu)], zI K lca 16 (zna cc), zI K lma 288 (zna gc), zI K lpa 16 (zna pc)]
        refine zj_iload_n F d_UN_readLengthCodes_10 2 rfl rfl ?_
        refine zj_iload_n F d_UN_readLengthCodes_11 1 rfl rfl ?_
        refine zj_icmp_ge (tgt := 39) F d_UN_readLengthCodes_12 (by decide) (nI_leI (by omega) (by omega)) (fun h12 => ?_) (fun h12 => ?_)
        · exact absurd h12 (by omega)
        · refine zj_aload_n F d_UN_readLengthCodes_15 0 rfl rfl ?_
          refine zj_get F d_UN_readLengthCodes_16 0 6 rfl rfl in_UN (by decide) q_87 rfl ?_
          refine zj_gets F d_UN_readLengthCodes_19 4 rfl q_391 ?_
          refine zj_iload_n F d_UN_readLengthCodes_22 2 rfl rfl ?_
          refine zj_tald F d_UN_readLengthCodes_23 4 i rfl rfl (show i < 19 by omega) (by decide) ?_
          change zj G 0 0 24 [(0, .ref u), (1, .int (nI told)), (2, .int (nI i))] [.int (nI (ztab 4 i)), .ref la] [zO u 3 [.ref r, .ref fl, .ref fd, .ref li, .ref di, .ref lc, .ref la, .ref ob, .int (nI w)], zO r 0 [.ref b, .int (nI e), .int (nI p1)], zB K b Nb (zby t), zI K la 316 (zna g1), zO lc 1 [.ref lca, .ref lma, .ref lpa, .int (nI lu)], zI K lca 16 (zna cc), zI K lma 288 (zna gc), zI K lpa 16 (zna pc)]
          refine zj_aload_n F d_UN_readLengthCodes_24 0 rfl rfl ?_
          refine zj_get F d_UN_readLengthCodes_25 0 0 rfl rfl in_UN (by decide) q_81 rfl ?_
          refine zj_iconst (v := nI 3) F d_UN_readLengthCodes_28 (by decide) ?_
          refine zj_call (maxL := 4) (wr := [zO u 3 [.ref r, .ref fl, .ref fd, .ref li, .ref di, .ref lc, .ref la, .ref ob, .int (nI w)], zI K la 316 (zna g1), zO lc 1 [.ref lca, .ref lma, .ref lpa, .int (nI lu)], zI K lca 16 (zna cc), zI K lma 288 (zna gc), zI K lpa 16 (zna pc)]) F E (m_BR_number l hl K r b Nb e p1 3 t hb hN2 he2 (by decide) hp1) (zi_V (As := [.int (nI 3)]) (rest := [.int (nI (ztab 4 i)), .ref la]) F d_UN_readLengthCodes_29 1 rfl rfl rfl q_306 q_307 q_308 q_309 (Or.inl ⟨_, _, rfl⟩) (by decide) (show Option.map (fun d => d.parameters.length) (parseMethodDescriptor y_BR_number.desc) = some 1 from by decide +kernel)) d_UN_readLengthCodes_29 q_309 (Or.inl ⟨_, _, rfl⟩) q_3 [1, 2] [0, 3, 4, 5, 6, 7] rfl rfl rfl rfl (by decide) ⟨by decide, by decide, by decide, by decide⟩ (Nat.le_of_ble_eq_true rfl) (fun v w1 hq => ?_) (fun X w1 hq => ?_)
          · obtain ⟨hq1, rfl, rfl⟩ := hq
            show zj G 0 0 32 [(0, .ref u), (1, .int (nI told)), (2, .int (nI i))] [.int (nI (znum t p1 3)), .int (nI (ztab 4 i)), .ref la] [zO u 3 [.ref r, .ref fl, .ref fd, .ref li, .ref di, .ref lc, .ref la, .ref ob, .int (nI w)], zI K la 316 (zna g1), zO lc 1 [.ref lca, .ref lma, .ref lpa, .int (nI lu)], zI K lca 16 (zna cc), zI K lma 288 (zna gc), zI K lpa 16 (zna pc), zO r 0 [.ref b, .int (nI e), .int (nI (p1 + 3))], zB K b Nb (zby t)]
            have hn := znum_lt t p1 3
            have hz : zlc t e (q + 1) i p1 c1 = zlc t e q (i + 1) (p1 + 3) (va_up c1 (ztab 4 i) (znum t p1 3)) := by show (if p1 + 3 ≤ e then _ else none) = _; rw [if_pos hq1]
            rw [hz] at h6
            refine zj_iast (ws' := [zO u 3 [.ref r, .ref fl, .ref fd, .ref li, .ref di, .ref lc, .ref la, .ref ob, .int (nI w)], zI K la 316 (zna (va_up g1 (ztab 4 i) (znum t p1 3))), zO lc 1 [.ref lca, .ref lma, .ref lpa, .int (nI lu)], zI K lca 16 (zna cc), zI K lma 288 (zna gc), zI K lpa 16 (zna pc), zO r 0 [.ref b, .int (nI e), .int (nI (p1 + 3))], zB K b Nb (zby t)]) F d_UN_readLengthCodes_32 1 1 (ztab 4 i) rfl rfl rfl (by omega) (by omega) (by rw [zna_upd]; rfl) ?_
            refine zj_iinc (v := nI (i + 1)) (L' := [(2, .int (nI (i + 1))), (0, .ref u), (1, .int (nI told))]) F d_UN_readLengthCodes_33 2 rfl (nI_add _ _) (by decide) rfl ?_
            refine zj_goto F d_UN_readLengthCodes_36 (tgt := 10) (by decide) ?_
            refine zj_wsub (ws' := [zO u 3 [.ref r, .ref fl, .ref fd, .ref li, .ref di, .ref lc, .ref la, .ref ob, .int (nI w)], zO r 0 [.ref b, .int (nI e), .int (nI (p1 + 3))], zB K b Nb (zby t), zI K la 316 (zna (va_up g1 (ztab 4 i) (znum t p1 3))), zO lc 1 [.ref lca, .ref lma, .ref lpa, .int (nI lu)], zI K lca 16 (zna cc), zI K lma 288 (zna gc), zI K lpa 16 (zna pc)]) [0, 6, 7, 1, 2, 3, 4, 5] rfl rfl rfl ?_
            exact zj_sub [1, 2, 0] rfl (ih (i + 1) _ _ _ (by omega) hq1 (fun j hj => by
                show (if j = ztab 4 i then znum t p1 3 else g1 j) = (if j = ztab 4 i then znum t p1 3 else c1 j)
                by_cases hq : j = ztab 4 i
                · rw [if_pos hq, if_pos hq]
                · rw [if_neg hq, if_neg hq]; exact hgc j hj) (fun j hj => by
                show (if j = ztab 4 i then znum t p1 3 else c1 j) ≤ 15
                by_cases hq : j = ztab 4 i
                · rw [if_pos hq]; omega
                · rw [if_neg hq]; exact hc15 j hj) h6)
          · obtain ⟨hx1, rfl, rfl⟩ := hq
            exact ⟨rfl, by decide, by decide, [0, 6, 7, 1, 2, 3, 4, 5], [zO u 3 [.ref r, .ref fl, .ref fd, .ref li, .ref di, .ref lc, .ref la, .ref ob, .int (nI w)], zO r 0 [.ref b, .int (nI e), .int (nI p1)], zB K b Nb (zby t), zI K la 316 (zna g1), zO lc 1 [.ref lca, .ref lma, .ref lpa, .int (nI lu)], zI K lca 16 (zna cc), zI K lma 288 (zna gc), zI K lpa 16 (zna pc)], rfl, rfl, ⟨h6.symm.trans (by rw [show zlc t e (q + 1) i p1 c1 = none by show (if p1 + 3 ≤ e then _ else none) = _; rw [if_neg hx1]]), _, _, _, _, _, _, hlu, rfl⟩⟩
    exact zj_sub [1, 2, 0] rfl (key told 0 _ (fun _ => 0) _ (Nat.zero_add _) hp (fun j hj => by show (if j < 316 then 0 else g j) = 0; rw [if_pos (by omega)]) (fun j _ => Nat.zero_le _) hR)
  · exact hq.elim
