/-- an array of ints that holds the numbers g -/
def zna (g : Nat → Nat) : Nat → Int32 := fun j => nI (g j)
theorem zna_upd (g : Nat → Nat) (k v : Nat) : upd (zna g) k (nI v) = zna (va_up g k v) := by
  funext j
  unfold upd zna va_up
  by_cases h : j = k
  · simp only [h, if_true]
  · simp only [h, if_false]
/-- how many codes are shorter than l bits -/
def zbas (cn : Nat → Nat) : Nat → Nat
  | 0 => 0
  | l + 1 => zbas cn l + if l = 0 then 0 else cn l
theorem zbas_mono (cn : Nat → Nat) : ∀ d l, zbas cn l ≤ zbas cn (l + d)
  | 0, l => Nat.le_refl _
  | d + 1, l => Nat.le_trans (zbas_mono cn d l) (Nat.le_add_right _ _)
theorem zbas_le (cn : Nat → Nat) {l : Nat} (h0 : 1 ≤ l) (h : l ≤ 15) : zbas cn (l + 1) = zbas cn l + cn l ∧ zbas cn (l + 1) ≤ zbas cn 16 := by
  refine ⟨?_, ?_⟩
  · show zbas cn l + (if l = 0 then 0 else cn l) = _
    rw [if_neg (by omega)]
  · have := zbas_mono cn (15 - l) (l + 1)
    rwa [show l + 1 + (15 - l) = 16 by omega] at this
/-- one code is read: the lengths len, len + 1 .. are tried, 'fuel' of them -/
def zdec (t : Nat → Nat) (e : Nat) (cn : Nat → Nat) (mf : Nat → Nat → Nat) : Nat → Nat → Nat → Nat → Nat → Option (Nat × Nat)
  | 0, _, _, _, _ => none
  | fuel + 1, len, code, first, p =>
    if p < e then
      if 2 * code + zbit t p < first + cn len then some (mf len (2 * code + zbit t p - first), p + 1)
      else zdec t e cn mf fuel (len + 1) (2 * code + zbit t p) (2 * (first + cn len)) (p + 1)
    else none
theorem zdec_le {t : Nat → Nat} {e : Nat} {cn : Nat → Nat} {mf : Nat → Nat → Nat} : ∀ (fuel len code first p x p' : Nat), zdec t e cn mf fuel len code first p = some (x, p') → p < p' ∧ p' ≤ e
  | 0, _, _, _, _, _, _, h => by cases h
  | fuel + 1, len, code, first, p, x, p', h => by
    unfold zdec at h
    by_cases h1 : p < e
    · rw [if_pos h1] at h
      by_cases h2 : 2 * code + zbit t p < first + cn len
      · rw [if_pos h2] at h; cases h; omega
      · rw [if_neg h2] at h
        have := zdec_le fuel _ _ _ _ _ _ h
        omega
    · rw [if_neg h1] at h; cases h
set_option maxHeartbeats 4000000 in
set_option maxRecDepth 100000 in
/-- useAllWords() -/
theorem m_CO_useAll (l : Launch) (K : zk) (c ca ma pa u : Nat) (hu : u < 2 ^ 31) : zc l K y_CO_useAllWords w_CO_useAllWords { frames := 0, cells := 0, slots := 0, locals := 0 } 0 0 0 0 [.ref c] [zO c 1 [.ref ca, .ref ma, .ref pa, .int (nI u)]] (fun v w1 => v = some (.int (nI (if u = 32768 then 1 else 0))) ∧ w1 = [zO c 1 [.ref ca, .ref ma, .ref pa, .int (nI u)]]) (fun _ _ => False) := by
  refine zc_of (cc := c_CO_useAllWords) (nl := 1) (ret := (some .boolean)) (by decide) (Nat.le_of_ble_eq_true rfl) (fun G F E => ?_)
  have F : zf G l K { frames := 0, cells := 0, slots := 0, locals := 0 } "ZlibBox$Codes" c_CO_useAllWords 1 := F
  show zj G 0 0 0 [(0, .ref c)] [] [zO c 1 [.ref ca, .ref ma, .ref pa, .int (nI u)]]
  refine zj_aload_n F d_CO_useAllWords_0 0 rfl rfl ?_
  refine zj_get F d_CO_useAllWords_1 0 3 rfl rfl in_CO (by decide) q_57 rfl ?_
  refine zj_ldc (v := nI 32768) F d_CO_useAllWords_4 q_79 ?_
  refine zj_icmp_ne (tgt := 13) F d_CO_useAllWords_6 (by decide) (nI_eq (by omega) (by omega)) (fun h6 => ?_) (fun h6 => ?_)
  · refine zj_iconst (v := nI 0) F d_CO_useAllWords_13 (by decide) ?_
    exact zj_zret F E d_CO_useAllWords_14 (by decide) (Nat.le_refl _) (Nat.le_refl _) ⟨by rw [if_neg h6], rfl⟩
  · refine zj_iconst (v := nI 1) F d_CO_useAllWords_9 (by decide) ?_
    refine zj_goto F d_CO_useAllWords_10 (tgt := 14) (by decide) ?_
    exact zj_zret F E d_CO_useAllWords_14 (by decide) (Nat.le_refl _) (Nat.le_refl _) ⟨by rw [if_pos h6], rfl⟩
set_option maxHeartbeats 4000000 in
set_option maxRecDepth 100000 in
/-- read(in): one code -/
theorem m_CO_read (l : Launch) (hl : l.stackTraces = false) (K : zk) (c ca ma pa u r b Nb e p : Nat) (t cn mg : Nat → Nat) (mf : Nat → Nat → Nat) (hb : ∀ j, t j < 256) (hN : Nb < 2 ^ 24) (he : e ≤ 8 * Nb) (hp : p ≤ e) (hB : zbas cn 16 ≤ 288) (hm : ∀ l, 1 ≤ l → l ≤ 15 → ∀ r, r < cn l → mg (zbas cn l + r) = mf l r) : zc l K y_CO_read w_CO_read { frames := 7, cells := 1, slots := 6, locals := 121 } 0 0 1 6 [.ref c, .ref r] [zO c 1 [.ref ca, .ref ma, .ref pa, .int (nI u)], zI K ca 16 (zna cn), zI K ma 288 (zna mg), zO r 0 [.ref b, .int (nI e), .int (nI p)], zB K b Nb (zby t)] (fun v w1 => ∃ x p', zdec t e cn mf 15 1 0 0 p = some (x, p') ∧ v = some (.int (nI x)) ∧ w1 = [zO c 1 [.ref ca, .ref ma, .ref pa, .int (nI u)], zI K ca 16 (zna cn), zI K ma 288 (zna mg), zO r 0 [.ref b, .int (nI e), .int (nI p')], zB K b Nb (zby t)]) (fun X w1 => zdec t e cn mf 15 1 0 0 p = none ∧ X = zU ∧ ∃ p', w1 = [zO c 1 [.ref ca, .ref ma, .ref pa, .int (nI u)], zI K ca 16 (zna cn), zI K ma 288 (zna mg), zO r 0 [.ref b, .int (nI e), .int (nI p')], zB K b Nb (zby t)]) := by
  refine zc_of (cc := c_CO_read) (nl := 7) (ret := (some .int)) (by decide) (Nat.le_of_ble_eq_true rfl) (fun G F E => ?_)
  have F : zf G l K { frames := 7, cells := 1, slots := 6, locals := 121 } "ZlibBox$Codes" c_CO_read 7 := F
  show zj G 0 0 0 [(0, .ref c), (1, .ref r)] [] [zO c 1 [.ref ca, .ref ma, .ref pa, .int (nI u)], zI K ca 16 (zna cn), zI K ma 288 (zna mg), zO r 0 [.ref b, .int (nI e), .int (nI p)], zB K b Nb (zby t)]
  refine zj_iconst (v := nI 0) F d_CO_read_0 (by decide) ?_
  refine zj_istore_n (L' := [(2, .int (nI 0)), (0, .ref c), (1, .ref r)]) F d_CO_read_1 rfl (by decide) rfl ?_
  refine zj_iconst (v := nI 0) F d_CO_read_2 (by decide) ?_
  refine zj_istore_n (L' := [(3, .int (nI 0)), (2, .int (nI 0)), (0, .ref c), (1, .ref r)]) F d_CO_read_3 rfl (by decide) rfl ?_
  refine zj_iconst (v := nI 0) F d_CO_read_4 (by decide) ?_
  refine zj_istore (L' := [(4, .int (nI 0)), (3, .int (nI 0)), (2, .int (nI 0)), (0, .ref c), (1, .ref r)]) F d_CO_read_5 (by decide) rfl ?_
  refine zj_iconst (v := nI 1) F d_CO_read_7 (by decide) ?_
  refine zj_istore (L' := [(5, .int (nI 1)), (4, .int (nI 0)), (3, .int (nI 0)), (2, .int (nI 0)), (0, .ref c), (1, .ref r)]) F d_CO_read_8 (by decide) rfl ?_
  have key : ∀ fuel len code first p1, fuel + len = 16 → 1 ≤ len → p1 ≤ e → first ≤ 2 * code → (code + 1) * 2 ^ fuel ≤ 32768 → zdec t e cn mf fuel len code first p1 = zdec t e cn mf 15 1 0 0 p → zj G 0 0 10 [(0, .ref c), (1, .ref r), (2, .int (nI code)), (3, .int (nI first)), (4, .int (nI (zbas cn len))), (5, .int (nI len))] [] [zO c 1 [.ref ca, .ref ma, .ref pa, .int (nI u)], zI K ca 16 (zna cn), zI K ma 288 (zna mg), zO r 0 [.ref b, .int (nI e), .int (nI p1)], zB K b Nb (zby t)] := by
    intro fuel
    induction fuel with
    | zero =>
      intro len code first p1 h1 h2 h3 h4 h5 h6
      have hlen : len = 16 := by omega
      show zj G 0 0 10 [(0, .ref c), (1, .ref r), (2, .int (nI code)), (3, .int (nI first)), (4, .int (nI (zbas cn len))), (5, .int (nI len))] [] [zO c 1 [.ref ca, .ref ma, .ref pa, .int (nI u)], zI K ca 16 (zna cn), zI K ma 288 (zna mg), zO r 0 [.ref b, .int (nI e), .int (nI p1)], zB K b Nb (zby t)]
      refine zj_iload F d_CO_read_10 5 rfl ?_
      refine zj_bipush (v := nI 15) F d_CO_read_12 (by decide) ?_
      refine zj_icmp_gt (tgt := 75) F d_CO_read_14 (by decide) (nI_ltI (by omega) (by omega)) (fun h14 => ?_) (fun h14 => ?_)
      · exact zj_throwS (names := zt_up) F E hl d_CO_read_75 d_CO_read_78 d_CO_read_79 d_CO_read_81 d_CO_read_84 (by decide +kernel) (by decide +kernel) q_365 (at_CO_40) ⟨by decide, by decide, by decide, by decide⟩ rfl (by decide) (by decide) ⟨h6.symm, rfl, p1, rfl⟩
      · exact absurd hlen (by omega)
    | succ fuel ih =>
      intro len code first p1 h1 h2 h3 h4 h5 h6
      have hcb : code + 1 ≤ 32768 := Nat.le_trans (Nat.le_mul_of_pos_right _ (Nat.two_pow_pos _)) h5
      have hcb2 : 2 * code + 2 ≤ 32768 := by have := Nat.le_trans (Nat.mul_le_mul_left (code + 1) (show 2 ≤ 2 ^ (fuel + 1) from by rw [Nat.pow_succ]; have := Nat.two_pow_pos fuel; omega)) h5; omega
      have hbit := zbit_lt t p1
      obtain ⟨hz1, hz2⟩ := zbas_le cn h2 (show len ≤ 15 by omega)
      show zj G 0 0 10 [(0, .ref c), (1, .ref r), (2, .int (nI code)), (3, .int (nI first)), (4, .int (nI (zbas cn len))), (5, .int (nI len))] [] [zO c 1 [.ref ca, .ref ma, .ref pa, .int (nI u)], zI K ca 16 (zna cn), zI K ma 288 (zna mg), zO r 0 [.ref b, .int (nI e), .int (nI p1)], zB K b Nb (zby t)]
      refine zj_iload F d_CO_read_10 5 rfl ?_
      refine zj_bipush (v := nI 15) F d_CO_read_12 (by decide) ?_
      refine zj_icmp_gt (tgt := 75) F d_CO_read_14 (by decide) (nI_ltI (by omega) (by omega)) (fun h14 => ?_) (fun h14 => ?_)
      · exact absurd h14 (by omega)
      · refine zj_iconst (v := nI 2) F d_CO_read_17 (by decide) ?_
        refine zj_iload_n F d_CO_read_18 2 rfl rfl ?_
        refine zj_imul F d_CO_read_19 (pk_mul _ _) ?_
        refine zj_aload_n F d_CO_read_20 1 rfl rfl ?_
        refine zj_call (maxL := 2) (wr := [zO c 1 [.ref ca, .ref ma, .ref pa, .int (nI u)], zI K ca 16 (zna cn), zI K ma 288 (zna mg)]) F E (m_BR_bit l hl K r b Nb e p1 t hb hN he h3) (zi_V (As := []) (rest := [.int (nI (2 * code))]) F d_CO_read_21 3 rfl rfl rfl q_363 q_335 q_336 q_337 (Or.inl ⟨_, _, rfl⟩) (by decide) (show Option.map (fun d => d.parameters.length) (parseMethodDescriptor y_BR_bit.desc) = some 0 from by decide +kernel)) d_CO_read_21 q_337 (Or.inl ⟨_, _, rfl⟩) q_3 [3, 4] [0, 1, 2] rfl rfl rfl rfl (by decide) ⟨by decide, by decide, by decide, by decide⟩ (Nat.le_of_ble_eq_true rfl) (fun v w1 hq => ?_) (fun X w1 hq => ?_)
        · obtain ⟨hq1, rfl, rfl⟩ := hq
          show zj G 0 0 24 [(0, .ref c), (1, .ref r), (2, .int (nI code)), (3, .int (nI first)), (4, .int (nI (zbas cn len))), (5, .int (nI len))] [.int (nI (zbit t p1)), .int (nI (2 * code))] [zO c 1 [.ref ca, .ref ma, .ref pa, .int (nI u)], zI K ca 16 (zna cn), zI K ma 288 (zna mg), zO r 0 [.ref b, .int (nI e), .int (nI (p1 + 1))], zB K b Nb (zby t)]
          have h6' : (if 2 * code + zbit t p1 < first + cn len then some (mf len (2 * code + zbit t p1 - first), p1 + 1) else zdec t e cn mf fuel (len + 1) (2 * code + zbit t p1) (2 * (first + cn len)) (p1 + 1)) = zdec t e cn mf 15 1 0 0 p := by rw [← h6]; conv => rhs; unfold zdec; rw [if_pos hq1]
          refine zj_iadd F d_CO_read_24 (nI_add _ _) ?_
          refine zj_istore_n (L' := [(2, .int (nI ((2 * code) + (zbit t p1)))), (0, .ref c), (1, .ref r), (3, .int (nI first)), (4, .int (nI (zbas cn len))), (5, .int (nI len))]) F d_CO_read_25 rfl (by decide) rfl ?_
          refine zj_aload_n F d_CO_read_26 1 rfl rfl ?_
          refine zj_get F d_CO_read_27 0 0 rfl rfl in_CO (by decide) q_54 rfl ?_
          refine zj_iload F d_CO_read_30 5 rfl ?_
          refine zj_iald (z := nI (cn len)) F d_CO_read_32 1 1 len rfl rfl rfl (by omega) (by omega) rfl ?_
          refine zj_istore (L' := [(6, .int (nI (cn len))), (2, .int (nI ((2 * code) + (zbit t p1)))), (0, .ref c), (1, .ref r), (3, .int (nI first)), (4, .int (nI (zbas cn len))), (5, .int (nI len))]) F d_CO_read_33 (by decide) rfl ?_
          refine zj_iload_n F d_CO_read_35 1 rfl rfl ?_
          refine zj_iload_n F d_CO_read_36 4 rfl rfl ?_
          refine zj_isub F d_CO_read_37 (pk_sub (by omega)) ?_
          refine zj_iload F d_CO_read_38 0 rfl ?_
          refine zj_icmp_ge (tgt := 55) F d_CO_read_40 (by decide) (nI_leI (by omega) (by omega)) (fun h40 => ?_) (fun h40 => ?_)
          · refine zj_iload F d_CO_read_55 5 rfl ?_
            refine zj_iload F d_CO_read_57 0 rfl ?_
            refine zj_iadd (z := nI (zbas cn (len + 1))) F d_CO_read_59 (by rw [nI_add, hz1]) ?_
            refine zj_istore (L' := [(4, .int (nI (zbas cn (len + 1)))), (6, .int (nI (cn len))), (2, .int (nI ((2 * code) + (zbit t p1)))), (0, .ref c), (1, .ref r), (3, .int (nI first)), (5, .int (nI len))]) F d_CO_read_60 (by decide) rfl ?_
            refine zj_iconst (v := nI 2) F d_CO_read_62 (by decide) ?_
            refine zj_iload_n F d_CO_read_63 5 rfl rfl ?_
            refine zj_iload F d_CO_read_64 1 rfl ?_
            refine zj_iadd F d_CO_read_66 (nI_add _ _) ?_
            refine zj_imul F d_CO_read_67 (pk_mul _ _) ?_
            refine zj_istore_n (L' := [(3, .int (nI (2 * (first + (cn len))))), (4, .int (nI (zbas cn (len + 1)))), (6, .int (nI (cn len))), (2, .int (nI ((2 * code) + (zbit t p1)))), (0, .ref c), (1, .ref r), (5, .int (nI len))]) F d_CO_read_68 rfl (by decide) rfl ?_
            refine zj_iinc (v := nI (len + 1)) (L' := [(5, .int (nI (len + 1))), (3, .int (nI (2 * (first + (cn len))))), (4, .int (nI (zbas cn (len + 1)))), (6, .int (nI (cn len))), (2, .int (nI ((2 * code) + (zbit t p1)))), (0, .ref c), (1, .ref r)]) F d_CO_read_69 6 rfl (nI_add _ _) (by decide) rfl ?_
            refine zj_goto F d_CO_read_72 (tgt := 10) (by decide) ?_
            rw [if_neg (by omega)] at h6'
            exact zj_sub [5, 6, 4, 1, 2, 0] rfl (ih (len + 1) _ _ _ (by omega) (by omega) (by omega) (by omega) (by rw [Nat.pow_succ] at h5; calc _ ≤ (2 * (code + 1)) * 2 ^ fuel := Nat.mul_le_mul_right _ (by omega)
                    _ = (code + 1) * (2 ^ fuel * 2) := by rw [Nat.mul_comm 2 (code + 1), Nat.mul_assoc, Nat.mul_comm 2]
                    _ ≤ _ := h5) h6')
          · rw [if_pos (by omega)] at h6'
            refine zj_aload_n F d_CO_read_43 2 rfl rfl ?_
            refine zj_get F d_CO_read_44 0 1 rfl rfl in_CO (by decide) q_55 rfl ?_
            refine zj_iload F d_CO_read_47 5 rfl ?_
            refine zj_iload_n F d_CO_read_49 1 rfl rfl ?_
            refine zj_iadd F d_CO_read_50 (nI_add _ _) ?_
            refine zj_iload_n F d_CO_read_51 4 rfl rfl ?_
            refine zj_isub F d_CO_read_52 (pk_sub (by omega)) ?_
            refine zj_iald (z := nI (mf len (2 * code + zbit t p1 - first))) F d_CO_read_53 2 1 (((zbas cn len) + ((2 * code) + (zbit t p1))) - first) rfl rfl rfl (by omega) (by omega) (by unfold zna; rw [← hm len h2 (by omega) _ (by omega)]; congr 2; omega) ?_
            exact zj_iret F E d_CO_read_54 (Nat.le_refl _) (Nat.le_refl _) ⟨_, _, h6'.symm, rfl, rfl⟩
        · obtain ⟨hx1, rfl, rfl⟩ := hq
          exact ⟨rfl, by decide, by decide, [0, 1, 2, 3, 4], [zO c 1 [.ref ca, .ref ma, .ref pa, .int (nI u)], zI K ca 16 (zna cn), zI K ma 288 (zna mg), zO r 0 [.ref b, .int (nI e), .int (nI p1)], zB K b Nb (zby t)], rfl, rfl, ⟨h6.symm.trans (by unfold zdec; rw [if_neg hx1]), rfl, p1, rfl⟩⟩
  exact zj_sub [4, 5, 3, 2, 1, 0] rfl (key 15 1 0 0 p (by omega) (by omega) hp (by omega) (by decide) rfl)
