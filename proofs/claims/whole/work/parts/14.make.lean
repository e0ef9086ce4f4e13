/-- how many of the first n lengths (from 'a' on) are l -/
def zcnt (g : Nat → Nat) (a l : Nat) : Nat → Nat
  | 0 => 0
  | n + 1 => zcnt g a l n + if g (a + n) = l then 1 else 0
/-- the r-th of the first n places whose length is l -/
def zth (g : Nat → Nat) (a l : Nat) : Nat → Nat → Nat
  | 0, _ => 0
  | n + 1, r => if g (a + n) = l ∧ zcnt g a l n = r then n else zth g a l n r
/-- how many words of 15 bits begin with one of the codes -/
def zuse (g : Nat → Nat) (a : Nat) : Nat → Nat
  | 0 => 0
  | n + 1 => zuse g a n + if g (a + n) = 0 then 0 else 32768 / 2 ^ g (a + n)
theorem zth_lt (g : Nat → Nat) (a l : Nat) : ∀ n r, 0 < n → zth g a l n r < n
  | 0, _, h => absurd h (by decide)
  | n + 1, r, _ => by
    unfold zth
    by_cases h : g (a + n) = l ∧ zcnt g a l n = r
    · rw [if_pos h]; omega
    · rw [if_neg h]
      by_cases h0 : 0 < n
      · have := zth_lt g a l n r h0; omega
      · have : n = 0 := by omega
        subst this
        show (0 : Nat) < 0 + 1
        decide
theorem zcnt_mono (g : Nat → Nat) (a l : Nat) : ∀ d n, zcnt g a l n ≤ zcnt g a l (n + d)
  | 0, n => Nat.le_refl _
  | d + 1, n => Nat.le_trans (zcnt_mono g a l d n) (Nat.le_add_right _ _)
theorem zcnt_le (g : Nat → Nat) (a l : Nat) : ∀ n, zcnt g a l n ≤ n
  | 0 => Nat.le_refl _
  | n + 1 => by
    have := zcnt_le g a l n
    show zcnt g a l n + (if g (a + n) = l then 1 else 0) ≤ n + 1
    by_cases h : g (a + n) = l
    · rw [if_pos h]; omega
    · rw [if_neg h]; omega
theorem zuse_le (g : Nat → Nat) (a : Nat) : ∀ n, zuse g a n ≤ n * 32768
  | 0 => Nat.le_refl _
  | n + 1 => by
    have h1 := zuse_le g a n
    have h2 : (if g (a + n) = 0 then 0 else 32768 / 2 ^ g (a + n)) ≤ 32768 := by
      by_cases h : g (a + n) = 0
      · rw [if_pos h]; omega
      · rw [if_neg h]; exact Nat.div_le_self _ _
    show zuse g a n + (if g (a + n) = 0 then 0 else 32768 / 2 ^ g (a + n)) ≤ (n + 1) * 32768
    omega
theorem zbas_congr {cn cn' : Nat → Nat} : ∀ k, (∀ l, 1 ≤ l → l < k → cn l = cn' l) → zbas cn k = zbas cn' k
  | 0, _ => rfl
  | k + 1, h => by
    show zbas cn k + (if k = 0 then 0 else cn k) = zbas cn' k + (if k = 0 then 0 else cn' k)
    rw [zbas_congr k (fun l h1 h2 => h l h1 (by omega))]
    by_cases h0 : k = 0
    · rw [if_pos h0, if_pos h0]
    · rw [if_neg h0, if_neg h0, h k (by omega) (by omega)]
theorem zbas_add (g : Nat → Nat) (a n : Nat) : ∀ k, zbas (fun l => zcnt g a l (n + 1)) k = zbas (fun l => zcnt g a l n) k + if 1 ≤ g (a + n) ∧ g (a + n) < k then 1 else 0
  | 0 => by rw [if_neg (by omega)]; rfl
  | k + 1 => by
    show zbas (fun l => zcnt g a l (n + 1)) k + (if k = 0 then 0 else zcnt g a k (n + 1)) = zbas (fun l => zcnt g a l n) k + (if k = 0 then 0 else zcnt g a k n) + _
    rw [zbas_add g a n k]
    show _ + (if k = 0 then 0 else zcnt g a k n + if g (a + n) = k then 1 else 0) = _
    by_cases h0 : k = 0
    · subst h0
      rw [if_pos rfl, if_pos rfl, if_neg (by omega), if_neg (by omega)]
    · rw [if_neg h0, if_neg h0]
      by_cases h1 : g (a + n) = k
      · rw [if_pos h1, if_neg (by omega), if_pos (by omega)]; omega
      · rw [if_neg h1]
        by_cases h2 : 1 ≤ g (a + n) ∧ g (a + n) < k
        · rw [if_pos h2, if_pos (by omega)]; omega
        · rw [if_neg h2, if_neg (by omega)]; omega
theorem zbas_size (g : Nat → Nat) (a k : Nat) : ∀ n, zbas (fun l => zcnt g a l n) k ≤ n
  | 0 => by
    have : ∀ k, zbas (fun l => zcnt g a l 0) k = 0 := by
      intro k
      induction k with
      | zero => rfl
      | succ k ih =>
        show zbas (fun l => zcnt g a l 0) k + (if k = 0 then 0 else zcnt g a k 0) = 0
        rw [ih]
        show 0 + (if k = 0 then 0 else 0) = 0
        simp
    rw [this]
    exact Nat.le_refl _
  | n + 1 => by
    have h1 := zbas_size g a k n
    rw [zbas_add]
    by_cases h : 1 ≤ g (a + n) ∧ g (a + n) < k
    · rw [if_pos h]; omega
    · rw [if_neg h]; omega
theorem zbas_dis {cn : Nat → Nat} {l l' r : Nat} (h1 : 1 ≤ l) (h : l < l') (hr : r < cn l) : zbas cn l + r < zbas cn l' := by
  have h2 : zbas cn (l + 1) = zbas cn l + cn l := by
    show zbas cn l + (if l = 0 then 0 else cn l) = _
    rw [if_neg (by omega)]
  have h3 := zbas_mono cn (l' - (l + 1)) (l + 1)
  rw [show l + 1 + (l' - (l + 1)) = l' by omega] at h3
  omega
theorem zfil_na (g : Nat → Nat) (v n : Nat) : zfil (zna g) (nI v) n = zna (fun j => if j < n then v else g j) := by
  funext j
  rw [zfil_eq]
  show _ = nI (if j < n then v else g j)
  by_cases h : j < n
  · rw [if_pos h, if_pos h]
  · rw [if_neg h, if_neg h]; rfl
set_option maxHeartbeats 4000000 in
set_option maxRecDepth 100000 in
/-- areOneOfOneBitOrNone() -/
theorem m_CO_one (l : Launch) (K : zk) (c ca ma pa u : Nat) (cn : Nat → Nat) (hu : u < 2 ^ 31) (hc : cn 1 < 2 ^ 31) : zc l K y_CO_areOneOfOneBitOrNone w_CO_areOneOfOneBitOrNone { frames := 0, cells := 0, slots := 0, locals := 0 } 0 0 0 0 [.ref c] [zO c 1 [.ref ca, .ref ma, .ref pa, .int (nI u)], zI K ca 16 (zna cn)] (fun v w1 => v = some (.int (nI (if u = 0 ∨ (u = 16384 ∧ cn 1 = 1) then 1 else 0))) ∧ w1 = [zO c 1 [.ref ca, .ref ma, .ref pa, .int (nI u)], zI K ca 16 (zna cn)]) (fun _ _ => False) := by
  refine zc_of (cc := c_CO_areOneOfOneBitOrNone) (nl := 1) (ret := (some .boolean)) (by decide) (Nat.le_of_ble_eq_true rfl) (fun G F E => ?_)
  have F : zf G l K { frames := 0, cells := 0, slots := 0, locals := 0 } "ZlibBox$Codes" c_CO_areOneOfOneBitOrNone 1 := F
  show zj G 0 0 0 [(0, .ref c)] [] [zO c 1 [.ref ca, .ref ma, .ref pa, .int (nI u)], zI K ca 16 (zna cn)]
  refine zj_aload_n F d_CO_areOneOfOneBitOrNone_0 0 rfl rfl ?_
  refine zj_get F d_CO_areOneOfOneBitOrNone_1 0 3 rfl rfl in_CO (by decide) q_57 rfl ?_
  refine zj_if_eq (tgt := 27) F d_CO_areOneOfOneBitOrNone_4 (by decide) (zI_eq0 (by omega)) (fun h4 => ?_) (fun h4 => ?_)
  · refine zj_iconst (v := nI 1) F d_CO_areOneOfOneBitOrNone_27 (by decide) ?_
    refine zj_goto F d_CO_areOneOfOneBitOrNone_28 (tgt := 32) (by decide) ?_
    exact zj_zret F E d_CO_areOneOfOneBitOrNone_32 (by decide) (Nat.le_refl _) (Nat.le_refl _) ⟨by rw [if_pos (Or.inl h4)], rfl⟩
  · refine zj_aload_n F d_CO_areOneOfOneBitOrNone_7 0 rfl rfl ?_
    refine zj_get F d_CO_areOneOfOneBitOrNone_8 0 3 rfl rfl in_CO (by decide) q_57 rfl ?_
    refine zj_sipush (v := nI 16384) F d_CO_areOneOfOneBitOrNone_11 (by decide) ?_
    refine zj_icmp_ne (tgt := 31) F d_CO_areOneOfOneBitOrNone_14 (by decide) (nI_eq (by omega) (by omega)) (fun h14 => ?_) (fun h14 => ?_)
    · refine zj_iconst (v := nI 0) F d_CO_areOneOfOneBitOrNone_31 (by decide) ?_
      exact zj_zret F E d_CO_areOneOfOneBitOrNone_32 (by decide) (Nat.le_refl _) (Nat.le_refl _) ⟨by rw [if_neg (fun q => q.elim h4 (fun q => h14 q.1))], rfl⟩
    · refine zj_aload_n F d_CO_areOneOfOneBitOrNone_17 0 rfl rfl ?_
      refine zj_get F d_CO_areOneOfOneBitOrNone_18 0 0 rfl rfl in_CO (by decide) q_54 rfl ?_
      refine zj_iconst (v := nI 1) F d_CO_areOneOfOneBitOrNone_21 (by decide) ?_
      refine zj_iald (z := nI (cn 1)) F d_CO_areOneOfOneBitOrNone_22 1 1 1 rfl rfl rfl (by omega) (by omega) rfl ?_
      refine zj_iconst (v := nI 1) F d_CO_areOneOfOneBitOrNone_23 (by decide) ?_
      refine zj_icmp_ne (tgt := 31) F d_CO_areOneOfOneBitOrNone_24 (by decide) (nI_eq (by omega) (by omega)) (fun h24 => ?_) (fun h24 => ?_)
      · refine zj_iconst (v := nI 0) F d_CO_areOneOfOneBitOrNone_31 (by decide) ?_
        exact zj_zret F E d_CO_areOneOfOneBitOrNone_32 (by decide) (Nat.le_refl _) (Nat.le_refl _) ⟨by rw [if_neg (fun q => q.elim h4 (fun q => h24 q.2))], rfl⟩
      · refine zj_iconst (v := nI 1) F d_CO_areOneOfOneBitOrNone_27 (by decide) ?_
        refine zj_goto F d_CO_areOneOfOneBitOrNone_28 (tgt := 32) (by decide) ?_
        exact zj_zret F E d_CO_areOneOfOneBitOrNone_32 (by decide) (Nat.le_refl _) (Nat.le_refl _) ⟨by rw [if_pos (Or.inr ⟨h14, h24⟩)], rfl⟩
set_option maxHeartbeats 4000000 in
set_option maxRecDepth 100000 in
/-- make(lengths, from, size) -/
theorem m_CO_make (l : Launch) (K : zk) (c ca ma pa la NL u a n : Nat) (g cn mg pg : Nat → Nat) (hNL : NL < 2 ^ 20) (ha : a + n ≤ NL) (hn : n ≤ 288) (hg : ∀ i, i < n → g (a + i) ≤ 15) : zc l K y_CO_make w_CO_make { frames := 1, cells := 0, slots := 0, locals := 23 } 0 0 0 0 [.ref c, .ref la, .int (nI a), .int (nI n)] [zO c 1 [.ref ca, .ref ma, .ref pa, .int (nI u)], zI K ca 16 (zna cn), zI K ma 288 (zna mg), zI K pa 16 (zna pg), zI K la NL (zna g)] (fun v w1 => v = none ∧ ∃ cn' mg' pg', (∀ l, l ≤ 15 → cn' l = zcnt g a l n) ∧ zbas cn' 16 ≤ n ∧ (∀ l, 1 ≤ l → l ≤ 15 → ∀ r, r < cn' l → mg' (zbas cn' l + r) = zth g a l n r) ∧ w1 = [zO c 1 [.ref ca, .ref ma, .ref pa, .int (nI (zuse g a n))], zI K ca 16 (zna cn'), zI K ma 288 (zna mg'), zI K pa 16 (zna pg'), zI K la NL (zna g)]) (fun _ _ => False) := by
  refine zc_of (cc := c_CO_make) (nl := 6) (ret := none) (by decide) (Nat.le_of_ble_eq_true rfl) (fun G F E => ?_)
  have F : zf G l K { frames := 1, cells := 0, slots := 0, locals := 23 } "ZlibBox$Codes" c_CO_make 6 := F
  show zj G 0 0 0 [(0, .ref c), (1, .ref la), (2, .int (nI a)), (3, .int (nI n))] [] [zO c 1 [.ref ca, .ref ma, .ref pa, .int (nI u)], zI K ca 16 (zna cn), zI K ma 288 (zna mg), zI K pa 16 (zna pg), zI K la NL (zna g)]
  refine zj_aload_n F d_CO_make_0 0 rfl rfl ?_
  refine zj_get F d_CO_make_1 0 0 rfl rfl in_CO (by decide) q_54 rfl ?_
  refine zj_iconst (v := nI 0) F d_CO_make_4 (by decide) ?_
  refine zj_call (maxL := 4) (wr := [zO c 1 [.ref ca, .ref ma, .ref pa, .int (nI u)], zI K ma 288 (zna mg), zI K pa 16 (zna pg), zI K la NL (zna g)]) F E (m_fill l K ca 16 (zna cn) (nI 0) (by decide)) (zi_S (As := [.ref ca, .int (nI 0)]) (rest := []) F d_CO_make_5 q_76 q_77 q_5 q_78 (Or.inl ⟨_, _, rfl⟩) (by decide) (show Option.map (fun d => d.parameters.length) (parseMethodDescriptor y_AR_fill.desc) = some 2 from by decide +kernel)) d_CO_make_5 q_78 (Or.inl ⟨_, _, rfl⟩) q_5 [1] [0, 2, 3, 4] rfl rfl rfl rfl (by decide) ⟨by decide, by decide, by decide, by decide⟩ (Nat.le_of_ble_eq_true rfl) (fun v w1 hq => ?_) (fun X w1 hq => ?_)
  · obtain ⟨rfl, rfl⟩ := hq
    rw [zfil_na]
    show zj G 0 0 8 [(0, .ref c), (1, .ref la), (2, .int (nI a)), (3, .int (nI n))] [] [zO c 1 [.ref ca, .ref ma, .ref pa, .int (nI u)], zI K ma 288 (zna mg), zI K pa 16 (zna pg), zI K la NL (zna g), zI K ca 16 (zna (fun j => if j < 16 then 0 else cn j))]
    refine zj_aload_n F d_CO_make_8 0 rfl rfl ?_
    refine zj_iconst (v := nI 0) F d_CO_make_9 (by decide) ?_
    refine zj_put (ws' := [zO c 1 [.ref ca, .ref ma, .ref pa, .int (nI 0)], zI K ma 288 (zna mg), zI K pa 16 (zna pg), zI K la NL (zna g), zI K ca 16 (zna (fun j => if j < 16 then 0 else cn j))]) F d_CO_make_10 0 3 rfl rfl in_CO ty_CO nm_CO (by decide) q_57 rfl rfl rfl (Nat.le_of_ble_eq_true rfl) rfl ?_
    refine zj_iconst (v := nI 0) F d_CO_make_13 (by decide) ?_
    refine zj_istore (L' := [(4, .int (nI 0)), (0, .ref c), (1, .ref la), (2, .int (nI a)), (3, .int (nI n))]) F d_CO_make_14 (by decide) rfl ?_
    refine zj_wsub (ws' := [zO c 1 [.ref ca, .ref ma, .ref pa, .int (nI 0)], zI K ca 16 (zna (fun j => if j < 16 then 0 else cn j)), zI K ma 288 (zna mg), zI K pa 16 (zna pg), zI K la NL (zna g)]) [0, 4, 1, 2, 3] rfl rfl rfl ?_
    have key3 : ∀ cn1 : Nat → Nat, (∀ l, l ≤ 15 → cn1 l = zcnt g a l n) → ∀ d i mg1 pg1, i + d = n → (∀ l, 1 ≤ l → l ≤ 15 → pg1 l = zbas cn1 l + zcnt g a l i) → (∀ l, 1 ≤ l → l ≤ 15 → ∀ r, r < zcnt g a l i → mg1 (zbas cn1 l + r) = zth g a l i r) → zj G 0 0 122 [(0, .ref c), (1, .ref la), (2, .int (nI a)), (3, .int (nI n)), (4, .int (nI i))] [] [zO c 1 [.ref ca, .ref ma, .ref pa, .int (nI (zuse g a n))], zI K ca 16 (zna cn1), zI K ma 288 (zna mg1), zI K pa 16 (zna pg1), zI K la NL (zna g)] := by
      intro cn1 hcn
      have hbn : zbas cn1 16 ≤ n := by rw [zbas_congr 16 (fun l h1 h2 => hcn l (by omega))]; exact zbas_size g a 16 n
      intro d
      induction d with
      | zero =>
        intro i mg1 pg1 h1 hpg hmg
        have hi : i = n := by omega
        subst hi
        show zj G 0 0 122 [(0, .ref c), (1, .ref la), (2, .int (nI a)), (3, .int (nI i)), (4, .int (nI i))] [] [zO c 1 [.ref ca, .ref ma, .ref pa, .int (nI (zuse g a i))], zI K ca 16 (zna cn1), zI K ma 288 (zna mg1), zI K pa 16 (zna pg1), zI K la NL (zna g)]
        refine zj_iload F d_CO_make_122 4 rfl ?_
        refine zj_iload_n F d_CO_make_124 3 rfl rfl ?_
        refine zj_icmp_ge (tgt := 172) F d_CO_make_125 (by decide) (nI_leI (by omega) (by omega)) (fun h125 => ?_) (fun h125 => ?_)
        · exact zj_vret F E d_CO_make_172 (Nat.le_refl _) (Nat.le_refl _) ⟨rfl, cn1, mg1, pg1, hcn, hbn, fun l h2 h3 r hr => hmg l h2 h3 r (by rw [← hcn l h3]; exact hr), rfl⟩
        · exact absurd (Nat.le_refl i) h125
      | succ d ih =>
        intro i mg1 pg1 h1 hpg hmg
        have hgi := hg i (by omega)
        show zj G 0 0 122 [(0, .ref c), (1, .ref la), (2, .int (nI a)), (3, .int (nI n)), (4, .int (nI i))] [] [zO c 1 [.ref ca, .ref ma, .ref pa, .int (nI (zuse g a n))], zI K ca 16 (zna cn1), zI K ma 288 (zna mg1), zI K pa 16 (zna pg1), zI K la NL (zna g)]
        refine zj_iload F d_CO_make_122 4 rfl ?_
        refine zj_iload_n F d_CO_make_124 3 rfl rfl ?_
        refine zj_icmp_ge (tgt := 172) F d_CO_make_125 (by decide) (nI_leI (by omega) (by omega)) (fun h125 => ?_) (fun h125 => ?_)
        · exact absurd h125 (by omega)
        · refine zj_aload_n F d_CO_make_128 1 rfl rfl ?_
          refine zj_iload_n F d_CO_make_129 2 rfl rfl ?_
          refine zj_iload F d_CO_make_130 4 rfl ?_
          refine zj_iadd F d_CO_make_132 (nI_add _ _) ?_
          refine zj_iald (z := nI (g (a + i))) F d_CO_make_133 4 1 (a + i) rfl rfl rfl (by omega) (by omega) rfl ?_
          refine zj_istore (L' := [(5, .int (nI (g (a + i)))), (0, .ref c), (1, .ref la), (2, .int (nI a)), (3, .int (nI n)), (4, .int (nI i))]) F d_CO_make_134 (by decide) rfl ?_
          refine zj_iload F d_CO_make_136 0 rfl ?_
          refine zj_if_eq (tgt := 166) F d_CO_make_138 (by decide) (zI_eq0 (by omega)) (fun h138 => ?_) (fun h138 => ?_)
          · refine zj_iinc (v := nI (i + 1)) (L' := [(4, .int (nI (i + 1))), (5, .int (nI (g (a + i)))), (0, .ref c), (1, .ref la), (2, .int (nI a)), (3, .int (nI n))]) F d_CO_make_166 5 rfl (nI_add _ _) (by decide) rfl ?_
            refine zj_goto F d_CO_make_169 (tgt := 122) (by decide) ?_
            exact zj_sub [2, 3, 4, 5, 0] rfl (ih (i + 1) mg1 pg1 (by omega) (fun l h2 h3 => by show _ = _ + (zcnt g a l i + if g (a + i) = l then 1 else 0); rw [if_neg (by omega)]; exact hpg l h2 h3) (fun l h2 h3 r hr => by
                have hr2 : r < zcnt g a l i + if g (a + i) = l then 1 else 0 := hr
                rw [if_neg (by omega)] at hr2
                show _ = if g (a + i) = l ∧ zcnt g a l i = r then i else zth g a l i r
                rw [if_neg (by omega)]; exact hmg l h2 h3 r hr2))
          · have hl1 : 1 ≤ g (a + i) := by omega
            have hct : zcnt g a (g (a + i)) (i + 1) = zcnt g a (g (a + i)) i + 1 := by show _ + (if g (a + i) = g (a + i) then 1 else 0) = _; rw [if_pos rfl]
            have hcm := zcnt_mono g a (g (a + i)) (n - (i + 1)) (i + 1)
            rw [show i + 1 + (n - (i + 1)) = n by omega, hct, ← hcn _ hgi] at hcm
            obtain ⟨hz1, hz2⟩ := zbas_le cn1 hl1 hgi
            have hpgi := hpg _ hl1 hgi
            refine zj_aload_n F d_CO_make_141 1 rfl rfl ?_
            refine zj_get F d_CO_make_142 0 1 rfl rfl in_CO (by decide) q_55 rfl ?_
            refine zj_aload_n F d_CO_make_145 1 rfl rfl ?_
            refine zj_get F d_CO_make_146 0 2 rfl rfl in_CO (by decide) q_56 rfl ?_
            refine zj_iload F d_CO_make_149 0 rfl ?_
            refine zj_iald (z := nI (pg1 (g (a + i)))) F d_CO_make_151 3 1 (g (a + i)) rfl rfl rfl (by omega) (by omega) rfl ?_
            refine zj_iload F d_CO_make_152 5 rfl ?_
            refine zj_iast (ws' := [zO c 1 [.ref ca, .ref ma, .ref pa, .int (nI (zuse g a n))], zI K ca 16 (zna cn1), zI K ma 288 (zna (va_up mg1 (pg1 (g (a + i))) i)), zI K pa 16 (zna pg1), zI K la NL (zna g)]) F d_CO_make_154 2 1 (pg1 (g (a + i))) rfl rfl rfl (by omega) (by omega) (by rw [zna_upd]; rfl) ?_
            refine zj_aload_n F d_CO_make_155 1 rfl rfl ?_
            refine zj_get F d_CO_make_156 0 2 rfl rfl in_CO (by decide) q_56 rfl ?_
            refine zj_iload F d_CO_make_159 0 rfl ?_
            refine zj_dup2 F d_CO_make_161 rfl rfl ?_
            refine zj_iald (z := nI (pg1 (g (a + i)))) F d_CO_make_162 3 1 (g (a + i)) rfl rfl rfl (by omega) (by omega) rfl ?_
            refine zj_iconst (v := nI 1) F d_CO_make_163 (by decide) ?_
            refine zj_iadd F d_CO_make_164 (nI_add _ _) ?_
            refine zj_iast (ws' := [zO c 1 [.ref ca, .ref ma, .ref pa, .int (nI (zuse g a n))], zI K ca 16 (zna cn1), zI K ma 288 (zna (va_up mg1 (pg1 (g (a + i))) i)), zI K pa 16 (zna (va_up pg1 (g (a + i)) (pg1 (g (a + i)) + 1))), zI K la NL (zna g)]) F d_CO_make_165 3 1 (g (a + i)) rfl rfl rfl (by omega) (by omega) (by rw [zna_upd]; rfl) ?_
            refine zj_iinc (v := nI (i + 1)) (L' := [(4, .int (nI (i + 1))), (5, .int (nI (g (a + i)))), (0, .ref c), (1, .ref la), (2, .int (nI a)), (3, .int (nI n))]) F d_CO_make_166 5 rfl (nI_add _ _) (by decide) rfl ?_
            refine zj_goto F d_CO_make_169 (tgt := 122) (by decide) ?_
            exact zj_sub [2, 3, 4, 5, 0] rfl (ih (i + 1) _ _ (by omega) (fun l h2 h3 => by
                show (if l = g (a + i) then pg1 (g (a + i)) + 1 else pg1 l) = zbas cn1 l + (zcnt g a l i + if g (a + i) = l then 1 else 0)
                by_cases hl : l = g (a + i)
                · rw [if_pos hl, if_pos hl.symm, hpgi, hl]; omega
                · rw [if_neg hl, if_neg (fun q => hl q.symm)]; exact hpg l h2 h3) (fun l h2 h3 r hr => by
                have hr2 : r < zcnt g a l i + if g (a + i) = l then 1 else 0 := hr
                show (if zbas cn1 l + r = pg1 (g (a + i)) then i else mg1 (zbas cn1 l + r)) = if g (a + i) = l ∧ zcnt g a l i = r then i else zth g a l i r
                by_cases hl : g (a + i) = l
                · rw [if_pos hl] at hr2
                  by_cases hr3 : zcnt g a l i = r
                  · rw [if_pos (show zbas cn1 l + r = pg1 (g (a + i)) by rw [hpgi, hl, hr3]), if_pos ⟨hl, hr3⟩]
                  · rw [if_neg (show ¬ (zbas cn1 l + r = pg1 (g (a + i))) by rw [hpgi, hl]; omega), if_neg (fun q => hr3 q.2)]; exact hmg l h2 h3 r (by omega)
                · rw [if_neg hl] at hr2
                  have hrl : r < cn1 l := by
                    have h9 := zcnt_mono g a l (n - i) i
                    rw [show i + (n - i) = n by omega, ← hcn l h3] at h9
                    omega
                  rw [if_neg (show ¬ (zbas cn1 l + r = pg1 (g (a + i))) by
                    rw [hpgi]
                    rcases Nat.lt_or_ge l (g (a + i)) with h9 | h9
                    · have := zbas_dis h2 h9 hrl; omega
                    · have := zbas_dis (cn := cn1) (r := zcnt g a (g (a + i)) i) hl1 (show g (a + i) < l by omega) (by omega); omega), if_neg (fun q => hl q.1)]
                  exact hmg l h2 h3 r hr2))
    have key2 : ∀ (cn1 mg1 : Nat → Nat), (∀ l, l ≤ 15 → cn1 l = zcnt g a l n) → ∀ d j pg1, j + d = 16 → 2 ≤ j → (∀ l, 1 ≤ l → l < j → pg1 l = zbas cn1 l) → zj G 0 0 80 [(0, .ref c), (1, .ref la), (2, .int (nI a)), (3, .int (nI n)), (4, .int (nI j))] [] [zO c 1 [.ref ca, .ref ma, .ref pa, .int (nI (zuse g a n))], zI K ca 16 (zna cn1), zI K ma 288 (zna mg1), zI K pa 16 (zna pg1), zI K la NL (zna g)] := by
      intro cn1 mg1 hcn d
      induction d with
      | zero =>
        intro j pg1 h1 h2 hpg
        show zj G 0 0 80 [(0, .ref c), (1, .ref la), (2, .int (nI a)), (3, .int (nI n)), (4, .int (nI j))] [] [zO c 1 [.ref ca, .ref ma, .ref pa, .int (nI (zuse g a n))], zI K ca 16 (zna cn1), zI K ma 288 (zna mg1), zI K pa 16 (zna pg1), zI K la NL (zna g)]
        refine zj_iload F d_CO_make_80 4 rfl ?_
        refine zj_bipush (v := nI 15) F d_CO_make_82 (by decide) ?_
        refine zj_icmp_gt (tgt := 119) F d_CO_make_84 (by decide) (nI_ltI (by omega) (by omega)) (fun h84 => ?_) (fun h84 => ?_)
        · refine zj_iconst (v := nI 0) F d_CO_make_119 (by decide) ?_
          refine zj_istore (L' := [(4, .int (nI 0)), (0, .ref c), (1, .ref la), (2, .int (nI a)), (3, .int (nI n))]) F d_CO_make_120 (by decide) rfl ?_
          exact zj_sub [1, 2, 3, 4, 0] rfl (key3 cn1 hcn n 0 mg1 pg1 (by omega) (fun l h3 h4 => hpg l h3 (by omega)) (fun l _ _ r hr => absurd hr (Nat.not_lt_zero r)))
        · exact absurd h84 (by omega)
      | succ d ih =>
        intro j pg1 h1 h2 hpg
        show zj G 0 0 80 [(0, .ref c), (1, .ref la), (2, .int (nI a)), (3, .int (nI n)), (4, .int (nI j))] [] [zO c 1 [.ref ca, .ref ma, .ref pa, .int (nI (zuse g a n))], zI K ca 16 (zna cn1), zI K ma 288 (zna mg1), zI K pa 16 (zna pg1), zI K la NL (zna g)]
        refine zj_iload F d_CO_make_80 4 rfl ?_
        refine zj_bipush (v := nI 15) F d_CO_make_82 (by decide) ?_
        refine zj_icmp_gt (tgt := 119) F d_CO_make_84 (by decide) (nI_ltI (by omega) (by omega)) (fun h84 => ?_) (fun h84 => ?_)
        · exact absurd h84 (by omega)
        · refine zj_aload_n F d_CO_make_87 0 rfl rfl ?_
          refine zj_get F d_CO_make_88 0 2 rfl rfl in_CO (by decide) q_56 rfl ?_
          refine zj_iload F d_CO_make_91 4 rfl ?_
          refine zj_aload_n F d_CO_make_93 0 rfl rfl ?_
          refine zj_get F d_CO_make_94 0 2 rfl rfl in_CO (by decide) q_56 rfl ?_
          refine zj_iload F d_CO_make_97 4 rfl ?_
          refine zj_iconst (v := nI 1) F d_CO_make_99 (by decide) ?_
          refine zj_isub F d_CO_make_100 (pk_sub (by omega)) ?_
          refine zj_iald (z := nI (pg1 (j - 1))) F d_CO_make_101 3 1 (j - 1) rfl rfl rfl (by omega) (by omega) rfl ?_
          refine zj_aload_n F d_CO_make_102 0 rfl rfl ?_
          refine zj_get F d_CO_make_103 0 0 rfl rfl in_CO (by decide) q_54 rfl ?_
          refine zj_iload F d_CO_make_106 4 rfl ?_
          refine zj_iconst (v := nI 1) F d_CO_make_108 (by decide) ?_
          refine zj_isub F d_CO_make_109 (pk_sub (by omega)) ?_
          refine zj_iald (z := nI (cn1 (j - 1))) F d_CO_make_110 1 1 (j - 1) rfl rfl rfl (by omega) (by omega) rfl ?_
          refine zj_iadd F d_CO_make_111 (nI_add _ _) ?_
          refine zj_iast (ws' := [zO c 1 [.ref ca, .ref ma, .ref pa, .int (nI (zuse g a n))], zI K ca 16 (zna cn1), zI K ma 288 (zna mg1), zI K pa 16 (zna (va_up pg1 j (pg1 (j - 1) + cn1 (j - 1)))), zI K la NL (zna g)]) F d_CO_make_112 3 1 j rfl rfl rfl (by omega) (by omega) (by rw [zna_upd]; rfl) ?_
          refine zj_iinc (v := nI (j + 1)) (L' := [(4, .int (nI (j + 1))), (0, .ref c), (1, .ref la), (2, .int (nI a)), (3, .int (nI n))]) F d_CO_make_113 4 rfl (nI_add _ _) (by decide) rfl ?_
          refine zj_goto F d_CO_make_116 (tgt := 80) (by decide) ?_
          exact zj_sub [1, 2, 3, 4, 0] rfl (ih (j + 1) _ (by omega) (by omega) (fun l h3 h4 => by
              show (if l = j then pg1 (j - 1) + cn1 (j - 1) else pg1 l) = zbas cn1 l
              by_cases hl : l = j
              · rw [if_pos hl, hl, hpg (j - 1) (by omega) (by omega)]
                have := (zbas_le cn1 (l := j - 1) (by omega) (by omega)).1
                rw [show j - 1 + 1 = j by omega] at this
                exact this.symm
              · rw [if_neg hl]; exact hpg l h3 (by omega)))
    have key1 : ∀ d i cn1, i + d = n → (∀ l, l ≤ 15 → cn1 l = zcnt g a l i) → zj G 0 0 16 [(0, .ref c), (1, .ref la), (2, .int (nI a)), (3, .int (nI n)), (4, .int (nI i))] [] [zO c 1 [.ref ca, .ref ma, .ref pa, .int (nI (zuse g a i))], zI K ca 16 (zna cn1), zI K ma 288 (zna mg), zI K pa 16 (zna pg), zI K la NL (zna g)] := by
      intro d
      induction d with
      | zero =>
        intro i cn1 h1 hcn
        have hi : i = n := by omega
        subst hi
        show zj G 0 0 16 [(0, .ref c), (1, .ref la), (2, .int (nI a)), (3, .int (nI i)), (4, .int (nI i))] [] [zO c 1 [.ref ca, .ref ma, .ref pa, .int (nI (zuse g a i))], zI K ca 16 (zna cn1), zI K ma 288 (zna mg), zI K pa 16 (zna pg), zI K la NL (zna g)]
        refine zj_iload F d_CO_make_16 4 rfl ?_
        refine zj_iload_n F d_CO_make_18 3 rfl rfl ?_
        refine zj_icmp_ge (tgt := 70) F d_CO_make_19 (by decide) (nI_leI (by omega) (by omega)) (fun h19 => ?_) (fun h19 => ?_)
        · refine zj_aload_n F d_CO_make_70 0 rfl rfl ?_
          refine zj_get F d_CO_make_71 0 2 rfl rfl in_CO (by decide) q_56 rfl ?_
          refine zj_iconst (v := nI 1) F d_CO_make_74 (by decide) ?_
          refine zj_iconst (v := nI 0) F d_CO_make_75 (by decide) ?_
          refine zj_iast (ws' := [zO c 1 [.ref ca, .ref ma, .ref pa, .int (nI (zuse g a i))], zI K ca 16 (zna cn1), zI K ma 288 (zna mg), zI K pa 16 (zna (va_up pg 1 0)), zI K la NL (zna g)]) F d_CO_make_76 3 1 1 rfl rfl rfl (by omega) (by omega) (by rw [zna_upd]; rfl) ?_
          refine zj_iconst (v := nI 2) F d_CO_make_77 (by decide) ?_
          refine zj_istore (L' := [(4, .int (nI 2)), (0, .ref c), (1, .ref la), (2, .int (nI a)), (3, .int (nI i))]) F d_CO_make_78 (by decide) rfl ?_
          exact zj_sub [1, 2, 3, 4, 0] rfl (key2 cn1 mg hcn 14 2 _ (by omega) (by omega) (fun l h2 h3 => by rw [show l = 1 by omega]; rfl))
        · exact absurd (Nat.le_refl i) h19
      | succ d ih =>
        intro i cn1 h1 hcn
        have hgi := hg i (by omega)
        have hcl := zcnt_le g a (g (a + i)) i
        have hul := zuse_le g a i
        rw [← hcn _ hgi] at hcl
        show zj G 0 0 16 [(0, .ref c), (1, .ref la), (2, .int (nI a)), (3, .int (nI n)), (4, .int (nI i))] [] [zO c 1 [.ref ca, .ref ma, .ref pa, .int (nI (zuse g a i))], zI K ca 16 (zna cn1), zI K ma 288 (zna mg), zI K pa 16 (zna pg), zI K la NL (zna g)]
        refine zj_iload F d_CO_make_16 4 rfl ?_
        refine zj_iload_n F d_CO_make_18 3 rfl rfl ?_
        refine zj_icmp_ge (tgt := 70) F d_CO_make_19 (by decide) (nI_leI (by omega) (by omega)) (fun h19 => ?_) (fun h19 => ?_)
        · exact absurd h19 (by omega)
        · refine zj_aload_n F d_CO_make_22 1 rfl rfl ?_
          refine zj_iload_n F d_CO_make_23 2 rfl rfl ?_
          refine zj_iload F d_CO_make_24 4 rfl ?_
          refine zj_iadd F d_CO_make_26 (nI_add _ _) ?_
          refine zj_iald (z := nI (g (a + i))) F d_CO_make_27 4 1 (a + i) rfl rfl rfl (by omega) (by omega) rfl ?_
          refine zj_istore (L' := [(5, .int (nI (g (a + i)))), (0, .ref c), (1, .ref la), (2, .int (nI a)), (3, .int (nI n)), (4, .int (nI i))]) F d_CO_make_28 (by decide) rfl ?_
          refine zj_aload_n F d_CO_make_30 1 rfl rfl ?_
          refine zj_get F d_CO_make_31 0 0 rfl rfl in_CO (by decide) q_54 rfl ?_
          refine zj_iload F d_CO_make_34 0 rfl ?_
          refine zj_dup2 F d_CO_make_36 rfl rfl ?_
          refine zj_iald (z := nI (cn1 (g (a + i)))) F d_CO_make_37 1 1 (g (a + i)) rfl rfl rfl (by omega) (by omega) rfl ?_
          refine zj_iconst (v := nI 1) F d_CO_make_38 (by decide) ?_
          refine zj_iadd F d_CO_make_39 (nI_add _ _) ?_
          refine zj_iast (ws' := [zO c 1 [.ref ca, .ref ma, .ref pa, .int (nI (zuse g a i))], zI K ca 16 (zna (va_up cn1 (g (a + i)) (cn1 (g (a + i)) + 1))), zI K ma 288 (zna mg), zI K pa 16 (zna pg), zI K la NL (zna g)]) F d_CO_make_40 1 1 (g (a + i)) rfl rfl rfl (by omega) (by omega) (by rw [zna_upd]; rfl) ?_
          refine zj_aload_n F d_CO_make_41 1 rfl rfl ?_
          refine zj_dup F d_CO_make_42 rfl ?_
          refine zj_get F d_CO_make_43 0 3 rfl rfl in_CO (by decide) q_57 rfl ?_
          refine zj_iload F d_CO_make_46 0 rfl ?_
          refine zj_if_ne (tgt := 55) F d_CO_make_48 (by decide) (zI_eq0 (by omega)) (fun h48 => ?_) (fun h48 => ?_)
          · refine zj_ldc (v := nI 32768) F d_CO_make_55 q_79 ?_
            refine zj_iload F d_CO_make_57 0 rfl ?_
            refine zj_ishr (z := nI (32768 / 2 ^ g (a + i))) F d_CO_make_59 (zI_shr (by decide) (by omega)) ?_
            refine zj_iadd (z := nI (zuse g a (i + 1))) F d_CO_make_60 (by rw [nI_add]; show _ = nI (zuse g a i + if g (a + i) = 0 then 0 else 32768 / 2 ^ g (a + i)); rw [if_neg h48]) ?_
            refine zj_put (ws' := [zO c 1 [.ref ca, .ref ma, .ref pa, .int (nI (zuse g a (i + 1)))], zI K ca 16 (zna (va_up cn1 (g (a + i)) (cn1 (g (a + i)) + 1))), zI K ma 288 (zna mg), zI K pa 16 (zna pg), zI K la NL (zna g)]) F d_CO_make_61 0 3 rfl rfl in_CO ty_CO nm_CO (by decide) q_57 rfl rfl rfl (Nat.le_of_ble_eq_true rfl) rfl ?_
            refine zj_iinc (v := nI (i + 1)) (L' := [(4, .int (nI (i + 1))), (5, .int (nI (g (a + i)))), (0, .ref c), (1, .ref la), (2, .int (nI a)), (3, .int (nI n))]) F d_CO_make_64 5 rfl (nI_add _ _) (by decide) rfl ?_
            refine zj_goto F d_CO_make_67 (tgt := 16) (by decide) ?_
            exact zj_sub [2, 3, 4, 5, 0] rfl (ih (i + 1) _ (by omega) (fun l h2 => by
                show (if l = g (a + i) then cn1 (g (a + i)) + 1 else cn1 l) = zcnt g a l i + if g (a + i) = l then 1 else 0
                by_cases hl : l = g (a + i)
                · rw [if_pos hl, if_pos hl.symm, hl, hcn _ hgi]
                · rw [if_neg hl, if_neg (fun q => hl q.symm), hcn l h2]; rfl))
          · refine zj_iconst (v := nI 0) F d_CO_make_51 (by decide) ?_
            refine zj_goto F d_CO_make_52 (tgt := 60) (by decide) ?_
            refine zj_iadd (z := nI (zuse g a (i + 1))) F d_CO_make_60 (by rw [nI_add]; show _ = nI (zuse g a i + if g (a + i) = 0 then 0 else 32768 / 2 ^ g (a + i)); rw [if_pos h48]) ?_
            refine zj_put (ws' := [zO c 1 [.ref ca, .ref ma, .ref pa, .int (nI (zuse g a (i + 1)))], zI K ca 16 (zna (va_up cn1 (g (a + i)) (cn1 (g (a + i)) + 1))), zI K ma 288 (zna mg), zI K pa 16 (zna pg), zI K la NL (zna g)]) F d_CO_make_61 0 3 rfl rfl in_CO ty_CO nm_CO (by decide) q_57 rfl rfl rfl (Nat.le_of_ble_eq_true rfl) rfl ?_
            refine zj_iinc (v := nI (i + 1)) (L' := [(4, .int (nI (i + 1))), (5, .int (nI (g (a + i)))), (0, .ref c), (1, .ref la), (2, .int (nI a)), (3, .int (nI n))]) F d_CO_make_64 5 rfl (nI_add _ _) (by decide) rfl ?_
            refine zj_goto F d_CO_make_67 (tgt := 16) (by decide) ?_
            exact zj_sub [2, 3, 4, 5, 0] rfl (ih (i + 1) _ (by omega) (fun l h2 => by
                show (if l = g (a + i) then cn1 (g (a + i)) + 1 else cn1 l) = zcnt g a l i + if g (a + i) = l then 1 else 0
                by_cases hl : l = g (a + i)
                · rw [if_pos hl, if_pos hl.symm, hl, hcn _ hgi]
                · rw [if_neg hl, if_neg (fun q => hl q.symm), hcn l h2]; rfl))
    exact zj_sub [1, 2, 3, 4, 0] rfl (key1 n 0 _ (by omega) (fun l h => by show (if l < 16 then 0 else cn l) = 0; rw [if_pos (by omega)]))
  · exact hq.elim
