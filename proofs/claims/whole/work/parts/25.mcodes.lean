/-- f below i, g from i on -/
def zpre (f g : Nat → Nat) (i : Nat) : Nat → Nat := fun j => if j < i then f j else g j
theorem zpre_0 (f g : Nat → Nat) : zpre f g 0 = g := by
  funext j
  exact if_neg (Nat.not_lt_zero j)
theorem zpre_up (f g : Nat → Nat) (i : Nat) : va_up (zpre f g i) i (f i) = zpre f g (i + 1) := by
  funext j
  unfold va_up zpre
  by_cases h : j = i
  · subst h
    simp
  · simp only [h, if_false]
    by_cases h2 : j < i
    · rw [if_pos h2, if_pos (by omega)]
    · rw [if_neg h2, if_neg (by omega)]
theorem zpre_lt {f g : Nat → Nat} {i j : Nat} (h : j < i) : zpre f g i j = f j := if_pos h
/-- the words that codes of the lengths below k begin -/
def zsum (cn : Nat → Nat) : Nat → Nat
  | 0 => 0
  | l + 1 => zsum cn l + if l = 0 then 0 else cn l * 2 ^ (15 - l)
theorem zsum_congr {cn cn' : Nat → Nat} : ∀ k, (∀ l, 1 ≤ l → l < k → cn l = cn' l) → zsum cn k = zsum cn' k
  | 0, _ => rfl
  | k + 1, h => by
    show zsum cn k + (if k = 0 then 0 else cn k * 2 ^ (15 - k)) = zsum cn' k + (if k = 0 then 0 else cn' k * 2 ^ (15 - k))
    rw [zsum_congr k (fun l h1 h2 => h l h1 (by omega))]
    by_cases h0 : k = 0
    · rw [if_pos h0, if_pos h0]
    · rw [if_neg h0, if_neg h0, h k (by omega) (by omega)]
theorem zsum_add (g : Nat → Nat) (a n : Nat) : ∀ k, zsum (fun l => zcnt g a l (n + 1)) k = zsum (fun l => zcnt g a l n) k + if 1 ≤ g (a + n) ∧ g (a + n) < k then 2 ^ (15 - g (a + n)) else 0
  | 0 => by rw [if_neg (by omega)]; rfl
  | k + 1 => by
    show zsum (fun l => zcnt g a l (n + 1)) k + (if k = 0 then 0 else zcnt g a k (n + 1) * 2 ^ (15 - k)) = zsum (fun l => zcnt g a l n) k + (if k = 0 then 0 else zcnt g a k n * 2 ^ (15 - k)) + _
    rw [zsum_add g a n k]
    show _ + (if k = 0 then 0 else (zcnt g a k n + if g (a + n) = k then 1 else 0) * 2 ^ (15 - k)) = _
    by_cases h0 : k = 0
    · rw [if_pos h0, if_pos h0, if_neg (by omega), if_neg (by omega)]
    · rw [if_neg h0, if_neg h0]
      by_cases h1 : g (a + n) = k
      · rw [if_pos h1, if_neg (by omega), if_pos (by omega), Nat.add_mul, Nat.one_mul, h1]
        omega
      · rw [if_neg h1]
        by_cases h2 : 1 ≤ g (a + n) ∧ g (a + n) < k
        · rw [if_pos h2, if_pos (by omega), Nat.add_zero]
          omega
        · rw [if_neg h2, if_neg (by omega)]
          simp only [Nat.add_zero]
theorem zuse_pow : ∀ l, l ≤ 15 → 32768 / 2 ^ l = 2 ^ (15 - l) := by
  intro l h
  have h1 : ∀ l, l < 16 → 32768 / 2 ^ l = 2 ^ (15 - l) := by decide +kernel
  exact h1 l (by omega)
theorem zuse_sum (g : Nat → Nat) (a : Nat) : ∀ n, (∀ i, i < n → g (a + i) ≤ 15) → zuse g a n = zsum (fun l => zcnt g a l n) 16
  | 0, _ => by
    show 0 = zsum (fun _ => 0) 16
    rfl
  | n + 1, h => by
    have h1 := h n (by omega)
    show zuse g a n + (if g (a + n) = 0 then 0 else 32768 / 2 ^ g (a + n)) = _
    rw [zsum_add, zuse_sum g a n (fun i hi => h i (by omega))]
    by_cases h0 : g (a + n) = 0
    · rw [if_pos h0, if_neg (by omega)]
    · rw [if_neg h0, if_pos (by omega), zuse_pow _ h1]
/-- where the making of codes stands: the lengths below l, and of l the first k -/
def zJ (g : Nat → Nat) (a n l k : Nat) (cn mg : Nat → Nat) : Prop :=
  (∀ j, 1 ≤ j → j < l → cn j = zcnt g a j n) ∧ cn l = zcnt g a l k ∧ (∀ j, l < j → j ≤ 15 → cn j = 0) ∧
  (∀ j, 1 ≤ j → j < l → ∀ r, r < zcnt g a j n → mg (zbas (fun l => zcnt g a l n) j + r) = zth g a j n r) ∧ ∀ r, r < zcnt g a l k → mg (zbas (fun l => zcnt g a l n) l + r) = zth g a l k r
theorem zJ_yes {g : Nat → Nat} {a n l k : Nat} {cn mg : Nat → Nat} (h : zJ g a n l k cn mg) (hk : g (a + k) = l) : zJ g a n l (k + 1) (va_up cn l (cn l + 1)) (va_up mg (zbas (fun l => zcnt g a l n) l + zcnt g a l k) k) := by
  obtain ⟨h1, h2, h3, h4, h5⟩ := h
  have hct : zcnt g a l (k + 1) = zcnt g a l k + 1 := by show _ + (if g (a + k) = l then 1 else 0) = _; rw [if_pos hk]
  refine ⟨fun j j1 j2 => ?_, ?_, fun j j1 j2 => ?_, fun j j1 j2 r hr => ?_, fun r hr => ?_⟩
  · rw [va_up_ne _ _ (by omega)]; exact h1 j j1 j2
  · rw [va_up_self, h2, hct]
  · rw [va_up_ne _ _ (by omega)]; exact h3 j j1 j2
  · rw [va_up_ne _ _ (by have := zbas_dis (cn := fun l => zcnt g a l n) j1 j2 hr; omega)]
    exact h4 j j1 j2 r hr
  · rw [hct] at hr
    unfold zth
    by_cases h6 : zcnt g a l k = r
    · rw [if_pos ⟨hk, h6⟩, h6, va_up_self]
    · rw [if_neg (fun q => h6 q.2), va_up_ne _ _ (by omega)]
      exact h5 r (by omega)
theorem zJ_no {g : Nat → Nat} {a n l k : Nat} {cn mg : Nat → Nat} (h : zJ g a n l k cn mg) (hk : ¬ g (a + k) = l) : zJ g a n l (k + 1) cn mg := by
  obtain ⟨h1, h2, h3, h4, h5⟩ := h
  have hct : zcnt g a l (k + 1) = zcnt g a l k := by show _ + (if g (a + k) = l then 1 else 0) = _; rw [if_neg hk, Nat.add_zero]
  refine ⟨h1, by rw [hct]; exact h2, h3, h4, fun r hr => ?_⟩
  rw [hct] at hr
  unfold zth
  rw [if_neg (fun q => hk q.1)]
  exact h5 r hr
theorem zJ_next {g : Nat → Nat} {a n l : Nat} {cn mg : Nat → Nat} (h : zJ g a n l n cn mg) (hl : l ≤ 15) (hl0 : 1 ≤ l) : l = 15 ∨ zJ g a n (l + 1) 0 cn mg := by
  obtain ⟨h1, h2, h3, h4, h5⟩ := h
  by_cases h6 : l = 15
  · exact Or.inl h6
  · refine Or.inr ⟨fun j j1 j2 => ?_, h3 _ (by omega) (by omega), fun j j1 j2 => h3 j (by omega) j2, fun j j1 j2 r hr => ?_, fun r hr => absurd (show r < 0 from hr) (by omega)⟩
    · by_cases h7 : j = l
      · rw [h7]; exact h2
      · exact h1 j j1 (by omega)
    · by_cases h7 : j = l
      · subst h7; exact h5 r hr
      · exact h4 j j1 (by omega) r hr
theorem zI_left {u : Nat} (hu : u < 2 ^ 31) : nI 32768 - nI u = 0 ↔ u = 32768 := by
  constructor
  · intro h
    have h1 : nI 32768 = nI u := by
      have := (Int32.sub_eq_iff_eq_add).mp h
      rwa [Int32.zero_add] at this
    exact ((nI_eq (by decide) hu).mp h1).symm
  · intro h
    rw [h]
    decide
theorem zsum_s (cn : Nat → Nat) (l : Nat) (h : ¬ l = 0) : zsum cn (l + 1) = zsum cn l + cn l * 2 ^ (15 - l) := by
  show zsum cn l + (if l = 0 then 0 else cn l * 2 ^ (15 - l)) = _
  rw [if_neg h]
theorem zbas_s (cn : Nat → Nat) (l : Nat) (h : ¬ l = 0) : zbas cn (l + 1) = zbas cn l + cn l := by
  show zbas cn l + (if l = 0 then 0 else cn l) = _
  rw [if_neg h]
theorem zsum_one {cn : Nat → Nat} : (zsum cn 16 = 0 ↔ zbas cn 16 = 0) ∧ ((zsum cn 16 = 16384 ∧ cn 1 = 1) ↔ (zbas cn 16 = 1 ∧ cn 1 = 1)) := by
  have e1 : zsum cn 16 = zsum cn 1 + cn 1 * 16384 + cn 2 * 8192 + cn 3 * 4096 + cn 4 * 2048 + cn 5 * 1024 + cn 6 * 512 + cn 7 * 256 + cn 8 * 128 + cn 9 * 64 + cn 10 * 32 + cn 11 * 16 + cn 12 * 8 + cn 13 * 4 + cn 14 * 2 + cn 15 * 1 := by
    rw [zsum_s cn 15 (by decide), zsum_s cn 14 (by decide), zsum_s cn 13 (by decide), zsum_s cn 12 (by decide), zsum_s cn 11 (by decide), zsum_s cn 10 (by decide), zsum_s cn 9 (by decide), zsum_s cn 8 (by decide), zsum_s cn 7 (by decide), zsum_s cn 6 (by decide), zsum_s cn 5 (by decide), zsum_s cn 4 (by decide), zsum_s cn 3 (by decide), zsum_s cn 2 (by decide), zsum_s cn 1 (by decide)]
  have e2 : zbas cn 16 = zbas cn 1 + cn 1 + cn 2 + cn 3 + cn 4 + cn 5 + cn 6 + cn 7 + cn 8 + cn 9 + cn 10 + cn 11 + cn 12 + cn 13 + cn 14 + cn 15 := by
    rw [zbas_s cn 15 (by decide), zbas_s cn 14 (by decide), zbas_s cn 13 (by decide), zbas_s cn 12 (by decide), zbas_s cn 11 (by decide), zbas_s cn 10 (by decide), zbas_s cn 9 (by decide), zbas_s cn 8 (by decide), zbas_s cn 7 (by decide), zbas_s cn 6 (by decide), zbas_s cn 5 (by decide), zbas_s cn 4 (by decide), zbas_s cn 3 (by decide), zbas_s cn 2 (by decide), zbas_s cn 1 (by decide)]
  have e3 : zsum cn 1 = 0 := rfl
  have e4 : zbas cn 1 = 0 := rfl
  rw [e1, e2, e3, e4]
  generalize cn 1 = a1
  generalize cn 2 = a2
  generalize cn 3 = a3
  generalize cn 4 = a4
  generalize cn 5 = a5
  generalize cn 6 = a6
  generalize cn 7 = a7
  generalize cn 8 = a8
  generalize cn 9 = a9
  generalize cn 10 = a10
  generalize cn 11 = a11
  generalize cn 12 = a12
  generalize cn 13 = a13
  generalize cn 14 = a14
  generalize cn 15 = a15
  clear e1 e2 e3 e4
  omega
set_option maxHeartbeats 4000000 in
set_option maxRecDepth 100000 in
/-- make(lengths, from, n) -/
theorem m_MC_make (l : Launch) (K : zk) (c ca ma la NL a n : Nat) (al : Int32) (g cn mg : Nat → Nat) (hNL : NL < 2 ^ 20) (ha : a + n ≤ NL) (hn : n ≤ 288) (hg : ∀ i, i < n → g (a + i) ≤ 15) : zc l K y_MC_make w_MC_make { frames := 0, cells := 0, slots := 0, locals := 0 } 0 0 0 0 [.ref c, .ref la, .int (nI a), .int (nI n)] [zO c 5 [.ref ca, .ref ma, .int al], zI K ca 16 (zna cn), zI K ma 320 (zna mg), zI K la NL (zna g)] (fun v w1 => v = some (.int (nI 32768 - nI (zuse g a n))) ∧ ∃ cn' mg', (∀ l, 1 ≤ l → l ≤ 15 → cn' l = zcnt g a l n) ∧ zbas cn' 16 ≤ n ∧ (∀ l, 1 ≤ l → l ≤ 15 → ∀ r, r < cn' l → mg' (zbas cn' l + r) = zth g a l n r) ∧ w1 = [zO c 5 [.ref ca, .ref ma, .int (nI (zbas cn' 16))], zI K ca 16 (zna cn'), zI K ma 320 (zna mg'), zI K la NL (zna g)]) (fun _ _ => False) := by
  refine zc_of (cc := c_MC_make) (nl := 6) (ret := (some .int)) (by decide) (Nat.le_of_ble_eq_true rfl) (fun G F E => ?_)
  have F : zf G l K { frames := 0, cells := 0, slots := 0, locals := 0 } "ZlibBoxModel$Codes" c_MC_make 6 := F
  show zj G 0 0 0 [(0, .ref c), (1, .ref la), (2, .int (nI a)), (3, .int (nI n))] [] [zO c 5 [.ref ca, .ref ma, .int al], zI K ca 16 (zna cn), zI K ma 320 (zna mg), zI K la NL (zna g)]
  have keyL : ∀ cn1 mg1 : Nat → Nat, (∀ l, 1 ≤ l → l ≤ 15 → cn1 l = zcnt g a l n) → (∀ l, 1 ≤ l → l ≤ 15 → ∀ r, r < cn1 l → mg1 (zbas cn1 l + r) = zth g a l n r) → ∀ q l, l + q = 16 → 1 ≤ l → zj G 0 0 113 [(0, .ref c), (1, .ref la), (2, .int (nI a)), (3, .int (nI n)), (4, .int (nI 32768 - nI (zsum cn1 l))), (5, .int (nI l))] [] [zO c 5 [.ref ca, .ref ma, .int (nI (zbas cn1 16))], zI K ca 16 (zna cn1), zI K ma 320 (zna mg1), zI K la NL (zna g)] := by
    intro cn1 mg1 hc hm q
    induction q with
    | zero =>
      intro l l1 l2
      have l3 : l = 16 := by omega
      subst l3
      show zj G 0 0 113 [(0, .ref c), (1, .ref la), (2, .int (nI a)), (3, .int (nI n)), (4, .int (nI 32768 - nI (zsum cn1 16))), (5, .int (nI 16))] [] [zO c 5 [.ref ca, .ref ma, .int (nI (zbas cn1 16))], zI K ca 16 (zna cn1), zI K ma 320 (zna mg1), zI K la NL (zna g)]
      refine zj_iload F d_MC_make_113 5 rfl ?_
      refine zj_bipush (v := nI 16) F d_MC_make_115 (by decide) ?_
      refine zj_icmp_ge (tgt := 144) F d_MC_make_117 (by decide) (nI_leI (by omega) (by omega)) (fun h117 => ?_) (fun h117 => ?_)
      · have hu : zsum cn1 16 = zuse g a n := by rw [zuse_sum g a n hg]; exact zsum_congr 16 (fun l h1 h2 => hc l h1 (by omega))
        have hb : zbas cn1 16 ≤ n := by rw [zbas_congr 16 (fun l h1 h2 => hc l h1 (by omega))]; exact zbas_size g a 16 n
        rw [hu]
        show zj G 0 0 144 [(0, .ref c), (1, .ref la), (2, .int (nI a)), (3, .int (nI n)), (4, .int (nI 32768 - nI (zuse g a n))), (5, .int (nI 16))] [] [zO c 5 [.ref ca, .ref ma, .int (nI (zbas cn1 16))], zI K ca 16 (zna cn1), zI K ma 320 (zna mg1), zI K la NL (zna g)]
        refine zj_iload F d_MC_make_144 4 rfl ?_
        exact zj_iret F E d_MC_make_146 (Nat.le_refl _) (Nat.le_refl _) ⟨rfl, cn1, mg1, hc, hb, hm, rfl⟩
      · exact absurd (by decide) h117
    | succ q ih =>
      intro l l1 l2
      show zj G 0 0 113 [(0, .ref c), (1, .ref la), (2, .int (nI a)), (3, .int (nI n)), (4, .int (nI 32768 - nI (zsum cn1 l))), (5, .int (nI l))] [] [zO c 5 [.ref ca, .ref ma, .int (nI (zbas cn1 16))], zI K ca 16 (zna cn1), zI K ma 320 (zna mg1), zI K la NL (zna g)]
      refine zj_iload F d_MC_make_113 5 rfl ?_
      refine zj_bipush (v := nI 16) F d_MC_make_115 (by decide) ?_
      refine zj_icmp_ge (tgt := 144) F d_MC_make_117 (by decide) (nI_leI (by omega) (by omega)) (fun h117 => ?_) (fun h117 => ?_)
      · exact absurd h117 (by omega)
      · refine zj_iload F d_MC_make_120 4 rfl ?_
        refine zj_aload_n F d_MC_make_122 0 rfl rfl ?_
        refine zj_get F d_MC_make_123 0 0 rfl rfl in_MC (by decide) q_537 rfl ?_
        refine zj_iload F d_MC_make_126 5 rfl ?_
        refine zj_iald (z := nI (cn1 l)) F d_MC_make_128 1 1 l rfl rfl rfl (by omega) (by omega) rfl ?_
        refine zj_bipush (v := nI 15) F d_MC_make_129 (by decide) ?_
        refine zj_iload F d_MC_make_131 5 rfl ?_
        refine zj_isub F d_MC_make_133 (pk_sub (by omega)) ?_
        refine zj_ishl (z := nI (cn1 l * 2 ^ (15 - l))) F d_MC_make_134 (zI_shl (by omega)) ?_
        refine zj_isub (z := nI 32768 - nI (zsum cn1 (l + 1))) F d_MC_make_135 (by rw [Int32.sub_sub, nI_add]; show _ = nI 32768 - nI (zsum cn1 l + if l = 0 then 0 else cn1 l * 2 ^ (15 - l)); rw [if_neg (by omega)]) ?_
        refine zj_istore (L' := [(4, .int (nI 32768 - nI (zsum cn1 (l + 1)))), (0, .ref c), (1, .ref la), (2, .int (nI a)), (3, .int (nI n)), (5, .int (nI l))]) F d_MC_make_136 (by decide) rfl ?_
        refine zj_iinc (v := nI (l + 1)) (L' := [(5, .int (nI (l + 1))), (4, .int (nI 32768 - nI (zsum cn1 (l + 1)))), (0, .ref c), (1, .ref la), (2, .int (nI a)), (3, .int (nI n))]) F d_MC_make_138 5 rfl (nI_add _ _) (by decide) rfl ?_
        refine zj_goto F d_MC_make_141 (tgt := 113) (by decide) ?_
        exact zj_sub [2, 3, 4, 5, 1, 0] rfl (ih (l + 1) (by omega) (by omega))
  have keyO : ∀ q l (cn1 mg1 : Nat → Nat), l + q = 15 → 1 ≤ l → zJ g a n l 0 cn1 mg1 → zj G 0 0 32 [(0, .ref c), (1, .ref la), (2, .int (nI a)), (3, .int (nI n)), (4, .int (nI l))] [] [zO c 5 [.ref ca, .ref ma, .int (nI (zbas (fun l => zcnt g a l n) l))], zI K ca 16 (zna cn1), zI K ma 320 (zna mg1), zI K la NL (zna g)] := by
    intro q
    induction q with
    | zero =>
      intro l cn1 mg1 l1 l2 hJ
      have hbz : zbas (fun l => zcnt g a l n) (l + 1) = zbas (fun l => zcnt g a l n) l + zcnt g a l n ∧ zbas (fun l => zcnt g a l n) (l + 1) ≤ zbas (fun l => zcnt g a l n) 16 := zbas_le (fun l => zcnt g a l n) l2 (by omega)
      have hbs := zbas_size g a 16 n
      show zj G 0 0 32 [(0, .ref c), (1, .ref la), (2, .int (nI a)), (3, .int (nI n)), (4, .int (nI l))] [] [zO c 5 [.ref ca, .ref ma, .int (nI (zbas (fun l => zcnt g a l n) l))], zI K ca 16 (zna cn1), zI K ma 320 (zna mg1), zI K la NL (zna g)]
      refine zj_iload F d_MC_make_32 4 rfl ?_
      refine zj_bipush (v := nI 16) F d_MC_make_34 (by decide) ?_
      refine zj_icmp_ge (tgt := 106) F d_MC_make_36 (by decide) (nI_leI (by omega) (by omega)) (fun h36 => ?_) (fun h36 => ?_)
      · exact absurd h36 (by omega)
      · refine zj_iconst (v := nI 0) F d_MC_make_39 (by decide) ?_
        refine zj_istore (L' := [(5, .int (nI 0)), (0, .ref c), (1, .ref la), (2, .int (nI a)), (3, .int (nI n)), (4, .int (nI l))]) F d_MC_make_40 (by decide) rfl ?_
        have keyI : ∀ q k (cn1 mg1 : Nat → Nat), k + q = n → zJ g a n l k cn1 mg1 → zj G 0 0 42 [(0, .ref c), (1, .ref la), (2, .int (nI a)), (3, .int (nI n)), (4, .int (nI l)), (5, .int (nI k))] [] [zO c 5 [.ref ca, .ref ma, .int (nI (zbas (fun l => zcnt g a l n) l + zcnt g a l k))], zI K ca 16 (zna cn1), zI K ma 320 (zna mg1), zI K la NL (zna g)] := by
          clear hJ cn1 mg1
          intro q2
          induction q2 with
          | zero =>
            intro k cn1 mg1 k1 hJ
            have k2 : n = k := by omega
            show zj G 0 0 42 [(0, .ref c), (1, .ref la), (2, .int (nI a)), (3, .int (nI n)), (4, .int (nI l)), (5, .int (nI k))] [] [zO c 5 [.ref ca, .ref ma, .int (nI (zbas (fun l => zcnt g a l n) l + zcnt g a l k))], zI K ca 16 (zna cn1), zI K ma 320 (zna mg1), zI K la NL (zna g)]
            refine zj_iload F d_MC_make_42 5 rfl ?_
            refine zj_iload_n F d_MC_make_44 3 rfl rfl ?_
            refine zj_icmp_ge (tgt := 100) F d_MC_make_45 (by decide) (nI_leI (by omega) (by omega)) (fun h45 => ?_) (fun h45 => ?_)
            · refine zj_iinc (v := nI (l + 1)) (L' := [(4, .int (nI (l + 1))), (0, .ref c), (1, .ref la), (2, .int (nI a)), (3, .int (nI n)), (5, .int (nI k))]) F d_MC_make_100 4 rfl (nI_add _ _) (by decide) rfl ?_
              refine zj_goto F d_MC_make_103 (tgt := 32) (by decide) ?_
              rw [← k2]
              rw [← k2] at hJ
              have l3 : l = 15 := by omega
              subst l3
              obtain ⟨j1, j2, j3, j4, j5⟩ := hJ
              have hc : ∀ l, 1 ≤ l → l ≤ 15 → cn1 l = zcnt g a l n := fun l h1 h2 => by
                by_cases h3 : l = 15
                · subst h3; exact j2
                · exact j1 l h1 (by omega)
              have e1 : ∀ l, l ≤ 16 → zbas cn1 l = zbas (fun l => zcnt g a l n) l := fun l h => zbas_congr l (fun j h1 h2 => hc j h1 (by omega))
              rw [← hbz.1, ← e1 16 (by decide)]
              show zj G 0 0 32 [(4, .int (nI (15 + 1))), (0, .ref c), (1, .ref la), (2, .int (nI a)), (3, .int (nI n)), (5, .int (nI n))] [] [zO c 5 [.ref ca, .ref ma, .int (nI (zbas cn1 16))], zI K ca 16 (zna cn1), zI K ma 320 (zna mg1), zI K la NL (zna g)]
              refine zj_iload F d_MC_make_32 0 rfl ?_
              refine zj_bipush (v := nI 16) F d_MC_make_34 (by decide) ?_
              refine zj_icmp_ge (tgt := 106) F d_MC_make_36 (by decide) (nI_leI (by omega) (by omega)) (fun h36b => ?_) (fun h36b => ?_)
              · refine zj_ldc (v := nI 32768) F d_MC_make_106 q_661 ?_
                refine zj_istore (L' := [(4, .int (nI 32768)), (0, .ref c), (1, .ref la), (2, .int (nI a)), (3, .int (nI n)), (5, .int (nI n))]) F d_MC_make_108 (by decide) rfl ?_
                refine zj_iconst (v := nI 1) F d_MC_make_110 (by decide) ?_
                refine zj_istore (L' := [(5, .int (nI 1)), (4, .int (nI 32768)), (0, .ref c), (1, .ref la), (2, .int (nI a)), (3, .int (nI n))]) F d_MC_make_111 (by decide) rfl ?_
                have hk1 := (keyL cn1 mg1 hc (fun l h1 h2 r hr => by
                  rw [e1 l (by omega)]
                  rw [hc l h1 h2] at hr
                  by_cases h3 : l = 15
                  · subst h3; exact j5 r hr
                  · exact j4 l h1 (by omega) r hr) 15 1 (by decide) (by decide))
                rw [show zsum cn1 1 = 0 from rfl, show nI 32768 - nI 0 = nI 32768 from by decide] at hk1
                exact zj_sub [2, 3, 4, 5, 1, 0] rfl hk1
              · exact absurd (by decide) h36b
            · exact absurd h45 (by omega)
          | succ q2 ih2 =>
            intro k cn1 mg1 k1 hJ
            have hgk := hg k (by omega)
            have hcl := hJ.2.1
            have hcm := zcnt_mono g a l (n - (k + 1)) (k + 1)
            rw [show k + 1 + (n - (k + 1)) = n by omega] at hcm
            have hzk : zcnt g a l (k + 1) = zcnt g a l k + if g (a + k) = l then 1 else 0 := rfl
            show zj G 0 0 42 [(0, .ref c), (1, .ref la), (2, .int (nI a)), (3, .int (nI n)), (4, .int (nI l)), (5, .int (nI k))] [] [zO c 5 [.ref ca, .ref ma, .int (nI (zbas (fun l => zcnt g a l n) l + zcnt g a l k))], zI K ca 16 (zna cn1), zI K ma 320 (zna mg1), zI K la NL (zna g)]
            refine zj_iload F d_MC_make_42 5 rfl ?_
            refine zj_iload_n F d_MC_make_44 3 rfl rfl ?_
            refine zj_icmp_ge (tgt := 100) F d_MC_make_45 (by decide) (nI_leI (by omega) (by omega)) (fun h45 => ?_) (fun h45 => ?_)
            · exact absurd h45 (by omega)
            · refine zj_aload_n F d_MC_make_48 1 rfl rfl ?_
              refine zj_iload_n F d_MC_make_49 2 rfl rfl ?_
              refine zj_iload F d_MC_make_50 5 rfl ?_
              refine zj_iadd F d_MC_make_52 (nI_add _ _) ?_
              refine zj_iald (z := nI (g (a + k))) F d_MC_make_53 3 1 (a + k) rfl rfl rfl (by omega) (by omega) rfl ?_
              refine zj_iload F d_MC_make_54 4 rfl ?_
              refine zj_icmp_eq (tgt := 62) F d_MC_make_56 (by decide) (nI_eq (by omega) (by omega)) (fun h56 => ?_) (fun h56 => ?_)
              · rw [if_pos h56] at hzk
                refine zj_aload_n F d_MC_make_62 0 rfl rfl ?_
                refine zj_get F d_MC_make_63 0 0 rfl rfl in_MC (by decide) q_537 rfl ?_
                refine zj_iload F d_MC_make_66 4 rfl ?_
                refine zj_dup2 F d_MC_make_68 rfl rfl ?_
                refine zj_iald (z := nI (cn1 l)) F d_MC_make_69 1 1 l rfl rfl rfl (by omega) (by omega) rfl ?_
                refine zj_iconst (v := nI 1) F d_MC_make_70 (by decide) ?_
                refine zj_iadd F d_MC_make_71 (nI_add _ _) ?_
                refine zj_iast (ws' := [zO c 5 [.ref ca, .ref ma, .int (nI (zbas (fun l => zcnt g a l n) l + zcnt g a l k))], zI K ca 16 (zna (va_up cn1 l (cn1 l + 1))), zI K ma 320 (zna mg1), zI K la NL (zna g)]) F d_MC_make_72 1 1 l rfl rfl rfl (by omega) (by omega) (by rw [zna_upd]; rfl) ?_
                refine zj_aload_n F d_MC_make_73 0 rfl rfl ?_
                refine zj_get F d_MC_make_74 0 1 rfl rfl in_MC (by decide) q_539 rfl ?_
                refine zj_aload_n F d_MC_make_77 0 rfl rfl ?_
                refine zj_get F d_MC_make_78 0 2 rfl rfl in_MC (by decide) q_541 rfl ?_
                refine zj_iload F d_MC_make_81 5 rfl ?_
                refine zj_iast (ws' := [zO c 5 [.ref ca, .ref ma, .int (nI (zbas (fun l => zcnt g a l n) l + zcnt g a l k))], zI K ca 16 (zna (va_up cn1 l (cn1 l + 1))), zI K ma 320 (zna (va_up mg1 (zbas (fun l => zcnt g a l n) l + zcnt g a l k) k)), zI K la NL (zna g)]) F d_MC_make_83 2 1 (zbas (fun l => zcnt g a l n) l + zcnt g a l k) rfl rfl rfl (by omega) (by omega) (by rw [zna_upd]; rfl) ?_
                refine zj_aload_n F d_MC_make_84 0 rfl rfl ?_
                refine zj_dup F d_MC_make_85 rfl ?_
                refine zj_get F d_MC_make_86 0 2 rfl rfl in_MC (by decide) q_541 rfl ?_
                refine zj_iconst (v := nI 1) F d_MC_make_89 (by decide) ?_
                refine zj_iadd F d_MC_make_90 (nI_add _ _) ?_
                refine zj_put (ws' := [zO c 5 [.ref ca, .ref ma, .int (nI ((zbas (fun l => zcnt g a l n) l + zcnt g a l k) + 1))], zI K ca 16 (zna (va_up cn1 l (cn1 l + 1))), zI K ma 320 (zna (va_up mg1 (zbas (fun l => zcnt g a l n) l + zcnt g a l k) k)), zI K la NL (zna g)]) F d_MC_make_91 0 2 rfl rfl in_MC ty_MC nm_MC (by decide) q_541 rfl rfl rfl (Nat.le_of_ble_eq_true rfl) rfl ?_
                refine zj_iinc (v := nI (k + 1)) (L' := [(5, .int (nI (k + 1))), (0, .ref c), (1, .ref la), (2, .int (nI a)), (3, .int (nI n)), (4, .int (nI l))]) F d_MC_make_94 5 rfl (nI_add _ _) (by decide) rfl ?_
                refine zj_goto F d_MC_make_97 (tgt := 42) (by decide) ?_
                have h7 := ih2 (k + 1) _ _ (by omega) (zJ_yes hJ h56)
                rw [hzk, ← Nat.add_assoc] at h7
                exact zj_sub [1, 2, 3, 4, 5, 0] rfl h7
              · rw [if_neg h56, Nat.add_zero] at hzk
                refine zj_goto F d_MC_make_59 (tgt := 94) (by decide) ?_
                refine zj_iinc (v := nI (k + 1)) (L' := [(5, .int (nI (k + 1))), (0, .ref c), (1, .ref la), (2, .int (nI a)), (3, .int (nI n)), (4, .int (nI l))]) F d_MC_make_94 5 rfl (nI_add _ _) (by decide) rfl ?_
                refine zj_goto F d_MC_make_97 (tgt := 42) (by decide) ?_
                have h7 := ih2 (k + 1) _ _ (by omega) (zJ_no hJ h56)
                rw [hzk] at h7
                exact zj_sub [1, 2, 3, 4, 5, 0] rfl h7
        exact zj_sub [1, 2, 3, 4, 5, 0] rfl (keyI n 0 cn1 mg1 (Nat.zero_add _) hJ)
    | succ q ih =>
      intro l cn1 mg1 l1 l2 hJ
      have hbz : zbas (fun l => zcnt g a l n) (l + 1) = zbas (fun l => zcnt g a l n) l + zcnt g a l n ∧ zbas (fun l => zcnt g a l n) (l + 1) ≤ zbas (fun l => zcnt g a l n) 16 := zbas_le (fun l => zcnt g a l n) l2 (by omega)
      have hbs := zbas_size g a 16 n
      show zj G 0 0 32 [(0, .ref c), (1, .ref la), (2, .int (nI a)), (3, .int (nI n)), (4, .int (nI l))] [] [zO c 5 [.ref ca, .ref ma, .int (nI (zbas (fun l => zcnt g a l n) l))], zI K ca 16 (zna cn1), zI K ma 320 (zna mg1), zI K la NL (zna g)]
      refine zj_iload F d_MC_make_32 4 rfl ?_
      refine zj_bipush (v := nI 16) F d_MC_make_34 (by decide) ?_
      refine zj_icmp_ge (tgt := 106) F d_MC_make_36 (by decide) (nI_leI (by omega) (by omega)) (fun h36 => ?_) (fun h36 => ?_)
      · exact absurd h36 (by omega)
      · refine zj_iconst (v := nI 0) F d_MC_make_39 (by decide) ?_
        refine zj_istore (L' := [(5, .int (nI 0)), (0, .ref c), (1, .ref la), (2, .int (nI a)), (3, .int (nI n)), (4, .int (nI l))]) F d_MC_make_40 (by decide) rfl ?_
        have keyI : ∀ q k (cn1 mg1 : Nat → Nat), k + q = n → zJ g a n l k cn1 mg1 → zj G 0 0 42 [(0, .ref c), (1, .ref la), (2, .int (nI a)), (3, .int (nI n)), (4, .int (nI l)), (5, .int (nI k))] [] [zO c 5 [.ref ca, .ref ma, .int (nI (zbas (fun l => zcnt g a l n) l + zcnt g a l k))], zI K ca 16 (zna cn1), zI K ma 320 (zna mg1), zI K la NL (zna g)] := by
          clear hJ cn1 mg1
          intro q2
          induction q2 with
          | zero =>
            intro k cn1 mg1 k1 hJ
            have k2 : n = k := by omega
            show zj G 0 0 42 [(0, .ref c), (1, .ref la), (2, .int (nI a)), (3, .int (nI n)), (4, .int (nI l)), (5, .int (nI k))] [] [zO c 5 [.ref ca, .ref ma, .int (nI (zbas (fun l => zcnt g a l n) l + zcnt g a l k))], zI K ca 16 (zna cn1), zI K ma 320 (zna mg1), zI K la NL (zna g)]
            refine zj_iload F d_MC_make_42 5 rfl ?_
            refine zj_iload_n F d_MC_make_44 3 rfl rfl ?_
            refine zj_icmp_ge (tgt := 100) F d_MC_make_45 (by decide) (nI_leI (by omega) (by omega)) (fun h45 => ?_) (fun h45 => ?_)
            · refine zj_iinc (v := nI (l + 1)) (L' := [(4, .int (nI (l + 1))), (0, .ref c), (1, .ref la), (2, .int (nI a)), (3, .int (nI n)), (5, .int (nI k))]) F d_MC_make_100 4 rfl (nI_add _ _) (by decide) rfl ?_
              refine zj_goto F d_MC_make_103 (tgt := 32) (by decide) ?_
              rw [← k2]
              rw [← k2] at hJ
              have hJ2 := (zJ_next hJ (by omega) l2).resolve_left (by omega)
              rw [← hbz.1]
              exact zj_sub [1, 2, 3, 4, 0] rfl (ih (l + 1) cn1 mg1 (by omega) (by omega) hJ2)
            · exact absurd h45 (by omega)
          | succ q2 ih2 =>
            intro k cn1 mg1 k1 hJ
            have hgk := hg k (by omega)
            have hcl := hJ.2.1
            have hcm := zcnt_mono g a l (n - (k + 1)) (k + 1)
            rw [show k + 1 + (n - (k + 1)) = n by omega] at hcm
            have hzk : zcnt g a l (k + 1) = zcnt g a l k + if g (a + k) = l then 1 else 0 := rfl
            show zj G 0 0 42 [(0, .ref c), (1, .ref la), (2, .int (nI a)), (3, .int (nI n)), (4, .int (nI l)), (5, .int (nI k))] [] [zO c 5 [.ref ca, .ref ma, .int (nI (zbas (fun l => zcnt g a l n) l + zcnt g a l k))], zI K ca 16 (zna cn1), zI K ma 320 (zna mg1), zI K la NL (zna g)]
            refine zj_iload F d_MC_make_42 5 rfl ?_
            refine zj_iload_n F d_MC_make_44 3 rfl rfl ?_
            refine zj_icmp_ge (tgt := 100) F d_MC_make_45 (by decide) (nI_leI (by omega) (by omega)) (fun h45 => ?_) (fun h45 => ?_)
            · exact absurd h45 (by omega)
            · refine zj_aload_n F d_MC_make_48 1 rfl rfl ?_
              refine zj_iload_n F d_MC_make_49 2 rfl rfl ?_
              refine zj_iload F d_MC_make_50 5 rfl ?_
              refine zj_iadd F d_MC_make_52 (nI_add _ _) ?_
              refine zj_iald (z := nI (g (a + k))) F d_MC_make_53 3 1 (a + k) rfl rfl rfl (by omega) (by omega) rfl ?_
              refine zj_iload F d_MC_make_54 4 rfl ?_
              refine zj_icmp_eq (tgt := 62) F d_MC_make_56 (by decide) (nI_eq (by omega) (by omega)) (fun h56 => ?_) (fun h56 => ?_)
              · rw [if_pos h56] at hzk
                refine zj_aload_n F d_MC_make_62 0 rfl rfl ?_
                refine zj_get F d_MC_make_63 0 0 rfl rfl in_MC (by decide) q_537 rfl ?_
                refine zj_iload F d_MC_make_66 4 rfl ?_
                refine zj_dup2 F d_MC_make_68 rfl rfl ?_
                refine zj_iald (z := nI (cn1 l)) F d_MC_make_69 1 1 l rfl rfl rfl (by omega) (by omega) rfl ?_
                refine zj_iconst (v := nI 1) F d_MC_make_70 (by decide) ?_
                refine zj_iadd F d_MC_make_71 (nI_add _ _) ?_
                refine zj_iast (ws' := [zO c 5 [.ref ca, .ref ma, .int (nI (zbas (fun l => zcnt g a l n) l + zcnt g a l k))], zI K ca 16 (zna (va_up cn1 l (cn1 l + 1))), zI K ma 320 (zna mg1), zI K la NL (zna g)]) F d_MC_make_72 1 1 l rfl rfl rfl (by omega) (by omega) (by rw [zna_upd]; rfl) ?_
                refine zj_aload_n F d_MC_make_73 0 rfl rfl ?_
                refine zj_get F d_MC_make_74 0 1 rfl rfl in_MC (by decide) q_539 rfl ?_
                refine zj_aload_n F d_MC_make_77 0 rfl rfl ?_
                refine zj_get F d_MC_make_78 0 2 rfl rfl in_MC (by decide) q_541 rfl ?_
                refine zj_iload F d_MC_make_81 5 rfl ?_
                refine zj_iast (ws' := [zO c 5 [.ref ca, .ref ma, .int (nI (zbas (fun l => zcnt g a l n) l + zcnt g a l k))], zI K ca 16 (zna (va_up cn1 l (cn1 l + 1))), zI K ma 320 (zna (va_up mg1 (zbas (fun l => zcnt g a l n) l + zcnt g a l k) k)), zI K la NL (zna g)]) F d_MC_make_83 2 1 (zbas (fun l => zcnt g a l n) l + zcnt g a l k) rfl rfl rfl (by omega) (by omega) (by rw [zna_upd]; rfl) ?_
                refine zj_aload_n F d_MC_make_84 0 rfl rfl ?_
                refine zj_dup F d_MC_make_85 rfl ?_
                refine zj_get F d_MC_make_86 0 2 rfl rfl in_MC (by decide) q_541 rfl ?_
                refine zj_iconst (v := nI 1) F d_MC_make_89 (by decide) ?_
                refine zj_iadd F d_MC_make_90 (nI_add _ _) ?_
                refine zj_put (ws' := [zO c 5 [.ref ca, .ref ma, .int (nI ((zbas (fun l => zcnt g a l n) l + zcnt g a l k) + 1))], zI K ca 16 (zna (va_up cn1 l (cn1 l + 1))), zI K ma 320 (zna (va_up mg1 (zbas (fun l => zcnt g a l n) l + zcnt g a l k) k)), zI K la NL (zna g)]) F d_MC_make_91 0 2 rfl rfl in_MC ty_MC nm_MC (by decide) q_541 rfl rfl rfl (Nat.le_of_ble_eq_true rfl) rfl ?_
                refine zj_iinc (v := nI (k + 1)) (L' := [(5, .int (nI (k + 1))), (0, .ref c), (1, .ref la), (2, .int (nI a)), (3, .int (nI n)), (4, .int (nI l))]) F d_MC_make_94 5 rfl (nI_add _ _) (by decide) rfl ?_
                refine zj_goto F d_MC_make_97 (tgt := 42) (by decide) ?_
                have h7 := ih2 (k + 1) _ _ (by omega) (zJ_yes hJ h56)
                rw [hzk, ← Nat.add_assoc] at h7
                exact zj_sub [1, 2, 3, 4, 5, 0] rfl h7
              · rw [if_neg h56, Nat.add_zero] at hzk
                refine zj_goto F d_MC_make_59 (tgt := 94) (by decide) ?_
                refine zj_iinc (v := nI (k + 1)) (L' := [(5, .int (nI (k + 1))), (0, .ref c), (1, .ref la), (2, .int (nI a)), (3, .int (nI n)), (4, .int (nI l))]) F d_MC_make_94 5 rfl (nI_add _ _) (by decide) rfl ?_
                refine zj_goto F d_MC_make_97 (tgt := 42) (by decide) ?_
                have h7 := ih2 (k + 1) _ _ (by omega) (zJ_no hJ h56)
                rw [hzk] at h7
                exact zj_sub [1, 2, 3, 4, 5, 0] rfl h7
        exact zj_sub [1, 2, 3, 4, 5, 0] rfl (keyI n 0 cn1 mg1 (Nat.zero_add _) hJ)
  refine zj_iconst (v := nI 0) F d_MC_make_0 (by decide) ?_
  refine zj_istore (L' := [(4, .int (nI 0)), (0, .ref c), (1, .ref la), (2, .int (nI a)), (3, .int (nI n))]) F d_MC_make_1 (by decide) rfl ?_
  have keyZ : ∀ i, i ≤ 16 → zj G 0 0 3 [(0, .ref c), (1, .ref la), (2, .int (nI a)), (3, .int (nI n)), (4, .int (nI i))] [] [zO c 5 [.ref ca, .ref ma, .int al], zI K ca 16 (zna (zpre (fun _ => 0) cn i)), zI K ma 320 (zna mg), zI K la NL (zna g)] := by
    refine zdown 16 ?_ ?_
    · show zj G 0 0 3 [(0, .ref c), (1, .ref la), (2, .int (nI a)), (3, .int (nI n)), (4, .int (nI 16))] [] [zO c 5 [.ref ca, .ref ma, .int al], zI K ca 16 (zna (zpre (fun _ => 0) cn 16)), zI K ma 320 (zna mg), zI K la NL (zna g)]
      refine zj_iload F d_MC_make_3 4 rfl ?_
      refine zj_bipush (v := nI 16) F d_MC_make_5 (by decide) ?_
      refine zj_icmp_ge (tgt := 24) F d_MC_make_7 (by decide) (nI_leI (by omega) (by omega)) (fun h7 => ?_) (fun h7 => ?_)
      · refine zj_aload_n F d_MC_make_24 0 rfl rfl ?_
        refine zj_iconst (v := nI 0) F d_MC_make_25 (by decide) ?_
        refine zj_put (ws' := [zO c 5 [.ref ca, .ref ma, .int (nI 0)], zI K ca 16 (zna (zpre (fun _ => 0) cn 16)), zI K ma 320 (zna mg), zI K la NL (zna g)]) F d_MC_make_26 0 2 rfl rfl in_MC ty_MC nm_MC (by decide) q_541 rfl rfl rfl (Nat.le_of_ble_eq_true rfl) rfl ?_
        refine zj_iconst (v := nI 1) F d_MC_make_29 (by decide) ?_
        refine zj_istore (L' := [(4, .int (nI 1)), (0, .ref c), (1, .ref la), (2, .int (nI a)), (3, .int (nI n))]) F d_MC_make_30 (by decide) rfl ?_
        have hJ0 : zJ g a n 1 0 (zpre (fun _ => 0) cn 16) mg := ⟨fun j h1 h2 => absurd h2 (by omega), zpre_lt (by decide), fun j h1 h2 => zpre_lt (by omega), fun j h1 h2 => absurd h2 (by omega), fun r hr => absurd (show r < 0 from hr) (by omega)⟩
        exact zj_sub [1, 2, 3, 4, 0] rfl (keyO 14 1 _ _ (by decide) (by decide) hJ0)
      · exact absurd (by decide) h7
    · intro i hi ih
      show zj G 0 0 3 [(0, .ref c), (1, .ref la), (2, .int (nI a)), (3, .int (nI n)), (4, .int (nI i))] [] [zO c 5 [.ref ca, .ref ma, .int al], zI K ca 16 (zna (zpre (fun _ => 0) cn i)), zI K ma 320 (zna mg), zI K la NL (zna g)]
      refine zj_iload F d_MC_make_3 4 rfl ?_
      refine zj_bipush (v := nI 16) F d_MC_make_5 (by decide) ?_
      refine zj_icmp_ge (tgt := 24) F d_MC_make_7 (by decide) (nI_leI (by omega) (by omega)) (fun h7 => ?_) (fun h7 => ?_)
      · exact absurd h7 (by omega)
      · refine zj_aload_n F d_MC_make_10 0 rfl rfl ?_
        refine zj_get F d_MC_make_11 0 0 rfl rfl in_MC (by decide) q_537 rfl ?_
        refine zj_iload F d_MC_make_14 4 rfl ?_
        refine zj_iconst (v := nI 0) F d_MC_make_16 (by decide) ?_
        refine zj_iast (ws' := [zO c 5 [.ref ca, .ref ma, .int al], zI K ca 16 (zna (zpre (fun _ => 0) cn (i + 1))), zI K ma 320 (zna mg), zI K la NL (zna g)]) F d_MC_make_17 1 1 i rfl rfl rfl (by omega) (by omega) (by rw [← zpre_up, ← zna_upd]; rfl) ?_
        refine zj_iinc (v := nI (i + 1)) (L' := [(4, .int (nI (i + 1))), (0, .ref c), (1, .ref la), (2, .int (nI a)), (3, .int (nI n))]) F d_MC_make_18 4 rfl (nI_add _ _) (by decide) rfl ?_
        refine zj_goto F d_MC_make_21 (tgt := 3) (by decide) ?_
        exact zj_sub [1, 2, 3, 4, 0] rfl ih
  have h0 := keyZ 0 (by decide)
  rw [zpre_0] at h0
  exact zj_sub [1, 2, 3, 4, 0] rfl h0
