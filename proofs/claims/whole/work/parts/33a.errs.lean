/-- what may come out of the data -/
def zuy {α : Type} (r : Except String α) : Prop := ∀ X, r = .error X → X = zU ∨ X = zY
theorem zuy_ok {α : Type} (a : α) : zuy (.ok a : Except String α) := fun X h => by cases h
theorem zuy_U {α : Type} : zuy (.error zU : Except String α) := fun X h => by cases h; exact Or.inl rfl
theorem zuy_Y {α : Type} : zuy (.error zY : Except String α) := fun X h => by cases h; exact Or.inr rfl
theorem zuy_of {α β : Type} {r : Except String α} {X : String} (h : zuy r) (e : r = .error X) : zuy (.error X : Except String β) := fun Y hY => by cases hY; exact h X e
theorem zsto_uy (t : Nat → Nat) (e : Nat) : ∀ n p o w, zuy (zsto t e n p o w)
  | 0, p, o, w => zuy_ok _
  | n + 1, p, o, w => by
    rw [zsto]
    split
    · split
      · exact zsto_uy t e n _ _ _
      · exact zuy_Y
    · exact zuy_U
theorem zcpy_uy (d : Nat) : ∀ n o w, zuy (zcpy d n o w)
  | 0, o, w => zuy_ok _
  | n + 1, o, w => by
    rw [zcpy]
    split
    · exact zcpy_uy d n _ _
    · exact zuy_Y
theorem zstb_uy (t : Nat → Nat) (e p : Nat) (o : Nat → Nat) (w : Nat) : zuy (zstb t e p o w) := by
  unfold zstb
  split
  · split
    · split
      · exact zsto_uy _ _ _ _ _ _
      · exact zuy_U
    · exact zuy_U
  · exact zuy_U
theorem zcop_uy (t : Nat → Nat) (e : Nat) (cd : Nat → Nat) (md : Nat → Nat → Nat) (kind p : Nat) (o : Nat → Nat) (w : Nat) : zuy (zcop t e cd md kind p o w) := by
  unfold zcop
  split
  · split
    · split
      · exact zuy_U
      · split
        · split
          · split
            · split
              · rename_i h
                exact zuy_of (zcpy_uy _ _ _ _) h
              · exact zuy_ok _
            · exact zuy_U
          · exact zuy_U
        · exact zuy_U
    · exact zuy_U
  · exact zuy_U
theorem zcod_uy (t : Nat → Nat) (e : Nat) (cl : Nat → Nat) (ml : Nat → Nat → Nat) (cd : Nat → Nat) (md : Nat → Nat → Nat) : ∀ f p o w, zuy (zcod t e cl ml cd md f p o w)
  | 0, p, o, w => zuy_ok _
  | f + 1, p, o, w => by
    have ih := zcod_uy t e cl ml cd md f
    rw [zcod_s]
    generalize zcod t e cl ml cd md f = k at ih ⊢
    unfold zcodS
    split
    · exact zuy_U
    · split
      · exact zuy_ok _
      · split
        · split
          · exact ih _ _ _
          · exact zuy_Y
        · split
          · rename_i h
            exact zuy_of (zcop_uy _ _ _ _ _ _ _ _) h
          · exact ih _ _ _
theorem zrunF_uy (t : Nat → Nat) (e sym h total p : Nat) (c : Nat → Nat) : zuy (zrunF t e sym h total p c) := by
  have hT : ∀ p v x, zuy (zrunT total h p c v x) := by
    intro p v x
    unfold zrunT
    split
    · exact zuy_ok _
    · exact zuy_U
  unfold zrunF
  split
  · exact zuy_U
  · split
    · split
      · exact hT _ _ _
      · exact zuy_U
    · split
      · split
        · exact hT _ _ _
        · exact zuy_U
      · split
        · exact hT _ _ _
        · exact zuy_U
theorem zlen_uy (t : Nat → Nat) (e : Nat) (cc : Nat → Nat) (mc : Nat → Nat → Nat) (total : Nat) : ∀ f p c h, zuy (zlen t e cc mc total f p c h)
  | 0, p, c, h => zuy_ok _
  | f + 1, p, c, h => by
    have ih := zlen_uy t e cc mc total f
    rw [zlen_s]
    generalize zlen t e cc mc total f = k at ih ⊢
    unfold zlenS
    split
    · split
      · exact zuy_U
      · split
        · exact ih _ _ _
        · split
          · rename_i h
            exact zuy_of (zrunF_uy _ _ _ _ _ _ _) h
          · exact ih _ _ _
    · exact zuy_ok _
theorem zlcF_uy (t : Nat → Nat) (e told p : Nat) : zuy (zlcF t e told p) := by
  unfold zlcF
  split
  · exact zuy_U
  · split
    · exact zuy_ok _
    · exact zuy_U
theorem ztoldE_uy (c : Nat → Nat) (L D p : Nat) : zuy (ztoldE c L D p) := by
  unfold ztoldE
  split
  · split
    · exact zuy_ok _
    · exact zuy_U
  · exact zuy_U
theorem ztold_uy (t : Nat → Nat) (e p : Nat) : zuy (ztold t e p) := by
  have hL : ∀ L D T p, zuy (ztoldL t e L D T p) := by
    intro L D T p
    unfold ztoldL
    split
    · split
      · rename_i h
        exact zuy_of (zlcF_uy _ _ _ _) h
      · split
        · rename_i h
          exact zuy_of (zlen_uy _ _ _ _ _ _ _ _ _) h
        · exact ztoldE_uy _ _ _ _
    · exact zuy_U
  unfold ztold
  split
  · split
    · split
      · exact hL _ _ _ _
      · exact zuy_U
    · exact zuy_U
  · exact zuy_U
theorem zblkB_uy (t : Nat → Nat) (e kind p : Nat) (o : Nat → Nat) (w : Nat) : zuy (zblkB t e kind p o w) := by
  unfold zblkB
  split
  · exact zstb_uy _ _ _ _ _
  · split
    · exact zcod_uy _ _ _ _ _ _ _ _ _ _
    · split
      · split
        · rename_i h
          exact zuy_of (ztold_uy _ _ _) h
        · exact zcod_uy _ _ _ _ _ _ _ _ _ _
      · exact zuy_U
theorem zblk_uy (t : Nat → Nat) (e : Nat) : ∀ f p o w, zuy (zblk t e f p o w)
  | 0, p, o, w => zuy_ok _
  | f + 1, p, o, w => by
    have ih := zblk_uy t e f
    rw [zblk_s]
    generalize zblk t e f = k at ih ⊢
    unfold zblkS
    split
    · split
      · split
        · rename_i h
          exact zuy_of (zblkB_uy _ _ _ _ _ _) h
        · split
          · exact zuy_ok _
          · exact ih _ _ _
      · exact zuy_U
    · exact zuy_U
theorem zhead_uy (t : Nat → Nat) (e p : Nat) : zuy (zhead t e p) := by
  unfold zhead
  split
  · split
    · split
      · exact zuy_ok _
      · exact zuy_U
    · exact zuy_U
  · exact zuy_U
theorem ztail_uy (t : Nat → Nat) (e p : Nat) (o : Nat → Nat) (w : Nat) : zuy (ztail t e p o w) := by
  unfold ztail
  split
  · split
    · exact zuy_ok _
    · exact zuy_U
  · exact zuy_U
theorem zunp_uy (t : Nat → Nat) (e : Nat) (o : Nat → Nat) : zuy (zunp t e o) := by
  have h2 := zblk_uy t e zfu
  generalize hk : zblk t e zfu = k at h2
  unfold zunp
  rw [hk]
  split
  · rename_i h
    exact zuy_of (zhead_uy _ _ _) h
  · split
    · rename_i h
      exact zuy_of (h2 _ _ _) h
    · split
      · rename_i h
        exact zuy_of (ztail_uy _ _ _ _ _) h
      · exact zuy_ok _
theorem zL_so {a b : Nat} (hb : b < 256) : (Int64.ofNat a <<< ((nI 8).toInt64 &&& 63)) ||| (nI b).toInt64 = Int64.ofNat (a * 256 + b) := by
  rw [zL_of (a := b) (by omega)]
  apply Int64.toBitVec_inj.mp
  show (BitVec.ofNat 64 a <<< (((nI 8).toInt64 &&& 63).toBitVec.smod 64)) ||| BitVec.ofNat 64 b = BitVec.ofNat 64 (a * 256 + b)
  rw [BitVec.shiftLeft_eq', zI_sh64 8 (by decide)]
  apply BitVec.eq_of_getLsbD_eq
  intro i hi
  have h1 : a * 256 + b = a <<< 8 ||| b := by
    rw [← Nat.shiftLeft_add_eq_or_of_lt (show b < 2 ^ 8 from hb), Nat.shiftLeft_eq]
  rw [h1]
  simp only [BitVec.getLsbD_or, BitVec.getLsbD_shiftLeft, BitVec.getLsbD_ofNat, Nat.testBit_or, Nat.testBit_shiftLeft, hi]
  by_cases h8 : i < 8
  · have h9 : ¬ 8 ≤ i := by omega
    simp [h8, h9]
  · have h9 : 8 ≤ i := by omega
    have h7 : i - 8 < 64 := by omega
    simp [h8, h9, h7]
