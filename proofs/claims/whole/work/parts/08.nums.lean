/-! numbers: bytes, bits, small laws of nI -/
theorem zI_eq0 {a : Nat} (h : a < 2 ^ 31) : nI a = 0 ↔ a = 0 := by rw [← nI_0]; exact nI_eq h (by decide)
theorem zI_lt0 {a : Nat} (h : a < 2 ^ 31) : nI a < 0 ↔ False := ⟨fun q => nI_pos h q, fun q => q.elim⟩
theorem zI_ge0 {a : Nat} (h : a < 2 ^ 31) : 0 ≤ nI a ↔ True := ⟨fun _ => trivial, fun _ => nI_pos' h⟩
theorem zI_gt0 {a : Nat} (h : a < 2 ^ 31) : 0 < nI a ↔ 0 < a := by rw [← nI_0]; exact nI_ltI (by decide) h
theorem zI_le0 {a : Nat} (h : a < 2 ^ 31) : nI a ≤ 0 ↔ a = 0 := by
  rw [← nI_0, nI_leI h (by decide)]
  omega
theorem zI_bv (a : Nat) : (nI a).toBitVec = BitVec.ofNat 32 a := rfl
theorem zI_inj {x y : Int32} (h : x.toBitVec = y.toBitVec) : x = y := Int32.toBitVec_inj.mp h
theorem zI_eq32 {a b : Nat} (ha : a < 2 ^ 32) (hb : b < 2 ^ 32) : nI a = nI b ↔ a = b := by
  constructor
  · intro h
    have this : (nI a).toBitVec.toNat = (nI b).toBitVec.toNat := by rw [h]
    rwa [pk_tn ha, pk_tn hb] at this
  · intro h; rw [h]
theorem zI_or (a b : Nat) : nI a ||| nI b = nI (a ||| b) := by
  apply zI_inj
  show (BitVec.ofNat 32 a ||| BitVec.ofNat 32 b) = BitVec.ofNat 32 (a ||| b)
  apply BitVec.eq_of_getLsbD_eq
  intro i hi
  simp [BitVec.getLsbD_or, BitVec.getLsbD_ofNat, hi, Nat.testBit_or]
theorem zI_orS {v i b : Nat} (hv : v < 2 ^ i) : v ||| b * 2 ^ i = v + b * 2 ^ i := by
  rw [Nat.or_comm, Nat.mul_comm, ← Nat.two_pow_add_eq_or_of_lt hv]
  omega
theorem zI_or2 {v b : Nat} (i : Nat) (hv : v < 2 ^ i) : nI v ||| nI (b * 2 ^ i) = nI (v + b * 2 ^ i) := by rw [zI_or, zI_orS hv]
theorem zI_or3 {v b : Nat} (i : Nat) (hv : v < 2 ^ i) : nI (b * 2 ^ i) ||| nI v = nI (b * 2 ^ i + v) := by rw [zI_or, Nat.or_comm, zI_orS hv, Nat.add_comm]
theorem zI_mod (a : Nat) : nI a = nI (a % 2 ^ 32) := by
  apply zI_inj
  show BitVec.ofNat 32 a = BitVec.ofNat 32 (a % 2 ^ 32)
  apply BitVec.eq_of_toNat_eq
  simp
theorem zI_sh : ∀ k, k < 32 → ((nI k &&& 31).toBitVec.smod 32).toNat = k := by decide +kernel
theorem zI_shl {a k : Nat} (hk : k < 32) : nI a <<< (nI k &&& 31) = nI (a * 2 ^ k) := by
  apply zI_inj
  apply BitVec.eq_of_toNat_eq
  rw [pk_shl _ _ k (zI_sh k hk)]
  simp [zI_bv, Nat.mod_mul_mod]
theorem zI_shr {a k : Nat} (ha : a < 2 ^ 31) (hk : k < 32) : nI a >>> (nI k &&& 31) = nI (a / 2 ^ k) := pk_shrN ha _ k (zI_sh k hk)
/-- bytes: an array of bytes that holds the numbers t -/
def zby (t : Nat → Nat) : Nat → Int32 := fun j => sb_b (t j)
def zlow (x : Int32) : Nat := x.toBitVec.toNat % 256
theorem zlow_lt (x : Int32) : zlow x < 256 := Nat.mod_lt _ (by decide)
theorem zlow_nI (a : Nat) : zlow (nI a) = a % 256 := by
  show (BitVec.ofNat 32 a).toNat % 256 = _
  rw [BitVec.toNat_ofNat]
  omega
theorem zby_nar (x : Int32) : vp_nar .byte x = sb_b (zlow x) := by
  rw [vp_nar_byte]
  show x.toInt8.toInt32 = (nI (zlow x)).toInt8.toInt32
  have h : x.toInt8 = (nI (zlow x)).toInt8 := by
    apply Int8.toBitVec_inj.mp
    show x.toBitVec.signExtend 8 = (nI (zlow x)).toBitVec.signExtend 8
    rw [BitVec.signExtend_eq_setWidth_of_le _ (by decide), BitVec.signExtend_eq_setWidth_of_le _ (by decide)]
    apply BitVec.eq_of_toNat_eq
    rw [BitVec.toNat_setWidth, BitVec.toNat_setWidth, zI_bv, BitVec.toNat_ofNat]
    show x.toBitVec.toNat % 2 ^ 8 = (x.toBitVec.toNat % 256 % 2 ^ 32) % 2 ^ 8
    omega
  rw [h]
theorem zby_upd (t : Nat → Nat) (k : Nat) (x : Int32) : upd (zby t) k (vp_nar .byte x) = zby (va_up t k (zlow x)) := by
  funext j
  unfold upd zby va_up
  by_cases h : j = k
  · simp only [h, if_true]; exact zby_nar x
  · simp only [h, if_false]
theorem zby_and {t : Nat → Nat} {j : Nat} (h : t j < 256) : zby t j &&& 255 = nI (t j) := (sb_byte _ h).1
theorem zby_lt {t : Nat → Nat} (h : ∀ j, t j < 256) (k : Nat) (x : Int32) : ∀ j, va_up t k (zlow x) j < 256 := by
  intro j
  unfold va_up
  by_cases hj : j = k
  · simp only [hj, if_true]; exact zlow_lt x
  · simp only [hj, if_false]; exact h j
theorem zbit_tab : ∀ c, c < 256 → ∀ r, r < 8 → (sb_b c >>> (nI r &&& 31)) &&& 1 = nI (c / 2 ^ r % 2) := by decide +kernel
/-- the bit with the number p -/
def zbit (t : Nat → Nat) (p : Nat) : Nat := t (p / 8) / 2 ^ (p % 8) % 2
theorem zbit_lt (t : Nat → Nat) (p : Nat) : zbit t p < 2 := Nat.mod_lt _ (by decide)
theorem zbit_and {t : Nat → Nat} {p : Nat} (h : t (p / 8) < 256) : (zby t (p / 8) >>> (nI (p % 8) &&& 31)) &&& 1 = nI (zbit t p) := zbit_tab _ h _ (Nat.mod_lt _ (by decide))
/-- n bits from p on, the lowest first -/
def znum (t : Nat → Nat) (p : Nat) : Nat → Nat
  | 0 => 0
  | n + 1 => znum t p n + zbit t (p + n) * 2 ^ n
theorem znum_lt (t : Nat → Nat) (p : Nat) : ∀ n, znum t p n < 2 ^ n
  | 0 => Nat.one_pos
  | n + 1 => by
    have h1 := znum_lt t p n
    have h2 := zbit_lt t (p + n)
    have h3 : zbit t (p + n) * 2 ^ n ≤ 1 * 2 ^ n := Nat.mul_le_mul_right _ (by omega)
    show znum t p n + zbit t (p + n) * 2 ^ n < 2 ^ (n + 1)
    rw [Nat.pow_succ]
    omega
theorem zI_and8 : ∀ a, a < 2 ^ 31 → nI a &&& (-8) = nI (a / 8 * 8) := by
  intro a ha
  apply zI_inj
  apply BitVec.eq_of_getLsbD_eq
  intro i hi
  show ((BitVec.ofNat 32 a) &&& (-8 : Int32).toBitVec).getLsbD i = (BitVec.ofNat 32 (a / 8 * 8)).getLsbD i
  have h8 : ∀ i, i < 32 → ((-8 : Int32).toBitVec).getLsbD i = decide (3 ≤ i) := by decide +kernel
  rw [BitVec.getLsbD_and, h8 i hi, BitVec.getLsbD_ofNat, BitVec.getLsbD_ofNat]
  have h1 : (a / 8 * 8).testBit i = (decide (3 ≤ i) && a.testBit i) := by
    have h2 : a / 8 * 8 = (a >>> 3) <<< 3 := by rw [Nat.shiftLeft_eq, Nat.shiftRight_eq_div_pow]
    rw [h2, Nat.testBit_shiftLeft, Nat.testBit_shiftRight]
    by_cases h3 : 3 ≤ i
    · rw [show 3 + (i - 3) = i by omega]
    · simp [h3]
  rw [h1]
  simp [hi]
  cases decide (3 ≤ i) <;> simp
theorem zdown {P : Nat → Prop} (N : Nat) (h0 : P N) (hs : ∀ i, i < N → P (i + 1) → P i) : ∀ i, i ≤ N → P i := by
  have key : ∀ d i, i + d = N → P i := by
    intro d
    induction d with
    | zero => intro i h; have : i = N := by omega
              subst this; exact h0
    | succ d ih => intro i h; exact hs i (by omega) (ih (i + 1) (by omega))
  intro i h
  exact key (N - i) i (by omega)
abbrev zU : String := "java/lang/UnsupportedOperationException"
abbrev zY : String := "java/lang/IndexOutOfBoundsException"
