/-! packing: bits written, copies found: pure -/
theorem zI_xor (a b : Nat) : nI a ^^^ nI b = nI (a ^^^ b) := by
  apply zI_inj
  show (BitVec.ofNat 32 a ^^^ BitVec.ofNat 32 b) = BitVec.ofNat 32 (a ^^^ b)
  apply BitVec.eq_of_getLsbD_eq
  intro i hi
  simp [BitVec.getLsbD_xor, BitVec.getLsbD_ofNat, hi, Nat.testBit_xor]
/-- rows, bytes written, bits held, how many -/
abbrev zps := (Nat → Nat) × Nat × Nat × Nat
/-- whole bytes go out -/
def zdr (o : Nat → Nat) (w H C : Nat) : zps := if 8 ≤ C then zdr (va_up o w (H % 256)) (w + 1) (H / 256) (C - 8) else (o, w, H, C)
termination_by C
theorem zdr_lt {o : Nat → Nat} {w H C : Nat} (h : ¬ 8 ≤ C) : zdr o w H C = (o, w, H, C) := by rw [zdr, if_neg h]
theorem zdr_ge {o : Nat → Nat} {w H C : Nat} (h : 8 ≤ C) : zdr o w H C = zdr (va_up o w (H % 256)) (w + 1) (H / 256) (C - 8) := by rw [zdr, if_pos h]
def zput (s : zps) (v k : Nat) : zps := zdr s.1 s.2.1 (s.2.2.1 + v * 2 ^ s.2.2.2) (s.2.2.2 + k)
/-- what a state keeps -/
def zpk (s : zps) : Prop := s.2.2.2 < 8 ∧ s.2.2.1 < 2 ^ s.2.2.2 ∧ ∀ j, s.1 j < 256
theorem zdr_pow {H C : Nat} (h : 8 ≤ C) (hH : H < 2 ^ C) : H / 256 < 2 ^ (C - 8) := by
  rw [Nat.div_lt_iff_lt_mul (by decide), show (256 : Nat) = 2 ^ 8 from rfl, ← Nat.pow_add, Nat.sub_add_cancel h]
  exact hH
theorem zdr_ok : ∀ (C : Nat) (o : Nat → Nat) (w H : Nat), H < 2 ^ C → (∀ j, o j < 256) → zpk (zdr o w H C) ∧ w ≤ (zdr o w H C).2.1 := by
  intro C
  induction C using Nat.strongRecOn with
  | _ C ih =>
    intro o w H hH ho
    by_cases h : 8 ≤ C
    · rw [zdr_ge h]
      have h1 := ih (C - 8) (by omega) (va_up o w (H % 256)) (w + 1) (H / 256) (zdr_pow h hH) (zup_lt ho w (Nat.mod_lt _ (by decide)))
      exact ⟨h1.1, by have := h1.2; omega⟩
    · rw [zdr_lt h]
      exact ⟨⟨by show C < 8; omega, hH, ho⟩, Nat.le_refl _⟩
theorem zput_pow {h c v k : Nat} (hh : h < 2 ^ c) (hv : v < 2 ^ k) : h + v * 2 ^ c < 2 ^ (c + k) := by
  have h1 : v * 2 ^ c + 2 ^ c ≤ 2 ^ k * 2 ^ c := by
    rw [← Nat.succ_mul]
    exact Nat.mul_le_mul_right _ hv
  rw [Nat.pow_add, Nat.mul_comm (2 ^ c)]
  omega
theorem zput_ok {s : zps} {v k : Nat} (hs : zpk s) (hv : v < 2 ^ k) : zpk (zput s v k) ∧ s.2.1 ≤ (zput s v k).2.1 := zdr_ok _ _ _ _ (zput_pow hs.2.1 hv) hs.2.2
/-- two numbers are one -/
theorem zdr_put : ∀ (C : Nat) (o : Nat → Nat) (w H v k : Nat), zput (zdr o w H C) v k = zdr o w (H + v * 2 ^ C) (C + k) := by
  intro C
  induction C using Nat.strongRecOn with
  | _ C ih =>
    intro o w H v k
    by_cases h : 8 ≤ C
    · rw [zdr_ge h, ih (C - 8) (by omega), zdr_ge (show 8 ≤ C + k by omega)]
      have h1 : v * 2 ^ C = 256 * (v * 2 ^ (C - 8)) := by
        have : (2 : Nat) ^ C = 2 ^ (C - 8) * 256 := by rw [show (256 : Nat) = 2 ^ 8 from rfl, ← Nat.pow_add, Nat.sub_add_cancel h]
        rw [this, ← Nat.mul_assoc, Nat.mul_comm]
      rw [h1, Nat.add_mul_mod_self_left, Nat.add_mul_div_left _ _ (by decide), show C - 8 + k = C + k - 8 by omega]
    · rw [zdr_lt h]
      rfl
theorem zput_put (s : zps) (a m b k : Nat) : zput (zput s a m) b k = zput s (a + b * 2 ^ m) (m + k) := by
  unfold zput
  have h := zdr_put (s.2.2.2 + m) s.1 s.2.1 (s.2.2.1 + a * 2 ^ s.2.2.2) b k
  unfold zput at h
  rw [h, Nat.add_assoc, Nat.add_assoc, Nat.add_mul, Nat.pow_add]
  congr 2
  congr 1
  rw [Nat.mul_assoc, Nat.mul_comm (2 ^ m)]
/-- bits turned about -/
def ztu (c : Nat) : Nat → Nat
  | 0 => 0
  | i + 1 => 2 * ztu c i + c / 2 ^ i % 2
theorem ztu_lt (c : Nat) : ∀ k, ztu c k < 2 ^ k
  | 0 => Nat.one_pos
  | k + 1 => by
    have h := ztu_lt c k
    show 2 * ztu c k + c / 2 ^ k % 2 < 2 ^ (k + 1)
    rw [Nat.pow_succ]
    omega
/-- a literal, or a length's symbol, by the fixed codes -/
def zlitC (m : Nat) : Nat := if m < 144 then 48 + m else if m < 256 then 400 + m - 144 else if m < 280 then m - 256 else 192 + m - 280
def zlitB (m : Nat) : Nat := if m < 144 then 8 else if m < 256 then 9 else if m < 280 then 7 else 8
def zlit (s : zps) (m : Nat) : zps := zput s (ztu (zlitC m) (zlitB m)) (zlitB m)
theorem zlit_ok {s : zps} (m : Nat) (hs : zpk s) : zpk (zlit s m) ∧ s.2.1 ≤ (zlit s m).2.1 := zput_ok hs (ztu_lt _ _)
/-- the last base that is not above -/
def zlna (b : Nat → Nat) (v : Nat) : Nat → Nat → Nat
  | 0, i => i - 1
  | q + 1, i => if b i ≤ v then zlna b v q (i + 1) else i - 1
def zlnl (v : Nat) : Nat := zlna (ztab 0) v 28 1
def zlnd (v : Nat) : Nat := zlna (ztab 2) v 29 1
def zcpP (s : zps) (len dist : Nat) : zps :=
  zput (zput (zput (zlit s (257 + zlnl len)) (len - ztab 0 (zlnl len)) (ztab 1 (zlnl len))) (ztu (zlnd dist) 5) 5) (dist - ztab 2 (zlnd dist)) (ztab 3 (zlnd dist))
theorem zlnl_ok : ∀ v, v < 259 → 3 ≤ v → zlnl v < 29 ∧ ztab 0 (zlnl v) ≤ v ∧ v - ztab 0 (zlnl v) < 2 ^ ztab 1 (zlnl v) := by decide +kernel
theorem zlna_in (b : Nat → Nat) (v : Nat) : ∀ q i, 1 ≤ i → b (i - 1) ≤ v → zlna b v q i < i + q ∧ b (zlna b v q i) ≤ v ∧ (zlna b v q i + 1 < i + q → v < b (zlna b v q i + 1))
  | 0, i, h, hb => by
    refine ⟨by show i - 1 < i + 0; omega, hb, ?_⟩
    intro h1
    have h2 : i - 1 + 1 < i + 0 := h1
    omega
  | q + 1, i, h, hb => by
    unfold zlna
    by_cases h1 : b i ≤ v
    · rw [if_pos h1]
      have h2 := zlna_in b v q (i + 1) (by omega) h1
      exact ⟨by have := h2.1; omega, h2.2.1, fun h3 => h2.2.2 (by omega)⟩
    · rw [if_neg h1]
      refine ⟨by omega, hb, fun _ => ?_⟩
      rw [Nat.sub_add_cancel h]
      omega
theorem zlnd_tab : ∀ d, d < 29 → ztab 2 (d + 1) = ztab 2 d + 2 ^ ztab 3 d := by decide +kernel
theorem zlnd_ok {v : Nat} (h1 : 1 ≤ v) (h2 : v ≤ 4096) : zlnd v < 24 ∧ ztab 2 (zlnd v) ≤ v ∧ v - ztab 2 (zlnd v) < 2 ^ ztab 3 (zlnd v) := by
  have h := zlna_in (ztab 2) v 29 1 (by decide) h1
  have h3 : zlnd v < 30 := h.1
  have h4 : ztab 2 (zlnd v) ≤ v := h.2.1
  have h5 : zlnd v < 24 := by
    have hm : ∀ d, d < 30 → 24 ≤ d → 4097 ≤ ztab 2 d := by decide +kernel
    by_cases h6 : zlnd v < 24
    · exact h6
    · have := hm _ h3 (by omega)
      omega
  have h6 : v < ztab 2 (zlnd v + 1) := h.2.2 (by show zlnd v + 1 < 1 + 29; omega)
  rw [zlnd_tab _ (by omega)] at h6
  exact ⟨h5, h4, by omega⟩
theorem ztab_b5 : ∀ k, k < 29 → ztab 1 k ≤ 5 := fun k h => (ztab_len k h).1
theorem zcpP_ok {s : zps} {len dist : Nat} (hs : zpk s) (h1 : 3 ≤ len) (h2 : len ≤ 258) (h3 : 1 ≤ dist) (h4 : dist ≤ 4096) : zpk (zcpP s len dist) ∧ s.2.1 ≤ (zcpP s len dist).2.1 := by
  have a1 := zlit_ok (257 + zlnl len) hs
  have a2 := zput_ok a1.1 (zlnl_ok len (by omega) h1).2.2
  have a3 := zput_ok a2.1 (ztu_lt (zlnd dist) 5)
  have a4 := zput_ok a3.1 (zlnd_ok h3 h4).2.2
  exact ⟨a4.1, Nat.le_trans a1.2 (Nat.le_trans a2.2 (Nat.le_trans a3.2 a4.2))⟩
/-- in how many bytes two places agree -/
def zagF (t : Nat → Nat) (a b : Nat) : Nat → Nat → Nat
  | 0, i => i
  | q + 1, i => if t (a + i) = t (b + i) then zagF t a b q (i + 1) else i
def zagr (t : Nat → Nat) (a b m : Nat) : Nat := zagF t a b m 0
theorem zagF_le (t : Nat → Nat) (a b : Nat) : ∀ q i, i ≤ zagF t a b q i ∧ zagF t a b q i ≤ i + q ∧ (∀ j, i ≤ j → j < zagF t a b q i → t (a + j) = t (b + j)) ∧ (zagF t a b q i < i + q → t (a + zagF t a b q i) ≠ t (b + zagF t a b q i))
  | 0, i => ⟨Nat.le_refl _, Nat.le_refl _, fun j h1 h2 => absurd (show j < i from h2) (by omega), fun h => absurd (show i < i + 0 from h) (by omega)⟩
  | q + 1, i => by
    unfold zagF
    by_cases h : t (a + i) = t (b + i)
    · rw [if_pos h]
      have h1 := zagF_le t a b q (i + 1)
      refine ⟨by omega, by omega, ?_, fun h2 => h1.2.2.2 (by omega)⟩
      intro j h2 h3
      by_cases h4 : j = i
      · rw [h4]; exact h
      · exact h1.2.2.1 j (by omega) h3
    · rw [if_neg h]
      exact ⟨Nat.le_refl _, by omega, fun j h1 h2 => absurd h2 (by omega), fun _ => h⟩
theorem zagr_le (t : Nat → Nat) (a b m : Nat) : zagr t a b m ≤ m := by have := (zagF_le t a b m 0).2.1; unfold zagr; omega
theorem zagr_eq {t : Nat → Nat} {a b m j : Nat} (h : j < zagr t a b m) : t (a + j) = t (b + j) := (zagF_le t a b m 0).2.2.1 j (Nat.zero_le _) h
/-- the longest copy and its distance, of distances up to D: the nearest of the longest -/
def zfd (t : Nat → Nat) (p m : Nat) : Nat → Nat × Nat
  | 0 => (2, 0)
  | D + 1 => if (zfd t p m D).1 < zagr t (p - (D + 1)) p m then (zagr t (p - (D + 1)) p m, D + 1) else zfd t p m D
theorem zfd_s (t : Nat → Nat) (p m D : Nat) : zfd t p m (D + 1) = if (zfd t p m D).1 < zagr t (p - (D + 1)) p m then (zagr t (p - (D + 1)) p m, D + 1) else zfd t p m D := rfl
theorem zfd_ok (t : Nat → Nat) (p m : Nat) (hm : 3 ≤ m) : ∀ D, 2 ≤ (zfd t p m D).1 ∧ (zfd t p m D).1 ≤ m ∧ (zfd t p m D).2 ≤ D ∧ ((zfd t p m D).2 = 0 ↔ (zfd t p m D).1 = 2)
  | 0 => ⟨Nat.le_refl _, by show 2 ≤ m; omega, Nat.le_refl _, ⟨fun _ => rfl, fun _ => rfl⟩⟩
  | D + 1 => by
    have h := zfd_ok t p m hm D
    rw [zfd_s]
    by_cases h1 : (zfd t p m D).1 < zagr t (p - (D + 1)) p m
    · rw [if_pos h1]
      have h2 := zagr_le t (p - (D + 1)) p m
      refine ⟨by show 2 ≤ zagr t (p - (D + 1)) p m; omega, h2, Nat.le_refl _, ?_⟩
      constructor
      · intro h3; exact absurd h3 (by show ¬ (D + 1 = 0); omega)
      · intro h3; have h4 : zagr t (p - (D + 1)) p m = 2 := h3; omega
    · rw [if_neg h1]
      exact ⟨h.1, h.2.1, by omega, h.2.2.2⟩
theorem zfd_skip {t : Nat → Nat} {p m D : Nat} (hm : 3 ≤ m) : ∀ k, (∀ d, D < d → d ≤ D + k → zagr t (p - d) p m ≤ (zfd t p m D).1) → zfd t p m (D + k) = zfd t p m D
  | 0, _ => rfl
  | k + 1, h => by
    rw [← Nat.add_assoc, zfd_s, zfd_skip hm k (fun d h1 h2 => h d h1 (by omega))]
    rw [if_neg (by have := h (D + k + 1) (by omega) (by omega); omega)]
theorem zfd_skipT {t : Nat → Nat} {p m D E : Nat} (hm : 3 ≤ m) (hE : D ≤ E) (h : ∀ d, D < d → d ≤ E → zagr t (p - d) p m ≤ (zfd t p m D).1) : zfd t p m E = zfd t p m D := by
  have := zfd_skip (D := D) hm (E - D) (fun d h1 h2 => h d h1 (by omega))
  rwa [Nat.add_sub_cancel' hE] at this
def zmost (n p : Nat) : Nat := min 258 (n - p)
/-- the copy that is to be written at p: its length (0: none) and its distance -/
def zfind (t : Nat → Nat) (n p : Nat) : Nat × Nat :=
  if 3 ≤ zmost n p then (if (zfd t p (zmost n p) (min p 4096)).2 = 0 then 0 else (zfd t p (zmost n p) (min p 4096)).1, (zfd t p (zmost n p) (min p 4096)).2) else (0, 0)
theorem zfind_ok (t : Nat → Nat) (n p : Nat) : (zfind t n p).1 = 0 ∨ (3 ≤ (zfind t n p).1 ∧ (zfind t n p).1 ≤ 258 ∧ p + (zfind t n p).1 ≤ n ∧ 1 ≤ (zfind t n p).2 ∧ (zfind t n p).2 ≤ 4096) := by
  unfold zfind
  by_cases h : 3 ≤ zmost n p
  · rw [if_pos h]
    have h1 := zfd_ok t p (zmost n p) h (min p 4096)
    by_cases h2 : (zfd t p (zmost n p) (min p 4096)).2 = 0
    · left; exact if_pos h2
    · right
      dsimp only
      rw [if_neg h2]
      have h3 : zmost n p ≤ 258 := Nat.min_le_left _ _
      have h4 : zmost n p ≤ n - p := Nat.min_le_right _ _
      refine ⟨?_, by omega, by omega, by omega, by omega⟩
      by_cases h5 : (zfd t p (zmost n p) (min p 4096)).1 = 2
      · exact absurd (h1.2.2.2.mpr h5) h2
      · omega
  · rw [if_neg h]; left; rfl
/-- the last place before P whose mark is c, and 1; or 0 -/
def zlst (ch : Nat → Nat) (c : Nat) : Nat → Nat
  | 0 => 0
  | P + 1 => if ch P = c then P + 1 else zlst ch c P
theorem zlst_ok (ch : Nat → Nat) (c : Nat) : ∀ P, zlst ch c P ≤ P ∧ (1 ≤ zlst ch c P → ch (zlst ch c P - 1) = c) ∧ ∀ q, zlst ch c P ≤ q → q < P → ch q ≠ c
  | 0 => ⟨Nat.le_refl _, fun h => absurd (show 1 ≤ 0 from h) (by decide), fun q _ h => absurd h (by omega)⟩
  | P + 1 => by
    have h := zlst_ok ch c P
    unfold zlst
    by_cases h1 : ch P = c
    · rw [if_pos h1]
      exact ⟨Nat.le_refl _, fun _ => h1, fun q h2 h3 => absurd h2 (by omega)⟩
    · rw [if_neg h1]
      refine ⟨by omega, h.2.1, fun q h2 h3 => ?_⟩
      by_cases h4 : q = P
      · rw [h4]; exact h1
      · exact h.2.2 q h2 (by omega)
/-- a row of places, with -1 for none -/
def zm1 (g : Nat → Nat) : Nat → Int32 := fun i => nI (g i) - 1
theorem zI_m1 (a : Nat) : nI (a + 1) - 1 = nI a := by
  have h : nI (a + 1) - nI 1 = nI (a + 1 - 1) := pk_sub (by omega)
  exact h
theorem zm1_upd (g : Nat → Nat) (k a : Nat) : upd (zm1 g) k (nI a - 1) = zm1 (va_up g k a) := by
  funext j
  unfold upd zm1 va_up
  by_cases h : j = k
  · simp only [h, if_true]
  · simp only [h, if_false]
theorem zm1_upd1 (g : Nat → Nat) (k a : Nat) : upd (zm1 g) k (nI a) = zm1 (va_up g k (a + 1)) := by rw [← zI_m1, zm1_upd]
theorem zI_m1s {f : Nat} (h : 1 ≤ f) : nI f - 1 = nI (f - 1) := by
  have := zI_m1 (f - 1)
  rwa [Nat.sub_add_cancel h] at this
theorem zI_m1lt {f a : Nat} (hf : f < 2 ^ 31) (ha : a < 2 ^ 31) : nI f - 1 < nI a ↔ f < a + 1 := by
  by_cases h : 1 ≤ f
  · rw [zI_m1s h, nI_ltI (by omega) ha]
    omega
  · have h0 : f = 0 := by omega
    subst h0
    have h1 : nI 0 - 1 = (-1 : Int32) := by decide
    rw [h1]
    constructor
    · intro _; omega
    · intro _
      have h2 : (-1 : Int32) < 0 := by decide
      exact Int32.lt_of_lt_of_le h2 (nI_pos' ha)
/-- the marks of two places that agree in three bytes agree -/
theorem zlst_agr {t : Nat → Nat} {ch : Nat → Nat} (hch : ∀ a b, t a = t b → t (a + 1) = t (b + 1) → t (a + 2) = t (b + 2) → ch a = ch b) {a b m : Nat} (h : ch a ≠ ch b) : zagr t a b m ≤ 2 := by
  by_cases h1 : zagr t a b m ≤ 2
  · exact h1
  · exact absurd (hch a b (zagr_eq (m := m) (j := 0) (by omega)) (zagr_eq (m := m) (j := 1) (by omega)) (zagr_eq (m := m) (j := 2) (by omega))) h
/-- one step down a chain: f - 1 is looked at, f' is the next -/
theorem zfd_next {t : Nat → Nat} {ch : Nat → Nat} (hch : ∀ a b, t a = t b → t (a + 1) = t (b + 1) → t (a + 2) = t (b + 2) → ch a = ch b) {p m f : Nat} (hm : 3 ≤ m) (h1 : 1 ≤ f) (hf : f ≤ p) (hW : p - f < min p 4096) (hc : ch (f - 1) = ch p) :
    zfd t p m (min (p - zlst ch (ch p) (f - 1)) (min p 4096)) = zfd t p m (p - f + 1) := by
  have hz := zlst_ok ch (ch p) (f - 1)
  refine zfd_skipT hm (by omega) ?_
  intro d h2 h3
  have h4 := zlst_agr hch (m := m) (hz.2.2 (p - d) (by omega) (by omega))
  have h5 := (zfd_ok t p m hm (p - f + 1)).1
  omega
theorem zfd_first {t : Nat → Nat} {ch : Nat → Nat} (hch : ∀ a b, t a = t b → t (a + 1) = t (b + 1) → t (a + 2) = t (b + 2) → ch a = ch b) {p m : Nat} (hm : 3 ≤ m) : zfd t p m (min (p - zlst ch (ch p) p) (min p 4096)) = (2, 0) := by
  have hz := zlst_ok ch (ch p) p
  refine zfd_skipT (D := 0) hm (by omega) ?_
  intro d h2 h3
  exact zlst_agr hch (m := m) (hz.2.2 (p - d) (by omega) (by omega))
theorem zfd_full {t : Nat → Nat} {p m D E : Nat} (hm : 3 ≤ m) (hE : D ≤ E) (h : m ≤ (zfd t p m D).1) : zfd t p m E = zfd t p m D := zfd_skipT hm hE (fun d _ _ => Nat.le_trans (zagr_le t (p - d) p m) h)
/-- the tape is written -/
def zwt (t : Nat → Nat) (n : Nat) : Nat → Nat → zps → zps
  | 0, _, s => s
  | f + 1, p, s => if p < n then (if (zfind t n p).1 = 0 then zwt t n f (p + 1) (zlit s (t p)) else zwt t n f (p + (zfind t n p).1) (zcpP s (zfind t n p).1 (zfind t n p).2)) else s
theorem zwt_ok (t : Nat → Nat) (n : Nat) : ∀ f p s, zpk s → zpk (zwt t n f p s) ∧ s.2.1 ≤ (zwt t n f p s).2.1
  | 0, p, s, h => ⟨h, Nat.le_refl _⟩
  | f + 1, p, s, h => by
    unfold zwt
    by_cases h1 : p < n
    · rw [if_pos h1]
      by_cases h2 : (zfind t n p).1 = 0
      · rw [if_pos h2]
        have a := zlit_ok (t p) h
        have b := zwt_ok t n f (p + 1) _ a.1
        exact ⟨b.1, Nat.le_trans a.2 b.2⟩
      · rw [if_neg h2]
        have h3 := zfind_ok t n p
        have h4 : 3 ≤ (zfind t n p).1 ∧ (zfind t n p).1 ≤ 258 ∧ p + (zfind t n p).1 ≤ n ∧ 1 ≤ (zfind t n p).2 ∧ (zfind t n p).2 ≤ 4096 := h3.resolve_left h2
        have a := zcpP_ok h h4.1 h4.2.1 h4.2.2.2.1 h4.2.2.2.2
        have b := zwt_ok t n f (p + (zfind t n p).1) _ a.1
        exact ⟨b.1, Nat.le_trans a.2 b.2⟩
    · rw [if_neg h1]; exact ⟨h, Nat.le_refl _⟩
/-- the bits that are left -/
def zfl (s : zps) : (Nat → Nat) × Nat := if 0 < s.2.2.2 then (va_up s.1 s.2.1 s.2.2.1, s.2.1 + 1) else (s.1, s.2.1)
def zpS (o : Nat → Nat) : zps := zput (zput (va_up (va_up o 0 120) 1 1, 2, 0, 0) 1 1) 1 2
def zpE (t : Nat → Nat) (n : Nat) (o : Nat → Nat) : zps := zlit (zwt t n n 0 (zpS o)) 256
/-- what is packed -/
def zpack (t : Nat → Nat) (n : Nat) (o : Nat → Nat) : (Nat → Nat) × Nat := (zint (zfl (zpE t n o)).1 (zfl (zpE t n o)).2 (nI (zadl t n)), (zfl (zpE t n o)).2 + 4)
theorem zfl_ok {s : zps} (hs : zpk s) : (∀ j, (zfl s).1 j < 256) ∧ s.2.1 ≤ (zfl s).2 := by
  unfold zfl
  by_cases h : 0 < s.2.2.2
  · rw [if_pos h]
    have h1 : (2 : Nat) ^ s.2.2.2 ≤ 2 ^ 8 := Nat.pow_le_pow_right (by decide) (Nat.le_of_lt hs.1)
    have h2 := hs.2.1
    exact ⟨zup_lt hs.2.2 _ (by omega), Nat.le_succ _⟩
  · rw [if_neg h]; exact ⟨hs.2.2, Nat.le_refl _⟩
theorem zpS_ok {o : Nat → Nat} (ho : ∀ j, o j < 256) : zpk (zpS o) :=
  (zput_ok (zput_ok (s := (va_up (va_up o 0 120) 1 1, 2, 0, 0)) ⟨by show 0 < 8; decide, by show 0 < 2 ^ 0; decide, zup_lt (zup_lt ho 0 (by decide)) 1 (by decide)⟩ (by decide)).1 (by decide)).1
theorem zpE_ok {t o : Nat → Nat} {n : Nat} (ho : ∀ j, o j < 256) : zpk (zpE t n o) := (zlit_ok _ (zwt_ok t n n 0 _ (zpS_ok ho)).1).1
theorem zpack_ok {t o : Nat → Nat} {n : Nat} (ho : ∀ j, o j < 256) : ∀ j, (zpack t n o).1 j < 256 := zint_lt (zfl_ok (zpE_ok ho)).1 _ _
