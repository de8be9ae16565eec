/-! numbers: bits of small ints; a compare read as one of integers -/
theorem nI_and (a b : Nat) : nI a &&& nI b = nI (a &&& b) := by
  apply Int32.toBitVec_inj.1
  show BitVec.ofNat 32 a &&& BitVec.ofNat 32 b = BitVec.ofNat 32 (a &&& b)
  apply BitVec.eq_of_getLsbD_eq
  intro i hi
  simp [hi]
theorem nI_or (a b : Nat) : nI a ||| nI b = nI (a ||| b) := by
  apply Int32.toBitVec_inj.1
  show BitVec.ofNat 32 a ||| BitVec.ofNat 32 b = BitVec.ofNat 32 (a ||| b)
  apply BitVec.eq_of_getLsbD_eq
  intro i hi
  simp [hi]
theorem nI_xor (a b : Nat) : nI a ^^^ nI b = nI (a ^^^ b) := by
  apply Int32.toBitVec_inj.1
  show BitVec.ofNat 32 a ^^^ BitVec.ofNat 32 b = BitVec.ofNat 32 (a ^^^ b)
  apply BitVec.eq_of_getLsbD_eq
  intro i hi
  simp [hi]
theorem nI_m31 : ∀ n, n < 32 → ((nI n &&& 31).toBitVec.smod 32).toNat = n := by decide +kernel
theorem nI_u31 : ∀ n, n < 32 → (((nI n).toUInt32 &&& Int32.toUInt32 31).toBitVec % 32).toNat = n := by decide +kernel
theorem nI_shl {n : Nat} (hn : n < 32) (a : Nat) : nI a <<< (nI n &&& 31) = nI (a * 2 ^ n) := by
  apply Int32.toBitVec_inj.1
  rw [Int32.toBitVec_shiftLeft]
  show (BitVec.ofNat 32 a <<< ((nI n &&& 31).toBitVec.smod 32).toNat) = BitVec.ofNat 32 (a * 2 ^ n)
  rw [nI_m31 n hn]
  apply BitVec.eq_of_toNat_eq
  simp [Nat.shiftLeft_eq]
theorem nI_shr {n a : Nat} (hn : n < 32) (ha : a < 2 ^ 31) : nI a >>> (nI n &&& 31) = nI (a / 2 ^ n) := by
  apply Int32.toBitVec_inj.1
  rw [Int32.toBitVec_shiftRight]
  show (BitVec.ofNat 32 a).sshiftRight ((nI n &&& 31).toBitVec.smod 32).toNat = BitVec.ofNat 32 (a / 2 ^ n)
  rw [nI_m31 n hn]
  apply BitVec.eq_of_toNat_eq
  have hm : (BitVec.ofNat 32 a).msb = false := by
    rw [BitVec.msb_eq_false_iff_two_mul_lt, BitVec.toNat_ofNat, Nat.mod_eq_of_lt (by omega)]
    omega
  rw [BitVec.sshiftRight_eq_of_msb_false hm, BitVec.toNat_ushiftRight, BitVec.toNat_ofNat, BitVec.toNat_ofNat, Nat.mod_eq_of_lt (by omega), Nat.shiftRight_eq_div_pow]
  rw [Nat.mod_eq_of_lt]
  exact Nat.lt_of_le_of_lt (Nat.div_le_self _ _) (by omega)
theorem nI_ushr {n a : Nat} (hn : n < 32) (ha : a < 2 ^ 31) : ((nI a).toUInt32 >>> ((nI n).toUInt32 &&& Int32.toUInt32 31)).toInt32 = nI (a / 2 ^ n) := by
  apply Int32.toBitVec_inj.1
  show (BitVec.ofNat 32 a) >>> (((nI n).toUInt32 &&& Int32.toUInt32 31).toBitVec % 32).toNat = BitVec.ofNat 32 (a / 2 ^ n)
  rw [nI_u31 n hn]
  apply BitVec.eq_of_toNat_eq
  rw [BitVec.toNat_ushiftRight, BitVec.toNat_ofNat, BitVec.toNat_ofNat, Nat.mod_eq_of_lt (by omega), Nat.shiftRight_eq_div_pow, Nat.mod_eq_of_lt]
  exact Nat.lt_of_le_of_lt (Nat.div_le_self _ _) (by omega)
theorem nI_sub {a b : Nat} (h : b ≤ a) : nI a - nI b = nI (a - b) := pk_sub h
theorem i64 (c : Int32) : c.toInt64.toInt = c.toInt := Int32.toInt_toInt64 c
theorem lg_lt {a b : Int64} : lg_cmp a b < 0 ↔ a.toInt < b.toInt := by
  rw [← Int64.lt_iff_toInt_lt]
  unfold lg_cmp
  have h1 : a > b ↔ b.toInt < a.toInt := Int64.lt_iff_toInt_lt
  have h3 : a < b ↔ a.toInt < b.toInt := Int64.lt_iff_toInt_lt
  by_cases h : a > b
  · rw [if_pos h]; exact iff_of_false (by decide) (fun q => by rw [h3] at q; rw [h1] at h; omega)
  · rw [if_neg h]
    by_cases h2 : a = b
    · rw [if_pos h2]; subst h2; exact iff_of_false (by decide) (fun q => by rw [h3] at q; omega)
    · rw [if_neg h2]
      refine iff_of_true (by decide) (h3.mpr ?_)
      rw [h1] at h
      have : ¬ a.toInt = b.toInt := fun q => h2 (Int64.toInt_inj.mp q)
      omega
theorem lg_gt {a b : Int64} : 0 < lg_cmp a b ↔ b.toInt < a.toInt := by
  rw [← Int64.lt_iff_toInt_lt]
  unfold lg_cmp
  by_cases h : a > b
  · rw [if_pos h]; exact iff_of_true (by decide) h
  · rw [if_neg h]
    refine iff_of_false ?_ h
    by_cases h2 : a = b
    · rw [if_pos h2]; decide
    · rw [if_neg h2]; decide
theorem lg_eq {a b : Int64} : lg_cmp a b = 0 ↔ a.toInt = b.toInt := by
  constructor
  · intro h
    have h1 : ¬ lg_cmp a b < 0 := by rw [h]; decide
    have h2 : ¬ 0 < lg_cmp a b := by rw [h]; decide
    rw [lg_lt] at h1
    rw [lg_gt] at h2
    omega
  · intro h
    unfold lg_cmp
    have : a = b := Int64.toInt_inj.mp h
    subst this
    rw [if_neg (fun q => by have := Int64.lt_iff_toInt_lt.mp q; omega), if_pos rfl]
theorem lg_ge {a b : Int64} : 0 ≤ lg_cmp a b ↔ b.toInt ≤ a.toInt := by
  rw [← Int32.not_lt, lg_lt]
  omega
theorem lg_le {a b : Int64} : lg_cmp a b ≤ 0 ↔ a.toInt ≤ b.toInt := by
  rw [← Int32.not_lt, lg_gt]
  omega
theorem i_eqq {a b : Int32} : a = b ↔ a.toInt = b.toInt := Int32.toInt_inj.symm
theorem i_eq0 {a : Int32} : a = 0 ↔ a.toInt = 0 := i_eqq
theorem i_gt0 {a : Int32} : 0 < a ↔ 0 < a.toInt := Int32.lt_iff_toInt_lt
theorem i_le0 {a : Int32} : a ≤ 0 ↔ a.toInt ≤ 0 := Int32.le_iff_toInt_le
/-- a truth as an int -/
def bI (p : Prop) [Decidable p] : Int32 := if p then nI 1 else nI 0
theorem bI_t {p : Prop} [Decidable p] (h : p) : bI p = nI 1 := if_pos h
theorem bI_f {p : Prop} [Decidable p] (h : ¬ p) : bI p = nI 0 := if_neg h
theorem bI_ne {p : Prop} [Decidable p] : ¬ bI p = 0 ↔ p := by
  by_cases h : p
  · rw [bI_t h]; exact iff_of_true (by decide) h
  · rw [bI_f h]; exact iff_of_false (by decide) h
theorem bI_eq0 {p : Prop} [Decidable p] : bI p = 0 ↔ ¬ p := by
  by_cases h : p
  · rw [bI_t h]; exact iff_of_false (by decide) (fun q => q h)
  · rw [bI_f h]; exact iff_of_true (by decide) h
theorem bI_nar {p : Prop} [Decidable p] : narrow .boolean (.int (bI p)) = .int (bI p) := by
  by_cases h : p
  · rw [bI_t h]; rfl
  · rw [bI_f h]; rfl
theorem bI_congr {p q : Prop} [Decidable p] [Decidable q] (h : p ↔ q) : bI p = bI q := by
  by_cases hp : p
  · rw [bI_t hp, bI_t (h.mp hp)]
  · rw [bI_f hp, bI_f (fun z => hp (h.mpr z))]
/-- a note out of the bits -/
theorem pkTo_bound {f : Nat → Nat} : ∀ n, (∀ i, i < n → f i ≤ 6) → pkTo f n < 8 ^ n
  | 0, _ => Nat.zero_lt_one
  | n + 1, h => by
    have h1 := pkTo_bound n (fun i hi => h i (by omega))
    have h2 := h n (by omega)
    show pkTo f n + (f n + 1) * 8 ^ n < 8 ^ (n + 1)
    rw [Nat.pow_succ]
    have : (f n + 1) * 8 ^ n ≤ 7 * 8 ^ n := Nat.mul_le_mul_right _ (by omega)
    omega
theorem pkTo_get {f : Nat → Nat} {i : Nat} : ∀ n, i < n → (∀ i, i < n → f i ≤ 6) → pkTo f n / 8 ^ i % 8 = f i + 1
  | 0, h, _ => absurd h (by omega)
  | n + 1, hi, h => by
    show (pkTo f n + (f n + 1) * 8 ^ n) / 8 ^ i % 8 = f i + 1
    by_cases e : i = n
    · subst e
      have h1 := pkTo_bound i (fun j hj => h j (by omega))
      rw [Nat.add_mul_div_right _ _ (Nat.pow_pos (by decide)), Nat.div_eq_of_lt h1]
      have := h i (by omega)
      omega
    · have hlt : i < n := by omega
      have e2 : (f n + 1) * 8 ^ n = (f n + 1) * 8 ^ (n - i - 1) * 8 * 8 ^ i := by
        rw [Nat.mul_assoc, Nat.mul_assoc]
        congr 1
        rw [← Nat.pow_succ', ← Nat.pow_add]
        congr 1
        omega
      rw [e2, Nat.add_mul_div_right _ _ (Nat.pow_pos (by decide)), Nat.add_mul_mod_self_right]
      exact pkTo_get n hlt (fun j hj => h j (by omega))
