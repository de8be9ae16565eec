/-! Likeness: how far two packed calls are apart -/
def spTo (b : Nat → Bool) : Nat → Nat
  | 0 => 0
  | n + 1 => spTo b n + (if b n = true then 1 else 0) * 8 ^ n
theorem spTo_lt (b : Nat → Bool) : ∀ n, spTo b n < 8 ^ n
  | 0 => by show 0 < 1; decide
  | n + 1 => by
    have := spTo_lt b n
    show spTo b n + (if b n = true then 1 else 0) * 8 ^ n < 8 ^ (n + 1)
    rw [Nat.pow_succ]
    split <;> omega
theorem spTo_bit (b : Nat → Bool) (p : Nat) : ∀ n, (spTo b n).testBit p = (decide (p % 3 = 0) && decide (p / 3 < n) && b (p / 3))
  | 0 => by simp [spTo]
  | n + 1 => by
    have ih := spTo_bit b p n
    have hl := spTo_lt b n
    show (spTo b n + (if b n = true then 1 else 0) * 8 ^ n).testBit p = _
    have e8 : 8 ^ n = 2 ^ (3 * n) := (p38 n).symm
    rw [e8] at hl ⊢
    rw [Nat.add_comm, Nat.mul_comm, Nat.testBit_two_pow_mul_add _ hl, ih]
    by_cases h : p < 3 * n
    · rw [if_pos h]
      have h1 : p / 3 < n := by omega
      have h2 : p / 3 < n + 1 := by omega
      simp [h1, h2]
    · rw [if_neg h]
      by_cases h3 : p = 3 * n
      · subst h3
        have h5 : 3 * n / 3 = n := by omega
        have h6 : 3 * n % 3 = 0 := by omega
        rw [h5, h6, Nat.sub_self]
        cases b n <;> simp
      · have h4 : ¬ (p % 3 = 0 ∧ p / 3 < n + 1) := by omega
        have h5 : (if b n = true then 1 else 0).testBit (p - 3 * n) = false := by
          have : 0 < p - 3 * n := by omega
          obtain ⟨m, hm⟩ : ∃ m, p - 3 * n = m + 1 := ⟨p - 3 * n - 1, by omega⟩
          rw [hm]
          cases b n <;> simp [Nat.testBit_succ]
        rw [h5]
        symm
        simp only [Bool.and_eq_false_iff, decide_eq_false_iff_not]
        by_cases q : p % 3 = 0
        · exact Or.inl (Or.inr (fun z => h4 ⟨q, z⟩))
        · exact Or.inl (Or.inl q)
def dst (x y : Nat) : Nat := cntTo (fun i => decide (¬ x / 8 ^ i % 8 = y / 8 ^ i % 8)) 8
theorem dig_bit (x i r : Nat) : (x / 8 ^ i % 8).testBit r = (decide (r < 3) && x.testBit (3 * i + r)) := by
  have e : x / 8 ^ i % 8 = x / 2 ^ (3 * i) % 2 ^ 3 := by rw [p38]
  rw [e, Nat.testBit_mod_two_pow, Nat.testBit_div_two_pow, Nat.add_comm]
theorem pk_bits (x y : Nat) : ((x ^^^ y) ||| (x ^^^ y) / 2 ^ 1 ||| (x ^^^ y) / 2 ^ 2) &&& 2396745 = spTo (fun i => decide (¬ x / 8 ^ i % 8 = y / 8 ^ i % 8)) 8 := by
  apply Nat.eq_of_testBit_eq
  intro p
  have hm : (2396745 : Nat) = spTo (fun _ => true) 8 := by decide +kernel
  rw [Nat.testBit_and, hm, spTo_bit, spTo_bit, Nat.testBit_or, Nat.testBit_or, Nat.testBit_div_two_pow, Nat.testBit_div_two_pow, Nat.testBit_xor, Nat.testBit_xor, Nat.testBit_xor]
  by_cases h : p % 3 = 0 ∧ p / 3 < 8
  · obtain ⟨h1, h2⟩ := h
    have hp : p = 3 * (p / 3) := by omega
    generalize p / 3 = i at hp h2
    subst hp
    have h3 : 3 * i % 3 = 0 := by omega
    have h4 : 3 * i / 3 = i := by omega
    simp only [h2, decide_true, Bool.and_true, Bool.true_and, h3]
    have key : (x / 8 ^ i % 8 = y / 8 ^ i % 8) ↔ (x.testBit (3 * i) = y.testBit (3 * i) ∧ x.testBit (3 * i + 1) = y.testBit (3 * i + 1) ∧ x.testBit (3 * i + 2) = y.testBit (3 * i + 2)) := by
      constructor
      · intro q
        have z : ∀ r, (x / 8 ^ i % 8).testBit r = (y / 8 ^ i % 8).testBit r := fun r => by rw [q]
        have z0 := z 0
        have z1 := z 1
        have z2 := z 2
        rw [dig_bit, dig_bit] at z0 z1 z2
        simp at z0 z1 z2
        exact ⟨z0, z1, z2⟩
      · rintro ⟨q0, q1, q2⟩
        apply Nat.eq_of_testBit_eq
        intro r
        rw [dig_bit, dig_bit]
        match r with
        | 0 => simp [q0]
        | 1 => simp [q1]
        | 2 => simp [q2]
        | r + 3 => rw [show decide (r + 3 < 3) = false from decide_eq_false (by omega)]; rfl
    cases hx0 : x.testBit (3 * i) <;> cases hy0 : y.testBit (3 * i) <;> cases hx1 : x.testBit (3 * i + 1) <;> cases hy1 : y.testBit (3 * i + 1) <;> cases hx2 : x.testBit (3 * i + 2) <;> cases hy2 : y.testBit (3 * i + 2) <;> simp [key, hx0, hy0, hx1, hy1, hx2, hy2]
  · have : (decide (p % 3 = 0) && decide (p / 3 < 8)) = false := by
      simp only [Bool.and_eq_false_iff, decide_eq_false_iff_not]
      by_cases q : p % 3 = 0
      · exact Or.inr (fun z => h ⟨q, z⟩)
      · exact Or.inl q
    rw [this]
    simp
def bcE (x0 : Int32) : Int32 :=
  let x1 := x0 - (((x0).toUInt32 >>> ((nI 1).toUInt32 &&& Int32.toUInt32 31)).toInt32 &&& nI 1431655765)
  let x2 := (x1 &&& nI 858993459) + (((x1).toUInt32 >>> ((nI 2).toUInt32 &&& Int32.toUInt32 31)).toInt32 &&& nI 858993459)
  let x3 := (x2 + ((x2).toUInt32 >>> ((nI 4).toUInt32 &&& Int32.toUInt32 31)).toInt32) &&& nI 252645135
  let x4 := x3 + ((x3).toUInt32 >>> ((nI 8).toUInt32 &&& Int32.toUInt32 31)).toInt32
  let x5 := x4 + ((x4).toUInt32 >>> ((nI 16).toUInt32 &&& Int32.toUInt32 31)).toInt32
  x5 &&& nI 63
theorem bc_all : ∀ b0 b1 b2 b3 b4 b5 b6 b7 : Bool, bcE (nI (0 + (if b0 = true then 1 else 0) * 8 ^ 0 + (if b1 = true then 1 else 0) * 8 ^ 1 + (if b2 = true then 1 else 0) * 8 ^ 2 + (if b3 = true then 1 else 0) * 8 ^ 3 + (if b4 = true then 1 else 0) * 8 ^ 4 + (if b5 = true then 1 else 0) * 8 ^ 5 + (if b6 = true then 1 else 0) * 8 ^ 6 + (if b7 = true then 1 else 0) * 8 ^ 7)) = nI (0 + (if b0 = true then 1 else 0) + (if b1 = true then 1 else 0) + (if b2 = true then 1 else 0) + (if b3 = true then 1 else 0) + (if b4 = true then 1 else 0) + (if b5 = true then 1 else 0) + (if b6 = true then 1 else 0) + (if b7 = true then 1 else 0)) := by decide +kernel
theorem bc_ok (b : Nat → Bool) : bcE (nI (spTo b 8)) = nI (cntTo b 8) := bc_all (b 0) (b 1) (b 2) (b 3) (b 4) (b 5) (b 6) (b 7)
theorem dst_le (x y : Nat) : dst x y ≤ 8 := cntTo_le _ _
theorem dst_self (x : Nat) : dst x x = 0 := by unfold dst; simp [cntTo, sumTo]
theorem oI_eq {o : Option Nat} {j n : Nat} (h : ∀ k, o = some k → k < n) (hn : n ≤ 100000) (hj : j < n) : nI j = oI o ↔ o = some j := by
  cases o with
  | none =>
    refine iff_of_false (fun q => ?_) (fun q => by cases q)
    have h2 : (nI j).toInt = (-1 : Int32).toInt := congrArg Int32.toInt q
    rw [nI_toInt (by omega)] at h2
    have h3 : (-1 : Int32).toInt = -1 := by decide
    omega
  | some k =>
    have := h k rfl
    show nI j = nI k ↔ _
    rw [nI_eq (by omega) (by omega)]
    constructor
    · rintro rfl; rfl
    · intro q; cases q; rfl
def clearB (V : Cv) (x d : Nat) (but : Option Nat) : Bool := allTo (fun c => decide (but = some c) || decide (d ≤ dst x (v_pk V c))) (v_nc V)
def sameV (V : Cv) (c d : Nat) : Nat := fstTo (fun i => !decide (v_nt V c i = v_nt V d i)) (min (v_sz V c) (v_sz V d))
/-- the digits of a number to base 5, n of them, the first the highest -/
def d5 (n x i : Nat) : Nat := x / 5 ^ (n - 1 - i) % 5
def rowP (n x : Nat) : Nat := pkTo (d5 n x) n
theorem d5_le (n x i : Nat) : d5 n x i ≤ 4 := by unfold d5; omega
theorem rowP_lt {n x : Nat} (hn : n ≤ 8) : rowP n x < 16777216 := Nat.lt_of_lt_of_le (pkTo_bound n (fun i _ => by have := d5_le n x i; omega)) (show 8 ^ n ≤ 8 ^ 8 from Nat.pow_le_pow_right (by decide) hn)
/-- the places from i on -/
def hiP (f : Nat → Nat) (n : Nat) : Nat → Nat
  | 0 => 0
  | k + 1 => hiP f n k + (f (n - 1 - k) + 1) * 8 ^ (n - 1 - k)
theorem hiP_pk (f : Nat → Nat) (n : Nat) : ∀ k, k ≤ n → hiP f n k + pkTo f (n - k) = pkTo f n
  | 0, _ => by simp [hiP]
  | k + 1, h => by
    have ih := hiP_pk f n k (by omega)
    obtain ⟨m, hm⟩ : ∃ m, n - k = m + 1 := ⟨n - k - 1, by omega⟩
    rw [hm] at ih
    have e1 : n - 1 - k = m := by omega
    have e2 : n - (k + 1) = m := by omega
    show hiP f n k + (f (n - 1 - k) + 1) * 8 ^ (n - 1 - k) + pkTo f (n - (k + 1)) = _
    rw [e1, e2]
    have : pkTo f (m + 1) = pkTo f m + (f m + 1) * 8 ^ m := rfl
    omega
theorem hiP_mul (f : Nat → Nat) (n : Nat) : ∀ k, k ≤ n → ∃ M, hiP f n k = M * 8 ^ (n - k)
  | 0, _ => ⟨0, by simp [hiP]⟩
  | k + 1, h => by
    obtain ⟨M, hM⟩ := hiP_mul f n k (by omega)
    have e1 : n - 1 - k = n - (k + 1) := by omega
    have e2 : n - k = n - (k + 1) + 1 := by omega
    refine ⟨M * 8 + (f (n - 1 - k) + 1), ?_⟩
    show hiP f n k + (f (n - 1 - k) + 1) * 8 ^ (n - 1 - k) = _
    rw [hM, e1, e2, Nat.pow_succ, Nat.add_mul, Nat.mul_comm (8 ^ (n - (k + 1))) 8, Nat.add_mul, Nat.mul_assoc, Nat.add_mul]
theorem hiP_or (f : Nat → Nat) (n k : Nat) (h : k < n) (hf : f (n - 1 - k) ≤ 4) : hiP f n k ||| (f (n - 1 - k) + 1) * 8 ^ (n - 1 - k) = hiP f n (k + 1) := by
  obtain ⟨M, hM⟩ := hiP_mul f n k (by omega)
  have e2 : n - k = n - 1 - k + 1 := by omega
  show _ = hiP f n k + _
  rw [hM, e2, Nat.or_comm, Nat.add_comm (M * _) _]
  have hlt : (f (n - 1 - k) + 1) * 8 ^ (n - 1 - k) < 8 ^ (n - 1 - k + 1) := by
    rw [Nat.pow_succ]
    have : (f (n - 1 - k) + 1) * 8 ^ (n - 1 - k) ≤ 5 * 8 ^ (n - 1 - k) := Nat.mul_le_mul_right _ (by omega)
    have := Nat.pow_pos (n := n - 1 - k) (show 0 < 8 by decide)
    omega
  exact or_pk hlt
theorem hiP_lt (f : Nat → Nat) (n k : Nat) (h : k ≤ n) (hn : n ≤ 8) (hf : ∀ i, f i ≤ 4) : hiP f n k < 16777216 := by
  have h1 := hiP_pk f n k h
  have h2 : pkTo f n < 8 ^ n := pkTo_bound n (fun i _ => by have := hf i; omega)
  have h3 : 8 ^ n ≤ 8 ^ 8 := Nat.pow_le_pow_right (by decide) hn
  have h4 : (8 : Nat) ^ 8 = 16777216 := by decide
  omega
theorem down1 {m : Nat} (h : 0 < m) : (nI m - nI 1) + Int32.ofInt (-1) = nI (m - 1) - nI 1 := by
  obtain ⟨k, rfl⟩ : ∃ k, m = k + 1 := ⟨m - 1, by omega⟩
  rw [Nat.add_sub_cancel, ← nI_1 k]
  show nI k + 1 - nI 1 + (-1) = nI k - nI 1
  rw [show nI 1 = (1 : Int32) from rfl, Int32.add_sub_cancel, Int32.sub_eq_add_neg]
theorem sub1_neg {m : Nat} (h : m ≤ 100) : nI m - nI 1 < 0 ↔ m = 0 := by
  rw [i_neg, pk_sub_toInt (by omega) (by omega)]
  omega
theorem p5_le {n : Nat} (h : n ≤ 5) : 5 ^ n ≤ 3125 := Nat.le_trans (Nat.pow_le_pow_right (by decide) h) (by decide)
set_option maxRecDepth 20000 in
theorem t_bitCount {g : Ev} {S : St} {iv : IV} {lw : LW} {b : Nat → Bool} : CP g mJ6_bitCount_0f7a4 [.int (nI (spTo b 8))] S iv lw (.int (nI (cntTo b 8))) := by
  refine CT_ofQF rfl (by decide +kernel) (Nat.le_of_ble_eq_true rfl) (lv := [(0, .int (nI (spTo b 8)))]) rfl (fun Q hQ => ?_)
  refine V_iload_n (i := 0) dJ6_bitCount_0f7a4_0 rfl 0 rfl ?_
  refine V_iload_n (i := 0) dJ6_bitCount_0f7a4_1 rfl 0 rfl ?_
  refine V_iconst (v := nI 1) dJ6_bitCount_0f7a4_2 rfl ?_
  refine V_iushr dJ6_bitCount_0f7a4_3 ?_
  refine V_ldcw (v := nI 1431655765) dJ6_bitCount_0f7a4_4 mw_747 ?_
  refine V_iand dJ6_bitCount_0f7a4_7 ?_
  refine V_isub dJ6_bitCount_0f7a4_8 ?_
  refine V_istore_n (lv2 := [(0, .int ((nI (spTo b 8) - (((nI (spTo b 8)).toUInt32 >>> ((nI 1).toUInt32 &&& Int32.toUInt32 31)).toInt32 &&& nI 1431655765))))]) dJ6_bitCount_0f7a4_9 rfl (by decide) rfl ?_
  refine V_iload_n (i := 0) dJ6_bitCount_0f7a4_10 rfl 0 rfl ?_
  refine V_ldcw (v := nI 858993459) dJ6_bitCount_0f7a4_11 mw_748 ?_
  refine V_iand dJ6_bitCount_0f7a4_14 ?_
  refine V_iload_n (i := 0) dJ6_bitCount_0f7a4_15 rfl 0 rfl ?_
  refine V_iconst (v := nI 2) dJ6_bitCount_0f7a4_16 rfl ?_
  refine V_iushr dJ6_bitCount_0f7a4_17 ?_
  refine V_ldcw (v := nI 858993459) dJ6_bitCount_0f7a4_18 mw_748 ?_
  refine V_iand dJ6_bitCount_0f7a4_21 ?_
  refine V_iadd dJ6_bitCount_0f7a4_22 ?_
  refine V_istore_n (lv2 := [(0, .int ((((nI (spTo b 8) - (((nI (spTo b 8)).toUInt32 >>> ((nI 1).toUInt32 &&& Int32.toUInt32 31)).toInt32 &&& nI 1431655765)) &&& nI 858993459) + ((((nI (spTo b 8) - (((nI (spTo b 8)).toUInt32 >>> ((nI 1).toUInt32 &&& Int32.toUInt32 31)).toInt32 &&& nI 1431655765))).toUInt32 >>> ((nI 2).toUInt32 &&& Int32.toUInt32 31)).toInt32 &&& nI 858993459))))]) dJ6_bitCount_0f7a4_23 rfl (by decide) rfl ?_
  refine V_iload_n (i := 0) dJ6_bitCount_0f7a4_24 rfl 0 rfl ?_
  refine V_iload_n (i := 0) dJ6_bitCount_0f7a4_25 rfl 0 rfl ?_
  refine V_iconst (v := nI 4) dJ6_bitCount_0f7a4_26 rfl ?_
  refine V_iushr dJ6_bitCount_0f7a4_27 ?_
  refine V_iadd dJ6_bitCount_0f7a4_28 ?_
  refine V_ldcw (v := nI 252645135) dJ6_bitCount_0f7a4_29 mw_749 ?_
  refine V_iand dJ6_bitCount_0f7a4_32 ?_
  refine V_istore_n (lv2 := [(0, .int ((((((nI (spTo b 8) - (((nI (spTo b 8)).toUInt32 >>> ((nI 1).toUInt32 &&& Int32.toUInt32 31)).toInt32 &&& nI 1431655765)) &&& nI 858993459) + ((((nI (spTo b 8) - (((nI (spTo b 8)).toUInt32 >>> ((nI 1).toUInt32 &&& Int32.toUInt32 31)).toInt32 &&& nI 1431655765))).toUInt32 >>> ((nI 2).toUInt32 &&& Int32.toUInt32 31)).toInt32 &&& nI 858993459)) + (((((nI (spTo b 8) - (((nI (spTo b 8)).toUInt32 >>> ((nI 1).toUInt32 &&& Int32.toUInt32 31)).toInt32 &&& nI 1431655765)) &&& nI 858993459) + ((((nI (spTo b 8) - (((nI (spTo b 8)).toUInt32 >>> ((nI 1).toUInt32 &&& Int32.toUInt32 31)).toInt32 &&& nI 1431655765))).toUInt32 >>> ((nI 2).toUInt32 &&& Int32.toUInt32 31)).toInt32 &&& nI 858993459))).toUInt32 >>> ((nI 4).toUInt32 &&& Int32.toUInt32 31)).toInt32) &&& nI 252645135)))]) dJ6_bitCount_0f7a4_33 rfl (by decide) rfl ?_
  refine V_iload_n (i := 0) dJ6_bitCount_0f7a4_34 rfl 0 rfl ?_
  refine V_iload_n (i := 0) dJ6_bitCount_0f7a4_35 rfl 0 rfl ?_
  refine V_bipush (v := nI 8) dJ6_bitCount_0f7a4_36 rfl ?_
  refine V_iushr dJ6_bitCount_0f7a4_38 ?_
  refine V_iadd dJ6_bitCount_0f7a4_39 ?_
  refine V_istore_n (lv2 := [(0, .int (((((((nI (spTo b 8) - (((nI (spTo b 8)).toUInt32 >>> ((nI 1).toUInt32 &&& Int32.toUInt32 31)).toInt32 &&& nI 1431655765)) &&& nI 858993459) + ((((nI (spTo b 8) - (((nI (spTo b 8)).toUInt32 >>> ((nI 1).toUInt32 &&& Int32.toUInt32 31)).toInt32 &&& nI 1431655765))).toUInt32 >>> ((nI 2).toUInt32 &&& Int32.toUInt32 31)).toInt32 &&& nI 858993459)) + (((((nI (spTo b 8) - (((nI (spTo b 8)).toUInt32 >>> ((nI 1).toUInt32 &&& Int32.toUInt32 31)).toInt32 &&& nI 1431655765)) &&& nI 858993459) + ((((nI (spTo b 8) - (((nI (spTo b 8)).toUInt32 >>> ((nI 1).toUInt32 &&& Int32.toUInt32 31)).toInt32 &&& nI 1431655765))).toUInt32 >>> ((nI 2).toUInt32 &&& Int32.toUInt32 31)).toInt32 &&& nI 858993459))).toUInt32 >>> ((nI 4).toUInt32 &&& Int32.toUInt32 31)).toInt32) &&& nI 252645135) + (((((((nI (spTo b 8) - (((nI (spTo b 8)).toUInt32 >>> ((nI 1).toUInt32 &&& Int32.toUInt32 31)).toInt32 &&& nI 1431655765)) &&& nI 858993459) + ((((nI (spTo b 8) - (((nI (spTo b 8)).toUInt32 >>> ((nI 1).toUInt32 &&& Int32.toUInt32 31)).toInt32 &&& nI 1431655765))).toUInt32 >>> ((nI 2).toUInt32 &&& Int32.toUInt32 31)).toInt32 &&& nI 858993459)) + (((((nI (spTo b 8) - (((nI (spTo b 8)).toUInt32 >>> ((nI 1).toUInt32 &&& Int32.toUInt32 31)).toInt32 &&& nI 1431655765)) &&& nI 858993459) + ((((nI (spTo b 8) - (((nI (spTo b 8)).toUInt32 >>> ((nI 1).toUInt32 &&& Int32.toUInt32 31)).toInt32 &&& nI 1431655765))).toUInt32 >>> ((nI 2).toUInt32 &&& Int32.toUInt32 31)).toInt32 &&& nI 858993459))).toUInt32 >>> ((nI 4).toUInt32 &&& Int32.toUInt32 31)).toInt32) &&& nI 252645135)).toUInt32 >>> ((nI 8).toUInt32 &&& Int32.toUInt32 31)).toInt32)))]) dJ6_bitCount_0f7a4_40 rfl (by decide) rfl ?_
  refine V_iload_n (i := 0) dJ6_bitCount_0f7a4_41 rfl 0 rfl ?_
  refine V_iload_n (i := 0) dJ6_bitCount_0f7a4_42 rfl 0 rfl ?_
  refine V_bipush (v := nI 16) dJ6_bitCount_0f7a4_43 rfl ?_
  refine V_iushr dJ6_bitCount_0f7a4_45 ?_
  refine V_iadd dJ6_bitCount_0f7a4_46 ?_
  refine V_istore_n (lv2 := [(0, .int ((((((((nI (spTo b 8) - (((nI (spTo b 8)).toUInt32 >>> ((nI 1).toUInt32 &&& Int32.toUInt32 31)).toInt32 &&& nI 1431655765)) &&& nI 858993459) + ((((nI (spTo b 8) - (((nI (spTo b 8)).toUInt32 >>> ((nI 1).toUInt32 &&& Int32.toUInt32 31)).toInt32 &&& nI 1431655765))).toUInt32 >>> ((nI 2).toUInt32 &&& Int32.toUInt32 31)).toInt32 &&& nI 858993459)) + (((((nI (spTo b 8) - (((nI (spTo b 8)).toUInt32 >>> ((nI 1).toUInt32 &&& Int32.toUInt32 31)).toInt32 &&& nI 1431655765)) &&& nI 858993459) + ((((nI (spTo b 8) - (((nI (spTo b 8)).toUInt32 >>> ((nI 1).toUInt32 &&& Int32.toUInt32 31)).toInt32 &&& nI 1431655765))).toUInt32 >>> ((nI 2).toUInt32 &&& Int32.toUInt32 31)).toInt32 &&& nI 858993459))).toUInt32 >>> ((nI 4).toUInt32 &&& Int32.toUInt32 31)).toInt32) &&& nI 252645135) + (((((((nI (spTo b 8) - (((nI (spTo b 8)).toUInt32 >>> ((nI 1).toUInt32 &&& Int32.toUInt32 31)).toInt32 &&& nI 1431655765)) &&& nI 858993459) + ((((nI (spTo b 8) - (((nI (spTo b 8)).toUInt32 >>> ((nI 1).toUInt32 &&& Int32.toUInt32 31)).toInt32 &&& nI 1431655765))).toUInt32 >>> ((nI 2).toUInt32 &&& Int32.toUInt32 31)).toInt32 &&& nI 858993459)) + (((((nI (spTo b 8) - (((nI (spTo b 8)).toUInt32 >>> ((nI 1).toUInt32 &&& Int32.toUInt32 31)).toInt32 &&& nI 1431655765)) &&& nI 858993459) + ((((nI (spTo b 8) - (((nI (spTo b 8)).toUInt32 >>> ((nI 1).toUInt32 &&& Int32.toUInt32 31)).toInt32 &&& nI 1431655765))).toUInt32 >>> ((nI 2).toUInt32 &&& Int32.toUInt32 31)).toInt32 &&& nI 858993459))).toUInt32 >>> ((nI 4).toUInt32 &&& Int32.toUInt32 31)).toInt32) &&& nI 252645135)).toUInt32 >>> ((nI 8).toUInt32 &&& Int32.toUInt32 31)).toInt32) + ((((((((nI (spTo b 8) - (((nI (spTo b 8)).toUInt32 >>> ((nI 1).toUInt32 &&& Int32.toUInt32 31)).toInt32 &&& nI 1431655765)) &&& nI 858993459) + ((((nI (spTo b 8) - (((nI (spTo b 8)).toUInt32 >>> ((nI 1).toUInt32 &&& Int32.toUInt32 31)).toInt32 &&& nI 1431655765))).toUInt32 >>> ((nI 2).toUInt32 &&& Int32.toUInt32 31)).toInt32 &&& nI 858993459)) + (((((nI (spTo b 8) - (((nI (spTo b 8)).toUInt32 >>> ((nI 1).toUInt32 &&& Int32.toUInt32 31)).toInt32 &&& nI 1431655765)) &&& nI 858993459) + ((((nI (spTo b 8) - (((nI (spTo b 8)).toUInt32 >>> ((nI 1).toUInt32 &&& Int32.toUInt32 31)).toInt32 &&& nI 1431655765))).toUInt32 >>> ((nI 2).toUInt32 &&& Int32.toUInt32 31)).toInt32 &&& nI 858993459))).toUInt32 >>> ((nI 4).toUInt32 &&& Int32.toUInt32 31)).toInt32) &&& nI 252645135) + (((((((nI (spTo b 8) - (((nI (spTo b 8)).toUInt32 >>> ((nI 1).toUInt32 &&& Int32.toUInt32 31)).toInt32 &&& nI 1431655765)) &&& nI 858993459) + ((((nI (spTo b 8) - (((nI (spTo b 8)).toUInt32 >>> ((nI 1).toUInt32 &&& Int32.toUInt32 31)).toInt32 &&& nI 1431655765))).toUInt32 >>> ((nI 2).toUInt32 &&& Int32.toUInt32 31)).toInt32 &&& nI 858993459)) + (((((nI (spTo b 8) - (((nI (spTo b 8)).toUInt32 >>> ((nI 1).toUInt32 &&& Int32.toUInt32 31)).toInt32 &&& nI 1431655765)) &&& nI 858993459) + ((((nI (spTo b 8) - (((nI (spTo b 8)).toUInt32 >>> ((nI 1).toUInt32 &&& Int32.toUInt32 31)).toInt32 &&& nI 1431655765))).toUInt32 >>> ((nI 2).toUInt32 &&& Int32.toUInt32 31)).toInt32 &&& nI 858993459))).toUInt32 >>> ((nI 4).toUInt32 &&& Int32.toUInt32 31)).toInt32) &&& nI 252645135)).toUInt32 >>> ((nI 8).toUInt32 &&& Int32.toUInt32 31)).toInt32)).toUInt32 >>> ((nI 16).toUInt32 &&& Int32.toUInt32 31)).toInt32)))]) dJ6_bitCount_0f7a4_47 rfl (by decide) rfl ?_
  refine V_iload_n (i := 0) dJ6_bitCount_0f7a4_48 rfl 0 rfl ?_
  refine V_bipush (v := nI 63) dJ6_bitCount_0f7a4_49 rfl ?_
  refine V_iand dJ6_bitCount_0f7a4_51 ?_
  refine V_iret dJ6_bitCount_0f7a4_52 ⟨rfl, rfl⟩ (Nat.zero_le _) (Nat.zero_le _) ?_
  subst hQ
  exact ⟨congrArg (fun z => some (Value.int z)) (bc_ok b), rfl⟩
set_option maxRecDepth 20000 in
theorem t_distance {g : Ev} {S : St} {iv : IV} {lw : LW} {x y : Nat} (hx : x < 16777216) (hy : y < 16777216) : CP g mX4_distance [.int (nI x), .int (nI y)] S iv lw (.int (nI (dst x y))) := by
  refine CT_ofQ rfl (by decide) (Nat.le_of_ble_eq_true rfl) (lv := [(0, .int (nI x)), (1, .int (nI y))]) rfl (fun Q hQ => ?_)
  have hxy : x ^^^ y < 2 ^ 24 := Nat.xor_lt_two_pow hx hy
  refine V_iload_n (i := 0) dX4_distance_0 rfl 0 rfl ?_
  refine V_iload_n (i := 1) dX4_distance_1 rfl 1 rfl ?_
  refine V_ixor dX4_distance_2 ?_
  refine M_top (x2 := nI (x ^^^ y)) (nI_xor _ _) ?_
  refine V_istore_n (lv2 := [(2, .int (nI (x ^^^ y))), (0, .int (nI x)), (1, .int (nI y))]) dX4_distance_3 rfl (by decide) rfl ?_
  refine V_iload_n (i := 2) dX4_distance_4 rfl 0 rfl ?_
  refine V_iload_n (i := 2) dX4_distance_5 rfl 0 rfl ?_
  refine V_iconst (v := nI 1) dX4_distance_6 rfl ?_
  refine V_ishr dX4_distance_7 ?_
  refine M_top (x2 := nI ((x ^^^ y) / 2 ^ 1)) (nI_shr (by omega) (by omega)) ?_
  refine V_ior dX4_distance_8 ?_
  refine M_top (x2 := nI ((x ^^^ y) ||| (x ^^^ y) / 2 ^ 1)) (nI_or _ _) ?_
  refine V_iload_n (i := 2) dX4_distance_9 rfl 0 rfl ?_
  refine V_iconst (v := nI 2) dX4_distance_10 rfl ?_
  refine V_ishr dX4_distance_11 ?_
  refine M_top (x2 := nI ((x ^^^ y) / 2 ^ 2)) (nI_shr (by omega) (by omega)) ?_
  refine V_ior dX4_distance_12 ?_
  refine M_top (x2 := nI ((x ^^^ y) ||| (x ^^^ y) / 2 ^ 1 ||| (x ^^^ y) / 2 ^ 2)) (nI_or _ _) ?_
  refine V_ldc (v := nI 2396745) dX4_distance_13 mw_743 ?_
  refine V_iand dX4_distance_15 ?_
  refine M_top (x2 := nI (spTo (fun i => decide (¬ x / 8 ^ i % 8 = y / 8 ^ i % 8)) 8)) ((nI_and _ _).trans (by rw [pk_bits])) ?_
  refine M_callSp (As := [.int (nI (spTo (fun i => decide (¬ x / 8 ^ i % 8 = y / 8 ^ i % 8)) 8))]) (st := []) dX4_distance_16 ls_X4_18 ⟨by decide, by decide⟩ ⟨rfl, rfl⟩ rfl (Nat.le_of_ble_eq_true rfl) (t_bitCount) ?_
  refine V_iret dX4_distance_19 ⟨rfl, rfl⟩ (Nat.zero_le _) (Nat.zero_le _) ?_
  subst hQ
  exact ⟨rfl, rfl⟩
set_option maxRecDepth 20000 in
theorem t_sameStart {g : Ev} {S : St} {iv : IV} {lw : LW} {b : Nat} (hb : IsCamp S b) {V : Cv} (hV : XC iv b V) {c d : Nat} (hc : c < v_nc V) (hd : d < v_nc V) : CP g mX4_sameStart [.ref (b), .int (nI c), .int (nI d)] S iv lw (.int (nI (sameV V c d))) := by
  refine CT_ofQ rfl (by decide) (Nat.le_of_ble_eq_true rfl) (lv := [(0, .ref (b)), (1, .int (nI c)), (2, .int (nI d))]) rfl (fun Q hQ => ?_)
  have hs1 := hV.ok.sz hc
  have hs2 := hV.ok.sz hd
  refine V_aload_n (i := 0) dX4_sameStart_0 rfl 0 rfl ?_
  refine V_iload_n (i := 1) dX4_sameStart_1 rfl 1 rfl ?_
  refine M_callVp (As := [.int (nI c)]) (st := []) dX4_sameStart_2 lv_X4_24 ⟨by decide, by decide⟩ ⟨rfl, rfl⟩ rfl (ci := 0) hb.1 rfl rfl (Nat.le_of_ble_eq_true rfl) (t_X0_sizeOf hb hV hc) ?_
  refine V_aload_n (i := 0) dX4_sameStart_5 rfl 0 rfl ?_
  refine V_iload_n (i := 2) dX4_sameStart_6 rfl 2 rfl ?_
  refine M_callVp (As := [.int (nI d)]) (st := [.int (nI (v_sz V c))]) dX4_sameStart_7 lv_X4_24 ⟨by decide, by decide⟩ ⟨rfl, rfl⟩ rfl (ci := 0) hb.1 rfl rfl (Nat.le_of_ble_eq_true rfl) (t_X0_sizeOf hb hV hd) ?_
  refine M_callSp (As := [.int (nI (v_sz V c)), .int (nI (v_sz V d))]) (st := []) dX4_sameStart_10 ls_X4_27 ⟨by decide, by decide⟩ ⟨rfl, rfl⟩ rfl (Nat.le_of_ble_eq_true rfl) (t_min (by omega) (by omega)) ?_
  refine V_istore_n (lv2 := [(3, .int (nI (min (v_sz V c) (v_sz V d)))), (0, .ref (b)), (1, .int (nI c)), (2, .int (nI d))]) dX4_sameStart_13 rfl (by decide) rfl ?_
  refine V_iconst (v := nI 0) dX4_sameStart_14 rfl ?_
  refine V_istore (lv2 := [(4, .int (nI 0)), (3, .int (nI (min (v_sz V c) (v_sz V d)))), (0, .ref (b)), (1, .int (nI c)), (2, .int (nI d))]) dX4_sameStart_15 (by decide) rfl ?_
  have lp17 : ∀ i, i ≤ (min (v_sz V c) (v_sz V d)) → (∀ k, k < i → (fun i => !decide (v_nt V c i = v_nt V d i)) k = false) → VM g mX4_sameStart 17 [(4, .int (nI i)), (3, .int (nI (min (v_sz V c) (v_sz V d)))), (0, .ref (b)), (1, .int (nI c)), (2, .int (nI d))] [] S iv lw Q := by
    refine up_ind fun i hi ih17 => ?_
    intro hal
    refine V_iload dX4_sameStart_17 0 rfl ?_
    refine V_iload_n (i := 3) dX4_sameStart_19 rfl 1 rfl ?_
    refine V_icmp_ge (tgt := 49) dX4_sameStart_20 rfl (fun h20 => ?_) (fun h20 => ?_)
    · have h20 : (min (v_sz V c) (v_sz V d)) ≤ i := (nI_leI (by omega) (by omega)).mp h20
      refine V_iload_n (i := 3) dX4_sameStart_49 rfl 1 rfl ?_
      refine V_iret dX4_sameStart_50 ⟨rfl, rfl⟩ (Nat.zero_le _) (Nat.zero_le _) ?_
      subst hQ
      exact ⟨by unfold sameV; rw [fstTo_none _ (fun k hk => hal k (by omega))], rfl⟩
    · have h20 : ¬ (min (v_sz V c) (v_sz V d)) ≤ i := fun q => h20 ((nI_leI (by omega) (by omega)).mpr q)
      refine V_aload_n (i := 0) dX4_sameStart_23 rfl 2 rfl ?_
      refine V_iload_n (i := 1) dX4_sameStart_24 rfl 3 rfl ?_
      refine V_iload dX4_sameStart_25 0 rfl ?_
      refine M_callVp (As := [.int (nI c), .int (nI i)]) (st := []) dX4_sameStart_27 lv_X4_33 ⟨by decide, by decide⟩ ⟨rfl, rfl⟩ rfl (ci := 0) hb.1 rfl rfl (Nat.le_of_ble_eq_true rfl) (t_X0_noteAt hb hV hc (i := i) (by omega)) ?_
      refine V_aload_n (i := 0) dX4_sameStart_30 rfl 2 rfl ?_
      refine V_iload_n (i := 2) dX4_sameStart_31 rfl 4 rfl ?_
      refine V_iload dX4_sameStart_32 0 rfl ?_
      refine M_callVp (As := [.int (nI d), .int (nI i)]) (st := [.int (nI (v_nt V c i))]) dX4_sameStart_34 lv_X4_33 ⟨by decide, by decide⟩ ⟨rfl, rfl⟩ rfl (ci := 0) hb.1 rfl rfl (Nat.le_of_ble_eq_true rfl) (t_X0_noteAt hb hV hd (i := i) (by omega)) ?_
      have hn1 := hV.ok.nt hc (i := i) (by omega)
      have hn2 := hV.ok.nt hd (i := i) (by omega)
      refine V_icmp_eq (tgt := 43) dX4_sameStart_37 rfl (fun h37 => ?_) (fun h37 => ?_)
      · have h37 : (v_nt V c i) = (v_nt V d i) := (nI_eq (by omega) (by omega)).mp h37
        refine V_iinc (v := nI (i + 1)) (lv2 := [(4, .int (nI (i + 1))), (3, .int (nI (min (v_sz V c) (v_sz V d)))), (0, .ref (b)), (1, .int (nI c)), (2, .int (nI d))]) dX4_sameStart_43 0 rfl (nI_inc _) (by decide) rfl ?_
        refine V_goto (tgt := 17) dX4_sameStart_46 rfl ?_
        refine V_sub [0, 1, 2, 3, 4] rfl ?_
        exact M_at (ih17 (by omega) (fun k hk => (Nat.lt_or_ge k i).elim (hal k) (fun z => by have e9 : k = i := (by omega); rw [e9]; simp [h37]))) (rfl) rfl (rfl) (rfl)
      · have h37 : ¬ (v_nt V c i) = (v_nt V d i) := fun q => h37 ((nI_eq (by omega) (by omega)).mpr q)
        refine V_iload dX4_sameStart_40 0 rfl ?_
        refine V_iret dX4_sameStart_42 ⟨rfl, rfl⟩ (Nat.zero_le _) (Nat.zero_le _) ?_
        subst hQ
        exact ⟨by unfold sameV; rw [fstTo_at _ (show i < min (v_sz V c) (v_sz V d) by omega) hal (by simp [h37])], rfl⟩
  refine V_sub [0, 1, 2, 3, 4] rfl ?_
  exact M_at (lp17 0 (Nat.zero_le _) (fun k hk => absurd hk (by omega))) (rfl) rfl (rfl) (rfl)
set_option maxRecDepth 20000 in
theorem t_isClear {g : Ev} {S : St} {iv : IV} {lw : LW} {b : Nat} (hb : IsCamp S b) {V : Cv} (hV : XC iv b V) {x d : Nat} {but : Option Nat} (hx : x < 16777216) (hd : d ≤ 8) (hbut : ∀ k, but = some k → k < 12) : CP g mX4_isClear [.ref (b), .int (nI x), .int (nI d), .int (oI but)] S iv lw (.int (bI (clearB V x d but = true))) := by
  refine CT_ofQ rfl (by decide) (Nat.le_of_ble_eq_true rfl) (lv := [(0, .ref (b)), (1, .int (nI x)), (2, .int (nI d)), (3, .int (oI but))]) rfl (fun Q hQ => ?_)
  have hnc := hV.ok.nc
  refine V_iconst (v := nI 0) dX4_isClear_0 rfl ?_
  refine V_istore (lv2 := [(4, .int (nI 0)), (0, .ref (b)), (1, .int (nI x)), (2, .int (nI d)), (3, .int (oI but))]) dX4_isClear_1 (by decide) rfl ?_
  have lp3 : ∀ j, j ≤ (v_nc V) → allTo (fun c => decide (but = some c) || decide (d ≤ dst x (v_pk V c))) j = true → VM g mX4_isClear 3 [(4, .int (nI j)), (0, .ref (b)), (1, .int (nI x)), (2, .int (nI d)), (3, .int (oI but))] [] S iv lw Q := by
    refine up_ind fun j hj ih3 => ?_
    intro hall
    refine V_iload dX4_isClear_3 0 rfl ?_
    refine V_aload_n (i := 0) dX4_isClear_5 rfl 1 rfl ?_
    refine M_getI (x := nI (v_nc V)) dX4_isClear_6 lf_X4_36 rfl hb.1 (hV.nc) ?_
    refine V_icmp_ge (tgt := 40) dX4_isClear_9 rfl (fun h9 => ?_) (fun h9 => ?_)
    · have h9 : (v_nc V) ≤ j := (nI_leI (by omega) (by omega)).mp h9
      refine V_iconst (v := nI 1) dX4_isClear_40 rfl ?_
      refine V_zret dX4_isClear_41 ⟨rfl, rfl⟩ (by rfl) (Nat.zero_le _) (Nat.zero_le _) ?_
      subst hQ
      obtain rfl : j = v_nc V := by omega
      exact ⟨by rw [bI_t (show clearB V x d but = true from hall)], rfl⟩
    · have h9 : ¬ (v_nc V) ≤ j := fun q => h9 ((nI_leI (by omega) (by omega)).mpr q)
      refine V_iload dX4_isClear_12 0 rfl ?_
      refine V_iload_n (i := 3) dX4_isClear_14 rfl 4 rfl ?_
      refine V_icmp_eq (tgt := 34) dX4_isClear_15 rfl (fun h15 => ?_) (fun h15 => ?_)
      · have h15 := (oI_eq hbut (by omega) (by omega)).mp h15
        refine V_iinc (v := nI (j + 1)) (lv2 := [(4, .int (nI (j + 1))), (0, .ref (b)), (1, .int (nI x)), (2, .int (nI d)), (3, .int (oI but))]) dX4_isClear_34 0 rfl (nI_inc _) (by decide) rfl ?_
        refine V_goto (tgt := 3) dX4_isClear_37 rfl ?_
        have hk1 : (true && (decide (but = some j) || decide (d ≤ dst x (v_pk V j)))) = true := by simp [h15]
        refine V_sub [0, 1, 2, 3, 4] rfl ?_
        exact M_at (ih3 (by omega) (by show (allTo _ _ && _) = true; rw [hall]; exact hk1)) (rfl) rfl (rfl) (rfl)
      · have h15 : ¬ but = some j := fun z => h15 ((oI_eq hbut (by omega) (by omega)).mpr z)
        refine V_iload_n (i := 1) dX4_isClear_18 rfl 2 rfl ?_
        refine V_aload_n (i := 0) dX4_isClear_19 rfl 1 rfl ?_
        refine V_iload dX4_isClear_20 0 rfl ?_
        refine M_callVp (As := [.int (nI j)]) (st := [.int (nI x)]) dX4_isClear_22 lv_X4_40 ⟨by decide, by decide⟩ ⟨rfl, rfl⟩ rfl (ci := 0) hb.1 rfl rfl (Nat.le_of_ble_eq_true rfl) (t_X0_packedOf hb hV (c := j) (by omega)) ?_
        refine M_callSp (As := [.int (nI x), .int (nI (v_pk V j))]) (st := []) dX4_isClear_25 ls_X4_47 ⟨by decide, by decide⟩ ⟨rfl, rfl⟩ rfl (Nat.le_of_ble_eq_true rfl) (t_distance hx (z_pk8 hV.ok (by omega))) ?_
        refine V_iload_n (i := 2) dX4_isClear_28 rfl 3 rfl ?_
        have hd2 := dst_le x (v_pk V j)
        refine V_icmp_ge (tgt := 34) dX4_isClear_29 rfl (fun h29 => ?_) (fun h29 => ?_)
        · have h29 : d ≤ (dst x (v_pk V j)) := (nI_leI (by omega) (by omega)).mp h29
          refine V_iinc (v := nI (j + 1)) (lv2 := [(4, .int (nI (j + 1))), (0, .ref (b)), (1, .int (nI x)), (2, .int (nI d)), (3, .int (oI but))]) dX4_isClear_34 0 rfl (nI_inc _) (by decide) rfl ?_
          refine V_goto (tgt := 3) dX4_isClear_37 rfl ?_
          have hk1 : (true && (decide (but = some j) || decide (d ≤ dst x (v_pk V j)))) = true := by simp [h29]
          refine V_sub [0, 1, 2, 3, 4] rfl ?_
          exact M_at (ih3 (by omega) (by show (allTo _ _ && _) = true; rw [hall]; exact hk1)) (rfl) rfl (rfl) (rfl)
        · have h29 : ¬ d ≤ (dst x (v_pk V j)) := fun q => h29 ((nI_leI (by omega) (by omega)).mpr q)
          refine V_iconst (v := nI 0) dX4_isClear_32 rfl ?_
          refine V_zret dX4_isClear_33 ⟨rfl, rfl⟩ (by rfl) (Nat.zero_le _) (Nat.zero_le _) ?_
          subst hQ
          exact ⟨by rw [bI_f (by rw [show clearB V x d but = false from allTo_bad (i := j) (by omega) (by simp [h15]; omega)]; decide)], rfl⟩
  refine V_sub [0, 1, 2, 3, 4] rfl ?_
  exact M_at (lp3 0 (Nat.zero_le _) rfl) (rfl) rfl (rfl) (rfl)
theorem oI_some (c : Nat) : oI (some c) = nI c := rfl
set_option maxRecDepth 20000 in
theorem t_countTwins {g : Ev} {S : St} {iv : IV} {lw : LW} {b : Nat} (hb : IsCamp S b) {V : Cv} (hV : XC iv b V) : CP g mX4_countTwins [.ref (b)] S iv lw (.int (nI (cntTo (fun c => !clearB V (v_pk V c) 1 (some c)) (v_nc V)))) := by
  refine CT_ofQ rfl (by decide) (Nat.le_of_ble_eq_true rfl) (lv := [(0, .ref (b))]) rfl (fun Q hQ => ?_)
  have hnc := hV.ok.nc
  refine V_iconst (v := nI 0) dX4_countTwins_0 rfl ?_
  refine V_istore_n (lv2 := [(1, .int (nI 0)), (0, .ref (b))]) dX4_countTwins_1 rfl (by decide) rfl ?_
  refine V_iconst (v := nI 0) dX4_countTwins_2 rfl ?_
  refine V_istore_n (lv2 := [(2, .int (nI 0)), (1, .int (nI 0)), (0, .ref (b))]) dX4_countTwins_3 rfl (by decide) rfl ?_
  have lp4 : ∀ j, j ≤ (v_nc V) → VM g mX4_countTwins 4 [(1, .int (nI (cntTo (fun c => !clearB V (v_pk V c) 1 (some c)) j))), (2, .int (nI j)), (0, .ref (b))] [] S iv lw Q := by
    refine up_ind fun j hj ih4 => ?_
    refine V_iload_n (i := 2) dX4_countTwins_4 rfl 1 rfl ?_
    refine V_aload_n (i := 0) dX4_countTwins_5 rfl 2 rfl ?_
    refine M_getI (x := nI (v_nc V)) dX4_countTwins_6 lf_X4_36 rfl hb.1 (hV.nc) ?_
    refine V_icmp_ge (tgt := 35) dX4_countTwins_9 rfl (fun h9 => ?_) (fun h9 => ?_)
    · have h9 : (v_nc V) ≤ j := (nI_leI (by omega) (by omega)).mp h9
      refine V_iload_n (i := 1) dX4_countTwins_35 rfl 0 rfl ?_
      refine V_iret dX4_countTwins_36 ⟨rfl, rfl⟩ (Nat.zero_le _) (Nat.zero_le _) ?_
      subst hQ
      exact ⟨by rw [show j = v_nc V by omega], rfl⟩
    · have h9 : ¬ (v_nc V) ≤ j := fun q => h9 ((nI_leI (by omega) (by omega)).mpr q)
      refine V_aload_n (i := 0) dX4_countTwins_12 rfl 2 rfl ?_
      refine V_aload_n (i := 0) dX4_countTwins_13 rfl 2 rfl ?_
      refine V_iload_n (i := 2) dX4_countTwins_14 rfl 1 rfl ?_
      refine M_callVp (As := [.int (nI j)]) (st := [.ref (b)]) dX4_countTwins_15 lv_X4_40 ⟨by decide, by decide⟩ ⟨rfl, rfl⟩ rfl (ci := 0) hb.1 rfl rfl (Nat.le_of_ble_eq_true rfl) (t_X0_packedOf hb hV (c := j) (by omega)) ?_
      refine V_iconst (v := nI 1) dX4_countTwins_18 rfl ?_
      refine V_iload_n (i := 2) dX4_countTwins_19 rfl 1 rfl ?_
      refine M_callSp (As := [.ref (b), .int (nI (v_pk V j)), .int (nI 1), .int (nI j)]) (st := []) dX4_countTwins_20 ls_X4_43 ⟨by decide, by decide⟩ ⟨rfl, rfl⟩ rfl (Nat.le_of_ble_eq_true rfl) (t_isClear hb hV (but := some j) (z_pk8 hV.ok (by omega)) (by omega) (fun k hk => by cases hk; omega)) ?_
      refine V_if_ne (tgt := 29) dX4_countTwins_23 rfl (fun h23 => ?_) (fun h23 => ?_)
      · have h23 : clearB V (v_pk V j) 1 (some j) = true := bI_ne.mp h23
        refine V_iinc (v := nI (j + 1)) (lv2 := [(2, .int (nI (j + 1))), (1, .int (nI (cntTo (fun c => !clearB V (v_pk V c) 1 (some c)) j))), (0, .ref (b))]) dX4_countTwins_29 1 rfl (nI_inc _) (by decide) rfl ?_
        refine V_goto (tgt := 4) dX4_countTwins_32 rfl ?_
        refine V_sub [1, 0, 2] rfl ?_
        exact M_at (ih4 (by omega)) (by rw [cntTo_f (by simp [h23])]; rfl) rfl (rfl) (rfl)
      · have h23 : ¬ (clearB V (v_pk V j) 1 (some j) = true) := bI_eq0.mp h23
        refine V_iinc (v := nI ((cntTo (fun c => !clearB V (v_pk V c) 1 (some c)) j) + 1)) (lv2 := [(1, .int (nI ((cntTo (fun c => !clearB V (v_pk V c) 1 (some c)) j) + 1))), (2, .int (nI j)), (0, .ref (b))]) dX4_countTwins_26 0 rfl (nI_inc _) (by decide) rfl ?_
        refine V_iinc (v := nI (j + 1)) (lv2 := [(2, .int (nI (j + 1))), (1, .int (nI ((cntTo (fun c => !clearB V (v_pk V c) 1 (some c)) j) + 1))), (0, .ref (b))]) dX4_countTwins_29 1 rfl (nI_inc _) (by decide) rfl ?_
        refine V_goto (tgt := 4) dX4_countTwins_32 rfl ?_
        refine V_sub [1, 0, 2] rfl ?_
        exact M_at (ih4 (by omega)) (by rw [cntTo_t (by simp [h23])]; rfl) rfl (rfl) (rfl)
  refine V_sub [1, 0, 2] rfl ?_
  exact M_at (lp4 0 (Nat.zero_le _)) (rfl) rfl (rfl) (rfl)
set_option maxRecDepth 20000 in
theorem t_countRows {g : Ev} {S : St} {iv : IV} {lw : LW} {m : Nat} (hm : m ≤ 5) : CP g mX4_countRows [.int (nI m)] S iv lw (.int (nI (5 ^ m))) := by
  refine CT_ofQ rfl (by decide) (Nat.le_of_ble_eq_true rfl) (lv := [(0, .int (nI m))]) rfl (fun Q hQ => ?_)
  refine V_iconst (v := nI 1) dX4_countRows_0 rfl ?_
  refine V_istore_n (lv2 := [(1, .int (nI 1)), (0, .int (nI m))]) dX4_countRows_1 rfl (by decide) rfl ?_
  refine V_iconst (v := nI 0) dX4_countRows_2 rfl ?_
  refine V_istore_n (lv2 := [(2, .int (nI 0)), (1, .int (nI 1)), (0, .int (nI m))]) dX4_countRows_3 rfl (by decide) rfl ?_
  have lp4 : ∀ j, j ≤ m → VM g mX4_countRows 4 [(1, .int (nI (5 ^ j))), (2, .int (nI j)), (0, .int (nI m))] [] S iv lw Q := by
    refine up_ind fun j hj ih4 => ?_
    refine V_iload_n (i := 2) dX4_countRows_4 rfl 1 rfl ?_
    refine V_iload_n (i := 0) dX4_countRows_5 rfl 2 rfl ?_
    refine V_icmp_ge (tgt := 19) dX4_countRows_6 rfl (fun h6 => ?_) (fun h6 => ?_)
    · have h6 : m ≤ j := (nI_leI (by omega) (by omega)).mp h6
      refine V_iload_n (i := 1) dX4_countRows_19 rfl 0 rfl ?_
      refine V_iret dX4_countRows_20 ⟨rfl, rfl⟩ (Nat.zero_le _) (Nat.zero_le _) ?_
      subst hQ
      exact ⟨by rw [show j = m by omega], rfl⟩
    · have h6 : ¬ m ≤ j := fun q => h6 ((nI_leI (by omega) (by omega)).mpr q)
      refine V_iload_n (i := 1) dX4_countRows_9 rfl 0 rfl ?_
      refine V_iconst (v := nI 5) dX4_countRows_10 rfl ?_
      refine V_imul dX4_countRows_11 ?_
      refine M_top (pk_mul _ _) ?_
      refine V_istore_n (lv2 := [(1, .int (nI ((5 ^ j) * 5))), (2, .int (nI j)), (0, .int (nI m))]) dX4_countRows_12 rfl (by decide) rfl ?_
      refine V_iinc (v := nI (j + 1)) (lv2 := [(2, .int (nI (j + 1))), (1, .int (nI ((5 ^ j) * 5))), (0, .int (nI m))]) dX4_countRows_13 1 rfl (nI_inc _) (by decide) rfl ?_
      refine V_goto (tgt := 4) dX4_countRows_16 rfl ?_
      refine V_sub [1, 0, 2] rfl ?_
      exact M_at (ih4 (by omega)) (by rw [Nat.pow_succ]; rfl) rfl (rfl) (rfl)
  refine V_sub [1, 0, 2] rfl ?_
  exact M_at (lp4 0 (Nat.zero_le _)) (rfl) rfl (rfl) (rfl)
set_option maxRecDepth 20000 in
theorem t_packedRow {g : Ev} {S : St} {iv : IV} {lw : LW} {m x : Nat} (hm : m ≤ 5) (hx : x ≤ 4000) : CP g mX4_packedRow [.int (nI x), .int (nI m)] S iv lw (.int (nI (rowP m x))) := by
  refine CT_ofQ rfl (by decide) (Nat.le_of_ble_eq_true rfl) (lv := [(0, .int (nI x)), (1, .int (nI m))]) rfl (fun Q hQ => ?_)
  refine V_iconst (v := nI 0) dX4_packedRow_0 rfl ?_
  refine V_istore_n (lv2 := [(2, .int (nI 0)), (0, .int (nI x)), (1, .int (nI m))]) dX4_packedRow_1 rfl (by decide) rfl ?_
  refine V_iload_n (i := 0) dX4_packedRow_2 rfl 1 rfl ?_
  refine V_istore_n (lv2 := [(3, .int (nI x)), (2, .int (nI 0)), (0, .int (nI x)), (1, .int (nI m))]) dX4_packedRow_3 rfl (by decide) rfl ?_
  refine V_iload_n (i := 1) dX4_packedRow_4 rfl 3 rfl ?_
  refine V_iconst (v := nI 1) dX4_packedRow_5 rfl ?_
  refine V_isub dX4_packedRow_6 ?_
  refine V_istore (lv2 := [(4, .int ((nI m - nI 1))), (3, .int (nI x)), (2, .int (nI 0)), (0, .int (nI x)), (1, .int (nI m))]) dX4_packedRow_7 (by decide) rfl ?_
  have lp9 : ∀ k, k ≤ m → VM g mX4_packedRow 9 [(2, .int (nI (hiP (d5 m x) m k))), (3, .int (nI (x / 5 ^ k))), (4, .int ((nI (m - k) - nI 1))), (0, .int (nI x)), (1, .int (nI m))] [] S iv lw Q := by
    refine up_ind fun k hk ih9 => ?_
    have hq : x / 5 ^ k ≤ x := Nat.div_le_self _ _
    refine V_iload dX4_packedRow_9 2 rfl ?_
    refine V_if_lt (tgt := 35) dX4_packedRow_11 rfl (fun h11 => ?_) (fun h11 => ?_)
    · have h11 := (sub1_neg (by omega)).mp h11
      refine V_iload_n (i := 2) dX4_packedRow_35 rfl 0 rfl ?_
      refine V_iret dX4_packedRow_36 ⟨rfl, rfl⟩ (Nat.zero_le _) (Nat.zero_le _) ?_
      subst hQ
      have hk := hiP_pk (d5 m x) m m (Nat.le_refl _)
      obtain rfl : k = m := by omega
      exact ⟨by unfold rowP; rw [← hk, Nat.sub_self]; rfl, rfl⟩
    · have h11 : ¬ m - k = 0 := fun z => h11 ((sub1_neg (by omega)).mpr z)
      refine V_iload_n (i := 2) dX4_packedRow_14 rfl 0 rfl ?_
      refine V_iload_n (i := 3) dX4_packedRow_15 rfl 1 rfl ?_
      refine V_iconst (v := nI 5) dX4_packedRow_16 rfl ?_
      refine V_irem dX4_packedRow_17 (by decide) ?_
      refine M_top (x2 := nI (d5 m x (m - 1 - k))) ((pk_rem (by omega) (by omega) (by omega)).trans (by unfold d5; rw [show m - 1 - (m - 1 - k) = k by omega])) ?_
      refine V_iload dX4_packedRow_18 2 rfl ?_
      refine M_top (x2 := nI (m - 1 - k)) ((nI_sub (by omega)).trans (by rw [Nat.sub_right_comm])) ?_
      have h5 := d5_le m x (m - 1 - k)
      refine M_callSp (As := [.int (nI (d5 m x (m - 1 - k))), .int (nI (m - 1 - k))]) (st := [.int (nI (hiP (d5 m x) m k))]) dX4_packedRow_20 ls_X4_50 ⟨by decide, by decide⟩ ⟨rfl, rfl⟩ rfl (Nat.le_of_ble_eq_true rfl) (t_X0_packedNote (by omega)) ?_
      refine V_ior dX4_packedRow_23 ?_
      refine M_top (x2 := nI (hiP (d5 m x) m (k + 1))) ((nI_or _ _).trans (by rw [hiP_or _ _ _ (by omega) h5])) ?_
      refine V_istore_n (lv2 := [(2, .int (nI (hiP (d5 m x) m (k + 1)))), (3, .int (nI (x / 5 ^ k))), (4, .int ((nI (m - k) - nI 1))), (0, .int (nI x)), (1, .int (nI m))]) dX4_packedRow_24 rfl (by decide) rfl ?_
      refine V_iload_n (i := 3) dX4_packedRow_25 rfl 1 rfl ?_
      refine V_iconst (v := nI 5) dX4_packedRow_26 rfl ?_
      refine V_idiv dX4_packedRow_27 (by decide) ?_
      refine M_top (x2 := nI (x / 5 ^ k / 5)) (pk_div (by omega) (by omega) (by omega)) ?_
      refine V_istore_n (lv2 := [(3, .int (nI (x / 5 ^ k / 5))), (2, .int (nI (hiP (d5 m x) m (k + 1)))), (4, .int ((nI (m - k) - nI 1))), (0, .int (nI x)), (1, .int (nI m))]) dX4_packedRow_28 rfl (by decide) rfl ?_
      refine V_iinc (v := (nI (m - (k + 1)) - nI 1)) (lv2 := [(4, .int ((nI (m - (k + 1)) - nI 1))), (3, .int (nI (x / 5 ^ k / 5))), (2, .int (nI (hiP (d5 m x) m (k + 1)))), (0, .int (nI x)), (1, .int (nI m))]) dX4_packedRow_29 2 rfl ((down1 (by omega)).trans (by rw [Nat.sub_sub])) (by decide) rfl ?_
      refine V_goto (tgt := 9) dX4_packedRow_32 rfl ?_
      refine V_sub [2, 1, 0, 3, 4] rfl ?_
      exact M_at (ih9 (by omega)) (by rw [Nat.pow_succ, ← Nat.div_div_eq_div_mul]; rfl) rfl (rfl) (rfl)
  refine V_sub [2, 1, 0, 3, 4] rfl ?_
  exact M_at (lp9 0 (Nat.zero_le _)) (by rw [Nat.pow_zero, Nat.div_one]; rfl) rfl (rfl) (rfl)
