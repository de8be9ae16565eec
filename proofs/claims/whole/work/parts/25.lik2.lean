/-! Likeness, second half -/
def pvF (f : Nat → Nat → Nat) (o : Option Nat) : Nat := match o with
  | none => 0
  | some p => f (p / 100) (p % 100)
def npIn (f : Nat → Nat → Nat) (c : Nat) (o : Option Nat) : Nat → Option Nat
  | 0 => o
  | n + 1 => if c < n ∧ (npIn f c o n = none ∨ f c n < pvF f (npIn f c o n)) then some (100 * c + n) else npIn f c o n
def npTo (f : Nat → Nat → Nat) (N : Nat) : Nat → Option Nat
  | 0 => none
  | c + 1 => npIn f c (npTo f N c) N
theorem npIn_0 {f : Nat → Nat → Nat} {c : Nat} {o : Option Nat} : ∀ n, n ≤ c + 1 → npIn f c o n = o
  | 0, _ => rfl
  | n + 1, h => by
    unfold npIn
    rw [if_neg (by omega)]
    exact npIn_0 n (by omega)
theorem npIn_new {f : Nat → Nat → Nat} {c n : Nat} {o : Option Nat} (h : c < n) (h2 : npIn f c o n = none ∨ f c n < pvF f (npIn f c o n)) : npIn f c o (n + 1) = some (100 * c + n) := if_pos ⟨h, h2⟩
theorem npIn_old {f : Nat → Nat → Nat} {c n : Nat} {o : Option Nat} (h1 : ¬ npIn f c o n = none) (h2 : ¬ f c n < pvF f (npIn f c o n)) : npIn f c o (n + 1) = npIn f c o n := if_neg (fun z => z.2.elim h1 h2)
theorem pvF_some {f : Nat → Nat → Nat} {c n : Nat} (h : n < 100) : pvF f (some (100 * c + n)) = f c n := by
  show f ((100 * c + n) / 100) ((100 * c + n) % 100) = _
  rw [show (100 * c + n) / 100 = c by omega, show (100 * c + n) % 100 = n by omega]
def okP (N : Nat) (o : Option Nat) : Prop := ∀ k, o = some k → k / 100 < k % 100 ∧ k % 100 < N
theorem npIn_ok {f : Nat → Nat → Nat} {N c : Nat} {o : Option Nat} (hN : N ≤ 12) (ho : okP N o) : ∀ n, n ≤ N → okP N (npIn f c o n)
  | 0, _ => ho
  | n + 1, h => by
    intro k hk
    unfold npIn at hk
    split at hk
    · rename_i z
      cases hk
      omega
    · exact npIn_ok hN ho n (by omega) k hk
theorem npTo_ok {f : Nat → Nat → Nat} {N : Nat} (hN : N ≤ 12) : ∀ c, okP N (npTo f N c)
  | 0 => fun k h => by cases h
  | c + 1 => npIn_ok hN (npTo_ok hN c) N (Nat.le_refl _)
theorem okP_lt {N : Nat} {o : Option Nat} (hN : N ≤ 12) (h : okP N o) : ∀ k, o = some k → k < 1200 := fun k hk => by
  have := h k hk
  omega
theorem pv_le {f : Nat → Nat → Nat} {M : Nat} (h : ∀ c d, f c d ≤ M) (o : Option Nat) : pvF f o ≤ M := by
  cases o with
  | none => exact Nat.zero_le _
  | some p => exact h _ _
def dpk (V : Cv) (c d : Nat) : Nat := dst (v_pk V c) (v_pk V d)
/-- the first that is so -/
def ffO (p : Nat → Bool) (n : Nat) : Option Nat := if fstTo p n < n then some (fstTo p n) else none
theorem ffO_at {p : Nat → Bool} {k n : Nat} (h : k < n) (h1 : ∀ i, i < k → p i = false) (h2 : p k = true) : ffO p n = some k := by
  unfold ffO
  rw [fstTo_at n h h1 h2, if_pos h]
theorem ffO_none {p : Nat → Bool} {n : Nat} (h1 : ∀ i, i < n → p i = false) : ffO p n = none := by
  unfold ffO
  rw [fstTo_none n h1, if_neg (by omega)]
/-- the least of those that are so -/
def fcTo (g : Nat → Nat) (p : Nat → Bool) : Nat → Option Nat
  | 0 => none
  | n + 1 => if (fcTo g p n = none ∨ g n < (fcTo g p n).getD 0) ∧ p n = true then some (g n) else fcTo g p n
theorem fcTo_new {g : Nat → Nat} {p : Nat → Bool} {n : Nat} (h : fcTo g p n = none ∨ g n < (fcTo g p n).getD 0) (h2 : p n = true) : fcTo g p (n + 1) = some (g n) := if_pos ⟨h, h2⟩
theorem fcTo_old {g : Nat → Nat} {p : Nat → Bool} {n : Nat} (h : ¬ ((fcTo g p n = none ∨ g n < (fcTo g p n).getD 0) ∧ p n = true)) : fcTo g p (n + 1) = fcTo g p n := if_neg h
theorem fcTo_le {g : Nat → Nat} {p : Nat → Bool} {M : Nat} (h : ∀ i, g i ≤ M) : ∀ n k, fcTo g p n = some k → k < M + 1
  | 0, k, hk => by cases hk
  | n + 1, k, hk => by
    unfold fcTo at hk
    split at hk
    · cases hk; have := h n; omega
    · exact fcTo_le h n k hk
/-- the bits of those too near -/
def nearTo (V : Cv) (d c : Nat) : Nat → Nat
  | 0 => 0
  | o + 1 => if ¬ o = c ∧ dpk V c o < d then nearTo V d c o ||| 2 ^ o else nearTo V d c o
theorem nearTo_lt {V : Cv} {d c : Nat} : ∀ n, nearTo V d c n < 2 ^ n
  | 0 => by show 0 < 1; decide
  | n + 1 => by
    have ih := nearTo_lt (V := V) (d := d) (c := c) n
    have h1 : (2 : Nat) ^ n < 2 ^ (n + 1) := Nat.pow_lt_pow_right (by decide) (by omega)
    unfold nearTo
    split
    · exact Nat.or_lt_two_pow (by omega) h1
    · omega
theorem nearTo_t {V : Cv} {d c o : Nat} (h : ¬ o = c ∧ dpk V c o < d) : nearTo V d c (o + 1) = nearTo V d c o ||| 2 ^ o := if_pos h
theorem nearTo_f {V : Cv} {d c o : Nat} (h : ¬ (¬ o = c ∧ dpk V c o < d)) : nearTo V d c (o + 1) = nearTo V d c o := if_neg h
def uB (V : Cv) (d t c : Nat) : Bool := t.testBit c && !decide (nearTo V d c (v_nc V) &&& t = 0)
def kV (V : Cv) (d t : Nat) : Nat := if allTo (fun c => !uB V d t c) (v_nc V) = true then sumTo (fun c => if t.testBit c = true then v_us V c else 0) (v_nc V) else 0
def ksTo (f : Nat → Nat) : Nat → Nat × Nat
  | 0 => (0, 0)
  | t + 1 => if (ksTo f t).2 < f t then (t, f t) else ksTo f t
theorem ksTo_1 {V : Cv} {d : Nat} : ksTo (kV V d) 1 = (0, 0) := by
  have h : kV V d 0 = 0 := by
    have e : ∀ n, sumTo (fun c => if (0 : Nat).testBit c = true then v_us V c else 0) n = 0 := by
      intro n
      induction n with
      | zero => rfl
      | succ n ih =>
        have : sumTo (fun c => if (0 : Nat).testBit c = true then v_us V c else 0) (n + 1) = sumTo (fun c => if (0 : Nat).testBit c = true then v_us V c else 0) n + (if (0 : Nat).testBit n = true then v_us V n else 0) := rfl
        rw [this, ih, Nat.zero_testBit]
        rfl
    unfold kV
    rw [e]
    split <;> rfl
  show (if (0 : Nat) < kV V d 0 then ((0 : Nat), kV V d 0) else (0, 0)) = _
  rw [h]
  rfl
theorem kSum_le {V : Cv} {t : Nat} (h : VOK V) : ∀ n, n ≤ v_nc V → sumTo (fun c => if t.testBit c = true then v_us V c else 0) n ≤ 1188 := fun n hn => by
  have h1 := h.nc
  have := sumTo_mono (f := fun c => if t.testBit c = true then v_us V c else 0) (M := 99) (m := n) (n := v_nc V) (fun i hi => by
    have h2 := (h.us hi)
    show (if t.testBit i = true then v_us V i else 0) ≤ 99
    split <;> omega) hn
  omega
theorem kV_le {V : Cv} {d t : Nat} (h : VOK V) : kV V d t ≤ 1188 := by
  unfold kV
  split
  · exact kSum_le h _ (Nat.le_refl _)
  · omega
theorem ksTo_le {f : Nat → Nat} {M : Nat} (h : ∀ t, f t ≤ M) : ∀ n, (ksTo f n).2 ≤ M ∧ (ksTo f n).1 ≤ n
  | 0 => ⟨Nat.zero_le _, Nat.zero_le _⟩
  | n + 1 => by
    have ih := ksTo_le h n
    unfold ksTo
    split
    · exact ⟨h n, by simp⟩
    · exact ⟨ih.1, by omega⟩
theorem tb_q {t c : Nat} : t.testBit c = decide (t / 2 ^ c &&& 1 = 1) := by
  rw [Nat.testBit_eq_decide_div_mod_eq, Nat.and_one_is_mod]
theorem NE {iv iv2 : IV} {q : Nat} {V : Cv} {d : Nat} : True := trivial
def NearOK (iv : IV) (q : Nat) (V : Cv) (d n : Nat) : Prop := ∀ c, c < n → iv (q + 1) c = nI (nearTo V d c (v_nc V))
theorem NearOK.up {iv : IV} {q : Nat} {V : Cv} {d n : Nat} (h : NearOK iv q V d n) : NearOK (up2 iv (q + 1) n (nI (nearTo V d n (v_nc V)))) q V d (n + 1) := fun c hc => by
  by_cases z : c = n
  · subst z; exact up2_s
  · rw [up2_k z]; exact h c (by omega)
set_option maxRecDepth 20000 in
theorem t_nearestPair {g : Ev} {S : St} {iv : IV} {lw : LW} {b : Nat} (hb : IsCamp S b) {V : Cv} (hV : XC iv b V) : CP g mX4_nearestPair [.ref (b)] S iv lw (.int (oI (npTo (dpk V) (v_nc V) (v_nc V)))) := by
  refine CT_ofQ rfl (by decide) (Nat.le_of_ble_eq_true rfl) (lv := [(0, .ref (b))]) rfl (fun Q hQ => ?_)
  have hnc := hV.ok.nc
  refine V_iconst (v := (-1)) dX4_nearestPair_0 rfl ?_
  refine V_istore_n (lv2 := [(1, .int ((-1))), (0, .ref (b))]) dX4_nearestPair_1 rfl (by decide) rfl ?_
  refine V_iconst (v := nI 0) dX4_nearestPair_2 rfl ?_
  refine V_istore_n (lv2 := [(2, .int (nI 0)), (1, .int ((-1))), (0, .ref (b))]) dX4_nearestPair_3 rfl (by decide) rfl ?_
  refine V_iconst (v := nI 0) dX4_nearestPair_4 rfl ?_
  refine V_istore_n (lv2 := [(3, .int (nI 0)), (2, .int (nI 0)), (1, .int ((-1))), (0, .ref (b))]) dX4_nearestPair_5 rfl (by decide) rfl ?_
  have lp6 : ∀ j, j ≤ (v_nc V) → VM g mX4_nearestPair 6 [(1, .int (oI (npTo (dpk V) (v_nc V) j))), (2, .int (nI (pvF (dpk V) (npTo (dpk V) (v_nc V) j)))), (3, .int (nI j)), (0, .ref (b))] [] S iv lw Q := by
    refine up_ind fun j hj ih6 => ?_
    refine V_iload_n (i := 3) dX4_nearestPair_6 rfl 2 rfl ?_
    refine V_aload_n (i := 0) dX4_nearestPair_7 rfl 3 rfl ?_
    refine M_getI (x := nI (v_nc V)) dX4_nearestPair_8 lf_X4_36 rfl hb.1 (hV.nc) ?_
    refine V_icmp_ge (tgt := 78) dX4_nearestPair_11 rfl (fun h11 => ?_) (fun h11 => ?_)
    · have h11 : (v_nc V) ≤ j := (nI_leI (by omega) (by omega)).mp h11
      refine V_iload_n (i := 1) dX4_nearestPair_78 rfl 0 rfl ?_
      refine V_iret dX4_nearestPair_79 ⟨rfl, rfl⟩ (Nat.zero_le _) (Nat.zero_le _) ?_
      subst hQ
      exact ⟨by rw [show j = v_nc V by omega], rfl⟩
    · have h11 : ¬ (v_nc V) ≤ j := fun q => h11 ((nI_leI (by omega) (by omega)).mpr q)
      refine V_iload_n (i := 3) dX4_nearestPair_14 rfl 2 rfl ?_
      refine V_iconst (v := nI 1) dX4_nearestPair_15 rfl ?_
      refine V_iadd dX4_nearestPair_16 ?_
      refine M_top (nI_add _ _) ?_
      refine V_istore (lv2 := [(4, .int (nI (j + 1))), (1, .int (oI (npTo (dpk V) (v_nc V) j))), (2, .int (nI (pvF (dpk V) (npTo (dpk V) (v_nc V) j)))), (3, .int (nI j)), (0, .ref (b))]) dX4_nearestPair_17 (by decide) rfl ?_
      have lp19 : ∀ i, i ≤ (v_nc V) → j + 1 ≤ i → VM g mX4_nearestPair 19 [(4, .int (nI i)), (1, .int (oI (npIn (dpk V) j (npTo (dpk V) (v_nc V) j) i))), (2, .int (nI (pvF (dpk V) (npIn (dpk V) j (npTo (dpk V) (v_nc V) j) i)))), (3, .int (nI j)), (0, .ref (b))] [] S iv lw Q := by
        refine up_ind fun i hi ih19 => ?_
        intro hji
        refine V_iload dX4_nearestPair_19 0 rfl ?_
        refine V_aload_n (i := 0) dX4_nearestPair_21 rfl 4 rfl ?_
        refine M_getI (x := nI (v_nc V)) dX4_nearestPair_22 lf_X4_36 rfl hb.1 (hV.nc) ?_
        refine V_icmp_ge (tgt := 72) dX4_nearestPair_25 rfl (fun h25 => ?_) (fun h25 => ?_)
        · have h25 : (v_nc V) ≤ i := (nI_leI (by omega) (by omega)).mp h25
          refine M_at (lv2 := [(4, .int (nI i)), (1, .int (oI (npTo (dpk V) (v_nc V) (j + 1)))), (2, .int (nI (pvF (dpk V) (npTo (dpk V) (v_nc V) (j + 1))))), (3, .int (nI j)), (0, .ref (b))]) (st2 := []) ?_ (by rw [show i = v_nc V by omega]; rfl) rfl rfl rfl
          refine V_iinc (v := nI (j + 1)) (lv2 := [(3, .int (nI (j + 1))), (4, .int (nI i)), (1, .int (oI (npTo (dpk V) (v_nc V) (j + 1)))), (2, .int (nI (pvF (dpk V) (npTo (dpk V) (v_nc V) (j + 1))))), (0, .ref (b))]) dX4_nearestPair_72 3 rfl (nI_inc _) (by decide) rfl ?_
          refine V_goto (tgt := 6) dX4_nearestPair_75 rfl ?_
          refine V_sub [2, 3, 0, 4] rfl ?_
          exact M_at (ih6 (by omega)) (rfl) rfl (rfl) (rfl)
        · have h25 : ¬ (v_nc V) ≤ i := fun q => h25 ((nI_leI (by omega) (by omega)).mpr q)
          refine V_aload_n (i := 0) dX4_nearestPair_28 rfl 4 rfl ?_
          refine V_iload_n (i := 3) dX4_nearestPair_29 rfl 3 rfl ?_
          refine M_callVp (As := [.int (nI j)]) (st := []) dX4_nearestPair_30 lv_X4_40 ⟨by decide, by decide⟩ ⟨rfl, rfl⟩ rfl (ci := 0) hb.1 rfl rfl (Nat.le_of_ble_eq_true rfl) (t_X0_packedOf hb hV (c := j) (by omega)) ?_
          refine V_aload_n (i := 0) dX4_nearestPair_33 rfl 4 rfl ?_
          refine V_iload dX4_nearestPair_34 0 rfl ?_
          refine M_callVp (As := [.int (nI i)]) (st := [.int (nI (v_pk V j))]) dX4_nearestPair_36 lv_X4_40 ⟨by decide, by decide⟩ ⟨rfl, rfl⟩ rfl (ci := 0) hb.1 rfl rfl (Nat.le_of_ble_eq_true rfl) (t_X0_packedOf hb hV (c := i) (by omega)) ?_
          refine M_callSp (As := [.int (nI (v_pk V j)), .int (nI (v_pk V i))]) (st := []) dX4_nearestPair_39 ls_X4_47 ⟨by decide, by decide⟩ ⟨rfl, rfl⟩ rfl (Nat.le_of_ble_eq_true rfl) (t_distance (z_pk8 hV.ok (by omega)) (z_pk8 hV.ok (by omega))) ?_
          refine V_istore (lv2 := [(5, .int (nI (dpk V j i))), (4, .int (nI i)), (1, .int (oI (npIn (dpk V) j (npTo (dpk V) (v_nc V) j) i))), (2, .int (nI (pvF (dpk V) (npIn (dpk V) j (npTo (dpk V) (v_nc V) j) i)))), (3, .int (nI j)), (0, .ref (b))]) dX4_nearestPair_42 (by decide) rfl ?_
          refine V_iload_n (i := 1) dX4_nearestPair_44 rfl 2 rfl ?_
          refine V_iconst (v := (-1)) dX4_nearestPair_45 rfl ?_
          refine V_icmp_eq (tgt := 55) dX4_nearestPair_46 rfl (fun h46 => ?_) (fun h46 => ?_)
          · have h46 := (oI_m1 (okP_lt hnc (npIn_ok hnc (npTo_ok hnc j) i (by omega))) (by omega)).mp h46
            refine V_bipush (v := nI 100) dX4_nearestPair_55 rfl ?_
            refine V_iload_n (i := 3) dX4_nearestPair_57 rfl 4 rfl ?_
            refine V_imul dX4_nearestPair_58 ?_
            refine M_top (pk_mul _ _) ?_
            refine V_iload dX4_nearestPair_59 1 rfl ?_
            refine V_iadd dX4_nearestPair_61 ?_
            refine M_top (nI_add _ _) ?_
            refine V_istore_n (lv2 := [(1, .int (nI ((100 * j) + i))), (5, .int (nI (dpk V j i))), (4, .int (nI i)), (2, .int (nI (pvF (dpk V) (npIn (dpk V) j (npTo (dpk V) (v_nc V) j) i)))), (3, .int (nI j)), (0, .ref (b))]) dX4_nearestPair_62 rfl (by decide) rfl ?_
            refine V_iload dX4_nearestPair_63 1 rfl ?_
            refine V_istore_n (lv2 := [(2, .int (nI (dpk V j i))), (1, .int (nI ((100 * j) + i))), (5, .int (nI (dpk V j i))), (4, .int (nI i)), (3, .int (nI j)), (0, .ref (b))]) dX4_nearestPair_65 rfl (by decide) rfl ?_
            refine V_iinc (v := nI (i + 1)) (lv2 := [(4, .int (nI (i + 1))), (2, .int (nI (dpk V j i))), (1, .int (nI ((100 * j) + i))), (5, .int (nI (dpk V j i))), (3, .int (nI j)), (0, .ref (b))]) dX4_nearestPair_66 3 rfl (nI_inc _) (by decide) rfl ?_
            refine V_goto (tgt := 19) dX4_nearestPair_69 rfl ?_
            refine V_sub [0, 2, 1, 4, 5] rfl ?_
            exact M_at (ih19 (by omega) (by omega)) (by rw [npIn_new (by omega) (Or.inl h46), pvF_some (by omega)]; rfl) rfl (rfl) (rfl)
          · have h46 : ¬ npIn (dpk V) j (npTo (dpk V) (v_nc V) j) i = none := fun z => h46 ((oI_m1 (okP_lt hnc (npIn_ok hnc (npTo_ok hnc j) i (by omega))) (by omega)).mpr z)
            refine V_iload dX4_nearestPair_49 0 rfl ?_
            refine V_iload_n (i := 2) dX4_nearestPair_51 rfl 3 rfl ?_
            have hp1 := pv_le (f := dpk V) (M := 8) (fun _ _ => dst_le _ _) (npIn (dpk V) j (npTo (dpk V) (v_nc V) j) i)
            have hp2 : dpk V j i ≤ 8 := dst_le _ _
            refine V_icmp_ge (tgt := 66) dX4_nearestPair_52 rfl (fun h52 => ?_) (fun h52 => ?_)
            · have h52 : (pvF (dpk V) (npIn (dpk V) j (npTo (dpk V) (v_nc V) j) i)) ≤ (dpk V j i) := (nI_leI (by omega) (by omega)).mp h52
              refine V_iinc (v := nI (i + 1)) (lv2 := [(4, .int (nI (i + 1))), (5, .int (nI (dpk V j i))), (1, .int (oI (npIn (dpk V) j (npTo (dpk V) (v_nc V) j) i))), (2, .int (nI (pvF (dpk V) (npIn (dpk V) j (npTo (dpk V) (v_nc V) j) i)))), (3, .int (nI j)), (0, .ref (b))]) dX4_nearestPair_66 1 rfl (nI_inc _) (by decide) rfl ?_
              refine V_goto (tgt := 19) dX4_nearestPair_69 rfl ?_
              refine V_sub [0, 2, 3, 4, 5] rfl ?_
              exact M_at (ih19 (by omega) (by omega)) (by rw [npIn_old h46 (Nat.not_lt.mpr h52)]; rfl) rfl (rfl) (rfl)
            · have h52 : ¬ (pvF (dpk V) (npIn (dpk V) j (npTo (dpk V) (v_nc V) j) i)) ≤ (dpk V j i) := fun q => h52 ((nI_leI (by omega) (by omega)).mpr q)
              refine V_bipush (v := nI 100) dX4_nearestPair_55 rfl ?_
              refine V_iload_n (i := 3) dX4_nearestPair_57 rfl 4 rfl ?_
              refine V_imul dX4_nearestPair_58 ?_
              refine M_top (pk_mul _ _) ?_
              refine V_iload dX4_nearestPair_59 1 rfl ?_
              refine V_iadd dX4_nearestPair_61 ?_
              refine M_top (nI_add _ _) ?_
              refine V_istore_n (lv2 := [(1, .int (nI ((100 * j) + i))), (5, .int (nI (dpk V j i))), (4, .int (nI i)), (2, .int (nI (pvF (dpk V) (npIn (dpk V) j (npTo (dpk V) (v_nc V) j) i)))), (3, .int (nI j)), (0, .ref (b))]) dX4_nearestPair_62 rfl (by decide) rfl ?_
              refine V_iload dX4_nearestPair_63 1 rfl ?_
              refine V_istore_n (lv2 := [(2, .int (nI (dpk V j i))), (1, .int (nI ((100 * j) + i))), (5, .int (nI (dpk V j i))), (4, .int (nI i)), (3, .int (nI j)), (0, .ref (b))]) dX4_nearestPair_65 rfl (by decide) rfl ?_
              refine V_iinc (v := nI (i + 1)) (lv2 := [(4, .int (nI (i + 1))), (2, .int (nI (dpk V j i))), (1, .int (nI ((100 * j) + i))), (5, .int (nI (dpk V j i))), (3, .int (nI j)), (0, .ref (b))]) dX4_nearestPair_66 3 rfl (nI_inc _) (by decide) rfl ?_
              refine V_goto (tgt := 19) dX4_nearestPair_69 rfl ?_
              refine V_sub [0, 2, 1, 4, 5] rfl ?_
              exact M_at (ih19 (by omega) (by omega)) (by rw [npIn_new (by omega) (Or.inr (Nat.lt_of_not_le h52)), pvF_some (by omega)]; rfl) rfl (rfl) (rfl)
      refine V_sub [0, 1, 2, 3, 4] rfl ?_
      exact M_at (lp19 (j + 1) (by omega) (Nat.le_refl _)) (by rw [npIn_0 _ (Nat.le_refl _)]; rfl) rfl (rfl) (rfl)
  refine V_sub [2, 1, 0, 3] rfl ?_
  exact M_at (lp6 0 (Nat.zero_le _)) (rfl) rfl (rfl) (rfl)
set_option maxRecDepth 20000 in
theorem t_pairDistance {g : Ev} {S : St} {iv : IV} {lw : LW} {b : Nat} (hb : IsCamp S b) {V : Cv} (hV : XC iv b V) {p : Nat} (h1 : p / 100 < v_nc V) (h2 : p % 100 < v_nc V) : CP g mX4_pairDistance [.ref (b), .int (nI p)] S iv lw (.int (nI (dpk V (p / 100) (p % 100)))) := by
  refine CT_ofQ rfl (by decide) (Nat.le_of_ble_eq_true rfl) (lv := [(0, .ref (b)), (1, .int (nI p))]) rfl (fun Q hQ => ?_)
  have hnc := hV.ok.nc
  refine V_aload_n (i := 0) dX4_pairDistance_0 rfl 0 rfl ?_
  refine V_iload_n (i := 1) dX4_pairDistance_1 rfl 1 rfl ?_
  refine V_bipush (v := nI 100) dX4_pairDistance_2 rfl ?_
  refine V_idiv dX4_pairDistance_4 (by decide) ?_
  refine M_top (x2 := nI (p / 100)) (pk_div (by omega) (by omega) (by omega)) ?_
  refine M_callVp (As := [.int (nI (p / 100))]) (st := []) dX4_pairDistance_5 lv_X4_40 ⟨by decide, by decide⟩ ⟨rfl, rfl⟩ rfl (ci := 0) hb.1 rfl rfl (Nat.le_of_ble_eq_true rfl) (t_X0_packedOf hb hV h1) ?_
  refine V_aload_n (i := 0) dX4_pairDistance_8 rfl 0 rfl ?_
  refine V_iload_n (i := 1) dX4_pairDistance_9 rfl 1 rfl ?_
  refine V_bipush (v := nI 100) dX4_pairDistance_10 rfl ?_
  refine V_irem dX4_pairDistance_12 (by decide) ?_
  refine M_top (x2 := nI (p % 100)) (pk_rem (by omega) (by omega) (by omega)) ?_
  refine M_callVp (As := [.int (nI (p % 100))]) (st := [.int (nI (v_pk V (p / 100)))]) dX4_pairDistance_13 lv_X4_40 ⟨by decide, by decide⟩ ⟨rfl, rfl⟩ rfl (ci := 0) hb.1 rfl rfl (Nat.le_of_ble_eq_true rfl) (t_X0_packedOf hb hV h2) ?_
  refine M_callSp (As := [.int (nI (v_pk V (p / 100))), .int (nI (v_pk V (p % 100)))]) (st := []) dX4_pairDistance_16 ls_X4_47 ⟨by decide, by decide⟩ ⟨rfl, rfl⟩ rfl (Nat.le_of_ble_eq_true rfl) (t_distance (z_pk8 hV.ok h1) (z_pk8 hV.ok h2)) ?_
  refine V_iret dX4_pairDistance_19 ⟨rfl, rfl⟩ (Nat.zero_le _) (Nat.zero_le _) ?_
  subst hQ
  exact ⟨rfl, rfl⟩
set_option maxRecDepth 20000 in
theorem t_firstFresh {g : Ev} {S : St} {iv : IV} {lw : LW} {b : Nat} (hb : IsCamp S b) {V : Cv} (hV : XC iv b V) {m d : Nat} (hm : m ≤ 5) (hd : d ≤ 8) : CP g mX4_firstFresh [.ref (b), .int (nI m), .int (nI d)] S iv lw (.int (oI (ffO (fun x => clearB V (rowP m x) d none) (5 ^ m)))) := by
  refine CT_ofQ rfl (by decide) (Nat.le_of_ble_eq_true rfl) (lv := [(0, .ref (b)), (1, .int (nI m)), (2, .int (nI d))]) rfl (fun Q hQ => ?_)
  have h5 := p5_le hm
  refine V_iload_n (i := 1) dX4_firstFresh_0 rfl 1 rfl ?_
  refine M_callSp (As := [.int (nI m)]) (st := []) dX4_firstFresh_1 ls_X4_53 ⟨by decide, by decide⟩ ⟨rfl, rfl⟩ rfl (Nat.le_of_ble_eq_true rfl) (t_countRows hm) ?_
  refine V_istore_n (lv2 := [(3, .int (nI (5 ^ m))), (0, .ref (b)), (1, .int (nI m)), (2, .int (nI d))]) dX4_firstFresh_4 rfl (by decide) rfl ?_
  refine V_iconst (v := nI 0) dX4_firstFresh_5 rfl ?_
  refine V_istore (lv2 := [(4, .int (nI 0)), (3, .int (nI (5 ^ m))), (0, .ref (b)), (1, .int (nI m)), (2, .int (nI d))]) dX4_firstFresh_6 (by decide) rfl ?_
  have lp8 : ∀ j, j ≤ (5 ^ m) → (∀ k, k < j → (fun x => clearB V (rowP m x) d none) k = false) → VM g mX4_firstFresh 8 [(4, .int (nI j)), (3, .int (nI (5 ^ m))), (0, .ref (b)), (1, .int (nI m)), (2, .int (nI d))] [] S iv lw Q := by
    refine up_ind fun j hj ih8 => ?_
    intro hal
    refine V_iload dX4_firstFresh_8 0 rfl ?_
    refine V_iload_n (i := 3) dX4_firstFresh_10 rfl 1 rfl ?_
    refine V_icmp_ge (tgt := 38) dX4_firstFresh_11 rfl (fun h11 => ?_) (fun h11 => ?_)
    · have h11 : (5 ^ m) ≤ j := (nI_leI (by omega) (by omega)).mp h11
      refine V_iconst (v := (-1)) dX4_firstFresh_38 rfl ?_
      refine V_iret dX4_firstFresh_39 ⟨rfl, rfl⟩ (Nat.zero_le _) (Nat.zero_le _) ?_
      subst hQ
      exact ⟨by rw [ffO_none (fun k hk => hal k (by omega))]; rfl, rfl⟩
    · have h11 : ¬ (5 ^ m) ≤ j := fun q => h11 ((nI_leI (by omega) (by omega)).mpr q)
      refine V_aload_n (i := 0) dX4_firstFresh_14 rfl 2 rfl ?_
      refine V_iload dX4_firstFresh_15 0 rfl ?_
      refine V_iload_n (i := 1) dX4_firstFresh_17 rfl 3 rfl ?_
      refine M_callSp (As := [.int (nI j), .int (nI m)]) (st := [.ref (b)]) dX4_firstFresh_18 ls_X4_56 ⟨by decide, by decide⟩ ⟨rfl, rfl⟩ rfl (Nat.le_of_ble_eq_true rfl) (t_packedRow hm (x := j) (by omega)) ?_
      refine V_iload_n (i := 2) dX4_firstFresh_21 rfl 4 rfl ?_
      refine V_iconst (v := (-1)) dX4_firstFresh_22 rfl ?_
      refine M_callSp (As := [.ref (b), .int (nI (rowP m j)), .int (nI d), .int ((-1))]) (st := []) dX4_firstFresh_23 ls_X4_43 ⟨by decide, by decide⟩ ⟨rfl, rfl⟩ rfl (Nat.le_of_ble_eq_true rfl) (t_isClear hb hV (but := none) (rowP_lt (by omega)) hd (fun k hk => by cases hk)) ?_
      refine V_if_eq (tgt := 32) dX4_firstFresh_26 rfl (fun h26 => ?_) (fun h26 => ?_)
      · have h26 : ¬ (clearB V (rowP m j) d none = true) := bI_eq0.mp h26
        refine V_iinc (v := nI (j + 1)) (lv2 := [(4, .int (nI (j + 1))), (3, .int (nI (5 ^ m))), (0, .ref (b)), (1, .int (nI m)), (2, .int (nI d))]) dX4_firstFresh_32 0 rfl (nI_inc _) (by decide) rfl ?_
        refine V_goto (tgt := 8) dX4_firstFresh_35 rfl ?_
        refine V_sub [0, 1, 2, 3, 4] rfl ?_
        exact M_at (ih8 (by omega) (fun k hk => (Nat.lt_or_ge k j).elim (hal k) (fun z => by have e9 : k = j := (by omega); rw [e9]; simpa using h26))) (rfl) rfl (rfl) (rfl)
      · have h26 : clearB V (rowP m j) d none = true := bI_ne.mp h26
        refine V_iload dX4_firstFresh_29 0 rfl ?_
        refine V_iret dX4_firstFresh_31 ⟨rfl, rfl⟩ (Nat.zero_le _) (Nat.zero_le _) ?_
        subst hQ
        exact ⟨by rw [ffO_at (by omega) hal h26]; rfl, rfl⟩
  refine V_sub [0, 1, 2, 3, 4] rfl ?_
  exact M_at (lp8 0 (Nat.zero_le _) (fun k hk => absurd hk (by omega))) (rfl) rfl (rfl) (rfl)
set_option maxRecDepth 20000 in
theorem t_fewestChanges {g : Ev} {S : St} {iv : IV} {lw : LW} {b : Nat} (hb : IsCamp S b) {V : Cv} (hV : XC iv b V) {c d : Nat} (hc : c < v_nc V) (hz : v_sz V c ≤ 5) (hd : d ≤ 8) : CP g mX4_fewestChanges [.ref (b), .int (nI c), .int (nI d)] S iv lw (.int (oI (fcTo (fun x => dst (rowP (v_sz V c) x) (v_pk V c)) (fun x => clearB V (rowP (v_sz V c) x) d (some c)) (5 ^ v_sz V c)))) := by
  refine CT_ofQ rfl (by decide) (Nat.le_of_ble_eq_true rfl) (lv := [(0, .ref (b)), (1, .int (nI c)), (2, .int (nI d))]) rfl (fun Q hQ => ?_)
  have h5 := p5_le hz
  have hnc := hV.ok.nc
  refine V_aload_n (i := 0) dX4_fewestChanges_0 rfl 0 rfl ?_
  refine V_iload_n (i := 1) dX4_fewestChanges_1 rfl 1 rfl ?_
  refine M_callVp (As := [.int (nI c)]) (st := []) dX4_fewestChanges_2 lv_X4_24 ⟨by decide, by decide⟩ ⟨rfl, rfl⟩ rfl (ci := 0) hb.1 rfl rfl (Nat.le_of_ble_eq_true rfl) (t_X0_sizeOf hb hV hc) ?_
  refine V_istore_n (lv2 := [(3, .int (nI (v_sz V c))), (0, .ref (b)), (1, .int (nI c)), (2, .int (nI d))]) dX4_fewestChanges_5 rfl (by decide) rfl ?_
  refine V_iload_n (i := 3) dX4_fewestChanges_6 rfl 0 rfl ?_
  refine M_callSp (As := [.int (nI (v_sz V c))]) (st := []) dX4_fewestChanges_7 ls_X4_53 ⟨by decide, by decide⟩ ⟨rfl, rfl⟩ rfl (Nat.le_of_ble_eq_true rfl) (t_countRows hz) ?_
  refine V_istore (lv2 := [(4, .int (nI (5 ^ v_sz V c))), (3, .int (nI (v_sz V c))), (0, .ref (b)), (1, .int (nI c)), (2, .int (nI d))]) dX4_fewestChanges_10 (by decide) rfl ?_
  refine V_iconst (v := (-1)) dX4_fewestChanges_12 rfl ?_
  refine V_istore (lv2 := [(5, .int ((-1))), (4, .int (nI (5 ^ v_sz V c))), (3, .int (nI (v_sz V c))), (0, .ref (b)), (1, .int (nI c)), (2, .int (nI d))]) dX4_fewestChanges_13 (by decide) rfl ?_
  refine V_iconst (v := nI 0) dX4_fewestChanges_15 rfl ?_
  refine V_istore (lv2 := [(6, .int (nI 0)), (5, .int ((-1))), (4, .int (nI (5 ^ v_sz V c))), (3, .int (nI (v_sz V c))), (0, .ref (b)), (1, .int (nI c)), (2, .int (nI d))]) dX4_fewestChanges_16 (by decide) rfl ?_
  have lp18 : ∀ j, j ≤ (5 ^ v_sz V c) → VM g mX4_fewestChanges 18 [(5, .int (oI (fcTo (fun x => dst (rowP (v_sz V c) x) (v_pk V c)) (fun x => clearB V (rowP (v_sz V c) x) d (some c)) j))), (6, .int (nI j)), (4, .int (nI (5 ^ v_sz V c))), (3, .int (nI (v_sz V c))), (0, .ref (b)), (1, .int (nI c)), (2, .int (nI d))] [] S iv lw Q := by
    refine up_ind fun j hj ih18 => ?_
    refine V_iload dX4_fewestChanges_18 1 rfl ?_
    refine V_iload dX4_fewestChanges_20 2 rfl ?_
    refine V_icmp_ge (tgt := 79) dX4_fewestChanges_22 rfl (fun h22 => ?_) (fun h22 => ?_)
    · have h22 : (5 ^ v_sz V c) ≤ j := (nI_leI (by omega) (by omega)).mp h22
      refine V_iload dX4_fewestChanges_79 0 rfl ?_
      refine V_iret dX4_fewestChanges_81 ⟨rfl, rfl⟩ (Nat.zero_le _) (Nat.zero_le _) ?_
      subst hQ
      exact ⟨by rw [show j = 5 ^ v_sz V c by omega], rfl⟩
    · have h22 : ¬ (5 ^ v_sz V c) ≤ j := fun q => h22 ((nI_leI (by omega) (by omega)).mpr q)
      refine V_iload dX4_fewestChanges_25 1 rfl ?_
      refine V_iload_n (i := 3) dX4_fewestChanges_27 rfl 3 rfl ?_
      refine M_callSp (As := [.int (nI j), .int (nI (v_sz V c))]) (st := []) dX4_fewestChanges_28 ls_X4_56 ⟨by decide, by decide⟩ ⟨rfl, rfl⟩ rfl (Nat.le_of_ble_eq_true rfl) (t_packedRow hz (x := j) (by omega)) ?_
      refine V_istore (lv2 := [(7, .int (nI (rowP (v_sz V c) j))), (5, .int (oI (fcTo (fun x => dst (rowP (v_sz V c) x) (v_pk V c)) (fun x => clearB V (rowP (v_sz V c) x) d (some c)) j))), (6, .int (nI j)), (4, .int (nI (5 ^ v_sz V c))), (3, .int (nI (v_sz V c))), (0, .ref (b)), (1, .int (nI c)), (2, .int (nI d))]) dX4_fewestChanges_31 (by decide) rfl ?_
      refine V_iload dX4_fewestChanges_33 0 rfl ?_
      refine V_aload_n (i := 0) dX4_fewestChanges_35 rfl 5 rfl ?_
      refine V_iload_n (i := 1) dX4_fewestChanges_36 rfl 6 rfl ?_
      refine M_callVp (As := [.int (nI c)]) (st := [.int (nI (rowP (v_sz V c) j))]) dX4_fewestChanges_37 lv_X4_40 ⟨by decide, by decide⟩ ⟨rfl, rfl⟩ rfl (ci := 0) hb.1 rfl rfl (Nat.le_of_ble_eq_true rfl) (t_X0_packedOf hb hV hc) ?_
      refine M_callSp (As := [.int (nI (rowP (v_sz V c) j)), .int (nI (v_pk V c))]) (st := []) dX4_fewestChanges_40 ls_X4_47 ⟨by decide, by decide⟩ ⟨rfl, rfl⟩ rfl (Nat.le_of_ble_eq_true rfl) (t_distance (rowP_lt (by omega)) (z_pk8 hV.ok hc)) ?_
      refine V_istore (lv2 := [(8, .int (nI (dst (rowP (v_sz V c) j) (v_pk V c)))), (7, .int (nI (rowP (v_sz V c) j))), (5, .int (oI (fcTo (fun x => dst (rowP (v_sz V c) x) (v_pk V c)) (fun x => clearB V (rowP (v_sz V c) x) d (some c)) j))), (6, .int (nI j)), (4, .int (nI (5 ^ v_sz V c))), (3, .int (nI (v_sz V c))), (0, .ref (b)), (1, .int (nI c)), (2, .int (nI d))]) dX4_fewestChanges_43 (by decide) rfl ?_
      refine V_iload dX4_fewestChanges_45 2 rfl ?_
      refine V_iconst (v := (-1)) dX4_fewestChanges_47 rfl ?_
      have hg := fcTo_le (g := (fun x => dst (rowP (v_sz V c) x) (v_pk V c))) (p := (fun x => clearB V (rowP (v_sz V c) x) d (some c))) (M := 8) (fun _ => dst_le _ _) j
      refine V_icmp_eq (tgt := 58) dX4_fewestChanges_48 rfl (fun h48 => ?_) (fun h48 => ?_)
      · have h48 := (oI_m1 hg (by omega)).mp h48
        refine V_aload_n (i := 0) dX4_fewestChanges_58 rfl 6 rfl ?_
        refine V_iload dX4_fewestChanges_59 1 rfl ?_
        refine V_iload_n (i := 2) dX4_fewestChanges_61 rfl 8 rfl ?_
        refine V_iload_n (i := 1) dX4_fewestChanges_62 rfl 7 rfl ?_
        refine M_callSp (As := [.ref (b), .int (nI (rowP (v_sz V c) j)), .int (nI d), .int (nI c)]) (st := []) dX4_fewestChanges_63 ls_X4_43 ⟨by decide, by decide⟩ ⟨rfl, rfl⟩ rfl (Nat.le_of_ble_eq_true rfl) (t_isClear hb hV (but := some c) (rowP_lt (by omega)) hd (fun k hk => by cases hk; omega)) ?_
        refine V_if_eq (tgt := 73) dX4_fewestChanges_66 rfl (fun h66 => ?_) (fun h66 => ?_)
        · have h66 : ¬ (clearB V (rowP (v_sz V c) j) d (some c) = true) := bI_eq0.mp h66
          refine V_iinc (v := nI (j + 1)) (lv2 := [(6, .int (nI (j + 1))), (8, .int (nI (dst (rowP (v_sz V c) j) (v_pk V c)))), (7, .int (nI (rowP (v_sz V c) j))), (5, .int (oI (fcTo (fun x => dst (rowP (v_sz V c) x) (v_pk V c)) (fun x => clearB V (rowP (v_sz V c) x) d (some c)) j))), (4, .int (nI (5 ^ v_sz V c))), (3, .int (nI (v_sz V c))), (0, .ref (b)), (1, .int (nI c)), (2, .int (nI d))]) dX4_fewestChanges_73 3 rfl (nI_inc _) (by decide) rfl ?_
          refine V_goto (tgt := 18) dX4_fewestChanges_76 rfl ?_
          refine V_sub [3, 0, 4, 5, 6, 7, 8] rfl ?_
          exact M_at (ih18 (by omega)) (by rw [fcTo_old (g := (fun x => dst (rowP (v_sz V c) x) (v_pk V c))) (p := (fun x => clearB V (rowP (v_sz V c) x) d (some c))) (n := j) (fun z => h66 z.2)]; rfl) rfl (rfl) (rfl)
        · have h66 : clearB V (rowP (v_sz V c) j) d (some c) = true := bI_ne.mp h66
          refine V_iload dX4_fewestChanges_69 0 rfl ?_
          refine V_istore (lv2 := [(5, .int (nI (dst (rowP (v_sz V c) j) (v_pk V c)))), (8, .int (nI (dst (rowP (v_sz V c) j) (v_pk V c)))), (7, .int (nI (rowP (v_sz V c) j))), (6, .int (nI j)), (4, .int (nI (5 ^ v_sz V c))), (3, .int (nI (v_sz V c))), (0, .ref (b)), (1, .int (nI c)), (2, .int (nI d))]) dX4_fewestChanges_71 (by decide) rfl ?_
          refine V_iinc (v := nI (j + 1)) (lv2 := [(6, .int (nI (j + 1))), (5, .int (nI (dst (rowP (v_sz V c) j) (v_pk V c)))), (8, .int (nI (dst (rowP (v_sz V c) j) (v_pk V c)))), (7, .int (nI (rowP (v_sz V c) j))), (4, .int (nI (5 ^ v_sz V c))), (3, .int (nI (v_sz V c))), (0, .ref (b)), (1, .int (nI c)), (2, .int (nI d))]) dX4_fewestChanges_73 3 rfl (nI_inc _) (by decide) rfl ?_
          refine V_goto (tgt := 18) dX4_fewestChanges_76 rfl ?_
          refine V_sub [1, 0, 4, 5, 6, 7, 8] rfl ?_
          exact M_at (ih18 (by omega)) (by rw [fcTo_new (g := (fun x => dst (rowP (v_sz V c) x) (v_pk V c))) (p := (fun x => clearB V (rowP (v_sz V c) x) d (some c))) (n := j) (Or.inl h48) h66]; rfl) rfl (rfl) (rfl)
      · have h48 : ¬ fcTo (fun x => dst (rowP (v_sz V c) x) (v_pk V c)) (fun x => clearB V (rowP (v_sz V c) x) d (some c)) j = none := fun z => h48 ((oI_m1 hg (by omega)).mpr z)
        obtain ⟨k0, hk0⟩ := Option.ne_none_iff_exists'.mp h48
        refine M_at (lv2 := [(8, .int (nI (dst (rowP (v_sz V c) j) (v_pk V c)))), (7, .int (nI (rowP (v_sz V c) j))), (5, .int (nI k0)), (6, .int (nI j)), (4, .int (nI (5 ^ v_sz V c))), (3, .int (nI (v_sz V c))), (0, .ref (b)), (1, .int (nI c)), (2, .int (nI d))]) (st2 := []) ?_ (by rw [hk0]; rfl) rfl rfl rfl
        refine V_iload dX4_fewestChanges_51 0 rfl ?_
        refine V_iload dX4_fewestChanges_53 2 rfl ?_
        have hg0 := hg k0 hk0
        have hg1 := dst_le (rowP (v_sz V c) j) (v_pk V c)
        refine V_icmp_ge (tgt := 73) dX4_fewestChanges_55 rfl (fun h55 => ?_) (fun h55 => ?_)
        · have h55 : k0 ≤ (dst (rowP (v_sz V c) j) (v_pk V c)) := (nI_leI (by omega) (by omega)).mp h55
          refine V_iinc (v := nI (j + 1)) (lv2 := [(6, .int (nI (j + 1))), (8, .int (nI (dst (rowP (v_sz V c) j) (v_pk V c)))), (7, .int (nI (rowP (v_sz V c) j))), (5, .int (nI k0)), (4, .int (nI (5 ^ v_sz V c))), (3, .int (nI (v_sz V c))), (0, .ref (b)), (1, .int (nI c)), (2, .int (nI d))]) dX4_fewestChanges_73 3 rfl (nI_inc _) (by decide) rfl ?_
          refine V_goto (tgt := 18) dX4_fewestChanges_76 rfl ?_
          refine V_sub [3, 0, 4, 5, 6, 7, 8] rfl ?_
          exact M_at (ih18 (by omega)) (by rw [fcTo_old (g := (fun x => dst (rowP (v_sz V c) x) (v_pk V c))) (p := (fun x => clearB V (rowP (v_sz V c) x) d (some c))) (n := j) (fun z => z.1.elim h48 (by rw [hk0]; exact Nat.not_lt.mpr h55)), hk0]; rfl) rfl (rfl) (rfl)
        · have h55 : ¬ k0 ≤ (dst (rowP (v_sz V c) j) (v_pk V c)) := fun q => h55 ((nI_leI (by omega) (by omega)).mpr q)
          refine V_aload_n (i := 0) dX4_fewestChanges_58 rfl 6 rfl ?_
          refine V_iload dX4_fewestChanges_59 1 rfl ?_
          refine V_iload_n (i := 2) dX4_fewestChanges_61 rfl 8 rfl ?_
          refine V_iload_n (i := 1) dX4_fewestChanges_62 rfl 7 rfl ?_
          refine M_callSp (As := [.ref (b), .int (nI (rowP (v_sz V c) j)), .int (nI d), .int (nI c)]) (st := []) dX4_fewestChanges_63 ls_X4_43 ⟨by decide, by decide⟩ ⟨rfl, rfl⟩ rfl (Nat.le_of_ble_eq_true rfl) (t_isClear hb hV (but := some c) (rowP_lt (by omega)) hd (fun k hk => by cases hk; omega)) ?_
          refine V_if_eq (tgt := 73) dX4_fewestChanges_66 rfl (fun h66 => ?_) (fun h66 => ?_)
          · have h66 : ¬ (clearB V (rowP (v_sz V c) j) d (some c) = true) := bI_eq0.mp h66
            refine V_iinc (v := nI (j + 1)) (lv2 := [(6, .int (nI (j + 1))), (8, .int (nI (dst (rowP (v_sz V c) j) (v_pk V c)))), (7, .int (nI (rowP (v_sz V c) j))), (5, .int (nI k0)), (4, .int (nI (5 ^ v_sz V c))), (3, .int (nI (v_sz V c))), (0, .ref (b)), (1, .int (nI c)), (2, .int (nI d))]) dX4_fewestChanges_73 3 rfl (nI_inc _) (by decide) rfl ?_
            refine V_goto (tgt := 18) dX4_fewestChanges_76 rfl ?_
            refine V_sub [3, 0, 4, 5, 6, 7, 8] rfl ?_
            exact M_at (ih18 (by omega)) (by rw [fcTo_old (g := (fun x => dst (rowP (v_sz V c) x) (v_pk V c))) (p := (fun x => clearB V (rowP (v_sz V c) x) d (some c))) (n := j) (fun z => h66 z.2), hk0]; rfl) rfl (rfl) (rfl)
          · have h66 : clearB V (rowP (v_sz V c) j) d (some c) = true := bI_ne.mp h66
            refine V_iload dX4_fewestChanges_69 0 rfl ?_
            refine V_istore (lv2 := [(5, .int (nI (dst (rowP (v_sz V c) j) (v_pk V c)))), (8, .int (nI (dst (rowP (v_sz V c) j) (v_pk V c)))), (7, .int (nI (rowP (v_sz V c) j))), (6, .int (nI j)), (4, .int (nI (5 ^ v_sz V c))), (3, .int (nI (v_sz V c))), (0, .ref (b)), (1, .int (nI c)), (2, .int (nI d))]) dX4_fewestChanges_71 (by decide) rfl ?_
            refine V_iinc (v := nI (j + 1)) (lv2 := [(6, .int (nI (j + 1))), (5, .int (nI (dst (rowP (v_sz V c) j) (v_pk V c)))), (8, .int (nI (dst (rowP (v_sz V c) j) (v_pk V c)))), (7, .int (nI (rowP (v_sz V c) j))), (4, .int (nI (5 ^ v_sz V c))), (3, .int (nI (v_sz V c))), (0, .ref (b)), (1, .int (nI c)), (2, .int (nI d))]) dX4_fewestChanges_73 3 rfl (nI_inc _) (by decide) rfl ?_
            refine V_goto (tgt := 18) dX4_fewestChanges_76 rfl ?_
            refine V_sub [1, 0, 4, 5, 6, 7, 8] rfl ?_
            exact M_at (ih18 (by omega)) (by rw [fcTo_new (g := (fun x => dst (rowP (v_sz V c) x) (v_pk V c))) (p := (fun x => clearB V (rowP (v_sz V c) x) d (some c))) (n := j) (Or.inr (by rw [hk0]; exact Nat.lt_of_not_le h55)) h66]; rfl) rfl (rfl) (rfl)
  refine V_sub [1, 0, 2, 3, 4, 5, 6] rfl ?_
  exact M_at (lp18 0 (Nat.zero_le _)) (rfl) rfl (rfl) (rfl)
set_option maxRecDepth 20000 in
theorem t_findTooNear {g : Ev} {S : St} {iv : IV} {lw : LW} {b : Nat} (hb : IsCamp S b) {V : Cv} (hV : XC iv b V) {q : Nat} (hq : IsLike S q) (hd : b + 8 < q) {d : Nat} (hd8 : d ≤ 8) : CN g mX4_findTooNear [.ref (q), .ref (b), .int (nI d)] S iv lw (fun iv2 lw2 => lw = lw2 ∧ NearOK iv2 q V d (v_nc V) ∧ Off q 2 iv iv2) := by
  refine CT_ofQ rfl (by decide) (Nat.le_of_ble_eq_true rfl) (lv := [(0, .ref (q)), (1, .ref (b)), (2, .int (nI d))]) rfl (fun Q hQ => ?_)
  have hnc := hV.ok.nc
  refine V_iconst (v := nI 0) dX4_findTooNear_0 rfl ?_
  refine V_istore_n (lv2 := [(3, .int (nI 0)), (0, .ref (q)), (1, .ref (b)), (2, .int (nI d))]) dX4_findTooNear_1 rfl (by decide) rfl ?_
  have lp2 : ∀ j, j ≤ (v_nc V) → ∀ iv2 : IV, Off q 2 iv iv2 → NearOK iv2 q V d j → VM g mX4_findTooNear 2 [(3, .int (nI j)), (0, .ref (q)), (1, .ref (b)), (2, .int (nI d))] [] S iv2 lw Q := by
    refine up_ind fun j hj ih2 => ?_
    intro iv2 hO hN
    have hVj := hV.off hO hd
    refine V_iload_n (i := 3) dX4_findTooNear_2 rfl 0 rfl ?_
    refine V_aload_n (i := 1) dX4_findTooNear_3 rfl 2 rfl ?_
    refine M_getI (x := nI (v_nc V)) dX4_findTooNear_4 lf_X4_36 rfl hb.1 (hVj.nc) ?_
    refine V_icmp_ge (tgt := 87) dX4_findTooNear_7 rfl (fun h7 => ?_) (fun h7 => ?_)
    · have h7 : (v_nc V) ≤ j := (nI_leI (by omega) (by omega)).mp h7
      refine V_vret dX4_findTooNear_87 ⟨rfl, rfl⟩ (Nat.zero_le _) (Nat.zero_le _) ?_
      subst hQ
      exact ⟨_, _, rfl, rfl, rfl, by rw [← show j = v_nc V by omega]; exact hN, hO⟩
    · have h7 : ¬ (v_nc V) ≤ j := fun q => h7 ((nI_leI (by omega) (by omega)).mpr q)
      refine V_iload_n (i := 3) dX4_findTooNear_10 rfl 0 rfl ?_
      refine V_aload_n (i := 0) dX4_findTooNear_11 rfl 1 rfl ?_
      refine M_getR dX4_findTooNear_12 lf_X4_11 rfl hq.1 hq.2.1 ?_
      refine M_alen (t := 0) dX4_findTooNear_15 (by decide) hq.2.2 ?_
      refine V_icmp_ge (tgt := 87) dX4_findTooNear_16 rfl (fun q => absurd q (by show ¬ nI j ≥ nI 12; exact fun z => absurd ((nI_leI (by omega) (by omega)).mp z) (by omega))) (fun _ => ?_)
      refine V_iconst (v := nI 0) dX4_findTooNear_19 rfl ?_
      refine V_istore (lv2 := [(4, .int (nI 0)), (3, .int (nI j)), (0, .ref (q)), (1, .ref (b)), (2, .int (nI d))]) dX4_findTooNear_20 (by decide) rfl ?_
      refine V_iconst (v := nI 0) dX4_findTooNear_22 rfl ?_
      refine V_istore (lv2 := [(5, .int (nI 0)), (4, .int (nI 0)), (3, .int (nI j)), (0, .ref (q)), (1, .ref (b)), (2, .int (nI d))]) dX4_findTooNear_23 (by decide) rfl ?_
      have lp25 : ∀ i, i ≤ (v_nc V) → VM g mX4_findTooNear 25 [(4, .int (nI (nearTo V d j i))), (5, .int (nI i)), (3, .int (nI j)), (0, .ref (q)), (1, .ref (b)), (2, .int (nI d))] [] S iv2 lw Q := by
        refine up_ind fun i hi ih25 => ?_
        refine V_iload dX4_findTooNear_25 1 rfl ?_
        refine V_aload_n (i := 1) dX4_findTooNear_27 rfl 4 rfl ?_
        refine M_getI (x := nI (v_nc V)) dX4_findTooNear_28 lf_X4_36 rfl hb.1 (hVj.nc) ?_
        refine V_icmp_ge (tgt := 73) dX4_findTooNear_31 rfl (fun h31 => ?_) (fun h31 => ?_)
        · have h31 : (v_nc V) ≤ i := (nI_leI (by omega) (by omega)).mp h31
          refine M_at (lv2 := [(4, .int (nI (nearTo V d j (v_nc V)))), (5, .int (nI i)), (3, .int (nI j)), (0, .ref (q)), (1, .ref (b)), (2, .int (nI d))]) (st2 := []) ?_ (by rw [show i = v_nc V by omega]) rfl rfl rfl
          refine V_aload_n (i := 0) dX4_findTooNear_73 rfl 3 rfl ?_
          refine M_getR dX4_findTooNear_74 lf_X4_11 rfl hq.1 hq.2.1 ?_
          refine V_iload_n (i := 3) dX4_findTooNear_77 rfl 2 rfl ?_
          refine V_iload dX4_findTooNear_78 0 rfl ?_
          refine M_iastn (j := j) dX4_findTooNear_80 hq.2.2 (by decide) (by omega) ?_
          refine V_iinc (v := nI (j + 1)) (lv2 := [(3, .int (nI (j + 1))), (4, .int (nI (nearTo V d j (v_nc V)))), (5, .int (nI i)), (0, .ref (q)), (1, .ref (b)), (2, .int (nI d))]) dX4_findTooNear_81 2 rfl (nI_inc _) (by decide) rfl ?_
          refine V_goto (tgt := 2) dX4_findTooNear_84 rfl ?_
          refine V_sub [0, 3, 4, 5] rfl ?_
          exact M_at (ih2 (by omega) (up2 iv2 (q + 1) j (nI (nearTo V d j (v_nc V)))) (hO.up (by omega) (by omega)) hN.up) (rfl) rfl (rfl) (rfl)
        · have h31 : ¬ (v_nc V) ≤ i := fun q => h31 ((nI_leI (by omega) (by omega)).mpr q)
          refine V_iload dX4_findTooNear_34 1 rfl ?_
          refine V_iload_n (i := 3) dX4_findTooNear_36 rfl 2 rfl ?_
          refine V_icmp_eq (tgt := 67) dX4_findTooNear_37 rfl (fun h37 => ?_) (fun h37 => ?_)
          · have h37 : i = j := (nI_eq (by omega) (by omega)).mp h37
            refine V_iinc (v := nI (i + 1)) (lv2 := [(5, .int (nI (i + 1))), (4, .int (nI (nearTo V d j i))), (3, .int (nI j)), (0, .ref (q)), (1, .ref (b)), (2, .int (nI d))]) dX4_findTooNear_67 1 rfl (nI_inc _) (by decide) rfl ?_
            refine V_goto (tgt := 25) dX4_findTooNear_70 rfl ?_
            refine V_sub [1, 0, 2, 3, 4, 5] rfl ?_
            exact M_at (ih25 (by omega)) (by rw [nearTo_f (fun z => z.1 h37)]; rfl) rfl (rfl) (rfl)
          · have h37 : ¬ i = j := fun q => h37 ((nI_eq (by omega) (by omega)).mpr q)
            refine V_aload_n (i := 1) dX4_findTooNear_40 rfl 4 rfl ?_
            refine V_iload_n (i := 3) dX4_findTooNear_41 rfl 2 rfl ?_
            refine M_callVp (As := [.int (nI j)]) (st := []) dX4_findTooNear_42 lv_X4_40 ⟨by decide, by decide⟩ ⟨rfl, rfl⟩ rfl (ci := 0) hb.1 rfl rfl (Nat.le_of_ble_eq_true rfl) (t_X0_packedOf hb hVj (c := j) (by omega)) ?_
            refine V_aload_n (i := 1) dX4_findTooNear_45 rfl 4 rfl ?_
            refine V_iload dX4_findTooNear_46 1 rfl ?_
            refine M_callVp (As := [.int (nI i)]) (st := [.int (nI (v_pk V j))]) dX4_findTooNear_48 lv_X4_40 ⟨by decide, by decide⟩ ⟨rfl, rfl⟩ rfl (ci := 0) hb.1 rfl rfl (Nat.le_of_ble_eq_true rfl) (t_X0_packedOf hb hVj (c := i) (by omega)) ?_
            refine M_callSp (As := [.int (nI (v_pk V j)), .int (nI (v_pk V i))]) (st := []) dX4_findTooNear_51 ls_X4_47 ⟨by decide, by decide⟩ ⟨rfl, rfl⟩ rfl (Nat.le_of_ble_eq_true rfl) (t_distance (z_pk8 hV.ok (by omega)) (z_pk8 hV.ok (by omega))) ?_
            refine V_iload_n (i := 2) dX4_findTooNear_54 rfl 5 rfl ?_
            have hp2 : dpk V j i ≤ 8 := dst_le _ _
            have hp3 : dst (v_pk V j) (v_pk V i) ≤ 8 := dst_le _ _
            refine V_icmp_ge (tgt := 67) dX4_findTooNear_55 rfl (fun h55 => ?_) (fun h55 => ?_)
            · have h55 : d ≤ (dpk V j i) := (nI_leI (by omega) (by omega)).mp h55
              refine V_iinc (v := nI (i + 1)) (lv2 := [(5, .int (nI (i + 1))), (4, .int (nI (nearTo V d j i))), (3, .int (nI j)), (0, .ref (q)), (1, .ref (b)), (2, .int (nI d))]) dX4_findTooNear_67 1 rfl (nI_inc _) (by decide) rfl ?_
              refine V_goto (tgt := 25) dX4_findTooNear_70 rfl ?_
              refine V_sub [1, 0, 2, 3, 4, 5] rfl ?_
              exact M_at (ih25 (by omega)) (by rw [nearTo_f (fun z => absurd z.2 (Nat.not_lt.mpr h55))]; rfl) rfl (rfl) (rfl)
            · have h55 : ¬ d ≤ (dpk V j i) := fun q => h55 ((nI_leI (by omega) (by omega)).mpr q)
              refine V_iload dX4_findTooNear_58 0 rfl ?_
              refine V_iconst (v := nI 1) dX4_findTooNear_60 rfl ?_
              refine V_iload dX4_findTooNear_61 1 rfl ?_
              refine V_ishl dX4_findTooNear_63 ?_
              refine M_top (x2 := nI (2 ^ i)) ((nI_shl (by omega) _).trans (by rw [Nat.one_mul])) ?_
              refine V_ior dX4_findTooNear_64 ?_
              refine M_top (x2 := nI (nearTo V d j i ||| 2 ^ i)) (nI_or _ _) ?_
              refine V_istore (lv2 := [(4, .int (nI (nearTo V d j i ||| 2 ^ i))), (5, .int (nI i)), (3, .int (nI j)), (0, .ref (q)), (1, .ref (b)), (2, .int (nI d))]) dX4_findTooNear_65 (by decide) rfl ?_
              refine V_iinc (v := nI (i + 1)) (lv2 := [(5, .int (nI (i + 1))), (4, .int (nI (nearTo V d j i ||| 2 ^ i))), (3, .int (nI j)), (0, .ref (q)), (1, .ref (b)), (2, .int (nI d))]) dX4_findTooNear_67 1 rfl (nI_inc _) (by decide) rfl ?_
              refine V_goto (tgt := 25) dX4_findTooNear_70 rfl ?_
              refine V_sub [1, 0, 2, 3, 4, 5] rfl ?_
              exact M_at (ih25 (by omega)) (by rw [nearTo_t ⟨h37, Nat.lt_of_not_le h55⟩]; rfl) rfl (rfl) (rfl)
      refine V_sub [1, 0, 2, 3, 4, 5] rfl ?_
      exact M_at (lp25 0 (Nat.zero_le _)) (rfl) rfl (rfl) (rfl)
  refine V_sub [0, 1, 2, 3] rfl ?_
  exact M_at (lp2 0 (Nat.zero_le _) iv Off.rf (fun c hc => absurd hc (by omega))) (rfl) rfl (rfl) (rfl)
set_option maxRecDepth 20000 in
theorem t_usesIfKept {g : Ev} {S : St} {iv : IV} {lw : LW} {b : Nat} (hb : IsCamp S b) {V : Cv} (hV : XC iv b V) {q : Nat} (hq : IsLike S q) (hd : b + 8 < q) {d t : Nat} (hd8 : d ≤ 8) (ht : t < 4096) (hN : NearOK iv q V d (v_nc V)) : CP g mX4_usesIfKept [.ref (q), .ref (b), .int (nI t)] S iv lw (.int (nI (kV V d t))) := by
  refine CT_ofQ rfl (by decide) (Nat.le_of_ble_eq_true rfl) (lv := [(0, .ref (q)), (1, .ref (b)), (2, .int (nI t))]) rfl (fun Q hQ => ?_)
  have hnc := hV.ok.nc
  refine V_iconst (v := nI 0) dX4_usesIfKept_0 rfl ?_
  refine V_istore_n (lv2 := [(3, .int (nI 0)), (0, .ref (q)), (1, .ref (b)), (2, .int (nI t))]) dX4_usesIfKept_1 rfl (by decide) rfl ?_
  refine V_iconst (v := nI 0) dX4_usesIfKept_2 rfl ?_
  refine V_istore (lv2 := [(4, .int (nI 0)), (3, .int (nI 0)), (0, .ref (q)), (1, .ref (b)), (2, .int (nI t))]) dX4_usesIfKept_3 (by decide) rfl ?_
  have lp5 : ∀ j, j ≤ (v_nc V) → allTo (fun c => !uB V d t c) j = true → VM g mX4_usesIfKept 5 [(3, .int (nI (sumTo (fun c => if t.testBit c = true then v_us V c else 0) j))), (4, .int (nI j)), (0, .ref (q)), (1, .ref (b)), (2, .int (nI t))] [] S iv lw Q := by
    refine up_ind fun j hj ih5 => ?_
    intro hal
    refine V_iload dX4_usesIfKept_5 1 rfl ?_
    refine V_aload_n (i := 1) dX4_usesIfKept_7 rfl 3 rfl ?_
    refine M_getI (x := nI (v_nc V)) dX4_usesIfKept_8 lf_X4_36 rfl hb.1 (hV.nc) ?_
    refine V_icmp_ge (tgt := 63) dX4_usesIfKept_11 rfl (fun h11 => ?_) (fun h11 => ?_)
    · have h11 : (v_nc V) ≤ j := (nI_leI (by omega) (by omega)).mp h11
      refine V_iload_n (i := 3) dX4_usesIfKept_63 rfl 0 rfl ?_
      refine V_iret dX4_usesIfKept_64 ⟨rfl, rfl⟩ (Nat.zero_le _) (Nat.zero_le _) ?_
      subst hQ
      obtain rfl : j = v_nc V := by omega
      exact ⟨by unfold kV; rw [if_pos hal], rfl⟩
    · have h11 : ¬ (v_nc V) ≤ j := fun q => h11 ((nI_leI (by omega) (by omega)).mpr q)
      refine V_iload dX4_usesIfKept_14 1 rfl ?_
      refine V_aload_n (i := 0) dX4_usesIfKept_16 rfl 2 rfl ?_
      refine M_getR dX4_usesIfKept_17 lf_X4_11 rfl hq.1 hq.2.1 ?_
      refine M_alen (t := 0) dX4_usesIfKept_20 (by decide) hq.2.2 ?_
      refine V_icmp_ge (tgt := 63) dX4_usesIfKept_21 rfl (fun q => absurd q (by show ¬ nI j ≥ nI 12; exact fun z => absurd ((nI_leI (by omega) (by omega)).mp z) (by omega))) (fun _ => ?_)
      refine V_iload_n (i := 2) dX4_usesIfKept_24 rfl 4 rfl ?_
      refine V_iload dX4_usesIfKept_25 1 rfl ?_
      refine V_ishr dX4_usesIfKept_27 ?_
      refine M_top (x2 := nI (t / 2 ^ j)) (nI_shr (by omega) (by omega)) ?_
      refine V_iconst (v := nI 1) dX4_usesIfKept_28 rfl ?_
      refine V_iand dX4_usesIfKept_29 ?_
      refine M_top (x2 := nI (t / 2 ^ j &&& 1)) (nI_and _ _) ?_
      refine V_iconst (v := nI 1) dX4_usesIfKept_30 rfl ?_
      have hb1 : t / 2 ^ j &&& 1 ≤ 1 := Nat.and_le_right
      refine V_icmp_ne (tgt := 57) dX4_usesIfKept_31 rfl (fun h31 => ?_) (fun h31 => ?_)
      · have h31 : ¬ (t / 2 ^ j &&& 1) = 1 := fun q => h31 ((nI_eq (by omega) (by omega)).mpr q)
        refine V_iinc (v := nI (j + 1)) (lv2 := [(4, .int (nI (j + 1))), (3, .int (nI (sumTo (fun c => if t.testBit c = true then v_us V c else 0) j))), (0, .ref (q)), (1, .ref (b)), (2, .int (nI t))]) dX4_usesIfKept_57 1 rfl (nI_inc _) (by decide) rfl ?_
        refine V_goto (tgt := 5) dX4_usesIfKept_60 rfl ?_
        have hk1 : t.testBit j = false := by rw [tb_q]; exact decide_eq_false h31
        refine V_sub [1, 0, 2, 3, 4] rfl ?_
        exact M_at (ih5 (by omega) (by show (allTo _ _ && !uB V d t j) = true; rw [hal]; unfold uB; rw [hk1]; rfl)) (by rw [sumTo_f (p := fun c => t.testBit c) (by rw [hk1]; decide)]; rfl) rfl (rfl) (rfl)
      · have h31 : (t / 2 ^ j &&& 1) = 1 := (nI_eq (by omega) (by omega)).mp h31
        refine V_aload_n (i := 0) dX4_usesIfKept_34 rfl 2 rfl ?_
        refine M_getR dX4_usesIfKept_35 lf_X4_11 rfl hq.1 hq.2.1 ?_
        refine V_iload dX4_usesIfKept_38 1 rfl ?_
        refine M_ialdn (j := j) (x := nI (nearTo V d j (v_nc V))) dX4_usesIfKept_40 hq.2.2 (by decide) (by omega) (hN _ (by omega)) ?_
        refine V_iload_n (i := 2) dX4_usesIfKept_41 rfl 4 rfl ?_
        refine V_iand dX4_usesIfKept_42 ?_
        refine M_top (x2 := nI (nearTo V d j (v_nc V) &&& t)) (nI_and _ _) ?_
        have hb2 : nearTo V d j (v_nc V) &&& t ≤ t := Nat.and_le_right
        refine V_if_eq (tgt := 48) dX4_usesIfKept_43 rfl (fun h43 => ?_) (fun h43 => ?_)
        · have h43 : (nearTo V d j (v_nc V) &&& t) = 0 := (nI_eq (b := 0) (by omega) (by omega)).mp h43
          refine V_iload_n (i := 3) dX4_usesIfKept_48 rfl 0 rfl ?_
          refine V_aload_n (i := 1) dX4_usesIfKept_49 rfl 3 rfl ?_
          refine V_iload dX4_usesIfKept_50 1 rfl ?_
          refine M_callVp (As := [.int (nI j)]) (st := [.int (nI (sumTo (fun c => if t.testBit c = true then v_us V c else 0) j))]) dX4_usesIfKept_52 lv_X4_67 ⟨by decide, by decide⟩ ⟨rfl, rfl⟩ rfl (ci := 0) hb.1 rfl rfl (Nat.le_of_ble_eq_true rfl) (t_X0_useOf hb hV (c := j) (by omega)) ?_
          refine V_iadd dX4_usesIfKept_55 ?_
          refine M_top (nI_add _ _) ?_
          refine V_istore_n (lv2 := [(3, .int (nI ((sumTo (fun c => if t.testBit c = true then v_us V c else 0) j) + (v_us V j)))), (4, .int (nI j)), (0, .ref (q)), (1, .ref (b)), (2, .int (nI t))]) dX4_usesIfKept_56 rfl (by decide) rfl ?_
          refine V_iinc (v := nI (j + 1)) (lv2 := [(4, .int (nI (j + 1))), (3, .int (nI ((sumTo (fun c => if t.testBit c = true then v_us V c else 0) j) + (v_us V j)))), (0, .ref (q)), (1, .ref (b)), (2, .int (nI t))]) dX4_usesIfKept_57 1 rfl (nI_inc _) (by decide) rfl ?_
          refine V_goto (tgt := 5) dX4_usesIfKept_60 rfl ?_
          have hk1 : t.testBit j = true := by rw [tb_q]; exact decide_eq_true h31
          refine V_sub [1, 0, 2, 3, 4] rfl ?_
          exact M_at (ih5 (by omega) (by show (allTo _ _ && !uB V d t j) = true; rw [hal]; unfold uB; rw [hk1]; rw [decide_eq_true h43]; rfl)) (by rw [sumTo_t (p := fun c => t.testBit c) hk1]; rfl) rfl (rfl) (rfl)
        · have h43 : ¬ (nearTo V d j (v_nc V) &&& t) = 0 := fun q => h43 ((nI_eq (b := 0) (by omega) (by omega)).mpr q)
          refine V_iconst (v := nI 0) dX4_usesIfKept_46 rfl ?_
          refine V_iret dX4_usesIfKept_47 ⟨rfl, rfl⟩ (Nat.zero_le _) (Nat.zero_le _) ?_
          subst hQ
          exact ⟨by unfold kV; rw [if_neg (by rw [allTo_bad (i := j) (by omega) (by unfold uB; rw [tb_q, decide_eq_true h31, decide_eq_false h43]; rfl)]; decide)], rfl⟩
  refine V_sub [1, 0, 2, 3, 4] rfl ?_
  exact M_at (lp5 0 (Nat.zero_le _) rfl) (rfl) rfl (rfl) (rfl)
set_option maxRecDepth 20000 in
theorem t_bestSet {g : Ev} {S : St} {iv : IV} {lw : LW} {b : Nat} (hb : IsCamp S b) {V : Cv} (hV : XC iv b V) {q : Nat} (hq : IsLike S q) (hd : b + 8 < q) {d : Nat} (hd8 : d ≤ 8) : CQ g mX4_bestSet [.ref (q), .ref (b), .int (nI d)] S iv lw (fun w iv2 lw2 => w = .int (nI (ksTo (kV V d) (2 ^ v_nc V)).1) ∧ lw = lw2 ∧ Off q 2 iv iv2) := by
  refine CT_ofQ rfl (by decide) (Nat.le_of_ble_eq_true rfl) (lv := [(0, .ref (q)), (1, .ref (b)), (2, .int (nI d))]) rfl (fun Q hQ => ?_)
  have hnc := hV.ok.nc
  have h2 : 2 ^ v_nc V ≤ 4096 := Nat.pow_le_pow_right (by decide) (show v_nc V ≤ 12 from hnc)
  have h21 : 1 ≤ 2 ^ v_nc V := Nat.one_le_two_pow
  refine V_aload_n (i := 0) dX4_bestSet_0 rfl 0 rfl ?_
  refine V_aload_n (i := 1) dX4_bestSet_1 rfl 1 rfl ?_
  refine V_iload_n (i := 2) dX4_bestSet_2 rfl 2 rfl ?_
  refine M_callVn (As := [.ref (b), .int (nI d)]) (st := []) dX4_bestSet_3 lv_X4_59 ⟨by decide, by decide⟩ ⟨rfl, rfl⟩ rfl (ci := 3) hq.1 rfl rfl (Nat.le_of_ble_eq_true rfl) (t_findTooNear hb hV hq hd hd8) (fun iv3 lw3 q3 => ?_)
  obtain ⟨e1, hN, hO⟩ := q3
  subst e1
  have hV2 := hV.off hO hd
  refine V_iconst (v := nI 0) dX4_bestSet_6 rfl ?_
  refine V_istore_n (lv2 := [(3, .int (nI 0)), (0, .ref (q)), (1, .ref (b)), (2, .int (nI d))]) dX4_bestSet_7 rfl (by decide) rfl ?_
  refine V_iconst (v := nI 0) dX4_bestSet_8 rfl ?_
  refine V_istore (lv2 := [(4, .int (nI 0)), (3, .int (nI 0)), (0, .ref (q)), (1, .ref (b)), (2, .int (nI d))]) dX4_bestSet_9 (by decide) rfl ?_
  refine V_iconst (v := nI 1) dX4_bestSet_11 rfl ?_
  refine V_istore (lv2 := [(5, .int (nI 1)), (4, .int (nI 0)), (3, .int (nI 0)), (0, .ref (q)), (1, .ref (b)), (2, .int (nI d))]) dX4_bestSet_12 (by decide) rfl ?_
  have lp14 : ∀ j, j ≤ (2 ^ v_nc V) → VM g mX4_bestSet 14 [(3, .int (nI ((ksTo (kV V d) j).1))), (4, .int (nI ((ksTo (kV V d) j).2))), (5, .int (nI j)), (0, .ref (q)), (1, .ref (b)), (2, .int (nI d))] [] S iv3 lw Q := by
    refine up_ind fun j hj ih14 => ?_
    refine V_iload dX4_bestSet_14 2 rfl ?_
    refine V_iconst (v := nI 1) dX4_bestSet_16 rfl ?_
    refine V_aload_n (i := 1) dX4_bestSet_17 rfl 4 rfl ?_
    refine M_getI (x := nI (v_nc V)) dX4_bestSet_18 lf_X4_36 rfl hb.1 (hV2.nc) ?_
    refine V_ishl dX4_bestSet_21 ?_
    refine M_top (x2 := nI (2 ^ v_nc V)) ((nI_shl (by omega) _).trans (by rw [Nat.one_mul])) ?_
    refine V_icmp_ge (tgt := 54) dX4_bestSet_22 rfl (fun h22 => ?_) (fun h22 => ?_)
    · have h22 : (2 ^ v_nc V) ≤ j := (nI_leI (by omega) (by omega)).mp h22
      refine V_iload_n (i := 3) dX4_bestSet_54 rfl 0 rfl ?_
      refine V_iret dX4_bestSet_55 ⟨rfl, rfl⟩ (Nat.zero_le _) (Nat.zero_le _) ?_
      subst hQ
      exact ⟨_, _, _, rfl, rfl, by rw [show j = 2 ^ v_nc V by omega], rfl, hO⟩
    · have h22 : ¬ (2 ^ v_nc V) ≤ j := fun q => h22 ((nI_leI (by omega) (by omega)).mpr q)
      refine V_aload_n (i := 0) dX4_bestSet_25 rfl 3 rfl ?_
      refine V_aload_n (i := 1) dX4_bestSet_26 rfl 4 rfl ?_
      refine V_iload dX4_bestSet_27 2 rfl ?_
      refine M_callVp (As := [.ref (b), .int (nI j)]) (st := []) dX4_bestSet_29 lv_X4_63 ⟨by decide, by decide⟩ ⟨rfl, rfl⟩ rfl (ci := 3) hq.1 rfl rfl (Nat.le_of_ble_eq_true rfl) (t_usesIfKept hb hV2 hq hd hd8 (t := j) (by omega) hN) ?_
      refine V_istore (lv2 := [(6, .int (nI (kV V d j))), (3, .int (nI ((ksTo (kV V d) j).1))), (4, .int (nI ((ksTo (kV V d) j).2))), (5, .int (nI j)), (0, .ref (q)), (1, .ref (b)), (2, .int (nI d))]) dX4_bestSet_32 (by decide) rfl ?_
      refine V_iload dX4_bestSet_34 0 rfl ?_
      refine V_iload dX4_bestSet_36 2 rfl ?_
      have hk1 := kV_le (d := d) (t := j) hV.ok
      have hk2 := (ksTo_le (f := kV V d) (fun t => kV_le hV.ok) j).1
      refine V_icmp_le (tgt := 48) dX4_bestSet_38 rfl (fun h38 => ?_) (fun h38 => ?_)
      · have h38 : (kV V d j) ≤ ((ksTo (kV V d) j).2) := (nI_leI (by omega) (by omega)).mp h38
        refine V_iinc (v := nI (j + 1)) (lv2 := [(5, .int (nI (j + 1))), (6, .int (nI (kV V d j))), (3, .int (nI ((ksTo (kV V d) j).1))), (4, .int (nI ((ksTo (kV V d) j).2))), (0, .ref (q)), (1, .ref (b)), (2, .int (nI d))]) dX4_bestSet_48 3 rfl (nI_inc _) (by decide) rfl ?_
        refine V_goto (tgt := 14) dX4_bestSet_51 rfl ?_
        refine V_sub [2, 3, 0, 4, 5, 6] rfl ?_
        exact M_at (ih14 (by omega)) (by rw [show ksTo (kV V d) (j + 1) = _ from if_neg (Nat.not_lt.mpr h38)]; rfl) rfl (rfl) (rfl)
      · have h38 : ¬ (kV V d j) ≤ ((ksTo (kV V d) j).2) := fun q => h38 ((nI_leI (by omega) (by omega)).mpr q)
        refine V_iload dX4_bestSet_41 3 rfl ?_
        refine V_istore_n (lv2 := [(3, .int (nI j)), (6, .int (nI (kV V d j))), (4, .int (nI ((ksTo (kV V d) j).2))), (5, .int (nI j)), (0, .ref (q)), (1, .ref (b)), (2, .int (nI d))]) dX4_bestSet_43 rfl (by decide) rfl ?_
        refine V_iload dX4_bestSet_44 1 rfl ?_
        refine V_istore (lv2 := [(4, .int (nI (kV V d j))), (3, .int (nI j)), (6, .int (nI (kV V d j))), (5, .int (nI j)), (0, .ref (q)), (1, .ref (b)), (2, .int (nI d))]) dX4_bestSet_46 (by decide) rfl ?_
        refine V_iinc (v := nI (j + 1)) (lv2 := [(5, .int (nI (j + 1))), (4, .int (nI (kV V d j))), (3, .int (nI j)), (6, .int (nI (kV V d j))), (0, .ref (q)), (1, .ref (b)), (2, .int (nI d))]) dX4_bestSet_48 3 rfl (nI_inc _) (by decide) rfl ?_
        refine V_goto (tgt := 14) dX4_bestSet_51 rfl ?_
        refine V_sub [2, 1, 0, 4, 5, 6] rfl ?_
        exact M_at (ih14 (by omega)) (by rw [show ksTo (kV V d) (j + 1) = _ from if_pos (Nat.lt_of_not_le h38)]; rfl) rfl (rfl) (rfl)
  refine V_sub [2, 1, 0, 3, 4, 5] rfl ?_
  exact M_at (lp14 1 h21) (by rw [ksTo_1]; rfl) rfl (rfl) (rfl)
