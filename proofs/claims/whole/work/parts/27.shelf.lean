/-! Shelf, and what a hearing takes -/
abbrev Sv := Int32 × Nat × (Nat → Int64)
abbrev rowQ (T : Sv) : Prop := 0 ≤ T.1.toInt ∧ T.1.toInt < 5
abbrev earQ (T : Sv) : Prop := 10 ≤ T.1.toInt
def SOK (T : Sv) : Prop := T.2.1 ≤ 40 ∧ (T.1.toInt = -1 ∨ (0 ≤ T.1.toInt ∧ T.1.toInt < 5) ∨ (10 ≤ T.1.toInt ∧ T.1.toInt < 16)) ∧ (¬ rowQ T → T.2.1 = 0)
def XS (iv : IV) (lw : LW) (b : Nat) (T : Sv) : Prop := SOK T ∧ iv b 1 = T.1 ∧ iv b 2 = nI T.2.1 ∧ ∀ i, i < 40 → lw (b + 1) i = T.2.2 i
theorem XS.of {iv iv2 : IV} {lw lw2 : LW} {b : Nat} {T : Sv} (h : XS iv lw b T) (h1 : iv2 b = iv b) (h2 : lw2 (b + 1) = lw (b + 1)) : XS iv2 lw2 b T := by
  obtain ⟨h0, h3, h4, h5⟩ := h
  exact ⟨h0, by rw [h1]; exact h3, by rw [h1]; exact h4, fun i hi => by rw [h2]; exact h5 i hi⟩
abbrev plQ (T : Sv) (i n : Int32) : Prop := 0 ≤ i.toInt ∧ 0 ≤ n.toInt ∧ n.toInt ≤ (T.2.1 : Int) ∧ i.toInt ≤ (T.2.1 : Int) - n.toInt
abbrev ntQ (v : Int64) : Prop := (0 : Int) ≤ v.toInt ∧ v.toInt ≤ 4
theorem sub_tI {m : Nat} {n : Int32} (hm : m ≤ 1000) (h1 : 0 ≤ n.toInt) (h2 : n.toInt ≤ m) : (nI m - n).toInt = m - n.toInt := by
  obtain ⟨j, hj, rfl⟩ : ∃ j, j ≤ m ∧ n = nI j := by
    obtain ⟨j, hj, e⟩ := (inR_nI (c := n) (n := m + 1) (by omega)).mp ⟨h1, by omega⟩
    exact ⟨j, by omega, e⟩
  rw [nI_sub hj, nI_toInt (by omega), nI_toInt (by omega)]
  omega
def fitL (c : Int32) (v : Int64) : Int64 := if c.toInt = 0 then v.toInt32.toInt8.toInt32.toInt64 else if c.toInt = 1 then v.toInt32.toInt16.toInt32.toInt64 else if c.toInt = 2 then v.toInt32.toInt64 else if c.toInt = 4 then (if v.toInt = 0 then lN 0 else lN 1) else v
/-- the first n longs of cell a become v -/
def wrL (lw : LW) (a : Nat) (f : Nat → Int64) : Nat → LW
  | 0 => lw
  | n + 1 => up2 (wrL lw a f n) a n (f n)
theorem wrL_n {lw : LW} {a b : Nat} {f : Nat → Int64} (h : b ≠ a) : ∀ n, wrL lw a f n b = lw b
  | 0 => rfl
  | n + 1 => (up2_a h).trans (wrL_n h n)
theorem wrL_in {lw : LW} {a i : Nat} {f : Nat → Int64} : ∀ n, i < n → wrL lw a f n a i = f i
  | 0, h => absurd h (by omega)
  | n + 1, h => by
    show up2 _ _ _ _ _ _ = _
    by_cases e : i = n
    · subst e; exact up2_s
    · rw [up2_k e]; exact wrL_in n (by omega)
theorem wrL_out {lw : LW} {a i : Nat} {f : Nat → Int64} : ∀ n, n ≤ i → wrL lw a f n a i = lw a i
  | 0, _ => rfl
  | n + 1, h => by
    show up2 _ _ _ _ _ _ = _
    rw [up2_k (by omega)]; exact wrL_out n (by omega)
def heN (v : Int64) : Nat := v.toInt.toNat
theorem heN_32 {v : Int64} (h0 : 0 ≤ v.toInt) (h1 : v.toInt ≤ 9) : v.toInt32 = nI (heN v) := by
  apply Int32.toInt_inj.mp
  have h2 : heN v ≤ 9 := by unfold heN; omega
  rw [nI_toInt (by omega), Int64.toInt_toInt32]
  unfold heN
  rw [Int.bmod_def]
  omega
theorem oI_if {p : Prop} [Decidable p] : True := trivial
/-- the draws of a sounding -/
def sdAt (s : Int32) : Nat → Int32
  | 0 => s
  | i + 1 => nxt (sdAt s i)
def goneB (V : Cv) (i : Nat) : Bool := decide (drw (sdAt (v_se V) i) % 100 < v_lo V)
def sndN (V : Cv) (c i : Nat) : Nat := if goneB V i = true then 9 else v_nt V c i
abbrev atV (V : Cv) (i : Nat) : Cv := v_setD V (sdAt (v_se V) i)
def Of2 (b n q m : Nat) (iv iv2 : IV) : Prop := ∀ a, (a < b ∨ b + n ≤ a) → (a < q ∨ q + m ≤ a) → iv2 a = iv a
theorem Of2.l {b n q m : Nat} {iv iv2 iv3 : IV} (h : Of2 b n q m iv iv2) (h2 : Off b n iv2 iv3) : Of2 b n q m iv iv3 := fun a h3 h4 => (h2 a h3).trans (h a h3 h4)
theorem Of2.r {b n q m : Nat} {iv iv2 iv3 : IV} (h : Of2 b n q m iv iv2) (h2 : Off q m iv2 iv3) : Of2 b n q m iv iv3 := fun a h3 h4 => (h2 a h4).trans (h a h3 h4)
theorem xs_put {iv : IV} {lw : LW} {b j : Nat} {T : Sv} {v : Int64} (h : XS iv lw b T) : XS iv (up2 lw (b + 1) j v) b (T.1, T.2.1, fun i => if i = j then v else T.2.2 i) := by
  obtain ⟨h0, h3, h4, h5⟩ := h
  refine ⟨h0, h3, h4, fun i hi => ?_⟩
  show up2 _ _ _ _ _ _ = if i = j then v else T.2.2 i
  by_cases e : i = j
  · subst e; rw [up2_s, if_pos rfl]
  · rw [up2_k e, if_neg e]; exact h5 i hi
set_option maxRecDepth 20000 in
theorem t_fillL {g : Ev} {S : St} {iv : IV} {lw : LW} {a : Nat} (ha : KD S a (2, 40)) {v : Int64} : CN g mJ7_fill_d0a16 [.ref (a), .long (v)] S iv lw (fun iv2 lw2 => iv = iv2 ∧ lw2 = wrL lw a (fun _ => v) 40) := by
  refine CT_ofQF rfl (by decide +kernel) (Nat.le_of_ble_eq_true rfl) (lv := [(0, .ref (a)), (1, .long (v))]) rfl (fun Q hQ => ?_)
  refine V_iconst (v := nI 0) dJ7_fill_d0a16_0 rfl ?_
  refine V_istore_n (lv2 := [(3, .int (nI 0)), (0, .ref (a)), (1, .long (v))]) dJ7_fill_d0a16_1 rfl (by decide) rfl ?_
  refine V_aload_n (i := 0) dJ7_fill_d0a16_2 rfl 1 rfl ?_
  refine M_alen (t := 1) dJ7_fill_d0a16_3 (by decide) ha ?_
  refine V_istore (lv2 := [(4, .int (nI 40)), (3, .int (nI 0)), (0, .ref (a)), (1, .long (v))]) dJ7_fill_d0a16_4 (by decide) rfl ?_
  have lp6 : ∀ j, j ≤ 40 → VM g mJ7_fill_d0a16 6 [(3, .int (nI j)), (4, .int (nI 40)), (0, .ref (a)), (1, .long (v))] [] S iv (wrL lw a (fun _ => v) j) Q := by
    refine up_ind fun j hj ih6 => ?_
    refine V_iload_n (i := 3) dJ7_fill_d0a16_6 rfl 0 rfl ?_
    refine V_iload dJ7_fill_d0a16_7 1 rfl ?_
    refine V_icmp_ge (tgt := 22) dJ7_fill_d0a16_9 rfl (fun h9 => ?_) (fun h9 => ?_)
    · have h9 : 40 ≤ j := (nI_leI (by omega) (by omega)).mp h9
      refine V_vret dJ7_fill_d0a16_22 ⟨rfl, rfl⟩ (Nat.zero_le _) (Nat.zero_le _) ?_
      subst hQ
      obtain rfl : j = 40 := by omega
      exact ⟨_, _, rfl, rfl, rfl, rfl⟩
    · have h9 : ¬ 40 ≤ j := fun q => h9 ((nI_leI (by omega) (by omega)).mpr q)
      refine V_aload_n (i := 0) dJ7_fill_d0a16_12 rfl 2 rfl ?_
      refine V_iload_n (i := 3) dJ7_fill_d0a16_13 rfl 0 rfl ?_
      refine V_lload_n (i := 1) dJ7_fill_d0a16_14 rfl 3 rfl ?_
      refine M_lastn (j := j) dJ7_fill_d0a16_15 ha (by decide) (by omega) ?_
      refine V_iinc (v := nI (j + 1)) (lv2 := [(3, .int (nI (j + 1))), (4, .int (nI 40)), (0, .ref (a)), (1, .long (v))]) dJ7_fill_d0a16_16 0 rfl (nI_inc _) (by decide) rfl ?_
      refine V_goto (tgt := 6) dJ7_fill_d0a16_19 rfl ?_
      refine V_sub [0, 1, 2, 3] rfl ?_
      exact M_at (ih6 (by omega)) (rfl) rfl (rfl) (rfl)
  refine V_sub [1, 0, 2, 3] rfl ?_
  exact M_at (lp6 0 (Nat.zero_le _)) (rfl) rfl (rfl) (rfl)
set_option maxRecDepth 20000 in
theorem t_fillI {g : Ev} {S : St} {iv : IV} {lw : LW} {a : Nat} (ha : KD S a (1, 12)) {v : Int32} : CN g mJ7_fill_53178 [.ref (a), .int (v)] S iv lw (fun iv2 lw2 => iv2 = wrTo iv a (fun _ => v) 12 ∧ lw = lw2) := by
  refine CT_ofQF rfl (by decide +kernel) (Nat.le_of_ble_eq_true rfl) (lv := [(0, .ref (a)), (1, .int (v))]) rfl (fun Q hQ => ?_)
  refine V_iconst (v := nI 0) dJ7_fill_53178_0 rfl ?_
  refine V_istore_n (lv2 := [(2, .int (nI 0)), (0, .ref (a)), (1, .int (v))]) dJ7_fill_53178_1 rfl (by decide) rfl ?_
  refine V_aload_n (i := 0) dJ7_fill_53178_2 rfl 1 rfl ?_
  refine M_alen (t := 0) dJ7_fill_53178_3 (by decide) ha ?_
  refine V_istore_n (lv2 := [(3, .int (nI 12)), (2, .int (nI 0)), (0, .ref (a)), (1, .int (v))]) dJ7_fill_53178_4 rfl (by decide) rfl ?_
  have lp5 : ∀ j, j ≤ 12 → VM g mJ7_fill_53178 5 [(2, .int (nI j)), (3, .int (nI 12)), (0, .ref (a)), (1, .int (v))] [] S (wrTo iv a (fun _ => v) j) lw Q := by
    refine up_ind fun j hj ih5 => ?_
    refine V_iload_n (i := 2) dJ7_fill_53178_5 rfl 0 rfl ?_
    refine V_iload_n (i := 3) dJ7_fill_53178_6 rfl 1 rfl ?_
    refine V_icmp_ge (tgt := 20) dJ7_fill_53178_7 rfl (fun h7 => ?_) (fun h7 => ?_)
    · have h7 : 12 ≤ j := (nI_leI (by omega) (by omega)).mp h7
      refine V_vret dJ7_fill_53178_20 ⟨rfl, rfl⟩ (Nat.zero_le _) (Nat.zero_le _) ?_
      subst hQ
      obtain rfl : j = 12 := by omega
      exact ⟨_, _, rfl, rfl, rfl, rfl⟩
    · have h7 : ¬ 12 ≤ j := fun q => h7 ((nI_leI (by omega) (by omega)).mpr q)
      refine V_aload_n (i := 0) dJ7_fill_53178_10 rfl 2 rfl ?_
      refine V_iload_n (i := 2) dJ7_fill_53178_11 rfl 0 rfl ?_
      refine V_iload_n (i := 1) dJ7_fill_53178_12 rfl 3 rfl ?_
      refine M_iastn (j := j) dJ7_fill_53178_13 ha (by decide) (by omega) ?_
      refine V_iinc (v := nI (j + 1)) (lv2 := [(2, .int (nI (j + 1))), (3, .int (nI 12)), (0, .ref (a)), (1, .int (v))]) dJ7_fill_53178_14 0 rfl (nI_inc _) (by decide) rfl ?_
      refine V_goto (tgt := 5) dJ7_fill_53178_17 rfl ?_
      refine V_sub [0, 1, 2, 3] rfl ?_
      exact M_at (ih5 (by omega)) (rfl) rfl (rfl) (rfl)
  refine V_sub [1, 0, 2, 3] rfl ?_
  exact M_at (lp5 0 (Nat.zero_le _)) (rfl) rfl (rfl) (rfl)
set_option maxRecDepth 20000 in
theorem t_hasRow {g : Ev} {S : St} {iv : IV} {lw : LW} {b : Nat} (hb : IsShelf S b) {T : Sv} (hT : XS iv lw b T) : CP g mX7_hasRow [.ref (b)] S iv lw (.int (bI (rowQ T))) := by
  refine CT_ofQ rfl (by decide) (Nat.le_of_ble_eq_true rfl) (lv := [(0, .ref (b))]) rfl (fun Q hQ => ?_)
  refine V_aload_n (i := 0) dX7_hasRow_0 rfl 0 rfl ?_
  refine M_getI (x := T.1) dX7_hasRow_1 lf_X7_15 rfl hb.1 (hT.2.1) ?_
  refine V_if_lt (tgt := 19) dX7_hasRow_4 rfl (fun h4 => ?_) (fun h4 => ?_)
  · have h4 : (T.1).toInt < 0 := by have q := i_neg.mp h4; exact q
    refine V_iconst (v := nI 0) dX7_hasRow_19 rfl ?_
    refine V_zret dX7_hasRow_20 ⟨rfl, rfl⟩ (by rfl) (Nat.zero_le _) (Nat.zero_le _) ?_
    subst hQ
    exact ⟨by rw [bI_f (by unfold rowQ; omega)], rfl⟩
  · have h4 : ¬ (T.1).toInt < 0 := fun r => h4 (i_neg.mpr (by exact r))
    refine V_aload_n (i := 0) dX7_hasRow_7 rfl 0 rfl ?_
    refine M_getI (x := T.1) dX7_hasRow_8 lf_X7_15 rfl hb.1 (hT.2.1) ?_
    refine V_iconst (v := nI 5) dX7_hasRow_11 rfl ?_
    refine V_icmp_ge (tgt := 19) dX7_hasRow_12 rfl (fun h12 => ?_) (fun h12 => ?_)
    · have h12 : (5 : Int) ≤ (T.1).toInt := by have q := Int32.le_iff_toInt_le.mp h12; rw [nI_toInt (n := 5) (by omega)] at q; exact q
      refine V_iconst (v := nI 0) dX7_hasRow_19 rfl ?_
      refine V_zret dX7_hasRow_20 ⟨rfl, rfl⟩ (by rfl) (Nat.zero_le _) (Nat.zero_le _) ?_
      subst hQ
      exact ⟨by rw [bI_f (by unfold rowQ; omega)], rfl⟩
    · have h12 : ¬ (5 : Int) ≤ (T.1).toInt := fun r => h12 (Int32.le_iff_toInt_le.mpr (by rw [nI_toInt (n := 5) (by omega)]; exact r))
      refine V_iconst (v := nI 1) dX7_hasRow_15 rfl ?_
      refine V_goto (tgt := 20) dX7_hasRow_16 rfl ?_
      refine V_zret dX7_hasRow_20 ⟨rfl, rfl⟩ (by rfl) (Nat.zero_le _) (Nat.zero_le _) ?_
      subst hQ
      exact ⟨by rw [bI_t (by unfold rowQ; omega)], rfl⟩
set_option maxRecDepth 20000 in
theorem t_hasEar {g : Ev} {S : St} {iv : IV} {lw : LW} {b : Nat} (hb : IsShelf S b) {T : Sv} (hT : XS iv lw b T) : CP g mX7_hasEar [.ref (b)] S iv lw (.int (bI (earQ T))) := by
  refine CT_ofQ rfl (by decide) (Nat.le_of_ble_eq_true rfl) (lv := [(0, .ref (b))]) rfl (fun Q hQ => ?_)
  refine V_aload_n (i := 0) dX7_hasEar_0 rfl 0 rfl ?_
  refine M_getI (x := T.1) dX7_hasEar_1 lf_X7_15 rfl hb.1 (hT.2.1) ?_
  refine V_bipush (v := nI 10) dX7_hasEar_4 rfl ?_
  refine V_icmp_lt (tgt := 13) dX7_hasEar_6 rfl (fun h6 => ?_) (fun h6 => ?_)
  · have h6 : (T.1).toInt < (10 : Int) := by have q := Int32.lt_iff_toInt_lt.mp h6; rw [nI_toInt (n := 10) (by omega)] at q; exact q
    refine V_iconst (v := nI 0) dX7_hasEar_13 rfl ?_
    refine V_zret dX7_hasEar_14 ⟨rfl, rfl⟩ (by rfl) (Nat.zero_le _) (Nat.zero_le _) ?_
    subst hQ
    exact ⟨by rw [bI_f (by unfold earQ; omega)], rfl⟩
  · have h6 : ¬ (T.1).toInt < (10 : Int) := fun r => h6 (Int32.lt_iff_toInt_lt.mpr (by rw [nI_toInt (n := 10) (by omega)]; exact r))
    refine V_iconst (v := nI 1) dX7_hasEar_9 rfl ?_
    refine V_goto (tgt := 14) dX7_hasEar_10 rfl ?_
    refine V_zret dX7_hasEar_14 ⟨rfl, rfl⟩ (by rfl) (Nat.zero_le _) (Nat.zero_le _) ?_
    subst hQ
    exact ⟨by rw [bI_t (by unfold earQ; omega)], rfl⟩
set_option maxRecDepth 20000 in
theorem t_whyNoRow {g : Ev} {S : St} {iv : IV} {lw : LW} {b : Nat} (hb : IsShelf S b) {T : Sv} (hT : XS iv lw b T) : CP g mX7_whyNoRow [.ref (b)] S iv lw (.int (if rowQ T then nI 0 else if earQ T then (-3) else (-4))) := by
  refine CT_ofQ rfl (by decide) (Nat.le_of_ble_eq_true rfl) (lv := [(0, .ref (b))]) rfl (fun Q hQ => ?_)
  refine V_aload_n (i := 0) dX7_whyNoRow_0 rfl 0 rfl ?_
  refine M_callVp (As := []) (st := []) dX7_whyNoRow_1 lv_X7_22 ⟨by decide, by decide⟩ ⟨rfl, rfl⟩ rfl (ci := 4) hb.1 rfl rfl (Nat.le_of_ble_eq_true rfl) (t_hasRow hb hT) ?_
  refine V_if_eq (tgt := 9) dX7_whyNoRow_4 rfl (fun h4 => ?_) (fun h4 => ?_)
  · have h4 : ¬ (rowQ T) := bI_eq0.mp h4
    refine V_aload_n (i := 0) dX7_whyNoRow_9 rfl 0 rfl ?_
    refine M_callVp (As := []) (st := []) dX7_whyNoRow_10 lv_X7_26 ⟨by decide, by decide⟩ ⟨rfl, rfl⟩ rfl (ci := 4) hb.1 rfl rfl (Nat.le_of_ble_eq_true rfl) (t_hasEar hb hT) ?_
    refine V_if_eq (tgt := 21) dX7_whyNoRow_13 rfl (fun h13 => ?_) (fun h13 => ?_)
    · have h13 : ¬ (earQ T) := bI_eq0.mp h13
      refine V_bipush (v := (-4)) dX7_whyNoRow_21 rfl ?_
      refine V_iret dX7_whyNoRow_23 ⟨rfl, rfl⟩ (Nat.zero_le _) (Nat.zero_le _) ?_
      subst hQ
      exact ⟨by rw [if_neg h4, if_neg h13], rfl⟩
    · have h13 : earQ T := bI_ne.mp h13
      refine V_bipush (v := (-3)) dX7_whyNoRow_16 rfl ?_
      refine V_goto (tgt := 23) dX7_whyNoRow_18 rfl ?_
      refine V_iret dX7_whyNoRow_23 ⟨rfl, rfl⟩ (Nat.zero_le _) (Nat.zero_le _) ?_
      subst hQ
      exact ⟨by rw [if_neg h4, if_pos h13], rfl⟩
  · have h4 : rowQ T := bI_ne.mp h4
    refine V_iconst (v := nI 0) dX7_whyNoRow_7 rfl ?_
    refine V_iret dX7_whyNoRow_8 ⟨rfl, rfl⟩ (Nat.zero_le _) (Nat.zero_le _) ?_
    subst hQ
    exact ⟨by rw [if_pos h4], rfl⟩
set_option maxRecDepth 20000 in
theorem t_earNumber {g : Ev} {S : St} {iv : IV} {lw : LW} {b : Nat} (hb : IsShelf S b) {T : Sv} (hT : XS iv lw b T) {e : Nat} (he : e < 6) (hc : T.1 = nI (10 + e)) : CP g mX7_earNumber [.ref (b)] S iv lw (.int (nI e)) := by
  refine CT_ofQ rfl (by decide) (Nat.le_of_ble_eq_true rfl) (lv := [(0, .ref (b))]) rfl (fun Q hQ => ?_)
  have hq : earQ T := by unfold earQ; rw [hc, nI_toInt (by omega)]; omega
  refine V_aload_n (i := 0) dX7_earNumber_0 rfl 0 rfl ?_
  refine M_callVp (As := []) (st := []) dX7_earNumber_1 lv_X7_26 ⟨by decide, by decide⟩ ⟨rfl, rfl⟩ rfl (ci := 4) hb.1 rfl rfl (Nat.le_of_ble_eq_true rfl) (t_hasEar hb hT) ?_
  refine V_if_eq (tgt := 17) dX7_earNumber_4 rfl (fun h4 => ?_) (fun h4 => ?_)
  · have h4 : ¬ (earQ T) := bI_eq0.mp h4
    exact absurd hq h4
  · have h4 : earQ T := bI_ne.mp h4
    refine V_aload_n (i := 0) dX7_earNumber_7 rfl 0 rfl ?_
    refine M_getI (x := T.1) dX7_earNumber_8 lf_X7_15 rfl hb.1 (hT.2.1) ?_
    refine V_bipush (v := nI 10) dX7_earNumber_11 rfl ?_
    refine V_isub dX7_earNumber_13 ?_
    refine M_top (x2 := nI e) (by rw [hc, nI_sub (by omega)]; congr 1; omega) ?_
    refine V_goto (tgt := 18) dX7_earNumber_14 rfl ?_
    refine V_iret dX7_earNumber_18 ⟨rfl, rfl⟩ (Nat.zero_le _) (Nat.zero_le _) ?_
    subst hQ
    exact ⟨rfl, rfl⟩
set_option maxRecDepth 20000 in
theorem t_clear {g : Ev} {S : St} {iv : IV} {lw : LW} {b : Nat} (hb : IsShelf S b) {T : Sv} (hT : XS iv lw b T) : CN g mX7_clear [.ref (b)] S iv lw (fun iv2 lw2 => lw = lw2 ∧ XS iv2 lw2 b (-1, 0, T.2.2) ∧ Off b 2 iv iv2) := by
  refine CT_ofQ rfl (by decide) (Nat.le_of_ble_eq_true rfl) (lv := [(0, .ref (b))]) rfl (fun Q hQ => ?_)
  refine V_aload_n (i := 0) dX7_clear_0 rfl 0 rfl ?_
  refine V_iconst (v := (-1)) dX7_clear_1 rfl ?_
  refine M_putI dX7_clear_2 lf_X7_15 rfl hb.1 ⟨rfl, rfl⟩ ?_
  refine V_aload_n (i := 0) dX7_clear_5 rfl 0 rfl ?_
  refine V_iconst (v := nI 0) dX7_clear_6 rfl ?_
  refine M_putI dX7_clear_7 lf_X7_19 rfl hb.1 ⟨rfl, rfl⟩ ?_
  refine V_vret dX7_clear_10 ⟨rfl, rfl⟩ (Nat.zero_le _) (Nat.zero_le _) ?_
  subst hQ
  refine ⟨_, _, rfl, rfl, rfl, ⟨⟨Nat.zero_le _, Or.inl (show (-1 : Int32).toInt = -1 by decide), fun _ => rfl⟩, (up2_k (by decide)).trans up2_s, up2_s, fun i hi => hT.2.2.2 i hi⟩, ((Off.rf.up (by omega) (by omega)).up (by omega) (by omega))⟩
set_option maxRecDepth 20000 in
theorem t_putEar {g : Ev} {S : St} {iv : IV} {lw : LW} {b : Nat} (hb : IsShelf S b) {T : Sv} (hT : XS iv lw b T) {e : Nat} (he : e < 6) : CN g mX7_putEar [.ref (b), .int (nI e)] S iv lw (fun iv2 lw2 => lw = lw2 ∧ XS iv2 lw2 b (nI (10 + e), 0, T.2.2) ∧ Off b 2 iv iv2) := by
  refine CT_ofQ rfl (by decide) (Nat.le_of_ble_eq_true rfl) (lv := [(0, .ref (b)), (1, .int (nI e))]) rfl (fun Q hQ => ?_)
  refine V_aload_n (i := 0) dX7_putEar_0 rfl 0 rfl ?_
  refine V_bipush (v := nI 10) dX7_putEar_1 rfl ?_
  refine V_iload_n (i := 1) dX7_putEar_3 rfl 1 rfl ?_
  refine V_iadd dX7_putEar_4 ?_
  refine M_top (nI_add _ _) ?_
  refine M_putI dX7_putEar_5 lf_X7_15 rfl hb.1 ⟨rfl, rfl⟩ ?_
  refine V_aload_n (i := 0) dX7_putEar_8 rfl 0 rfl ?_
  refine V_iconst (v := nI 0) dX7_putEar_9 rfl ?_
  refine M_putI dX7_putEar_10 lf_X7_19 rfl hb.1 ⟨rfl, rfl⟩ ?_
  refine V_vret dX7_putEar_13 ⟨rfl, rfl⟩ (Nat.zero_le _) (Nat.zero_le _) ?_
  subst hQ
  refine ⟨_, _, rfl, rfl, rfl, ⟨⟨Nat.zero_le _, Or.inr (Or.inr (by show 10 ≤ (nI (10 + e)).toInt ∧ (nI (10 + e)).toInt < 16; rw [nI_toInt (by omega)]; omega)), fun _ => rfl⟩, (up2_k (by decide)).trans up2_s, up2_s, fun i hi => hT.2.2.2 i hi⟩, ((Off.rf.up (by omega) (by omega)).up (by omega) (by omega))⟩
set_option maxRecDepth 20000 in
theorem t_putRow {g : Ev} {S : St} {iv : IV} {lw : LW} {b : Nat} (hb : IsShelf S b) {T : Sv} (hT : XS iv lw b T) {k m : Nat} (hk : k < 5) (hm : m ≤ 40) : CN g mX7_putRow [.ref (b), .int (nI k), .int (nI m)] S iv lw (fun iv2 lw2 => XS iv2 lw2 b (nI k, m, fun _ => lN 0) ∧ Off b 2 iv iv2 ∧ Off b 2 lw lw2) := by
  refine CT_ofQ rfl (by decide) (Nat.le_of_ble_eq_true rfl) (lv := [(0, .ref (b)), (1, .int (nI k)), (2, .int (nI m))]) rfl (fun Q hQ => ?_)
  refine V_aload_n (i := 0) dX7_putRow_0 rfl 0 rfl ?_
  refine V_iload_n (i := 1) dX7_putRow_1 rfl 1 rfl ?_
  refine M_putI dX7_putRow_2 lf_X7_15 rfl hb.1 ⟨rfl, rfl⟩ ?_
  refine V_aload_n (i := 0) dX7_putRow_5 rfl 0 rfl ?_
  refine V_iconst (v := nI 0) dX7_putRow_6 rfl ?_
  refine V_iload_n (i := 2) dX7_putRow_7 rfl 2 rfl ?_
  refine V_bipush (v := nI 40) dX7_putRow_8 rfl ?_
  refine M_callSp (As := [.int (nI m), .int (nI 40)]) (st := [.int (nI 0), .ref (b)]) dX7_putRow_10 ls_X7_29 ⟨by decide, by decide⟩ ⟨rfl, rfl⟩ rfl (Nat.le_of_ble_eq_true rfl) (t_min (by omega) (by omega)) ?_
  refine M_callSp (As := [.int (nI 0), .int (nI (min m 40))]) (st := [.ref (b)]) dX7_putRow_13 ls_X7_35 ⟨by decide, by decide⟩ ⟨rfl, rfl⟩ rfl (Nat.le_of_ble_eq_true rfl) (t_max (by omega) (by omega)) ?_
  refine M_top (x2 := nI m) (by congr 1; omega) ?_
  refine M_putI dX7_putRow_16 lf_X7_19 rfl hb.1 ⟨rfl, rfl⟩ ?_
  refine V_aload_n (i := 0) dX7_putRow_19 rfl 0 rfl ?_
  refine M_getR dX7_putRow_20 lf_X7_11 rfl hb.1 hb.2.1 ?_
  refine V_lconst (v := lN 0) dX7_putRow_23 rfl ?_
  refine M_callSn (As := [.ref (b + 1), .long (lN 0)]) (st := []) dX7_putRow_24 ls_X7_38 ⟨by decide, by decide⟩ ⟨rfl, rfl⟩ rfl (Nat.le_of_ble_eq_true rfl) (t_fillL hb.2.2 (v := lN 0)) (fun iv24 lw24 q24 => ?_)
  obtain ⟨rfl, rfl⟩ := q24
  refine V_vret dX7_putRow_27 ⟨rfl, rfl⟩ (Nat.zero_le _) (Nat.zero_le _) ?_
  subst hQ
  refine ⟨_, _, rfl, rfl, ⟨⟨hm, Or.inr (Or.inl (by show 0 ≤ (nI k).toInt ∧ (nI k).toInt < 5; rw [nI_toInt (by omega)]; omega)), fun q => absurd (show rowQ (nI k, m, _) from (by show 0 ≤ (nI k).toInt ∧ (nI k).toInt < 5; rw [nI_toInt (by omega)]; omega)) q⟩, (up2_k (by decide)).trans up2_s, up2_s, fun i hi => wrL_in _ hi⟩, ((Off.rf.up (by omega) (by omega)).up (by omega) (by omega)), fun a ha => wrL_n (by omega) _⟩
set_option maxRecDepth 20000 in
theorem t_hasPlaces {g : Ev} {S : St} {iv : IV} {lw : LW} {b : Nat} (hb : IsShelf S b) {T : Sv} (hT : XS iv lw b T) {i m : Int32} : CP g mX7_hasPlaces [.ref (b), .int (i), .int (m)] S iv lw (.int (bI (plQ T i m))) := by
  refine CT_ofQ rfl (by decide) (Nat.le_of_ble_eq_true rfl) (lv := [(0, .ref (b)), (1, .int (i)), (2, .int (m))]) rfl (fun Q hQ => ?_)
  have hk := hT.1.1
  have hk2 := hT.1.2.1
  have hk3 := hT.1.2.2
  refine V_iload_n (i := 1) dX7_hasPlaces_0 rfl 1 rfl ?_
  refine V_if_lt (tgt := 30) dX7_hasPlaces_1 rfl (fun h1 => ?_) (fun h1 => ?_)
  · have h1 : i.toInt < 0 := by have q := i_neg.mp h1; exact q
    refine V_iconst (v := nI 0) dX7_hasPlaces_30 rfl ?_
    refine V_zret dX7_hasPlaces_31 ⟨rfl, rfl⟩ (by rfl) (Nat.zero_le _) (Nat.zero_le _) ?_
    subst hQ
    exact ⟨by rw [bI_f (by unfold plQ; omega)], rfl⟩
  · have h1 : ¬ i.toInt < 0 := fun r => h1 (i_neg.mpr (by exact r))
    refine V_iload_n (i := 2) dX7_hasPlaces_4 rfl 2 rfl ?_
    refine V_if_lt (tgt := 30) dX7_hasPlaces_5 rfl (fun h5 => ?_) (fun h5 => ?_)
    · have h5 : m.toInt < 0 := by have q := i_neg.mp h5; exact q
      refine V_iconst (v := nI 0) dX7_hasPlaces_30 rfl ?_
      refine V_zret dX7_hasPlaces_31 ⟨rfl, rfl⟩ (by rfl) (Nat.zero_le _) (Nat.zero_le _) ?_
      subst hQ
      exact ⟨by rw [bI_f (by unfold plQ; omega)], rfl⟩
    · have h5 : ¬ m.toInt < 0 := fun r => h5 (i_neg.mpr (by exact r))
      refine V_iload_n (i := 2) dX7_hasPlaces_8 rfl 2 rfl ?_
      refine V_aload_n (i := 0) dX7_hasPlaces_9 rfl 0 rfl ?_
      refine M_getI (x := nI T.2.1) dX7_hasPlaces_10 lf_X7_19 rfl hb.1 (hT.2.2.1) ?_
      refine V_icmp_gt (tgt := 30) dX7_hasPlaces_13 rfl (fun h13 => ?_) (fun h13 => ?_)
      · have h13 : (T.2.1 : Int) < m.toInt := by have q := Int32.lt_iff_toInt_lt.mp h13; rw [nI_toInt (n := T.2.1) (by omega)] at q; exact q
        refine V_iconst (v := nI 0) dX7_hasPlaces_30 rfl ?_
        refine V_zret dX7_hasPlaces_31 ⟨rfl, rfl⟩ (by rfl) (Nat.zero_le _) (Nat.zero_le _) ?_
        subst hQ
        exact ⟨by rw [bI_f (by unfold plQ; omega)], rfl⟩
      · have h13 : ¬ (T.2.1 : Int) < m.toInt := fun r => h13 (Int32.lt_iff_toInt_lt.mpr (by rw [nI_toInt (n := T.2.1) (by omega)]; exact r))
        refine V_iload_n (i := 1) dX7_hasPlaces_16 rfl 1 rfl ?_
        refine V_aload_n (i := 0) dX7_hasPlaces_17 rfl 0 rfl ?_
        refine M_getI (x := nI T.2.1) dX7_hasPlaces_18 lf_X7_19 rfl hb.1 (hT.2.2.1) ?_
        refine V_iload_n (i := 2) dX7_hasPlaces_21 rfl 2 rfl ?_
        refine V_isub dX7_hasPlaces_22 ?_
        have hz := sub_tI (m := T.2.1) (n := m) (by omega) (by omega) (by omega)
        refine V_icmp_gt (tgt := 30) dX7_hasPlaces_23 rfl (fun h23 => ?_) (fun h23 => ?_)
        · have h23 : (nI T.2.1 - m).toInt < i.toInt := by have q := Int32.lt_iff_toInt_lt.mp h23; exact q
          refine V_iconst (v := nI 0) dX7_hasPlaces_30 rfl ?_
          refine V_zret dX7_hasPlaces_31 ⟨rfl, rfl⟩ (by rfl) (Nat.zero_le _) (Nat.zero_le _) ?_
          subst hQ
          exact ⟨by rw [bI_f (by unfold plQ; omega)], rfl⟩
        · have h23 : ¬ (nI T.2.1 - m).toInt < i.toInt := fun r => h23 (Int32.lt_iff_toInt_lt.mpr (by exact r))
          refine V_iconst (v := nI 1) dX7_hasPlaces_26 rfl ?_
          refine V_goto (tgt := 31) dX7_hasPlaces_27 rfl ?_
          refine V_zret dX7_hasPlaces_31 ⟨rfl, rfl⟩ (by rfl) (Nat.zero_le _) (Nat.zero_le _) ?_
          subst hQ
          exact ⟨by rw [bI_t (by unfold plQ; omega)], rfl⟩
set_option maxRecDepth 20000 in
theorem t_elementAt {g : Ev} {S : St} {iv : IV} {lw : LW} {b : Nat} (hb : IsShelf S b) {T : Sv} (hT : XS iv lw b T) {i : Int32} (hr : rowQ T) (hi : 0 ≤ i.toInt ∧ i.toInt < T.2.1) : CP g mX7_elementAt [.ref (b), .int (i)] S iv lw (.long (T.2.2 i.toNatClampNeg)) := by
  refine CT_ofQ rfl (by decide) (Nat.le_of_ble_eq_true rfl) (lv := [(0, .ref (b)), (1, .int (i))]) rfl (fun Q hQ => ?_)
  have hk := hT.1.1
  have hk2 := hT.1.2.1
  have hk3 := hT.1.2.2
  have hpl : plQ T i (nI 1) := ⟨by omega, by decide, by rw [show (nI 1).toInt = 1 from rfl]; omega, by rw [show (nI 1).toInt = 1 from rfl]; omega⟩
  refine V_aload_n (i := 0) dX7_elementAt_0 rfl 0 rfl ?_
  refine M_callVp (As := []) (st := []) dX7_elementAt_1 lv_X7_22 ⟨by decide, by decide⟩ ⟨rfl, rfl⟩ rfl (ci := 4) hb.1 rfl rfl (Nat.le_of_ble_eq_true rfl) (t_hasRow hb hT) ?_
  refine V_if_eq (tgt := 25) dX7_elementAt_4 rfl (fun h4 => ?_) (fun h4 => ?_)
  · have h4 : ¬ (rowQ T) := bI_eq0.mp h4
    exact absurd hr h4
  · have h4 : rowQ T := bI_ne.mp h4
    refine V_aload_n (i := 0) dX7_elementAt_7 rfl 0 rfl ?_
    refine V_iload_n (i := 1) dX7_elementAt_8 rfl 1 rfl ?_
    refine V_iconst (v := nI 1) dX7_elementAt_9 rfl ?_
    refine M_callVp (As := [.int (i), .int (nI 1)]) (st := []) dX7_elementAt_10 lv_X7_59 ⟨by decide, by decide⟩ ⟨rfl, rfl⟩ rfl (ci := 4) hb.1 rfl rfl (Nat.le_of_ble_eq_true rfl) (t_hasPlaces hb hT (i := i) (m := nI 1)) ?_
    refine V_if_eq (tgt := 25) dX7_elementAt_13 rfl (fun h13 => ?_) (fun h13 => ?_)
    · have h13 : ¬ (plQ T (i) (nI 1)) := bI_eq0.mp h13
      exact absurd hpl h13
    · have h13 : plQ T (i) (nI 1) := bI_ne.mp h13
      refine V_aload_n (i := 0) dX7_elementAt_16 rfl 0 rfl ?_
      refine M_getR dX7_elementAt_17 lf_X7_11 rfl hb.1 hb.2.1 ?_
      refine V_iload_n (i := 1) dX7_elementAt_20 rfl 1 rfl ?_
      refine M_lald (x := T.2.2 i.toNatClampNeg) dX7_elementAt_21 hb.2.2 (vp_in_iff.mpr ⟨by omega, by omega⟩) (hT.2.2.2 _ (by have := nn_clamp (z := i) (by rw [i_neg]; omega); omega)) ?_
      refine V_goto (tgt := 26) dX7_elementAt_22 rfl ?_
      refine V_lret dX7_elementAt_26 ⟨rfl, rfl⟩ (Nat.zero_le _) (Nat.zero_le _) ?_
      subst hQ
      exact ⟨rfl, rfl⟩
set_option maxRecDepth 20000 in
theorem t_elementAt_no {g : Ev} {S : St} {iv : IV} {lw : LW} {b : Nat} (hb : IsShelf S b) {T : Sv} (hT : XS iv lw b T) {i : Int32} (hr : ¬ (rowQ T ∧ 0 ≤ i.toInt ∧ i.toInt < T.2.1)) : CP g mX7_elementAt [.ref (b), .int (i)] S iv lw (.long (lN 0)) := by
  refine CT_ofQ rfl (by decide) (Nat.le_of_ble_eq_true rfl) (lv := [(0, .ref (b)), (1, .int (i))]) rfl (fun Q hQ => ?_)
  have hk := hT.1.1
  have hk2 := hT.1.2.1
  have hk3 := hT.1.2.2
  have h1t : (nI 1).toInt = 1 := rfl
  refine V_aload_n (i := 0) dX7_elementAt_0 rfl 0 rfl ?_
  refine M_callVp (As := []) (st := []) dX7_elementAt_1 lv_X7_22 ⟨by decide, by decide⟩ ⟨rfl, rfl⟩ rfl (ci := 4) hb.1 rfl rfl (Nat.le_of_ble_eq_true rfl) (t_hasRow hb hT) ?_
  refine V_if_eq (tgt := 25) dX7_elementAt_4 rfl (fun h4 => ?_) (fun h4 => ?_)
  · have h4 : ¬ (rowQ T) := bI_eq0.mp h4
    refine V_lconst (v := lN 0) dX7_elementAt_25 rfl ?_
    refine V_lret dX7_elementAt_26 ⟨rfl, rfl⟩ (Nat.zero_le _) (Nat.zero_le _) ?_
    subst hQ
    exact ⟨rfl, rfl⟩
  · have h4 : rowQ T := bI_ne.mp h4
    refine V_aload_n (i := 0) dX7_elementAt_7 rfl 0 rfl ?_
    refine V_iload_n (i := 1) dX7_elementAt_8 rfl 1 rfl ?_
    refine V_iconst (v := nI 1) dX7_elementAt_9 rfl ?_
    refine M_callVp (As := [.int (i), .int (nI 1)]) (st := []) dX7_elementAt_10 lv_X7_59 ⟨by decide, by decide⟩ ⟨rfl, rfl⟩ rfl (ci := 4) hb.1 rfl rfl (Nat.le_of_ble_eq_true rfl) (t_hasPlaces hb hT (i := i) (m := nI 1)) ?_
    refine V_if_eq (tgt := 25) dX7_elementAt_13 rfl (fun h13 => ?_) (fun h13 => ?_)
    · have h13 : ¬ (plQ T (i) (nI 1)) := bI_eq0.mp h13
      refine V_lconst (v := lN 0) dX7_elementAt_25 rfl ?_
      refine V_lret dX7_elementAt_26 ⟨rfl, rfl⟩ (Nat.zero_le _) (Nat.zero_le _) ?_
      subst hQ
      exact ⟨rfl, rfl⟩
    · have h13 : plQ T (i) (nI 1) := bI_ne.mp h13
      exact absurd ⟨h4, h13.1, by have := h13.2.2.2; rw [h1t] at this; omega⟩ hr
set_option maxRecDepth 20000 in
theorem t_lowestBits {g : Ev} {S : St} {iv : IV} {lw : LW} {b : Nat} (hb : IsShelf S b) {T : Sv} (hT : XS iv lw b T) {v : Int64} : CP g mX7_lowestBits [.ref (b), .long (v)] S iv lw (.long (fitL T.1 v)) := by
  refine CT_ofQ rfl (by decide) (Nat.le_of_ble_eq_true rfl) (lv := [(0, .ref (b)), (1, .long (v))]) rfl (fun Q hQ => ?_)
  refine V_aload_n (i := 0) dX7_lowestBits_0 rfl 0 rfl ?_
  refine M_getI (x := T.1) dX7_lowestBits_1 lf_X7_15 rfl hb.1 (hT.2.1) ?_
  by_cases hs4_0 : (T.1).toInt = 0
  · refine V_tabIn (v := 0) (tgt := 40) dX7_lowestBits_4 (by exact hs4_0) (by decide) rfl rfl ?_
    refine V_lload_n (i := 1) dX7_lowestBits_40 rfl 1 rfl ?_
    refine V_l2i dX7_lowestBits_41 ?_
    refine V_i2b dX7_lowestBits_42 ?_
    refine V_i2l dX7_lowestBits_43 ?_
    refine V_lret dX7_lowestBits_44 ⟨rfl, rfl⟩ (Nat.zero_le _) (Nat.zero_le _) ?_
    subst hQ
    exact ⟨by unfold fitL; rw [if_pos (by omega)], rfl⟩
  by_cases hs4_1 : (T.1).toInt = 1
  · refine V_tabIn (v := 1) (tgt := 45) dX7_lowestBits_4 (by exact hs4_1) (by decide) rfl rfl ?_
    refine V_lload_n (i := 1) dX7_lowestBits_45 rfl 1 rfl ?_
    refine V_l2i dX7_lowestBits_46 ?_
    refine V_i2s dX7_lowestBits_47 ?_
    refine V_i2l dX7_lowestBits_48 ?_
    refine V_lret dX7_lowestBits_49 ⟨rfl, rfl⟩ (Nat.zero_le _) (Nat.zero_le _) ?_
    subst hQ
    exact ⟨by unfold fitL; rw [if_neg (by omega)]; rw [if_pos (by omega)], rfl⟩
  by_cases hs4_2 : (T.1).toInt = 2
  · refine V_tabIn (v := 2) (tgt := 50) dX7_lowestBits_4 (by exact hs4_2) (by decide) rfl rfl ?_
    refine V_lload_n (i := 1) dX7_lowestBits_50 rfl 1 rfl ?_
    refine V_l2i dX7_lowestBits_51 ?_
    refine V_i2l dX7_lowestBits_52 ?_
    refine V_lret dX7_lowestBits_53 ⟨rfl, rfl⟩ (Nat.zero_le _) (Nat.zero_le _) ?_
    subst hQ
    exact ⟨by unfold fitL; rw [if_neg (by omega)]; rw [if_neg (by omega)]; rw [if_pos (by omega)], rfl⟩
  by_cases hs4_3 : (T.1).toInt = 3
  · refine V_tabIn (v := 3) (tgt := 66) dX7_lowestBits_4 (by exact hs4_3) (by decide) rfl rfl ?_
    refine V_lload_n (i := 1) dX7_lowestBits_66 rfl 1 rfl ?_
    refine V_lret dX7_lowestBits_67 ⟨rfl, rfl⟩ (Nat.zero_le _) (Nat.zero_le _) ?_
    subst hQ
    exact ⟨by unfold fitL; rw [if_neg (by omega)]; rw [if_neg (by omega)]; rw [if_neg (by omega)]; rw [if_neg (by omega)], rfl⟩
  by_cases hs4_4 : (T.1).toInt = 4
  · refine V_tabIn (v := 4) (tgt := 54) dX7_lowestBits_4 (by exact hs4_4) (by decide) rfl rfl ?_
    refine V_lload_n (i := 1) dX7_lowestBits_54 rfl 1 rfl ?_
    refine V_lconst (v := lN 0) dX7_lowestBits_55 rfl ?_
    refine V_lcmp dX7_lowestBits_56 ?_
    refine V_if_eq (tgt := 64) dX7_lowestBits_57 rfl (fun h57 => ?_) (fun h57 => ?_)
    · have h57 : v.toInt = (0 : Int) := by have q := lg_eq.mp h57; rw [lN_toInt (n := 0) (by omega)] at q; exact q
      refine V_lconst (v := lN 0) dX7_lowestBits_64 rfl ?_
      refine V_lret dX7_lowestBits_65 ⟨rfl, rfl⟩ (Nat.zero_le _) (Nat.zero_le _) ?_
      subst hQ
      exact ⟨by unfold fitL; rw [if_neg (by omega)]; rw [if_neg (by omega)]; rw [if_neg (by omega)]; rw [if_pos (by omega)]; rw [if_pos h57], rfl⟩
    · have h57 : ¬ v.toInt = (0 : Int) := fun r => h57 (lg_eq.mpr (by rw [lN_toInt (n := 0) (by omega)]; exact r))
      refine V_lconst (v := lN 1) dX7_lowestBits_60 rfl ?_
      refine V_goto (tgt := 65) dX7_lowestBits_61 rfl ?_
      refine V_lret dX7_lowestBits_65 ⟨rfl, rfl⟩ (Nat.zero_le _) (Nat.zero_le _) ?_
      subst hQ
      exact ⟨by unfold fitL; rw [if_neg (by omega)]; rw [if_neg (by omega)]; rw [if_neg (by omega)]; rw [if_pos (by omega)]; rw [if_neg h57], rfl⟩
  refine V_tableOut (tgt := 66) dX7_lowestBits_4 (by omega) rfl ?_
  refine V_lload_n (i := 1) dX7_lowestBits_66 rfl 1 rfl ?_
  refine V_lret dX7_lowestBits_67 ⟨rfl, rfl⟩ (Nat.zero_le _) (Nat.zero_le _) ?_
  subst hQ
  exact ⟨by unfold fitL; rw [if_neg (by omega)]; rw [if_neg (by omega)]; rw [if_neg (by omega)]; rw [if_neg (by omega)], rfl⟩
set_option maxRecDepth 20000 in
theorem t_putElement {g : Ev} {S : St} {iv : IV} {lw : LW} {b : Nat} (hb : IsShelf S b) {T : Sv} (hT : XS iv lw b T) {i : Int32} {v : Int64} (hi : 0 ≤ i.toInt ∧ i.toInt < T.2.1) : CN g mX7_putElement [.ref (b), .int (i), .long (v)] S iv lw (fun iv2 lw2 => iv = iv2 ∧ lw2 = up2 lw (b + 1) i.toNatClampNeg (fitL T.1 v)) := by
  refine CT_ofQ rfl (by decide) (Nat.le_of_ble_eq_true rfl) (lv := [(0, .ref (b)), (1, .int (i)), (2, .long (v))]) rfl (fun Q hQ => ?_)
  have hk := hT.1.1
  have hk2 := hT.1.2.1
  have hk3 := hT.1.2.2
  have hpl : plQ T i (nI 1) := ⟨by omega, by decide, by rw [show (nI 1).toInt = 1 from rfl]; omega, by rw [show (nI 1).toInt = 1 from rfl]; omega⟩
  refine V_aload_n (i := 0) dX7_putElement_0 rfl 0 rfl ?_
  refine V_iload_n (i := 1) dX7_putElement_1 rfl 1 rfl ?_
  refine V_iconst (v := nI 1) dX7_putElement_2 rfl ?_
  refine M_callVp (As := [.int (i), .int (nI 1)]) (st := []) dX7_putElement_3 lv_X7_59 ⟨by decide, by decide⟩ ⟨rfl, rfl⟩ rfl (ci := 4) hb.1 rfl rfl (Nat.le_of_ble_eq_true rfl) (t_hasPlaces hb hT (i := i) (m := nI 1)) ?_
  refine V_if_eq (tgt := 20) dX7_putElement_6 rfl (fun h6 => ?_) (fun h6 => ?_)
  · have h6 : ¬ (plQ T (i) (nI 1)) := bI_eq0.mp h6
    exact absurd hpl h6
  · have h6 : plQ T (i) (nI 1) := bI_ne.mp h6
    refine V_aload_n (i := 0) dX7_putElement_9 rfl 0 rfl ?_
    refine M_getR dX7_putElement_10 lf_X7_11 rfl hb.1 hb.2.1 ?_
    refine V_iload_n (i := 1) dX7_putElement_13 rfl 1 rfl ?_
    refine V_aload_n (i := 0) dX7_putElement_14 rfl 0 rfl ?_
    refine V_lload_n (i := 2) dX7_putElement_15 rfl 2 rfl ?_
    refine M_callVp (As := [.long (v)]) (st := [.int (i), .ref (b + 1)]) dX7_putElement_16 lv_X7_63 ⟨by decide, by decide⟩ ⟨rfl, rfl⟩ rfl (ci := 4) hb.1 rfl rfl (Nat.le_of_ble_eq_true rfl) (t_lowestBits hb hT) ?_
    refine M_last dX7_putElement_19 hb.2.2 (vp_in_iff.mpr ⟨by omega, by omega⟩) ?_
    refine V_vret dX7_putElement_20 ⟨rfl, rfl⟩ (Nat.zero_le _) (Nat.zero_le _) ?_
    subst hQ
    exact ⟨_, _, rfl, rfl, rfl, rfl⟩
set_option maxRecDepth 20000 in
theorem t_takeElements {g : Ev} {S : St} {iv : IV} {lw : LW} {b : Nat} (hb : IsShelf S b) {T : Sv} (hT : XS iv lw b T) {b2 : Nat} (hb2 : IsShelf S b2) {T2 : Sv} (hT2 : XS iv lw b2 T2) {i j m : Int32} (h1 : plQ T2 i m) (h2 : plQ T j m) : CN g mX7_takeElements [.ref (b), .ref (b2), .int (i), .int (j), .int (m)] S iv lw (fun iv2 lw2 => iv = iv2 ∧ lw2 = rowU lw (b + 1) (va_cpy (lw (b2 + 1)) (lw (b + 1)) i.toNatClampNeg j.toNatClampNeg m.toNatClampNeg)) := by
  refine CT_ofQ rfl (by decide) (Nat.le_of_ble_eq_true rfl) (lv := [(0, .ref (b)), (1, .ref (b2)), (2, .int (i)), (3, .int (j)), (4, .int (m))]) rfl (fun Q hQ => ?_)
  have hk := hT.1.1
  have hk2 := hT.1.2.1
  have hk3 := hT.1.2.2
  have hk4 := hT2.1.1
  have hi0 := nn_clamp (z := i) (by rw [i_neg]; omega)
  have hj0 := nn_clamp (z := j) (by rw [i_neg]; omega)
  have hm0 := nn_clamp (z := m) (by rw [i_neg]; omega)
  refine V_aload_n (i := 1) dX7_takeElements_0 rfl 1 rfl ?_
  refine V_iload_n (i := 2) dX7_takeElements_1 rfl 2 rfl ?_
  refine V_iload dX7_takeElements_2 4 rfl ?_
  refine M_callVp (As := [.int (i), .int (m)]) (st := []) dX7_takeElements_4 lv_X7_59 ⟨by decide, by decide⟩ ⟨rfl, rfl⟩ rfl (ci := 4) hb2.1 rfl rfl (Nat.le_of_ble_eq_true rfl) (t_hasPlaces hb2 hT2 (i := i) (m := m)) ?_
  refine V_if_eq (tgt := 35) dX7_takeElements_7 rfl (fun h7 => ?_) (fun h7 => ?_)
  · have h7 : ¬ (plQ T2 i m) := bI_eq0.mp h7
    exact absurd h1 h7
  · have h7 : plQ T2 i m := bI_ne.mp h7
    refine V_aload_n (i := 0) dX7_takeElements_10 rfl 0 rfl ?_
    refine V_iload_n (i := 3) dX7_takeElements_11 rfl 3 rfl ?_
    refine V_iload dX7_takeElements_12 4 rfl ?_
    refine M_callVp (As := [.int (j), .int (m)]) (st := []) dX7_takeElements_14 lv_X7_59 ⟨by decide, by decide⟩ ⟨rfl, rfl⟩ rfl (ci := 4) hb.1 rfl rfl (Nat.le_of_ble_eq_true rfl) (t_hasPlaces hb hT (i := j) (m := m)) ?_
    refine V_if_eq (tgt := 35) dX7_takeElements_17 rfl (fun h17 => ?_) (fun h17 => ?_)
    · have h17 : ¬ (plQ T (j) (m)) := bI_eq0.mp h17
      exact absurd h2 h17
    · have h17 : plQ T (j) (m) := bI_ne.mp h17
      refine V_aload_n (i := 1) dX7_takeElements_20 rfl 1 rfl ?_
      refine M_getR dX7_takeElements_21 lf_X7_11 rfl hb2.1 hb2.2.1 ?_
      refine V_iload_n (i := 2) dX7_takeElements_24 rfl 2 rfl ?_
      refine V_aload_n (i := 0) dX7_takeElements_25 rfl 0 rfl ?_
      refine M_getR dX7_takeElements_26 lf_X7_11 rfl hb.1 hb.2.1 ?_
      refine V_iload_n (i := 3) dX7_takeElements_29 rfl 3 rfl ?_
      refine V_iload dX7_takeElements_30 4 rfl ?_
      refine M_acopyL dX7_takeElements_32 mw_281 mw_283 mw_282 mw_11 (by decide) (by decide) hb2.2.2 hb.2.2 (by rw [i_neg]; omega) (by rw [i_neg]; omega) (by rw [i_neg]; omega) (by omega) (by omega) ?_
      refine V_vret dX7_takeElements_35 ⟨rfl, rfl⟩ (Nat.zero_le _) (Nat.zero_le _) ?_
      subst hQ
      exact ⟨_, _, rfl, rfl, rfl, rfl⟩
set_option maxRecDepth 20000 in
theorem t_startsWithNotes {g : Ev} {S : St} {iv : IV} {lw : LW} {b : Nat} (hb : IsShelf S b) {T : Sv} (hT : XS iv lw b T) {m : Nat} (hr : rowQ T) (hm : m ≤ T.2.1) : CP g mX7_startsWithNotes [.ref (b), .int (nI m)] S iv lw (.int (bI (allTo (fun i => decide (ntQ (T.2.2 i))) m = true))) := by
  refine CT_ofQ rfl (by decide) (Nat.le_of_ble_eq_true rfl) (lv := [(0, .ref (b)), (1, .int (nI m))]) rfl (fun Q hQ => ?_)
  have hk := hT.1.1
  have hk2 := hT.1.2.1
  have hk3 := hT.1.2.2
  refine V_iconst (v := nI 0) dX7_startsWithNotes_0 rfl ?_
  refine V_istore_n (lv2 := [(2, .int (nI 0)), (0, .ref (b)), (1, .int (nI m))]) dX7_startsWithNotes_1 rfl (by decide) rfl ?_
  have lp2 : ∀ j, j ≤ m → allTo (fun i => decide (ntQ (T.2.2 i))) j = true → VM g mX7_startsWithNotes 2 [(2, .int (nI j)), (0, .ref (b)), (1, .int (nI m))] [] S iv lw Q := by
    refine up_ind fun j hj ih2 => ?_
    intro hall
    refine V_iload_n (i := 2) dX7_startsWithNotes_2 rfl 0 rfl ?_
    refine V_iload_n (i := 1) dX7_startsWithNotes_3 rfl 2 rfl ?_
    refine V_icmp_ge (tgt := 26) dX7_startsWithNotes_4 rfl (fun h4 => ?_) (fun h4 => ?_)
    · have h4 : m ≤ j := (nI_leI (by omega) (by omega)).mp h4
      refine V_iconst (v := nI 1) dX7_startsWithNotes_26 rfl ?_
      refine V_zret dX7_startsWithNotes_27 ⟨rfl, rfl⟩ (by rfl) (Nat.zero_le _) (Nat.zero_le _) ?_
      subst hQ
      obtain rfl : j = m := by omega
      exact ⟨by rw [bI_t hall], rfl⟩
    · have h4 : ¬ m ≤ j := fun q => h4 ((nI_leI (by omega) (by omega)).mpr q)
      refine V_aload_n (i := 0) dX7_startsWithNotes_7 rfl 1 rfl ?_
      refine V_iload_n (i := 2) dX7_startsWithNotes_8 rfl 0 rfl ?_
      refine M_callVp (As := [.int (nI j)]) (st := []) dX7_startsWithNotes_9 lv_X7_73 ⟨by decide, by decide⟩ ⟨rfl, rfl⟩ rfl (ci := 4) hb.1 rfl rfl (Nat.le_of_ble_eq_true rfl) ((show CP g mX7_elementAt _ _ _ _ (.long (T.2.2 j)) from (by have h := t_elementAt (g := g) hb hT (i := nI j) hr (by rw [nI_toInt (by omega)]; omega); rw [nI_clamp (by omega)] at h; exact h))) ?_
      refine M_callSp (As := [.long (T.2.2 j)]) (st := []) dX7_startsWithNotes_12 ls_X7_77 ⟨by decide, by decide⟩ ⟨rfl, rfl⟩ rfl (Nat.le_of_ble_eq_true rfl) (t_X0_isNote) ?_
      refine V_if_ne (tgt := 20) dX7_startsWithNotes_15 rfl (fun h15 => ?_) (fun h15 => ?_)
      · have h15 : ntQ (T.2.2 j) := bI_ne.mp h15
        refine V_iinc (v := nI (j + 1)) (lv2 := [(2, .int (nI (j + 1))), (0, .ref (b)), (1, .int (nI m))]) dX7_startsWithNotes_20 0 rfl (nI_inc _) (by decide) rfl ?_
        refine V_goto (tgt := 2) dX7_startsWithNotes_23 rfl ?_
        refine V_sub [0, 1, 2] rfl ?_
        exact M_at (ih2 (by omega) (by show (allTo _ _ && decide (ntQ (T.2.2 j))) = true; rw [hall, decide_eq_true h15]; rfl)) (rfl) rfl (rfl) (rfl)
      · have h15 : ¬ (ntQ (T.2.2 j)) := bI_eq0.mp h15
        refine V_iconst (v := nI 0) dX7_startsWithNotes_18 rfl ?_
        refine V_zret dX7_startsWithNotes_19 ⟨rfl, rfl⟩ (by rfl) (Nat.zero_le _) (Nat.zero_le _) ?_
        subst hQ
        exact ⟨by rw [bI_f (by rw [allTo_bad (i := j) (by omega) (decide_eq_false h15)]; decide)], rfl⟩
  refine V_sub [0, 1, 2] rfl ?_
  exact M_at (lp2 0 (Nat.zero_le _) rfl) (rfl) rfl (rfl) (rfl)
set_option maxRecDepth 20000 in
theorem t_firstUnheard {g : Ev} {S : St} {iv : IV} {lw : LW} {b : Nat} (hb : IsShelf S b) {T : Sv} (hT : XS iv lw b T) {m : Nat} (hr : rowQ T) (hm : m ≤ T.2.1) : CP g mX7_firstUnheard [.ref (b), .int (nI m)] S iv lw (.int (oI (ffO (fun i => !decide (ntQ (T.2.2 i) ∨ (T.2.2 i).toInt = 9)) m))) := by
  refine CT_ofQ rfl (by decide) (Nat.le_of_ble_eq_true rfl) (lv := [(0, .ref (b)), (1, .int (nI m))]) rfl (fun Q hQ => ?_)
  have hk := hT.1.1
  have hk2 := hT.1.2.1
  have hk3 := hT.1.2.2
  refine V_iconst (v := nI 0) dX7_firstUnheard_0 rfl ?_
  refine V_istore_n (lv2 := [(2, .int (nI 0)), (0, .ref (b)), (1, .int (nI m))]) dX7_firstUnheard_1 rfl (by decide) rfl ?_
  have lp2 : ∀ j, j ≤ m → (∀ k, k < j → (fun i => !decide (ntQ (T.2.2 i) ∨ (T.2.2 i).toInt = 9)) k = false) → VM g mX7_firstUnheard 2 [(2, .int (nI j)), (0, .ref (b)), (1, .int (nI m))] [] S iv lw Q := by
    refine up_ind fun j hj ih2 => ?_
    intro hal
    refine V_iload_n (i := 2) dX7_firstUnheard_2 rfl 0 rfl ?_
    refine V_iload_n (i := 1) dX7_firstUnheard_3 rfl 2 rfl ?_
    refine V_icmp_ge (tgt := 36) dX7_firstUnheard_4 rfl (fun h4 => ?_) (fun h4 => ?_)
    · have h4 : m ≤ j := (nI_leI (by omega) (by omega)).mp h4
      refine V_iconst (v := (-1)) dX7_firstUnheard_36 rfl ?_
      refine V_iret dX7_firstUnheard_37 ⟨rfl, rfl⟩ (Nat.zero_le _) (Nat.zero_le _) ?_
      subst hQ
      exact ⟨by rw [ffO_none (fun k hk => hal k (by omega))]; rfl, rfl⟩
    · have h4 : ¬ m ≤ j := fun q => h4 ((nI_leI (by omega) (by omega)).mpr q)
      refine V_aload_n (i := 0) dX7_firstUnheard_7 rfl 1 rfl ?_
      refine V_iload_n (i := 2) dX7_firstUnheard_8 rfl 0 rfl ?_
      refine M_callVp (As := [.int (nI j)]) (st := []) dX7_firstUnheard_9 lv_X7_73 ⟨by decide, by decide⟩ ⟨rfl, rfl⟩ rfl (ci := 4) hb.1 rfl rfl (Nat.le_of_ble_eq_true rfl) ((show CP g mX7_elementAt _ _ _ _ (.long (T.2.2 j)) from (by have h := t_elementAt (g := g) hb hT (i := nI j) hr (by rw [nI_toInt (by omega)]; omega); rw [nI_clamp (by omega)] at h; exact h))) ?_
      refine V_lstore_n (lv2 := [(3, .long (T.2.2 j)), (2, .int (nI j)), (0, .ref (b)), (1, .int (nI m))]) dX7_firstUnheard_12 rfl (by decide) rfl ?_
      refine V_lload_n (i := 3) dX7_firstUnheard_13 rfl 0 rfl ?_
      refine M_callSp (As := [.long (T.2.2 j)]) (st := []) dX7_firstUnheard_14 ls_X7_77 ⟨by decide, by decide⟩ ⟨rfl, rfl⟩ rfl (Nat.le_of_ble_eq_true rfl) (t_X0_isNote) ?_
      refine V_if_ne (tgt := 30) dX7_firstUnheard_17 rfl (fun h17 => ?_) (fun h17 => ?_)
      · have h17 : ntQ (T.2.2 j) := bI_ne.mp h17
        refine V_iinc (v := nI (j + 1)) (lv2 := [(2, .int (nI (j + 1))), (3, .long (T.2.2 j)), (0, .ref (b)), (1, .int (nI m))]) dX7_firstUnheard_30 1 rfl (nI_inc _) (by decide) rfl ?_
        refine V_goto (tgt := 2) dX7_firstUnheard_33 rfl ?_
        refine V_sub [0, 2, 3] rfl ?_
        exact M_at (ih2 (by omega) (fun k hk => (Nat.lt_or_ge k j).elim (hal k) (fun z => by have e9 : k = j := (by omega); rw [e9]; show (!decide _) = false; rw [decide_eq_true (Or.inl h17)]; rfl))) (rfl) rfl (rfl) (rfl)
      · have h17 : ¬ (ntQ (T.2.2 j)) := bI_eq0.mp h17
        refine V_lload_n (i := 3) dX7_firstUnheard_20 rfl 0 rfl ?_
        refine V_ldc2 (v := lN 9) dX7_firstUnheard_21 mw_686 ?_
        refine V_lcmp dX7_firstUnheard_24 ?_
        refine V_if_eq (tgt := 30) dX7_firstUnheard_25 rfl (fun h25 => ?_) (fun h25 => ?_)
        · have h25 : (T.2.2 j).toInt = (9 : Int) := by have q := lg_eq.mp h25; rw [lN_toInt (n := 9) (by omega)] at q; exact q
          refine V_iinc (v := nI (j + 1)) (lv2 := [(2, .int (nI (j + 1))), (3, .long (T.2.2 j)), (0, .ref (b)), (1, .int (nI m))]) dX7_firstUnheard_30 1 rfl (nI_inc _) (by decide) rfl ?_
          refine V_goto (tgt := 2) dX7_firstUnheard_33 rfl ?_
          refine V_sub [0, 2, 3] rfl ?_
          exact M_at (ih2 (by omega) (fun k hk => (Nat.lt_or_ge k j).elim (hal k) (fun z => by have e9 : k = j := (by omega); rw [e9]; show (!decide _) = false; rw [decide_eq_true (Or.inr (by omega))]; rfl))) (rfl) rfl (rfl) (rfl)
        · have h25 : ¬ (T.2.2 j).toInt = (9 : Int) := fun r => h25 (lg_eq.mpr (by rw [lN_toInt (n := 9) (by omega)]; exact r))
          refine V_iload_n (i := 2) dX7_firstUnheard_28 rfl 1 rfl ?_
          refine V_iret dX7_firstUnheard_29 ⟨rfl, rfl⟩ (Nat.zero_le _) (Nat.zero_le _) ?_
          subst hQ
          exact ⟨by rw [ffO_at (by omega) hal (by show (!decide _) = true; rw [decide_eq_false (fun q => q.elim h17 (fun r => by omega))]; rfl)]; rfl, rfl⟩
  refine V_sub [0, 1, 2] rfl ?_
  exact M_at (lp2 0 (Nat.zero_le _) (fun k hk => absurd hk (by omega))) (rfl) rfl (rfl) (rfl)
