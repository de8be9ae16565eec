/-! Hearing and Sense -/
/-- f's first n values written into cell a -/
def wrTo (iv : IV) (a : Nat) (f : Nat → Int32) : Nat → IV
  | 0 => iv
  | n + 1 => up2 (wrTo iv a f n) a n (f n)
theorem wrTo_n {iv : IV} {a b : Nat} {f : Nat → Int32} (h : b ≠ a) : ∀ n, wrTo iv a f n b = iv b
  | 0 => rfl
  | n + 1 => (up2_a h).trans (wrTo_n h n)
theorem wrTo_in {iv : IV} {a i : Nat} {f : Nat → Int32} : ∀ n, i < n → wrTo iv a f n a i = f i
  | 0, h => absurd h (by omega)
  | n + 1, h => by
    show up2 _ _ _ _ _ _ = _
    by_cases e : i = n
    · subst e; exact up2_s
    · rw [up2_k e]; exact wrTo_in n (by omega)
theorem wrTo_out {iv : IV} {a i : Nat} {f : Nat → Int32} : ∀ n, n ≤ i → wrTo iv a f n a i = iv a i
  | 0, _ => rfl
  | n + 1, h => by
    show up2 _ _ _ _ _ _ = _
    rw [up2_k (by omega)]; exact wrTo_out n (by omega)
theorem wrTo_off {iv iv2 : IV} {a b m : Nat} {f : Nat → Int32} (h : Off b m iv iv2) (h1 : b ≤ a) (h2 : a < b + m) : ∀ n, Off b m iv (wrTo iv2 a f n)
  | 0 => h
  | n + 1 => (wrTo_off h h1 h2 n).up h1 h2
/-- the hearing at b -/
def XH (iv : IV) (b : Nat) (H : Hv) : Prop := (H.1 ≤ 8 ∧ ∀ i, i < H.1 → H.2.2 i ≤ 9) ∧ iv b 1 = nI H.1 ∧ iv b 2 = bI (H.2.1 = true) ∧ ∀ i, i < H.1 → iv (b + 1) i = nI (H.2.2 i)
theorem XH.of {iv iv2 : IV} {b : Nat} {H : Hv} (h : XH iv b H) (h0 : iv2 b = iv b) (h1 : iv2 (b + 1) = iv (b + 1)) : XH iv2 b H := by
  obtain ⟨a, b1, c, d⟩ := h
  exact ⟨a, by rw [h0]; exact b1, by rw [h0]; exact c, fun i hi => by rw [h1]; exact d i hi⟩
theorem xh_cut {iv : IV} {q n m : Nat} {o : Bool} {f : Nat → Nat} {z : Int32} (h : ∀ i, i < m → iv (q + 1) i = nI (f i)) (hm : n ≤ m) (hn : n ≤ 8) (hf : ∀ i, i < n → f i ≤ 9) (hz : z = bI (o = true)) : XH (up2 (up2 iv q 1 (nI n)) q 2 z) q (n, o, f) := by
  refine ⟨⟨hn, hf⟩, ?_, ?_, fun i hi => ?_⟩
  · exact (up2_k (by decide)).trans up2_s
  · exact up2_s.trans hz
  · rw [up2_a (by omega), up2_a (by omega)]
    exact h i (by have : i < n := hi; omega)
theorem off_cut {iv : IV} {q : Nat} {x z : Int32} : Off q 2 iv (up2 (up2 iv q 1 x) q 2 z) := fun a ha => by rw [up2_a (by omega), up2_a (by omega)]
theorem zfit {z : Int32} {p : Prop} [Decidable p] (h : z = bI p) : narrow .boolean (.int z) = .int z ∧ fits .boolean (.int z) = true := by
  subst h
  by_cases hp : p
  · rw [bI_t hp]; exact ⟨rfl, rfl⟩
  · rw [bI_f hp]; exact ⟨rfl, rfl⟩
theorem XC.off {iv iv2 : IV} {b q n : Nat} {V : Cv} (h : XC iv b V) (ho : Off q n iv iv2) (hd : b + 8 < q) : XC iv2 b V := h.of (fun a h1 h2 => ho a (by omega))
def fitN (V : Cv) (H : Hv) (e c i : Nat) : Bool := decide (H.2.2 i = noteBy V c e i) || decide (H.2.2 i = 9) || decide (noteBy V c e i = 9)
theorem fit_go {V : Cv} {H : Hv} {e c : Nat} (h1 : H.1 ≤ v_sz V c) (h2 : H.2.1 = true → v_sz V c = H.1) : fitB V H e c = allTo (fitN V H e c) H.1 := by
  unfold fitB
  by_cases h : H.2.1 = true
  · rw [if_pos h, decide_eq_true (h2 h)]; rfl
  · rw [if_neg h, decide_eq_true h1]; rfl
theorem fit_lt {V : Cv} {H : Hv} {e c : Nat} (h : v_sz V c < H.1) : ¬ fitB V H e c = true := by
  intro q
  unfold fitB at q
  rw [Bool.and_eq_true] at q
  have q1 := q.1
  split at q1
  · have := of_decide_eq_true q1; omega
  · have := of_decide_eq_true q1; omega
theorem fit_ne {V : Cv} {H : Hv} {e c : Nat} (ho : H.2.1 = true) (h : ¬ v_sz V c = H.1) : ¬ fitB V H e c = true := by
  intro q
  unfold fitB at q
  rw [Bool.and_eq_true, if_pos ho] at q
  exact h (of_decide_eq_true q.1)
theorem sumTo_t {p : Nat → Bool} {f : Nat → Nat} {n : Nat} (h : p n = true) : sumTo (fun i => if p i = true then f i else 0) (n + 1) = sumTo (fun i => if p i = true then f i else 0) n + f n := by
  show _ + (if p n = true then f n else 0) = _
  rw [if_pos h]
theorem sumTo_f {p : Nat → Bool} {f : Nat → Nat} {n : Nat} (h : ¬ p n = true) : sumTo (fun i => if p i = true then f i else 0) (n + 1) = sumTo (fun i => if p i = true then f i else 0) n := by
  show _ + (if p n = true then f n else 0) = _
  rw [if_neg h]; rfl
theorem usF_le {V : Cv} {H : Hv} {e : Nat} (h : VOK V) (m : Nat) (hm : m ≤ v_nc V) : sumTo (fun c => if fitB V H e c = true then v_us V c else 0) m ≤ 1188 := by
  have h1 : sumTo (fun c => if fitB V H e c = true then v_us V c else 0) m ≤ m * 99 := sumTo_le m (fun i hi => by
    have := h.us (c := i) (by omega)
    show (if fitB V H e i = true then v_us V i else 0) ≤ 99
    split <;> omega)
  have := h.nc
  have : m * 99 ≤ 12 * 99 := Nat.mul_le_mul_right _ (by omega)
  omega
theorem usO_le {V : Cv} {H : Hv} {e n : Nat} (h : VOK V) (hn : n ≤ v_nc V) : usO V (gsTo V H e n) ≤ 99 := by
  cases hg : gsTo V H e n with
  | none => exact Nat.zero_le _
  | some k => exact h.us (c := k) (by have := gsTo_lt n hg; omega)
theorem gsTo_t {V : Cv} {H : Hv} {e n : Nat} (h1 : usO V (gsTo V H e n) < v_us V n) (h2 : fitB V H e n = true) : gsTo V H e (n + 1) = some n := if_pos ⟨h1, h2⟩
theorem gsTo_f {V : Cv} {H : Hv} {e n : Nat} (h : ¬ (usO V (gsTo V H e n) < v_us V n ∧ fitB V H e n = true)) : gsTo V H e (n + 1) = gsTo V H e n := if_neg h
set_option maxRecDepth 20000 in
theorem t_cutTo {g : Ev} {S : St} {iv : IV} {lw : LW} {q : Nat} (hq : IsHear S q) {n : Nat} (hn : n ≤ 8) {z : Int32} {o : Bool} (hz : z = bI (o = true)) : CN g mX2_cutTo [.ref (q), .int (nI n), .int (z)] S iv lw (fun iv2 lw2 => iv2 = up2 (up2 iv q 1 (nI n)) q 2 z ∧ lw = lw2) := by
  refine CT_ofQ rfl (by decide) (Nat.le_of_ble_eq_true rfl) (lv := [(0, .ref (q)), (1, .int (nI n)), (2, .int (z))]) rfl (fun Q hQ => ?_)
  refine V_aload_n (i := 0) dX2_cutTo_0 rfl 0 rfl ?_
  refine V_iconst (v := nI 0) dX2_cutTo_1 rfl ?_
  refine V_iload_n (i := 1) dX2_cutTo_2 rfl 1 rfl ?_
  refine V_aload_n (i := 0) dX2_cutTo_3 rfl 0 rfl ?_
  refine M_getR dX2_cutTo_4 lf_X2_9 rfl hq.1 hq.2.1 ?_
  refine M_alen (t := 0) dX2_cutTo_7 (by decide) hq.2.2 ?_
  refine M_callSp (As := [.int (nI n), .int (nI 8)]) (st := [.int (nI 0), .ref (q)]) dX2_cutTo_8 ls_X2_23 ⟨by decide, by decide⟩ ⟨rfl, rfl⟩ rfl (Nat.le_of_ble_eq_true rfl) (t_min (by omega) (by omega)) ?_
  refine M_callSp (As := [.int (nI 0), .int (nI (min n 8))]) (st := [.ref (q)]) dX2_cutTo_11 ls_X2_29 ⟨by decide, by decide⟩ ⟨rfl, rfl⟩ rfl (Nat.le_of_ble_eq_true rfl) (t_max (by omega) (by omega)) ?_
  refine M_top (x2 := nI n) (by congr 1; omega) ?_
  refine M_putI dX2_cutTo_14 lf_X2_15 rfl hq.1 ⟨rfl, rfl⟩ ?_
  refine V_aload_n (i := 0) dX2_cutTo_17 rfl 0 rfl ?_
  refine V_iload_n (i := 2) dX2_cutTo_18 rfl 2 rfl ?_
  refine M_putI dX2_cutTo_19 lf_X2_19 rfl hq.1 (zfit hz) ?_
  refine V_vret dX2_cutTo_22 ⟨rfl, rfl⟩ (Nat.zero_le _) (Nat.zero_le _) ?_
  subst hQ
  exact ⟨_, _, rfl, rfl, rfl, rfl⟩
set_option maxRecDepth 20000 in
theorem t_putNote {g : Ev} {S : St} {iv : IV} {lw : LW} {q : Nat} (hq : IsHear S q) {i : Nat} {t : Int32} (hi : i < 8) : CN g mX2_putNote [.ref (q), .int (nI i), .int (t)] S iv lw (fun iv2 lw2 => iv2 = up2 iv (q + 1) i t ∧ lw = lw2) := by
  refine CT_ofQ rfl (by decide) (Nat.le_of_ble_eq_true rfl) (lv := [(0, .ref (q)), (1, .int (nI i)), (2, .int (t))]) rfl (fun Q hQ => ?_)
  refine V_iload_n (i := 1) dX2_putNote_0 rfl 1 rfl ?_
  refine V_if_lt (tgt := 20) dX2_putNote_1 rfl (fun q => absurd q (nI_pos (by omega))) (fun _ => ?_)
  refine V_iload_n (i := 1) dX2_putNote_4 rfl 1 rfl ?_
  refine V_aload_n (i := 0) dX2_putNote_5 rfl 0 rfl ?_
  refine M_getR dX2_putNote_6 lf_X2_9 rfl hq.1 hq.2.1 ?_
  refine M_alen (t := 0) dX2_putNote_9 (by decide) hq.2.2 ?_
  refine V_icmp_ge (tgt := 20) dX2_putNote_10 rfl (fun h10 => ?_) (fun h10 => ?_)
  · have h10 : 8 ≤ i := (nI_leI (by omega) (by omega)).mp h10
    exact absurd h10 (by omega)
  · have h10 : ¬ 8 ≤ i := fun q => h10 ((nI_leI (by omega) (by omega)).mpr q)
    refine V_aload_n (i := 0) dX2_putNote_13 rfl 0 rfl ?_
    refine M_getR dX2_putNote_14 lf_X2_9 rfl hq.1 hq.2.1 ?_
    refine V_iload_n (i := 1) dX2_putNote_17 rfl 1 rfl ?_
    refine V_iload_n (i := 2) dX2_putNote_18 rfl 2 rfl ?_
    refine M_iastn (j := i) dX2_putNote_19 hq.2.2 (by decide) (by omega) ?_
    refine V_vret dX2_putNote_20 ⟨rfl, rfl⟩ (Nat.zero_le _) (Nat.zero_le _) ?_
    subst hQ
    exact ⟨_, _, rfl, rfl, rfl, rfl⟩
set_option maxRecDepth 20000 in
theorem t_X2_noteAt {g : Ev} {S : St} {iv : IV} {lw : LW} {q : Nat} (hq : IsHear S q) {H : Hv} (hH : XH iv q H) {i : Nat} (hi : i < H.1) : CP g mX2_noteAt [.ref (q), .int (nI i)] S iv lw (.int (nI (H.2.2 i))) := by
  refine CT_ofQ rfl (by decide) (Nat.le_of_ble_eq_true rfl) (lv := [(0, .ref (q)), (1, .int (nI i))]) rfl (fun Q hQ => ?_)
  have h8 := hH.1.1
  refine V_iload_n (i := 1) dX2_noteAt_0 rfl 1 rfl ?_
  refine V_if_lt (tgt := 30) dX2_noteAt_1 rfl (fun q => absurd q (nI_pos (by omega))) (fun _ => ?_)
  refine V_iload_n (i := 1) dX2_noteAt_4 rfl 1 rfl ?_
  refine V_aload_n (i := 0) dX2_noteAt_5 rfl 0 rfl ?_
  refine M_getI (x := nI H.1) dX2_noteAt_6 lf_X2_15 rfl hq.1 (hH.2.1) ?_
  refine V_icmp_ge (tgt := 30) dX2_noteAt_9 rfl (fun h9 => ?_) (fun h9 => ?_)
  · have h9 : H.1 ≤ i := (nI_leI (by omega) (by omega)).mp h9
    exact absurd h9 (by omega)
  · have h9 : ¬ H.1 ≤ i := fun q => h9 ((nI_leI (by omega) (by omega)).mpr q)
    refine V_iload_n (i := 1) dX2_noteAt_12 rfl 1 rfl ?_
    refine V_aload_n (i := 0) dX2_noteAt_13 rfl 0 rfl ?_
    refine M_getR dX2_noteAt_14 lf_X2_9 rfl hq.1 hq.2.1 ?_
    refine M_alen (t := 0) dX2_noteAt_17 (by decide) hq.2.2 ?_
    refine V_icmp_ge (tgt := 30) dX2_noteAt_18 rfl (fun h18 => ?_) (fun h18 => ?_)
    · have h18 : 8 ≤ i := (nI_leI (by omega) (by omega)).mp h18
      exact absurd h18 (by omega)
    · have h18 : ¬ 8 ≤ i := fun q => h18 ((nI_leI (by omega) (by omega)).mpr q)
      refine V_aload_n (i := 0) dX2_noteAt_21 rfl 0 rfl ?_
      refine M_getR dX2_noteAt_22 lf_X2_9 rfl hq.1 hq.2.1 ?_
      refine V_iload_n (i := 1) dX2_noteAt_25 rfl 1 rfl ?_
      refine M_ialdn (j := i) (x := nI (H.2.2 i)) dX2_noteAt_26 hq.2.2 (by decide) (by omega) (hH.2.2.2 _ (by omega)) ?_
      refine V_goto (tgt := 32) dX2_noteAt_27 rfl ?_
      refine V_iret dX2_noteAt_32 ⟨rfl, rfl⟩ (Nat.zero_le _) (Nat.zero_le _) ?_
      subst hQ
      exact ⟨rfl, rfl⟩
set_option maxRecDepth 20000 in
theorem t_takeCall {g : Ev} {S : St} {iv : IV} {lw : LW} {q : Nat} (hq : IsHear S q) {b : Nat} (hb : IsCamp S b) {V : Cv} (hV : XC iv b V) (hd : b + 8 < q) {c e : Nat} (hc : c < v_nc V) (he : e < v_ne V) : CN g mX2_takeCall [.ref (q), .ref (b), .int (nI c), .int (nI e)] S iv lw (fun iv2 lw2 => lw = lw2 ∧ XH iv2 q (hearOf V c e (v_sz V c) true) ∧ Off q 2 iv iv2) := by
  refine CT_ofQ rfl (by decide) (Nat.le_of_ble_eq_true rfl) (lv := [(0, .ref (q)), (1, .ref (b)), (2, .int (nI c)), (3, .int (nI e))]) rfl (fun Q hQ => ?_)
  have hsz := hV.ok.sz hc
  refine V_aload_n (i := 0) dX2_takeCall_0 rfl 0 rfl ?_
  refine V_aload_n (i := 1) dX2_takeCall_1 rfl 1 rfl ?_
  refine V_iload_n (i := 2) dX2_takeCall_2 rfl 2 rfl ?_
  refine M_callVp (As := [.int (nI c)]) (st := [.ref (q)]) dX2_takeCall_3 lv_X2_46 ⟨by decide, by decide⟩ ⟨rfl, rfl⟩ rfl (ci := 0) hb.1 rfl rfl (Nat.le_of_ble_eq_true rfl) (t_X0_sizeOf hb hV hc) ?_
  refine V_iconst (v := nI 1) dX2_takeCall_6 rfl ?_
  refine M_callVn (As := [.int (nI (v_sz V c)), .int (nI 1)]) (st := []) dX2_takeCall_7 lv_X2_32 ⟨by decide, by decide⟩ ⟨rfl, rfl⟩ rfl (ci := 2) hq.1 rfl rfl (Nat.le_of_ble_eq_true rfl) (t_cutTo hq (n := v_sz V c) (by omega) (o := true) rfl) (fun iv7 lw7 q7 => ?_)
  obtain ⟨rfl, rfl⟩ := q7
  refine V_iconst (v := nI 0) dX2_takeCall_10 rfl ?_
  refine V_istore (lv2 := [(4, .int (nI 0)), (0, .ref (q)), (1, .ref (b)), (2, .int (nI c)), (3, .int (nI e))]) dX2_takeCall_11 (by decide) rfl ?_
  have lp13 : ∀ j, j ≤ (v_sz V c) → VM g mX2_takeCall 13 [(4, .int (nI j)), (0, .ref (q)), (1, .ref (b)), (2, .int (nI c)), (3, .int (nI e))] [] S (wrTo (up2 (up2 iv q 1 (nI (v_sz V c))) q 2 (nI 1)) (q + 1) (fun i => nI (noteBy V c e i)) j) lw Q := by
    refine up_ind fun j hj ih13 => ?_
    have hVj : XC (wrTo (up2 (up2 iv q 1 (nI (v_sz V c))) q 2 (nI 1)) (q + 1) (fun i => nI (noteBy V c e i)) j) b V := hV.off (wrTo_off off_cut (by omega) (by omega) j) hd
    refine V_iload dX2_takeCall_13 0 rfl ?_
    refine V_aload_n (i := 0) dX2_takeCall_15 rfl 1 rfl ?_
    refine M_getI (x := nI (v_sz V c)) dX2_takeCall_16 lf_X2_15 rfl hq.1 ((congrFun (wrTo_n (by omega) _) _).trans ((up2_k (by decide)).trans up2_s)) ?_
    refine V_icmp_ge (tgt := 42) dX2_takeCall_19 rfl (fun h19 => ?_) (fun h19 => ?_)
    · have h19 : (v_sz V c) ≤ j := (nI_leI (by omega) (by omega)).mp h19
      refine V_vret dX2_takeCall_42 ⟨rfl, rfl⟩ (Nat.zero_le _) (Nat.zero_le _) ?_
      subst hQ
      obtain rfl : j = v_sz V c := by omega
      refine ⟨_, _, rfl, rfl, rfl, ⟨⟨by show v_sz V c ≤ 8; omega, fun i hi => noteBy_le hV.ok hc hi⟩, ?_, ?_, fun i hi => wrTo_in _ hi⟩, wrTo_off off_cut (by omega) (by omega) _⟩
      · exact (congrFun (wrTo_n (by omega) _) _).trans ((up2_k (by decide)).trans up2_s)
      · exact (congrFun (wrTo_n (by omega) _) _).trans up2_s
    · have h19 : ¬ (v_sz V c) ≤ j := fun q => h19 ((nI_leI (by omega) (by omega)).mpr q)
      refine V_aload_n (i := 0) dX2_takeCall_22 rfl 1 rfl ?_
      refine V_iload dX2_takeCall_23 0 rfl ?_
      refine V_aload_n (i := 1) dX2_takeCall_25 rfl 2 rfl ?_
      refine V_iload_n (i := 2) dX2_takeCall_26 rfl 3 rfl ?_
      refine V_iload_n (i := 3) dX2_takeCall_27 rfl 4 rfl ?_
      refine V_iload dX2_takeCall_28 0 rfl ?_
      refine M_callSp (As := [.ref (b), .int (nI c), .int (nI e), .int (nI j)]) (st := [.int (nI j), .ref (q)]) dX2_takeCall_30 ls_X2_50 ⟨by decide, by decide⟩ ⟨rfl, rfl⟩ rfl (Nat.le_of_ble_eq_true rfl) (t_noteByEar hb hVj hc he (i := j) (by omega)) ?_
      refine M_callVn (As := [.int (nI j), .int (nI (noteBy V c e j))]) (st := []) dX2_takeCall_33 lv_X2_42 ⟨by decide, by decide⟩ ⟨rfl, rfl⟩ rfl (ci := 2) hq.1 rfl rfl (Nat.le_of_ble_eq_true rfl) (t_putNote hq (i := j) (by omega)) (fun iv33 lw33 q33 => ?_)
      obtain ⟨rfl, rfl⟩ := q33
      refine V_iinc (v := nI (j + 1)) (lv2 := [(4, .int (nI (j + 1))), (0, .ref (q)), (1, .ref (b)), (2, .int (nI c)), (3, .int (nI e))]) dX2_takeCall_36 0 rfl (nI_inc _) (by decide) rfl ?_
      refine V_goto (tgt := 13) dX2_takeCall_39 rfl ?_
      refine V_sub [0, 1, 2, 3, 4] rfl ?_
      exact M_at (ih13 (by omega)) (rfl) rfl (rfl) (rfl)
  refine V_sub [0, 1, 2, 3, 4] rfl ?_
  exact M_at (lp13 0 (Nat.zero_le _)) (rfl) rfl (rfl) (rfl)
set_option maxRecDepth 20000 in
theorem t_isFit {g : Ev} {S : St} {iv : IV} {lw : LW} {b : Nat} (hb : IsCamp S b) {V : Cv} (hV : XC iv b V) {q : Nat} (hq : IsHear S q) {H : Hv} (hH : XH iv q H) {e c : Nat} (he : e < v_ne V) (hc : c < v_nc V) : CP g mX6_isFit [.ref (b), .ref (q), .int (nI e), .int (nI c)] S iv lw (.int (bI (fitB V H e c = true))) := by
  refine CT_ofQ rfl (by decide) (Nat.le_of_ble_eq_true rfl) (lv := [(0, .ref (b)), (1, .ref (q)), (2, .int (nI e)), (3, .int (nI c))]) rfl (fun Q hQ => ?_)
  have h8 := hH.1.1
  have hsz := hV.ok.sz hc
  refine V_aload_n (i := 0) dX6_isFit_0 rfl 0 rfl ?_
  refine V_iload_n (i := 3) dX6_isFit_1 rfl 3 rfl ?_
  refine M_callVp (As := [.int (nI c)]) (st := []) dX6_isFit_2 lv_X6_18 ⟨by decide, by decide⟩ ⟨rfl, rfl⟩ rfl (ci := 0) hb.1 rfl rfl (Nat.le_of_ble_eq_true rfl) (t_X0_sizeOf hb hV hc) ?_
  refine V_istore (lv2 := [(4, .int (nI (v_sz V c))), (0, .ref (b)), (1, .ref (q)), (2, .int (nI e)), (3, .int (nI c))]) dX6_isFit_5 (by decide) rfl ?_
  refine V_iload dX6_isFit_7 0 rfl ?_
  refine V_aload_n (i := 1) dX6_isFit_9 rfl 2 rfl ?_
  refine M_getI (x := nI H.1) dX6_isFit_10 lf_X6_40 rfl hq.1 (hH.2.1) ?_
  refine V_icmp_lt (tgt := 32) dX6_isFit_13 rfl (fun h13 => ?_) (fun h13 => ?_)
  · have h13 : (v_sz V c) < H.1 := (nI_ltI (by omega) (by omega)).mp h13
    refine V_iconst (v := nI 0) dX6_isFit_32 rfl ?_
    refine V_zret dX6_isFit_33 ⟨rfl, rfl⟩ (by rfl) (Nat.zero_le _) (Nat.zero_le _) ?_
    subst hQ
    exact ⟨by rw [bI_f (fit_lt h13)], rfl⟩
  · have h13 : ¬ (v_sz V c) < H.1 := fun q => h13 ((nI_ltI (by omega) (by omega)).mpr q)
    refine V_aload_n (i := 1) dX6_isFit_16 rfl 2 rfl ?_
    refine M_getI (x := bI (H.2.1 = true)) dX6_isFit_17 lf_X6_44 rfl hq.1 (hH.2.2.1) ?_
    refine V_if_eq (tgt := 34) dX6_isFit_20 rfl (fun h20 => ?_) (fun h20 => ?_)
    · have h20 : ¬ (H.2.1 = true) := bI_eq0.mp h20
      have hgo : fitB V H e c = allTo (fitN V H e c) H.1 := fit_go (by omega) (fun q => absurd q h20)
      refine V_iconst (v := nI 0) dX6_isFit_34 rfl ?_
      refine V_istore (lv2 := [(5, .int (nI 0)), (4, .int (nI (v_sz V c))), (0, .ref (b)), (1, .ref (q)), (2, .int (nI e)), (3, .int (nI c))]) dX6_isFit_35 (by decide) rfl ?_
      have lp37 : ∀ i, i ≤ (H.1) → allTo (fitN V H e c) i = true → VM g mX6_isFit 37 [(5, .int (nI i)), (4, .int (nI (v_sz V c))), (0, .ref (b)), (1, .ref (q)), (2, .int (nI e)), (3, .int (nI c))] [] S iv lw Q := by
        refine up_ind fun i hi ih37 => ?_
        intro hall
        refine V_iload dX6_isFit_37 0 rfl ?_
        refine V_aload_n (i := 1) dX6_isFit_39 rfl 3 rfl ?_
        refine M_getI (x := nI H.1) dX6_isFit_40 lf_X6_40 rfl hq.1 (hH.2.1) ?_
        refine V_icmp_ge (tgt := 93) dX6_isFit_43 rfl (fun h43 => ?_) (fun h43 => ?_)
        · have h43 : H.1 ≤ i := (nI_leI (by omega) (by omega)).mp h43
          refine V_iconst (v := nI 1) dX6_isFit_93 rfl ?_
          refine V_zret dX6_isFit_94 ⟨rfl, rfl⟩ (by rfl) (Nat.zero_le _) (Nat.zero_le _) ?_
          subst hQ
          obtain rfl : i = H.1 := by omega
          exact ⟨by rw [bI_t (hgo.trans hall)], rfl⟩
        · have h43 : ¬ H.1 ≤ i := fun q => h43 ((nI_leI (by omega) (by omega)).mpr q)
          have hn1 := noteBy_le (e := e) hV.ok hc (i := i) (by omega)
          have hn2 := hH.1.2 i (by omega)
          refine V_aload_n (i := 1) dX6_isFit_46 rfl 3 rfl ?_
          refine V_iload dX6_isFit_47 0 rfl ?_
          refine M_callVp (As := [.int (nI i)]) (st := []) dX6_isFit_49 lv_X6_48 ⟨by decide, by decide⟩ ⟨rfl, rfl⟩ rfl (ci := 2) hq.1 rfl rfl (Nat.le_of_ble_eq_true rfl) (t_X2_noteAt hq hH (i := i) (by omega)) ?_
          refine V_istore (lv2 := [(6, .int (nI (H.2.2 i))), (5, .int (nI i)), (4, .int (nI (v_sz V c))), (0, .ref (b)), (1, .ref (q)), (2, .int (nI e)), (3, .int (nI c))]) dX6_isFit_52 (by decide) rfl ?_
          refine V_aload_n (i := 0) dX6_isFit_54 rfl 3 rfl ?_
          refine V_iload_n (i := 3) dX6_isFit_55 rfl 6 rfl ?_
          refine V_iload_n (i := 2) dX6_isFit_56 rfl 5 rfl ?_
          refine V_iload dX6_isFit_57 1 rfl ?_
          refine M_callSp (As := [.ref (b), .int (nI c), .int (nI e), .int (nI i)]) (st := []) dX6_isFit_59 ls_X6_50 ⟨by decide, by decide⟩ ⟨rfl, rfl⟩ rfl (Nat.le_of_ble_eq_true rfl) (t_noteByEar hb hV hc he (i := i) (by omega)) ?_
          refine V_istore (lv2 := [(7, .int (nI (noteBy V c e i))), (6, .int (nI (H.2.2 i))), (5, .int (nI i)), (4, .int (nI (v_sz V c))), (0, .ref (b)), (1, .ref (q)), (2, .int (nI e)), (3, .int (nI c))]) dX6_isFit_62 (by decide) rfl ?_
          refine V_iload dX6_isFit_64 1 rfl ?_
          refine V_iload dX6_isFit_66 0 rfl ?_
          refine V_icmp_eq (tgt := 87) dX6_isFit_68 rfl (fun h68 => ?_) (fun h68 => ?_)
          · have h68 : (H.2.2 i) = (noteBy V c e i) := (nI_eq (by omega) (by omega)).mp h68
            refine V_iinc (v := nI (i + 1)) (lv2 := [(5, .int (nI (i + 1))), (7, .int (nI (noteBy V c e i))), (6, .int (nI (H.2.2 i))), (4, .int (nI (v_sz V c))), (0, .ref (b)), (1, .ref (q)), (2, .int (nI e)), (3, .int (nI c))]) dX6_isFit_87 2 rfl (nI_inc _) (by decide) rfl ?_
            refine V_goto (tgt := 37) dX6_isFit_90 rfl ?_
            have hfi : fitN V H e c i = true := by unfold fitN; simp only [Bool.or_eq_true, decide_eq_true_eq]; omega
            refine V_sub [0, 3, 4, 5, 6, 7] rfl ?_
            exact M_at (ih37 (by omega) (by show (allTo _ _ && _) = true; rw [hall, hfi]; rfl)) (rfl) rfl (rfl) (rfl)
          · have h68 : ¬ (H.2.2 i) = (noteBy V c e i) := fun q => h68 ((nI_eq (by omega) (by omega)).mpr q)
            refine V_iload dX6_isFit_71 1 rfl ?_
            refine V_bipush (v := nI 9) dX6_isFit_73 rfl ?_
            refine V_icmp_eq (tgt := 87) dX6_isFit_75 rfl (fun h75 => ?_) (fun h75 => ?_)
            · have h75 : (H.2.2 i) = 9 := (nI_eq (by omega) (by omega)).mp h75
              refine V_iinc (v := nI (i + 1)) (lv2 := [(5, .int (nI (i + 1))), (7, .int (nI (noteBy V c e i))), (6, .int (nI (H.2.2 i))), (4, .int (nI (v_sz V c))), (0, .ref (b)), (1, .ref (q)), (2, .int (nI e)), (3, .int (nI c))]) dX6_isFit_87 2 rfl (nI_inc _) (by decide) rfl ?_
              refine V_goto (tgt := 37) dX6_isFit_90 rfl ?_
              have hfi : fitN V H e c i = true := by unfold fitN; simp only [Bool.or_eq_true, decide_eq_true_eq]; omega
              refine V_sub [0, 3, 4, 5, 6, 7] rfl ?_
              exact M_at (ih37 (by omega) (by show (allTo _ _ && _) = true; rw [hall, hfi]; rfl)) (rfl) rfl (rfl) (rfl)
            · have h75 : ¬ (H.2.2 i) = 9 := fun q => h75 ((nI_eq (by omega) (by omega)).mpr q)
              refine V_iload dX6_isFit_78 0 rfl ?_
              refine V_bipush (v := nI 9) dX6_isFit_80 rfl ?_
              refine V_icmp_eq (tgt := 87) dX6_isFit_82 rfl (fun h82 => ?_) (fun h82 => ?_)
              · have h82 : (noteBy V c e i) = 9 := (nI_eq (by omega) (by omega)).mp h82
                refine V_iinc (v := nI (i + 1)) (lv2 := [(5, .int (nI (i + 1))), (7, .int (nI (noteBy V c e i))), (6, .int (nI (H.2.2 i))), (4, .int (nI (v_sz V c))), (0, .ref (b)), (1, .ref (q)), (2, .int (nI e)), (3, .int (nI c))]) dX6_isFit_87 2 rfl (nI_inc _) (by decide) rfl ?_
                refine V_goto (tgt := 37) dX6_isFit_90 rfl ?_
                have hfi : fitN V H e c i = true := by unfold fitN; simp only [Bool.or_eq_true, decide_eq_true_eq]; omega
                refine V_sub [0, 3, 4, 5, 6, 7] rfl ?_
                exact M_at (ih37 (by omega) (by show (allTo _ _ && _) = true; rw [hall, hfi]; rfl)) (rfl) rfl (rfl) (rfl)
              · have h82 : ¬ (noteBy V c e i) = 9 := fun q => h82 ((nI_eq (by omega) (by omega)).mpr q)
                refine V_iconst (v := nI 0) dX6_isFit_85 rfl ?_
                refine V_zret dX6_isFit_86 ⟨rfl, rfl⟩ (by rfl) (Nat.zero_le _) (Nat.zero_le _) ?_
                subst hQ
                have hfi : fitN V H e c i = false := by unfold fitN; simp only [Bool.or_eq_false_iff, decide_eq_false_iff_not]; omega
                exact ⟨by rw [bI_f (by rw [hgo, allTo_bad (show i < H.1 by omega) hfi]; decide)], rfl⟩
      refine V_sub [0, 1, 2, 3, 4, 5] rfl ?_
      exact M_at (lp37 0 (Nat.zero_le _) rfl) (rfl) rfl (rfl) (rfl)
    · have h20 : H.2.1 = true := bI_ne.mp h20
      refine V_iload dX6_isFit_23 0 rfl ?_
      refine V_aload_n (i := 1) dX6_isFit_25 rfl 2 rfl ?_
      refine M_getI (x := nI H.1) dX6_isFit_26 lf_X6_40 rfl hq.1 (hH.2.1) ?_
      refine V_icmp_eq (tgt := 34) dX6_isFit_29 rfl (fun h29 => ?_) (fun h29 => ?_)
      · have h29 : (v_sz V c) = H.1 := (nI_eq (by omega) (by omega)).mp h29
        have hgo : fitB V H e c = allTo (fitN V H e c) H.1 := fit_go (by omega) (fun _ => by omega)
        refine V_iconst (v := nI 0) dX6_isFit_34 rfl ?_
        refine V_istore (lv2 := [(5, .int (nI 0)), (4, .int (nI (v_sz V c))), (0, .ref (b)), (1, .ref (q)), (2, .int (nI e)), (3, .int (nI c))]) dX6_isFit_35 (by decide) rfl ?_
        have lp37 : ∀ i, i ≤ (H.1) → allTo (fitN V H e c) i = true → VM g mX6_isFit 37 [(5, .int (nI i)), (4, .int (nI (v_sz V c))), (0, .ref (b)), (1, .ref (q)), (2, .int (nI e)), (3, .int (nI c))] [] S iv lw Q := by
          refine up_ind fun i hi ih37 => ?_
          intro hall
          refine V_iload dX6_isFit_37 0 rfl ?_
          refine V_aload_n (i := 1) dX6_isFit_39 rfl 3 rfl ?_
          refine M_getI (x := nI H.1) dX6_isFit_40 lf_X6_40 rfl hq.1 (hH.2.1) ?_
          refine V_icmp_ge (tgt := 93) dX6_isFit_43 rfl (fun h43 => ?_) (fun h43 => ?_)
          · have h43 : H.1 ≤ i := (nI_leI (by omega) (by omega)).mp h43
            refine V_iconst (v := nI 1) dX6_isFit_93 rfl ?_
            refine V_zret dX6_isFit_94 ⟨rfl, rfl⟩ (by rfl) (Nat.zero_le _) (Nat.zero_le _) ?_
            subst hQ
            obtain rfl : i = H.1 := by omega
            exact ⟨by rw [bI_t (hgo.trans hall)], rfl⟩
          · have h43 : ¬ H.1 ≤ i := fun q => h43 ((nI_leI (by omega) (by omega)).mpr q)
            have hn1 := noteBy_le (e := e) hV.ok hc (i := i) (by omega)
            have hn2 := hH.1.2 i (by omega)
            refine V_aload_n (i := 1) dX6_isFit_46 rfl 3 rfl ?_
            refine V_iload dX6_isFit_47 0 rfl ?_
            refine M_callVp (As := [.int (nI i)]) (st := []) dX6_isFit_49 lv_X6_48 ⟨by decide, by decide⟩ ⟨rfl, rfl⟩ rfl (ci := 2) hq.1 rfl rfl (Nat.le_of_ble_eq_true rfl) (t_X2_noteAt hq hH (i := i) (by omega)) ?_
            refine V_istore (lv2 := [(6, .int (nI (H.2.2 i))), (5, .int (nI i)), (4, .int (nI (v_sz V c))), (0, .ref (b)), (1, .ref (q)), (2, .int (nI e)), (3, .int (nI c))]) dX6_isFit_52 (by decide) rfl ?_
            refine V_aload_n (i := 0) dX6_isFit_54 rfl 3 rfl ?_
            refine V_iload_n (i := 3) dX6_isFit_55 rfl 6 rfl ?_
            refine V_iload_n (i := 2) dX6_isFit_56 rfl 5 rfl ?_
            refine V_iload dX6_isFit_57 1 rfl ?_
            refine M_callSp (As := [.ref (b), .int (nI c), .int (nI e), .int (nI i)]) (st := []) dX6_isFit_59 ls_X6_50 ⟨by decide, by decide⟩ ⟨rfl, rfl⟩ rfl (Nat.le_of_ble_eq_true rfl) (t_noteByEar hb hV hc he (i := i) (by omega)) ?_
            refine V_istore (lv2 := [(7, .int (nI (noteBy V c e i))), (6, .int (nI (H.2.2 i))), (5, .int (nI i)), (4, .int (nI (v_sz V c))), (0, .ref (b)), (1, .ref (q)), (2, .int (nI e)), (3, .int (nI c))]) dX6_isFit_62 (by decide) rfl ?_
            refine V_iload dX6_isFit_64 1 rfl ?_
            refine V_iload dX6_isFit_66 0 rfl ?_
            refine V_icmp_eq (tgt := 87) dX6_isFit_68 rfl (fun h68 => ?_) (fun h68 => ?_)
            · have h68 : (H.2.2 i) = (noteBy V c e i) := (nI_eq (by omega) (by omega)).mp h68
              refine V_iinc (v := nI (i + 1)) (lv2 := [(5, .int (nI (i + 1))), (7, .int (nI (noteBy V c e i))), (6, .int (nI (H.2.2 i))), (4, .int (nI (v_sz V c))), (0, .ref (b)), (1, .ref (q)), (2, .int (nI e)), (3, .int (nI c))]) dX6_isFit_87 2 rfl (nI_inc _) (by decide) rfl ?_
              refine V_goto (tgt := 37) dX6_isFit_90 rfl ?_
              have hfi : fitN V H e c i = true := by unfold fitN; simp only [Bool.or_eq_true, decide_eq_true_eq]; omega
              refine V_sub [0, 3, 4, 5, 6, 7] rfl ?_
              exact M_at (ih37 (by omega) (by show (allTo _ _ && _) = true; rw [hall, hfi]; rfl)) (rfl) rfl (rfl) (rfl)
            · have h68 : ¬ (H.2.2 i) = (noteBy V c e i) := fun q => h68 ((nI_eq (by omega) (by omega)).mpr q)
              refine V_iload dX6_isFit_71 1 rfl ?_
              refine V_bipush (v := nI 9) dX6_isFit_73 rfl ?_
              refine V_icmp_eq (tgt := 87) dX6_isFit_75 rfl (fun h75 => ?_) (fun h75 => ?_)
              · have h75 : (H.2.2 i) = 9 := (nI_eq (by omega) (by omega)).mp h75
                refine V_iinc (v := nI (i + 1)) (lv2 := [(5, .int (nI (i + 1))), (7, .int (nI (noteBy V c e i))), (6, .int (nI (H.2.2 i))), (4, .int (nI (v_sz V c))), (0, .ref (b)), (1, .ref (q)), (2, .int (nI e)), (3, .int (nI c))]) dX6_isFit_87 2 rfl (nI_inc _) (by decide) rfl ?_
                refine V_goto (tgt := 37) dX6_isFit_90 rfl ?_
                have hfi : fitN V H e c i = true := by unfold fitN; simp only [Bool.or_eq_true, decide_eq_true_eq]; omega
                refine V_sub [0, 3, 4, 5, 6, 7] rfl ?_
                exact M_at (ih37 (by omega) (by show (allTo _ _ && _) = true; rw [hall, hfi]; rfl)) (rfl) rfl (rfl) (rfl)
              · have h75 : ¬ (H.2.2 i) = 9 := fun q => h75 ((nI_eq (by omega) (by omega)).mpr q)
                refine V_iload dX6_isFit_78 0 rfl ?_
                refine V_bipush (v := nI 9) dX6_isFit_80 rfl ?_
                refine V_icmp_eq (tgt := 87) dX6_isFit_82 rfl (fun h82 => ?_) (fun h82 => ?_)
                · have h82 : (noteBy V c e i) = 9 := (nI_eq (by omega) (by omega)).mp h82
                  refine V_iinc (v := nI (i + 1)) (lv2 := [(5, .int (nI (i + 1))), (7, .int (nI (noteBy V c e i))), (6, .int (nI (H.2.2 i))), (4, .int (nI (v_sz V c))), (0, .ref (b)), (1, .ref (q)), (2, .int (nI e)), (3, .int (nI c))]) dX6_isFit_87 2 rfl (nI_inc _) (by decide) rfl ?_
                  refine V_goto (tgt := 37) dX6_isFit_90 rfl ?_
                  have hfi : fitN V H e c i = true := by unfold fitN; simp only [Bool.or_eq_true, decide_eq_true_eq]; omega
                  refine V_sub [0, 3, 4, 5, 6, 7] rfl ?_
                  exact M_at (ih37 (by omega) (by show (allTo _ _ && _) = true; rw [hall, hfi]; rfl)) (rfl) rfl (rfl) (rfl)
                · have h82 : ¬ (noteBy V c e i) = 9 := fun q => h82 ((nI_eq (by omega) (by omega)).mpr q)
                  refine V_iconst (v := nI 0) dX6_isFit_85 rfl ?_
                  refine V_zret dX6_isFit_86 ⟨rfl, rfl⟩ (by rfl) (Nat.zero_le _) (Nat.zero_le _) ?_
                  subst hQ
                  have hfi : fitN V H e c i = false := by unfold fitN; simp only [Bool.or_eq_false_iff, decide_eq_false_iff_not]; omega
                  exact ⟨by rw [bI_f (by rw [hgo, allTo_bad (show i < H.1 by omega) hfi]; decide)], rfl⟩
        refine V_sub [0, 1, 2, 3, 4, 5] rfl ?_
        exact M_at (lp37 0 (Nat.zero_le _) rfl) (rfl) rfl (rfl) (rfl)
      · have h29 : ¬ (v_sz V c) = H.1 := fun q => h29 ((nI_eq (by omega) (by omega)).mpr q)
        refine V_iconst (v := nI 0) dX6_isFit_32 rfl ?_
        refine V_zret dX6_isFit_33 ⟨rfl, rfl⟩ (by rfl) (Nat.zero_le _) (Nat.zero_le _) ?_
        subst hQ
        exact ⟨by rw [bI_f (fit_ne h20 h29)], rfl⟩
