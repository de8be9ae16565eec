/-! what is asked of the class, first part -/
def iN (k : Int32) : Nat := k.toInt.toNat
theorem iN_eq {k : Int32} (h : 0 ≤ k.toInt) : k = nI (iN k) := by
  apply Int32.toInt_inj.mp
  have h2 := Int32.toInt_lt k
  have h3 : ((iN k : Nat) : Int) = k.toInt := by unfold iN; omega
  rw [nI_toInt (by omega)]
  exact h3.symm
theorem iN_i {k : Int32} (h : 0 ≤ k.toInt) : ((iN k : Nat) : Int) = k.toInt := by unfold iN; omega
def o_ear (X : Xs) (k a : Int32) : Ans := if ¬ (0 ≤ k.toInt ∧ k.toInt ≤ 5 ∧ 0 ≤ a.toInt ∧ a.toInt ≤ 9) then rfA X 0 else if v_ne (x_A X) < 6 then (nI (v_ne (x_A X)), x_sA X (v_addE (x_A X) (iN k) (iN a))) else rfA X 4
def o_man (X : Xs) (e l : Int32) : Ans := if ¬ (inR e (v_ne (x_A X)) ∧ (l.toInt = 0 ∨ l.toInt = 1)) then rfA X 0 else if v_nm (x_A X) < 8 then (nI (v_nm (x_A X)), x_sA X (v_addM (x_A X) (iN e) (iN l))) else rfA X 4
def o_tell (X : Xs) (c what v : Int32) : Ans := if ¬ inR c (v_nc (x_A X)) then rfA X 0 else if what.toInt = 0 ∧ 1 ≤ v.toInt ∧ v.toInt ≤ 99 then (nI (v_us (x_A X) (iN c)), x_sA X (v_setU (x_A X) (iN c) (iN v))) else if what.toInt = 1 ∧ 0 ≤ v.toInt ∧ v.toInt ≤ 99 then (nI (v_co (x_A X) (iN c)), x_sA X (v_setK (x_A X) (iN c) (iN v))) else rfA X 0
def o_ask (X : Xs) (what v : Int32) : Ans := if what.toInt = 0 ∧ 0 ≤ v.toInt ∧ v.toInt ≤ 1000 then (nI (v_su (x_A X)), x_sA X (v_setS (x_A X) (iN v))) else if what.toInt = 1 ∧ 0 ≤ v.toInt ∧ v.toInt ≤ 100 then (nI (v_lo (x_A X)), x_sA X (v_setL (x_A X) (iN v))) else rfA X 0
def o_feed (X : Xs) (l : Int32) : Ans := if ¬ (0 ≤ l.toInt ∧ l.toInt ≤ 255) then rfA X 0 else if x_n X < 250 then (nI (x_n X + 1), x_sP X (x_n X + 1) (fun i => if i = x_n X then iN l else x_f X i)) else rfA X 4
def o_wipe (X : Xs) : Ans := (nI (x_n X), x_sP X 0 (x_f X))
def o_drop (X : Xs) : Ans := if 0 < v_nc (x_A X) then (nI (v_nc (x_A X) - 1), x_sA X (v_drop (x_A X))) else rfA X 3
def o_seed (X : Xs) (v : Int32) : Ans := (v_se (x_A X), x_sA X (v_setD (x_A X) v))
def o_earOf (X : Xs) (e what : Int32) : Ans := if ¬ (inR e (v_ne (x_A X)) ∧ 0 ≤ what.toInt ∧ what.toInt ≤ 1) then rfA X 0 else (if what.toInt = 0 then nI (v_kd (x_A X) (iN e)) else nI (v_by (x_A X) (iN e)), X)
def o_manOf (X : Xs) (e what : Int32) : Ans := if ¬ (inR e (v_nm (x_A X)) ∧ 0 ≤ what.toInt ∧ what.toInt ≤ 1) then rfA X 0 else (if what.toInt = 0 then nI (v_eo (x_A X) (iN e)) else nI (v_lk (x_A X) (iN e)), X)
def o_twins (X : Xs) : Ans := (nI (cntTo (fun c => !clearB (x_A X) (v_pk (x_A X) c) 1 (some c)) (v_nc (x_A X))), X)
def o_learn (X : Xs) (i : Int32) : Ans := if inR i (v_nc (x_A X)) then (oI (ffO (fun c => decide (aheadN (x_A X) c = iN i)) (v_nc (x_A X))), X) else rfA X 0
def o_fresh (X : Xs) (m d : Int32) : Ans := if ¬ (1 ≤ m.toInt ∧ m.toInt ≤ 5 ∧ 0 ≤ d.toInt ∧ d.toInt ≤ 8) then rfA X 0 else (oI (ffO (fun x => clearB (x_A X) (rowP (iN m) x) (iN d) none) (5 ^ iN m)), X)
def o_keep (X : Xs) (d : Int32) : Ans := if 0 ≤ d.toInt ∧ d.toInt ≤ 8 then (nI (ksTo (kV (x_A X) (iN d)) (2 ^ v_nc (x_A X))).1, X) else rfA X 0
set_option maxRecDepth 20000 in
theorem k_ear {g : Ev} {S : St} {iv : IV} {lw : LW} (hx : IsX S) {X : Xs} (hX : CX iv lw X) {k a : Int32} : CQ g mX9_ear [.ref (0), .int (k), .int (a)] S iv lw (fun w iv2 lw2 => OP iv lw (o_ear X k a) w iv2 lw2) := by
  refine CT_ofQ rfl (by decide) (Nat.le_of_ble_eq_true rfl) (lv := [(0, .ref (0)), (1, .int (k)), (2, .int (a))]) rfl (fun Q hQ => ?_)
  have hA := hX.1
  have hnc := hA.ok.nc
  have hne := hA.ok.ne
  have hnm := hA.ok.nm
  refine V_iload_n (i := 1) dX9_ear_0 rfl 1 rfl ?_
  refine M_callSp (As := [.int (k)]) (st := []) dX9_ear_1 ls_X9_119 ⟨by decide, by decide⟩ ⟨rfl, rfl⟩ rfl (Nat.le_of_ble_eq_true rfl) (t_X3_isKind) ?_
  refine V_if_eq (tgt := 14) dX9_ear_4 rfl (fun h4 => ?_) (fun h4 => ?_)
  · have h4 : ¬ ((0 : Int) ≤ k.toInt ∧ k.toInt ≤ 5) := bI_eq0.mp h4
    refine V_aload_n (i := 0) dX9_ear_14 rfl 0 rfl ?_
    refine V_bipush (v := (-2)) dX9_ear_15 rfl ?_
    refine M_callVq (As := [.int ((-2))]) (st := []) dX9_ear_17 lv_X9_69 ⟨by decide, by decide⟩ ⟨rfl, rfl⟩ rfl (ci := 6) hx.1 rfl rfl (Nat.le_of_ble_eq_true rfl) (t_refuse hx hX (j := 0) (by decide)) (fun w17 iv17 lw17 q17 => ?_)
    obtain ⟨rfl, e1, hXr, hOr⟩ := q17
    subst e1
    refine V_iret dX9_ear_20 ⟨rfl, rfl⟩ (Nat.zero_le _) (Nat.zero_le _) ?_
    subst hQ
    exact ⟨_, _, _, rfl, rfl, by unfold o_ear; rw [if_pos (by omega)]; exact ⟨rfl, hXr, hOr, Off.rf⟩⟩
  · have h4 : (0 : Int) ≤ k.toInt ∧ k.toInt ≤ 5 := bI_ne.mp h4
    refine V_iload_n (i := 2) dX9_ear_7 rfl 2 rfl ?_
    refine M_callSp (As := [.int (a)]) (st := []) dX9_ear_8 ls_X9_162 ⟨by decide, by decide⟩ ⟨rfl, rfl⟩ rfl (Nat.le_of_ble_eq_true rfl) (t_X3_isStrength) ?_
    refine V_if_ne (tgt := 21) dX9_ear_11 rfl (fun h11 => ?_) (fun h11 => ?_)
    · have h11 : (0 : Int) ≤ a.toInt ∧ a.toInt ≤ 9 := bI_ne.mp h11
      have ck := iN_eq (k := k) (by omega)
      have ca := iN_eq (k := a) (by omega)
      have dk := iN_i (k := k) (by omega)
      have da := iN_i (k := a) (by omega)
      refine M_at (lv2 := [(0, .ref (0)), (1, .int (nI (iN k))), (2, .int (nI (iN a)))]) (st2 := []) ?_ (by rw [← ck, ← ca]) rfl rfl rfl
      refine V_aload_n (i := 0) dX9_ear_21 rfl 0 rfl ?_
      refine M_getR dX9_ear_22 lf_X9_10 rfl hx.1 hx.2.1.1 ?_
      refine M_callVp (As := []) (st := []) dX9_ear_25 lv_X9_165 ⟨by decide, by decide⟩ ⟨rfl, rfl⟩ rfl (ci := 0) hx.2.1.2.1 rfl rfl (Nat.le_of_ble_eq_true rfl) (t_X0_hasRoomForEar hx.2.1.2 hA) ?_
      refine V_if_eq (tgt := 43) dX9_ear_28 rfl (fun h28 => ?_) (fun h28 => ?_)
      · have h28 : ¬ (v_ne (x_A X) < 6) := bI_eq0.mp h28
        refine V_aload_n (i := 0) dX9_ear_43 rfl 0 rfl ?_
        refine V_bipush (v := (-6)) dX9_ear_44 rfl ?_
        refine M_callVq (As := [.int ((-6))]) (st := []) dX9_ear_46 lv_X9_69 ⟨by decide, by decide⟩ ⟨rfl, rfl⟩ rfl (ci := 6) hx.1 rfl rfl (Nat.le_of_ble_eq_true rfl) (t_refuse hx hX (j := 4) (by decide)) (fun w46 iv46 lw46 q46 => ?_)
        obtain ⟨rfl, e1, hXr, hOr⟩ := q46
        subst e1
        refine V_iret dX9_ear_49 ⟨rfl, rfl⟩ (Nat.zero_le _) (Nat.zero_le _) ?_
        subst hQ
        exact ⟨_, _, _, rfl, rfl, by unfold o_ear; rw [if_neg (by omega), if_neg h28]; exact ⟨rfl, hXr, hOr, Off.rf⟩⟩
      · have h28 : v_ne (x_A X) < 6 := bI_ne.mp h28
        refine V_aload_n (i := 0) dX9_ear_31 rfl 0 rfl ?_
        refine M_getR dX9_ear_32 lf_X9_10 rfl hx.1 hx.2.1.1 ?_
        refine V_iload_n (i := 1) dX9_ear_35 rfl 1 rfl ?_
        refine V_iload_n (i := 2) dX9_ear_36 rfl 2 rfl ?_
        refine M_callVq (As := [.int (nI (iN k)), .int (nI (iN a))]) (st := []) dX9_ear_37 lv_X9_168 ⟨by decide, by decide⟩ ⟨rfl, rfl⟩ rfl (ci := 0) hx.2.1.2.1 rfl rfl (Nat.le_of_ble_eq_true rfl) (t_addEar hx.2.1.2 hA h28 (k := iN k) (a := iN a) (by omega) (by omega)) (fun w37 iv37 lw37 q37 => ?_)
        obtain ⟨rfl, e1, hAn, hOn⟩ := q37
        subst e1
        have hXn := hX.now hAn hOn (Nat.le_succ _)
        refine V_goto (tgt := 49) dX9_ear_40 rfl ?_
        refine V_iret dX9_ear_49 ⟨rfl, rfl⟩ (Nat.zero_le _) (Nat.zero_le _) ?_
        subst hQ
        exact ⟨_, _, _, rfl, rfl, by unfold o_ear; rw [if_neg (by omega), if_pos h28]; exact ⟨rfl, hXn, hOn.wide (by omega) (by omega), Off.rf⟩⟩
    · have h11 : ¬ ((0 : Int) ≤ a.toInt ∧ a.toInt ≤ 9) := bI_eq0.mp h11
      refine V_aload_n (i := 0) dX9_ear_14 rfl 0 rfl ?_
      refine V_bipush (v := (-2)) dX9_ear_15 rfl ?_
      refine M_callVq (As := [.int ((-2))]) (st := []) dX9_ear_17 lv_X9_69 ⟨by decide, by decide⟩ ⟨rfl, rfl⟩ rfl (ci := 6) hx.1 rfl rfl (Nat.le_of_ble_eq_true rfl) (t_refuse hx hX (j := 0) (by decide)) (fun w17 iv17 lw17 q17 => ?_)
      obtain ⟨rfl, e1, hXr, hOr⟩ := q17
      subst e1
      refine V_iret dX9_ear_20 ⟨rfl, rfl⟩ (Nat.zero_le _) (Nat.zero_le _) ?_
      subst hQ
      exact ⟨_, _, _, rfl, rfl, by unfold o_ear; rw [if_pos (by omega)]; exact ⟨rfl, hXr, hOr, Off.rf⟩⟩
set_option maxRecDepth 20000 in
theorem k_man {g : Ev} {S : St} {iv : IV} {lw : LW} (hx : IsX S) {X : Xs} (hX : CX iv lw X) {e l : Int32} : CQ g mX9_man [.ref (0), .int (e), .int (l)] S iv lw (fun w iv2 lw2 => OP iv lw (o_man X e l) w iv2 lw2) := by
  refine CT_ofQ rfl (by decide) (Nat.le_of_ble_eq_true rfl) (lv := [(0, .ref (0)), (1, .int (e)), (2, .int (l))]) rfl (fun Q hQ => ?_)
  have hA := hX.1
  have hnc := hA.ok.nc
  have hne := hA.ok.ne
  have hnm := hA.ok.nm
  refine V_aload_n (i := 0) dX9_man_0 rfl 0 rfl ?_
  refine M_getR dX9_man_1 lf_X9_10 rfl hx.1 hx.2.1.1 ?_
  refine V_iload_n (i := 1) dX9_man_4 rfl 1 rfl ?_
  refine M_callVp (As := [.int (e)]) (st := []) dX9_man_5 lv_X9_108 ⟨by decide, by decide⟩ ⟨rfl, rfl⟩ rfl (ci := 0) hx.2.1.2.1 rfl rfl (Nat.le_of_ble_eq_true rfl) (t_X0_isEar hx.2.1.2 hA) ?_
  refine V_if_eq (tgt := 18) dX9_man_8 rfl (fun h8 => ?_) (fun h8 => ?_)
  · have h8 : ¬ (inR e (v_ne (x_A X))) := bI_eq0.mp h8
    refine V_aload_n (i := 0) dX9_man_18 rfl 0 rfl ?_
    refine V_bipush (v := (-2)) dX9_man_19 rfl ?_
    refine M_callVq (As := [.int ((-2))]) (st := []) dX9_man_21 lv_X9_69 ⟨by decide, by decide⟩ ⟨rfl, rfl⟩ rfl (ci := 6) hx.1 rfl rfl (Nat.le_of_ble_eq_true rfl) (t_refuse hx hX (j := 0) (by decide)) (fun w21 iv21 lw21 q21 => ?_)
    obtain ⟨rfl, e1, hXr, hOr⟩ := q21
    subst e1
    refine V_iret dX9_man_24 ⟨rfl, rfl⟩ (Nat.zero_le _) (Nat.zero_le _) ?_
    subst hQ
    exact ⟨_, _, _, rfl, rfl, by unfold o_man; rw [if_pos (fun z => h8 z.1)]; exact ⟨rfl, hXr, hOr, Off.rf⟩⟩
  · have h8 : inR e (v_ne (x_A X)) := bI_ne.mp h8
    refine V_iload_n (i := 2) dX9_man_11 rfl 2 rfl ?_
    refine M_callSp (As := [.int (l)]) (st := []) dX9_man_12 ls_X9_171 ⟨by decide, by decide⟩ ⟨rfl, rfl⟩ rfl (Nat.le_of_ble_eq_true rfl) (t_X0_isLook) ?_
    refine V_if_ne (tgt := 25) dX9_man_15 rfl (fun h15 => ?_) (fun h15 => ?_)
    · have h15 : l.toInt = 0 ∨ l.toInt = 1 := bI_ne.mp h15
      have ce := iN_eq (k := e) (by omega)
      have cl := iN_eq (k := l) (by omega)
      have de := iN_i (k := e) (by omega)
      have dl := iN_i (k := l) (by omega)
      refine M_at (lv2 := [(0, .ref (0)), (1, .int (nI (iN e))), (2, .int (nI (iN l)))]) (st2 := []) ?_ (by rw [← ce, ← cl]) rfl rfl rfl
      refine V_aload_n (i := 0) dX9_man_25 rfl 0 rfl ?_
      refine M_getR dX9_man_26 lf_X9_10 rfl hx.1 hx.2.1.1 ?_
      refine M_callVp (As := []) (st := []) dX9_man_29 lv_X9_174 ⟨by decide, by decide⟩ ⟨rfl, rfl⟩ rfl (ci := 0) hx.2.1.2.1 rfl rfl (Nat.le_of_ble_eq_true rfl) (t_X0_hasRoomForMan hx.2.1.2 hA) ?_
      refine V_if_eq (tgt := 47) dX9_man_32 rfl (fun h32 => ?_) (fun h32 => ?_)
      · have h32 : ¬ (v_nm (x_A X) < 8) := bI_eq0.mp h32
        refine V_aload_n (i := 0) dX9_man_47 rfl 0 rfl ?_
        refine V_bipush (v := (-6)) dX9_man_48 rfl ?_
        refine M_callVq (As := [.int ((-6))]) (st := []) dX9_man_50 lv_X9_69 ⟨by decide, by decide⟩ ⟨rfl, rfl⟩ rfl (ci := 6) hx.1 rfl rfl (Nat.le_of_ble_eq_true rfl) (t_refuse hx hX (j := 4) (by decide)) (fun w50 iv50 lw50 q50 => ?_)
        obtain ⟨rfl, e1, hXr, hOr⟩ := q50
        subst e1
        refine V_iret dX9_man_53 ⟨rfl, rfl⟩ (Nat.zero_le _) (Nat.zero_le _) ?_
        subst hQ
        exact ⟨_, _, _, rfl, rfl, by unfold o_man; rw [if_neg (fun z => z ⟨h8, h15⟩), if_neg h32]; exact ⟨rfl, hXr, hOr, Off.rf⟩⟩
      · have h32 : v_nm (x_A X) < 8 := bI_ne.mp h32
        refine V_aload_n (i := 0) dX9_man_35 rfl 0 rfl ?_
        refine M_getR dX9_man_36 lf_X9_10 rfl hx.1 hx.2.1.1 ?_
        refine V_iload_n (i := 1) dX9_man_39 rfl 1 rfl ?_
        refine V_iload_n (i := 2) dX9_man_40 rfl 2 rfl ?_
        refine M_callVq (As := [.int (nI (iN e)), .int (nI (iN l))]) (st := []) dX9_man_41 lv_X9_177 ⟨by decide, by decide⟩ ⟨rfl, rfl⟩ rfl (ci := 0) hx.2.1.2.1 rfl rfl (Nat.le_of_ble_eq_true rfl) (t_addMan hx.2.1.2 hA h32 (k := iN e) (a := iN l) (by omega) (by omega)) (fun w41 iv41 lw41 q41 => ?_)
        obtain ⟨rfl, e1, hAn, hOn⟩ := q41
        subst e1
        have hXn := hX.now hAn hOn (Nat.le_refl _)
        refine V_goto (tgt := 53) dX9_man_44 rfl ?_
        refine V_iret dX9_man_53 ⟨rfl, rfl⟩ (Nat.zero_le _) (Nat.zero_le _) ?_
        subst hQ
        exact ⟨_, _, _, rfl, rfl, by unfold o_man; rw [if_neg (fun z => z ⟨h8, h15⟩), if_pos h32]; exact ⟨rfl, hXn, hOn.wide (by omega) (by omega), Off.rf⟩⟩
    · have h15 : ¬ (l.toInt = 0 ∨ l.toInt = 1) := bI_eq0.mp h15
      refine V_aload_n (i := 0) dX9_man_18 rfl 0 rfl ?_
      refine V_bipush (v := (-2)) dX9_man_19 rfl ?_
      refine M_callVq (As := [.int ((-2))]) (st := []) dX9_man_21 lv_X9_69 ⟨by decide, by decide⟩ ⟨rfl, rfl⟩ rfl (ci := 6) hx.1 rfl rfl (Nat.le_of_ble_eq_true rfl) (t_refuse hx hX (j := 0) (by decide)) (fun w21 iv21 lw21 q21 => ?_)
      obtain ⟨rfl, e1, hXr, hOr⟩ := q21
      subst e1
      refine V_iret dX9_man_24 ⟨rfl, rfl⟩ (Nat.zero_le _) (Nat.zero_le _) ?_
      subst hQ
      exact ⟨_, _, _, rfl, rfl, by unfold o_man; rw [if_pos (fun z => h15 z.2)]; exact ⟨rfl, hXr, hOr, Off.rf⟩⟩
set_option maxRecDepth 20000 in
theorem k_tell {g : Ev} {S : St} {iv : IV} {lw : LW} (hx : IsX S) {X : Xs} (hX : CX iv lw X) {c what v : Int32} : CQ g mX9_tell [.ref (0), .int (c), .int (what), .int (v)] S iv lw (fun w iv2 lw2 => OP iv lw (o_tell X c what v) w iv2 lw2) := by
  refine CT_ofQ rfl (by decide) (Nat.le_of_ble_eq_true rfl) (lv := [(0, .ref (0)), (1, .int (c)), (2, .int (what)), (3, .int (v))]) rfl (fun Q hQ => ?_)
  have hA := hX.1
  have hnc := hA.ok.nc
  have hne := hA.ok.ne
  have hnm := hA.ok.nm
  refine V_aload_n (i := 0) dX9_tell_0 rfl 0 rfl ?_
  refine M_getR dX9_tell_1 lf_X9_10 rfl hx.1 hx.2.1.1 ?_
  refine V_iload_n (i := 1) dX9_tell_4 rfl 1 rfl ?_
  refine M_callVp (As := [.int (c)]) (st := []) dX9_tell_5 lv_X9_180 ⟨by decide, by decide⟩ ⟨rfl, rfl⟩ rfl (ci := 0) hx.2.1.2.1 rfl rfl (Nat.le_of_ble_eq_true rfl) (t_X0_isCall hx.2.1.2 hA) ?_
  refine V_if_ne (tgt := 18) dX9_tell_8 rfl (fun h8 => ?_) (fun h8 => ?_)
  · have h8 : inR c (v_nc (x_A X)) := bI_ne.mp h8
    refine V_iload_n (i := 2) dX9_tell_18 rfl 2 rfl ?_
    refine V_if_ne (tgt := 39) dX9_tell_19 rfl (fun h19 => ?_) (fun h19 => ?_)
    · have h19 : ¬ what.toInt = 0 := fun r => h19 (i_eq0.mpr (by exact r))
      refine V_iload_n (i := 2) dX9_tell_39 rfl 2 rfl ?_
      refine V_iconst (v := nI 1) dX9_tell_40 rfl ?_
      refine V_icmp_ne (tgt := 61) dX9_tell_41 rfl (fun h41 => ?_) (fun h41 => ?_)
      · have h41 : ¬ what.toInt = (1 : Int) := fun r => h41 (i_eqq.mpr (by rw [nI_toInt (n := 1) (by omega)]; exact r))
        refine V_aload_n (i := 0) dX9_tell_61 rfl 0 rfl ?_
        refine V_bipush (v := (-2)) dX9_tell_62 rfl ?_
        refine M_callVq (As := [.int ((-2))]) (st := []) dX9_tell_64 lv_X9_69 ⟨by decide, by decide⟩ ⟨rfl, rfl⟩ rfl (ci := 6) hx.1 rfl rfl (Nat.le_of_ble_eq_true rfl) (t_refuse hx hX (j := 0) (by decide)) (fun w64 iv64 lw64 q64 => ?_)
        obtain ⟨rfl, e1, hXr, hOr⟩ := q64
        subst e1
        refine V_iret dX9_tell_67 ⟨rfl, rfl⟩ (Nat.zero_le _) (Nat.zero_le _) ?_
        subst hQ
        exact ⟨_, _, _, rfl, rfl, by unfold o_tell; rw [if_neg (fun z => z h8), if_neg (by omega), if_neg (by omega)]; exact ⟨rfl, hXr, hOr, Off.rf⟩⟩
      · have h41 : what.toInt = (1 : Int) := by have q := i_eqq.mp h41; rw [nI_toInt (n := 1) (by omega)] at q; exact q
        refine V_iload_n (i := 3) dX9_tell_44 rfl 3 rfl ?_
        refine M_callSp (As := [.int (v)]) (st := []) dX9_tell_45 ls_X9_143 ⟨by decide, by decide⟩ ⟨rfl, rfl⟩ rfl (Nat.le_of_ble_eq_true rfl) (t_X0_isCost) ?_
        refine V_if_eq (tgt := 61) dX9_tell_48 rfl (fun h48 => ?_) (fun h48 => ?_)
        · have h48 : ¬ ((0 : Int) ≤ v.toInt ∧ v.toInt ≤ 99) := bI_eq0.mp h48
          refine V_aload_n (i := 0) dX9_tell_61 rfl 0 rfl ?_
          refine V_bipush (v := (-2)) dX9_tell_62 rfl ?_
          refine M_callVq (As := [.int ((-2))]) (st := []) dX9_tell_64 lv_X9_69 ⟨by decide, by decide⟩ ⟨rfl, rfl⟩ rfl (ci := 6) hx.1 rfl rfl (Nat.le_of_ble_eq_true rfl) (t_refuse hx hX (j := 0) (by decide)) (fun w64 iv64 lw64 q64 => ?_)
          obtain ⟨rfl, e1, hXr, hOr⟩ := q64
          subst e1
          refine V_iret dX9_tell_67 ⟨rfl, rfl⟩ (Nat.zero_le _) (Nat.zero_le _) ?_
          subst hQ
          exact ⟨_, _, _, rfl, rfl, by unfold o_tell; rw [if_neg (fun z => z h8), if_neg (by omega), if_neg (by omega)]; exact ⟨rfl, hXr, hOr, Off.rf⟩⟩
        · have h48 : (0 : Int) ≤ v.toInt ∧ v.toInt ≤ 99 := bI_ne.mp h48
          have cc := iN_eq (k := c) (by omega)
          have cv := iN_eq (k := v) (by omega)
          have dc := iN_i (k := c) (by omega)
          have dv := iN_i (k := v) (by omega)
          refine M_at (lv2 := [(0, .ref (0)), (1, .int (nI (iN c))), (2, .int (what)), (3, .int (nI (iN v)))]) (st2 := []) ?_ (by rw [← cc, ← cv]) rfl rfl rfl
          refine V_aload_n (i := 0) dX9_tell_51 rfl 0 rfl ?_
          refine M_getR dX9_tell_52 lf_X9_10 rfl hx.1 hx.2.1.1 ?_
          refine V_iload_n (i := 1) dX9_tell_55 rfl 1 rfl ?_
          refine V_iload_n (i := 3) dX9_tell_56 rfl 3 rfl ?_
          refine M_callVq (As := [.int (nI (iN c)), .int (nI (iN v))]) (st := []) dX9_tell_57 lv_X9_186 ⟨by decide, by decide⟩ ⟨rfl, rfl⟩ rfl (ci := 0) hx.2.1.2.1 rfl rfl (Nat.le_of_ble_eq_true rfl) (t_changeCost hx.2.1.2 hA (c := iN c) (u := iN v) (by omega) (by omega)) (fun w57 iv57 lw57 q57 => ?_)
          obtain ⟨rfl, e1, hAn, hOn⟩ := q57
          subst e1
          have hXn := hX.now hAn hOn (Nat.le_refl _)
          refine V_iret dX9_tell_60 ⟨rfl, rfl⟩ (Nat.zero_le _) (Nat.zero_le _) ?_
          subst hQ
          exact ⟨_, _, _, rfl, rfl, by unfold o_tell; rw [if_neg (fun z => z h8), if_neg (by omega), if_pos (by omega)]; exact ⟨rfl, hXn, hOn.wide (by omega) (by omega), Off.rf⟩⟩
    · have h19 : what.toInt = 0 := by have q := i_eq0.mp h19; exact q
      refine V_iload_n (i := 3) dX9_tell_22 rfl 3 rfl ?_
      refine M_callSp (As := [.int (v)]) (st := []) dX9_tell_23 ls_X9_140 ⟨by decide, by decide⟩ ⟨rfl, rfl⟩ rfl (Nat.le_of_ble_eq_true rfl) (t_X0_isUse) ?_
      refine V_if_eq (tgt := 39) dX9_tell_26 rfl (fun h26 => ?_) (fun h26 => ?_)
      · have h26 : ¬ ((1 : Int) ≤ v.toInt ∧ v.toInt ≤ 99) := bI_eq0.mp h26
        refine V_iload_n (i := 2) dX9_tell_39 rfl 2 rfl ?_
        refine V_iconst (v := nI 1) dX9_tell_40 rfl ?_
        refine V_icmp_ne (tgt := 61) dX9_tell_41 rfl (fun h41 => ?_) (fun h41 => ?_)
        · have h41 : ¬ what.toInt = (1 : Int) := fun r => h41 (i_eqq.mpr (by rw [nI_toInt (n := 1) (by omega)]; exact r))
          refine V_aload_n (i := 0) dX9_tell_61 rfl 0 rfl ?_
          refine V_bipush (v := (-2)) dX9_tell_62 rfl ?_
          refine M_callVq (As := [.int ((-2))]) (st := []) dX9_tell_64 lv_X9_69 ⟨by decide, by decide⟩ ⟨rfl, rfl⟩ rfl (ci := 6) hx.1 rfl rfl (Nat.le_of_ble_eq_true rfl) (t_refuse hx hX (j := 0) (by decide)) (fun w64 iv64 lw64 q64 => ?_)
          obtain ⟨rfl, e1, hXr, hOr⟩ := q64
          subst e1
          refine V_iret dX9_tell_67 ⟨rfl, rfl⟩ (Nat.zero_le _) (Nat.zero_le _) ?_
          subst hQ
          exact ⟨_, _, _, rfl, rfl, by unfold o_tell; rw [if_neg (fun z => z h8), if_neg (by omega), if_neg (by omega)]; exact ⟨rfl, hXr, hOr, Off.rf⟩⟩
        · have h41 : what.toInt = (1 : Int) := by have q := i_eqq.mp h41; rw [nI_toInt (n := 1) (by omega)] at q; exact q
          refine V_iload_n (i := 3) dX9_tell_44 rfl 3 rfl ?_
          refine M_callSp (As := [.int (v)]) (st := []) dX9_tell_45 ls_X9_143 ⟨by decide, by decide⟩ ⟨rfl, rfl⟩ rfl (Nat.le_of_ble_eq_true rfl) (t_X0_isCost) ?_
          refine V_if_eq (tgt := 61) dX9_tell_48 rfl (fun h48 => ?_) (fun h48 => ?_)
          · have h48 : ¬ ((0 : Int) ≤ v.toInt ∧ v.toInt ≤ 99) := bI_eq0.mp h48
            refine V_aload_n (i := 0) dX9_tell_61 rfl 0 rfl ?_
            refine V_bipush (v := (-2)) dX9_tell_62 rfl ?_
            refine M_callVq (As := [.int ((-2))]) (st := []) dX9_tell_64 lv_X9_69 ⟨by decide, by decide⟩ ⟨rfl, rfl⟩ rfl (ci := 6) hx.1 rfl rfl (Nat.le_of_ble_eq_true rfl) (t_refuse hx hX (j := 0) (by decide)) (fun w64 iv64 lw64 q64 => ?_)
            obtain ⟨rfl, e1, hXr, hOr⟩ := q64
            subst e1
            refine V_iret dX9_tell_67 ⟨rfl, rfl⟩ (Nat.zero_le _) (Nat.zero_le _) ?_
            subst hQ
            exact ⟨_, _, _, rfl, rfl, by unfold o_tell; rw [if_neg (fun z => z h8), if_neg (by omega), if_neg (by omega)]; exact ⟨rfl, hXr, hOr, Off.rf⟩⟩
          · have h48 : (0 : Int) ≤ v.toInt ∧ v.toInt ≤ 99 := bI_ne.mp h48
            have cc := iN_eq (k := c) (by omega)
            have cv := iN_eq (k := v) (by omega)
            have dc := iN_i (k := c) (by omega)
            have dv := iN_i (k := v) (by omega)
            refine M_at (lv2 := [(0, .ref (0)), (1, .int (nI (iN c))), (2, .int (what)), (3, .int (nI (iN v)))]) (st2 := []) ?_ (by rw [← cc, ← cv]) rfl rfl rfl
            refine V_aload_n (i := 0) dX9_tell_51 rfl 0 rfl ?_
            refine M_getR dX9_tell_52 lf_X9_10 rfl hx.1 hx.2.1.1 ?_
            refine V_iload_n (i := 1) dX9_tell_55 rfl 1 rfl ?_
            refine V_iload_n (i := 3) dX9_tell_56 rfl 3 rfl ?_
            refine M_callVq (As := [.int (nI (iN c)), .int (nI (iN v))]) (st := []) dX9_tell_57 lv_X9_186 ⟨by decide, by decide⟩ ⟨rfl, rfl⟩ rfl (ci := 0) hx.2.1.2.1 rfl rfl (Nat.le_of_ble_eq_true rfl) (t_changeCost hx.2.1.2 hA (c := iN c) (u := iN v) (by omega) (by omega)) (fun w57 iv57 lw57 q57 => ?_)
            obtain ⟨rfl, e1, hAn, hOn⟩ := q57
            subst e1
            have hXn := hX.now hAn hOn (Nat.le_refl _)
            refine V_iret dX9_tell_60 ⟨rfl, rfl⟩ (Nat.zero_le _) (Nat.zero_le _) ?_
            subst hQ
            exact ⟨_, _, _, rfl, rfl, by unfold o_tell; rw [if_neg (fun z => z h8), if_neg (by omega), if_pos (by omega)]; exact ⟨rfl, hXn, hOn.wide (by omega) (by omega), Off.rf⟩⟩
      · have h26 : (1 : Int) ≤ v.toInt ∧ v.toInt ≤ 99 := bI_ne.mp h26
        have cc := iN_eq (k := c) (by omega)
        have cv := iN_eq (k := v) (by omega)
        have dc := iN_i (k := c) (by omega)
        have dv := iN_i (k := v) (by omega)
        refine M_at (lv2 := [(0, .ref (0)), (1, .int (nI (iN c))), (2, .int (what)), (3, .int (nI (iN v)))]) (st2 := []) ?_ (by rw [← cc, ← cv]) rfl rfl rfl
        refine V_aload_n (i := 0) dX9_tell_29 rfl 0 rfl ?_
        refine M_getR dX9_tell_30 lf_X9_10 rfl hx.1 hx.2.1.1 ?_
        refine V_iload_n (i := 1) dX9_tell_33 rfl 1 rfl ?_
        refine V_iload_n (i := 3) dX9_tell_34 rfl 3 rfl ?_
        refine M_callVq (As := [.int (nI (iN c)), .int (nI (iN v))]) (st := []) dX9_tell_35 lv_X9_183 ⟨by decide, by decide⟩ ⟨rfl, rfl⟩ rfl (ci := 0) hx.2.1.2.1 rfl rfl (Nat.le_of_ble_eq_true rfl) (t_changeUse hx.2.1.2 hA (c := iN c) (u := iN v) (by omega) (by omega)) (fun w35 iv35 lw35 q35 => ?_)
        obtain ⟨rfl, e1, hAn, hOn⟩ := q35
        subst e1
        have hXn := hX.now hAn hOn (Nat.le_refl _)
        refine V_iret dX9_tell_38 ⟨rfl, rfl⟩ (Nat.zero_le _) (Nat.zero_le _) ?_
        subst hQ
        exact ⟨_, _, _, rfl, rfl, by unfold o_tell; rw [if_neg (fun z => z h8), if_pos (by omega)]; exact ⟨rfl, hXn, hOn.wide (by omega) (by omega), Off.rf⟩⟩
  · have h8 : ¬ (inR c (v_nc (x_A X))) := bI_eq0.mp h8
    refine V_aload_n (i := 0) dX9_tell_11 rfl 0 rfl ?_
    refine V_bipush (v := (-2)) dX9_tell_12 rfl ?_
    refine M_callVq (As := [.int ((-2))]) (st := []) dX9_tell_14 lv_X9_69 ⟨by decide, by decide⟩ ⟨rfl, rfl⟩ rfl (ci := 6) hx.1 rfl rfl (Nat.le_of_ble_eq_true rfl) (t_refuse hx hX (j := 0) (by decide)) (fun w14 iv14 lw14 q14 => ?_)
    obtain ⟨rfl, e1, hXr, hOr⟩ := q14
    subst e1
    refine V_iret dX9_tell_17 ⟨rfl, rfl⟩ (Nat.zero_le _) (Nat.zero_le _) ?_
    subst hQ
    exact ⟨_, _, _, rfl, rfl, by unfold o_tell; rw [if_pos h8]; exact ⟨rfl, hXr, hOr, Off.rf⟩⟩
set_option maxRecDepth 20000 in
theorem k_ask {g : Ev} {S : St} {iv : IV} {lw : LW} (hx : IsX S) {X : Xs} (hX : CX iv lw X) {what v : Int32} : CQ g mX9_ask [.ref (0), .int (what), .int (v)] S iv lw (fun w iv2 lw2 => OP iv lw (o_ask X what v) w iv2 lw2) := by
  refine CT_ofQ rfl (by decide) (Nat.le_of_ble_eq_true rfl) (lv := [(0, .ref (0)), (1, .int (what)), (2, .int (v))]) rfl (fun Q hQ => ?_)
  have hA := hX.1
  have hnc := hA.ok.nc
  have hne := hA.ok.ne
  have hnm := hA.ok.nm
  refine V_iload_n (i := 1) dX9_ask_0 rfl 1 rfl ?_
  refine V_if_ne (tgt := 29) dX9_ask_1 rfl (fun h1 => ?_) (fun h1 => ?_)
  · have h1 : ¬ what.toInt = 0 := fun r => h1 (i_eq0.mpr (by exact r))
    refine V_iload_n (i := 1) dX9_ask_29 rfl 1 rfl ?_
    refine V_iconst (v := nI 1) dX9_ask_30 rfl ?_
    refine V_icmp_ne (tgt := 59) dX9_ask_31 rfl (fun h31 => ?_) (fun h31 => ?_)
    · have h31 : ¬ what.toInt = (1 : Int) := fun r => h31 (i_eqq.mpr (by rw [nI_toInt (n := 1) (by omega)]; exact r))
      refine V_aload_n (i := 0) dX9_ask_59 rfl 0 rfl ?_
      refine V_bipush (v := (-2)) dX9_ask_60 rfl ?_
      refine M_callVq (As := [.int ((-2))]) (st := []) dX9_ask_62 lv_X9_69 ⟨by decide, by decide⟩ ⟨rfl, rfl⟩ rfl (ci := 6) hx.1 rfl rfl (Nat.le_of_ble_eq_true rfl) (t_refuse hx hX (j := 0) (by decide)) (fun w62 iv62 lw62 q62 => ?_)
      obtain ⟨rfl, e1, hXr, hOr⟩ := q62
      subst e1
      refine V_iret dX9_ask_65 ⟨rfl, rfl⟩ (Nat.zero_le _) (Nat.zero_le _) ?_
      subst hQ
      exact ⟨_, _, _, rfl, rfl, by unfold o_ask; rw [if_neg (by omega), if_neg (by omega)]; exact ⟨rfl, hXr, hOr, Off.rf⟩⟩
    · have h31 : what.toInt = (1 : Int) := by have q := i_eqq.mp h31; rw [nI_toInt (n := 1) (by omega)] at q; exact q
      refine V_iload_n (i := 2) dX9_ask_34 rfl 2 rfl ?_
      refine M_callSp (As := [.int (v)]) (st := []) dX9_ask_35 ls_X9_195 ⟨by decide, by decide⟩ ⟨rfl, rfl⟩ rfl (Nat.le_of_ble_eq_true rfl) (t_X0_isLost) ?_
      refine V_if_eq (tgt := 59) dX9_ask_38 rfl (fun h38 => ?_) (fun h38 => ?_)
      · have h38 : ¬ ((0 : Int) ≤ v.toInt ∧ v.toInt ≤ 100) := bI_eq0.mp h38
        refine V_aload_n (i := 0) dX9_ask_59 rfl 0 rfl ?_
        refine V_bipush (v := (-2)) dX9_ask_60 rfl ?_
        refine M_callVq (As := [.int ((-2))]) (st := []) dX9_ask_62 lv_X9_69 ⟨by decide, by decide⟩ ⟨rfl, rfl⟩ rfl (ci := 6) hx.1 rfl rfl (Nat.le_of_ble_eq_true rfl) (t_refuse hx hX (j := 0) (by decide)) (fun w62 iv62 lw62 q62 => ?_)
        obtain ⟨rfl, e1, hXr, hOr⟩ := q62
        subst e1
        refine V_iret dX9_ask_65 ⟨rfl, rfl⟩ (Nat.zero_le _) (Nat.zero_le _) ?_
        subst hQ
        exact ⟨_, _, _, rfl, rfl, by unfold o_ask; rw [if_neg (by omega), if_neg (by omega)]; exact ⟨rfl, hXr, hOr, Off.rf⟩⟩
      · have h38 : (0 : Int) ≤ v.toInt ∧ v.toInt ≤ 100 := bI_ne.mp h38
        have cv := iN_eq (k := v) (by omega)
        have dv := iN_i (k := v) (by omega)
        refine M_at (lv2 := [(0, .ref (0)), (1, .int (what)), (2, .int (nI (iN v)))]) (st2 := []) ?_ (by rw [← cv]) rfl rfl rfl
        refine V_aload_n (i := 0) dX9_ask_41 rfl 0 rfl ?_
        refine M_getR dX9_ask_42 lf_X9_10 rfl hx.1 hx.2.1.1 ?_
        refine M_getI (x := nI (v_lo (x_A X))) dX9_ask_45 lf_X9_198 rfl hx.2.1.2.1 (hA.lo) ?_
        refine V_istore_n (lv2 := [(3, .int (nI (v_lo (x_A X)))), (0, .ref (0)), (1, .int (what)), (2, .int (nI (iN v)))]) dX9_ask_48 rfl (by decide) rfl ?_
        refine V_aload_n (i := 0) dX9_ask_49 rfl 1 rfl ?_
        refine M_getR dX9_ask_50 lf_X9_10 rfl hx.1 hx.2.1.1 ?_
        refine V_iload_n (i := 2) dX9_ask_53 rfl 3 rfl ?_
        refine M_putI dX9_ask_54 lf_X9_198 rfl hx.2.1.2.1 ⟨rfl, rfl⟩ ?_
        refine V_iload_n (i := 3) dX9_ask_57 rfl 0 rfl ?_
        refine V_iret dX9_ask_58 ⟨rfl, rfl⟩ (Nat.zero_le _) (Nat.zero_le _) ?_
        subst hQ
        have hXn := hX.now (iv2 := up2 iv 1 12 (nI (iN v))) (xc_setL hA (s := iN v) (by omega)) (Off.rf.up (by omega) (by omega)) (Nat.le_refl _)
        exact ⟨_, _, _, rfl, rfl, by unfold o_ask; rw [if_neg (by omega), if_pos (by omega)]; exact ⟨rfl, hXn, Off.rf.up (by omega) (by omega), Off.rf⟩⟩
  · have h1 : what.toInt = 0 := by have q := i_eq0.mp h1; exact q
    refine V_iload_n (i := 2) dX9_ask_4 rfl 2 rfl ?_
    refine M_callSp (As := [.int (v)]) (st := []) dX9_ask_5 ls_X9_189 ⟨by decide, by decide⟩ ⟨rfl, rfl⟩ rfl (Nat.le_of_ble_eq_true rfl) (t_X0_isSure) ?_
    refine V_if_eq (tgt := 29) dX9_ask_8 rfl (fun h8 => ?_) (fun h8 => ?_)
    · have h8 : ¬ ((0 : Int) ≤ v.toInt ∧ v.toInt ≤ 1000) := bI_eq0.mp h8
      refine V_iload_n (i := 1) dX9_ask_29 rfl 1 rfl ?_
      refine V_iconst (v := nI 1) dX9_ask_30 rfl ?_
      refine V_icmp_ne (tgt := 59) dX9_ask_31 rfl (fun h31 => ?_) (fun h31 => ?_)
      · have h31 : ¬ what.toInt = (1 : Int) := fun r => h31 (i_eqq.mpr (by rw [nI_toInt (n := 1) (by omega)]; exact r))
        refine V_aload_n (i := 0) dX9_ask_59 rfl 0 rfl ?_
        refine V_bipush (v := (-2)) dX9_ask_60 rfl ?_
        refine M_callVq (As := [.int ((-2))]) (st := []) dX9_ask_62 lv_X9_69 ⟨by decide, by decide⟩ ⟨rfl, rfl⟩ rfl (ci := 6) hx.1 rfl rfl (Nat.le_of_ble_eq_true rfl) (t_refuse hx hX (j := 0) (by decide)) (fun w62 iv62 lw62 q62 => ?_)
        obtain ⟨rfl, e1, hXr, hOr⟩ := q62
        subst e1
        refine V_iret dX9_ask_65 ⟨rfl, rfl⟩ (Nat.zero_le _) (Nat.zero_le _) ?_
        subst hQ
        exact ⟨_, _, _, rfl, rfl, by unfold o_ask; rw [if_neg (by omega), if_neg (by omega)]; exact ⟨rfl, hXr, hOr, Off.rf⟩⟩
      · have h31 : what.toInt = (1 : Int) := by have q := i_eqq.mp h31; rw [nI_toInt (n := 1) (by omega)] at q; exact q
        refine V_iload_n (i := 2) dX9_ask_34 rfl 2 rfl ?_
        refine M_callSp (As := [.int (v)]) (st := []) dX9_ask_35 ls_X9_195 ⟨by decide, by decide⟩ ⟨rfl, rfl⟩ rfl (Nat.le_of_ble_eq_true rfl) (t_X0_isLost) ?_
        refine V_if_eq (tgt := 59) dX9_ask_38 rfl (fun h38 => ?_) (fun h38 => ?_)
        · have h38 : ¬ ((0 : Int) ≤ v.toInt ∧ v.toInt ≤ 100) := bI_eq0.mp h38
          refine V_aload_n (i := 0) dX9_ask_59 rfl 0 rfl ?_
          refine V_bipush (v := (-2)) dX9_ask_60 rfl ?_
          refine M_callVq (As := [.int ((-2))]) (st := []) dX9_ask_62 lv_X9_69 ⟨by decide, by decide⟩ ⟨rfl, rfl⟩ rfl (ci := 6) hx.1 rfl rfl (Nat.le_of_ble_eq_true rfl) (t_refuse hx hX (j := 0) (by decide)) (fun w62 iv62 lw62 q62 => ?_)
          obtain ⟨rfl, e1, hXr, hOr⟩ := q62
          subst e1
          refine V_iret dX9_ask_65 ⟨rfl, rfl⟩ (Nat.zero_le _) (Nat.zero_le _) ?_
          subst hQ
          exact ⟨_, _, _, rfl, rfl, by unfold o_ask; rw [if_neg (by omega), if_neg (by omega)]; exact ⟨rfl, hXr, hOr, Off.rf⟩⟩
        · have h38 : (0 : Int) ≤ v.toInt ∧ v.toInt ≤ 100 := bI_ne.mp h38
          have cv := iN_eq (k := v) (by omega)
          have dv := iN_i (k := v) (by omega)
          refine M_at (lv2 := [(0, .ref (0)), (1, .int (what)), (2, .int (nI (iN v)))]) (st2 := []) ?_ (by rw [← cv]) rfl rfl rfl
          refine V_aload_n (i := 0) dX9_ask_41 rfl 0 rfl ?_
          refine M_getR dX9_ask_42 lf_X9_10 rfl hx.1 hx.2.1.1 ?_
          refine M_getI (x := nI (v_lo (x_A X))) dX9_ask_45 lf_X9_198 rfl hx.2.1.2.1 (hA.lo) ?_
          refine V_istore_n (lv2 := [(3, .int (nI (v_lo (x_A X)))), (0, .ref (0)), (1, .int (what)), (2, .int (nI (iN v)))]) dX9_ask_48 rfl (by decide) rfl ?_
          refine V_aload_n (i := 0) dX9_ask_49 rfl 1 rfl ?_
          refine M_getR dX9_ask_50 lf_X9_10 rfl hx.1 hx.2.1.1 ?_
          refine V_iload_n (i := 2) dX9_ask_53 rfl 3 rfl ?_
          refine M_putI dX9_ask_54 lf_X9_198 rfl hx.2.1.2.1 ⟨rfl, rfl⟩ ?_
          refine V_iload_n (i := 3) dX9_ask_57 rfl 0 rfl ?_
          refine V_iret dX9_ask_58 ⟨rfl, rfl⟩ (Nat.zero_le _) (Nat.zero_le _) ?_
          subst hQ
          have hXn := hX.now (iv2 := up2 iv 1 12 (nI (iN v))) (xc_setL hA (s := iN v) (by omega)) (Off.rf.up (by omega) (by omega)) (Nat.le_refl _)
          exact ⟨_, _, _, rfl, rfl, by unfold o_ask; rw [if_neg (by omega), if_pos (by omega)]; exact ⟨rfl, hXn, Off.rf.up (by omega) (by omega), Off.rf⟩⟩
    · have h8 : (0 : Int) ≤ v.toInt ∧ v.toInt ≤ 1000 := bI_ne.mp h8
      have cv := iN_eq (k := v) (by omega)
      have dv := iN_i (k := v) (by omega)
      refine M_at (lv2 := [(0, .ref (0)), (1, .int (what)), (2, .int (nI (iN v)))]) (st2 := []) ?_ (by rw [← cv]) rfl rfl rfl
      refine V_aload_n (i := 0) dX9_ask_11 rfl 0 rfl ?_
      refine M_getR dX9_ask_12 lf_X9_10 rfl hx.1 hx.2.1.1 ?_
      refine M_getI (x := nI (v_su (x_A X))) dX9_ask_15 lf_X9_192 rfl hx.2.1.2.1 (hA.su) ?_
      refine V_istore_n (lv2 := [(3, .int (nI (v_su (x_A X)))), (0, .ref (0)), (1, .int (what)), (2, .int (nI (iN v)))]) dX9_ask_18 rfl (by decide) rfl ?_
      refine V_aload_n (i := 0) dX9_ask_19 rfl 1 rfl ?_
      refine M_getR dX9_ask_20 lf_X9_10 rfl hx.1 hx.2.1.1 ?_
      refine V_iload_n (i := 2) dX9_ask_23 rfl 3 rfl ?_
      refine M_putI dX9_ask_24 lf_X9_192 rfl hx.2.1.2.1 ⟨rfl, rfl⟩ ?_
      refine V_iload_n (i := 3) dX9_ask_27 rfl 0 rfl ?_
      refine V_iret dX9_ask_28 ⟨rfl, rfl⟩ (Nat.zero_le _) (Nat.zero_le _) ?_
      subst hQ
      have hXn := hX.now (iv2 := up2 iv 1 11 (nI (iN v))) (xc_setS hA (s := iN v) (by omega)) (Off.rf.up (by omega) (by omega)) (Nat.le_refl _)
      exact ⟨_, _, _, rfl, rfl, by unfold o_ask; rw [if_pos (by omega)]; exact ⟨rfl, hXn, Off.rf.up (by omega) (by omega), Off.rf⟩⟩
set_option maxRecDepth 20000 in
theorem k_feed {g : Ev} {S : St} {iv : IV} {lw : LW} (hx : IsX S) {X : Xs} (hX : CX iv lw X) {l : Int32} : CQ g mX9_feed [.ref (0), .int (l)] S iv lw (fun w iv2 lw2 => OP iv lw (o_feed X l) w iv2 lw2) := by
  refine CT_ofQ rfl (by decide) (Nat.le_of_ble_eq_true rfl) (lv := [(0, .ref (0)), (1, .int (l))]) rfl (fun Q hQ => ?_)
  have hA := hX.1
  have hnc := hA.ok.nc
  have hne := hA.ok.ne
  have hnm := hA.ok.nm
  obtain ⟨s0, e0, hT⟩ := hX.2.2.2.2.1
  have hTn := hT.1.1.1
  refine V_iload_n (i := 1) dX9_feed_0 rfl 1 rfl ?_
  refine V_if_lt (tgt := 11) dX9_feed_1 rfl (fun h1 => ?_) (fun h1 => ?_)
  · have h1 : l.toInt < 0 := by have q := i_neg.mp h1; exact q
    refine V_aload_n (i := 0) dX9_feed_11 rfl 0 rfl ?_
    refine V_bipush (v := (-2)) dX9_feed_12 rfl ?_
    refine M_callVq (As := [.int ((-2))]) (st := []) dX9_feed_14 lv_X9_69 ⟨by decide, by decide⟩ ⟨rfl, rfl⟩ rfl (ci := 6) hx.1 rfl rfl (Nat.le_of_ble_eq_true rfl) (t_refuse hx hX (j := 0) (by decide)) (fun w14 iv14 lw14 q14 => ?_)
    obtain ⟨rfl, e1, hXr, hOr⟩ := q14
    subst e1
    refine V_iret dX9_feed_17 ⟨rfl, rfl⟩ (Nat.zero_le _) (Nat.zero_le _) ?_
    subst hQ
    exact ⟨_, _, _, rfl, rfl, by unfold o_feed; rw [if_pos (by omega)]; exact ⟨rfl, hXr, hOr, Off.rf⟩⟩
  · have h1 : ¬ l.toInt < 0 := fun r => h1 (i_neg.mpr (by exact r))
    refine V_iload_n (i := 1) dX9_feed_4 rfl 1 rfl ?_
    refine V_sipush (v := nI 255) dX9_feed_5 rfl ?_
    refine V_icmp_le (tgt := 18) dX9_feed_8 rfl (fun h8 => ?_) (fun h8 => ?_)
    · have h8 : l.toInt ≤ (255 : Int) := by have q := Int32.le_iff_toInt_le.mp h8; rw [nI_toInt (n := 255) (by omega)] at q; exact q
      have cl := iN_eq (k := l) (by omega)
      have dl := iN_i (k := l) (by omega)
      refine M_at (lv2 := [(0, .ref (0)), (1, .int (nI (iN l)))]) (st2 := []) ?_ (by rw [← cl]) rfl rfl rfl
      refine V_aload_n (i := 0) dX9_feed_18 rfl 0 rfl ?_
      refine M_getR dX9_feed_19 lf_X9_36 rfl hx.1 hx.2.2.2.2.1.1 ?_
      refine M_callVp (As := []) (st := []) dX9_feed_22 lv_X9_201 ⟨by decide, by decide⟩ ⟨rfl, rfl⟩ rfl (ci := 5) hx.2.2.2.2.1.2.1 rfl rfl (Nat.le_of_ble_eq_true rfl) (t_hasRoom hx.2.2.2.2.1.2 hT) ?_
      refine V_if_eq (tgt := 39) dX9_feed_25 rfl (fun h25 => ?_) (fun h25 => ?_)
      · have h25 : ¬ (x_n X < 250) := bI_eq0.mp h25
        refine V_aload_n (i := 0) dX9_feed_39 rfl 0 rfl ?_
        refine V_bipush (v := (-6)) dX9_feed_40 rfl ?_
        refine M_callVq (As := [.int ((-6))]) (st := []) dX9_feed_42 lv_X9_69 ⟨by decide, by decide⟩ ⟨rfl, rfl⟩ rfl (ci := 6) hx.1 rfl rfl (Nat.le_of_ble_eq_true rfl) (t_refuse hx hX (j := 4) (by decide)) (fun w42 iv42 lw42 q42 => ?_)
        obtain ⟨rfl, e1, hXr, hOr⟩ := q42
        subst e1
        refine V_iret dX9_feed_45 ⟨rfl, rfl⟩ (Nat.zero_le _) (Nat.zero_le _) ?_
        subst hQ
        exact ⟨_, _, _, rfl, rfl, by unfold o_feed; rw [if_neg (by omega), if_neg h25]; exact ⟨rfl, hXr, hOr, Off.rf⟩⟩
      · have h25 : x_n X < 250 := bI_ne.mp h25
        refine V_aload_n (i := 0) dX9_feed_28 rfl 0 rfl ?_
        refine M_getR dX9_feed_29 lf_X9_36 rfl hx.1 hx.2.2.2.2.1.1 ?_
        refine V_iload_n (i := 1) dX9_feed_32 rfl 1 rfl ?_
        refine M_callVq (As := [.int (nI (iN l))]) (st := []) dX9_feed_33 lv_X9_204 ⟨by decide, by decide⟩ ⟨rfl, rfl⟩ rfl (ci := 5) hx.2.2.2.2.1.2.1 rfl rfl (Nat.le_of_ble_eq_true rfl) (t_append hx.2.2.2.2.1.2 hT (l := iN l) (by omega) h25) (fun w33 iv33 lw33 q33 => ?_)
        obtain ⟨rfl, e1, hTn2, hOn⟩ := q33
        subst e1
        have hXn := hX.tape hTn2 hOn
        refine V_goto (tgt := 45) dX9_feed_36 rfl ?_
        refine V_iret dX9_feed_45 ⟨rfl, rfl⟩ (Nat.zero_le _) (Nat.zero_le _) ?_
        subst hQ
        exact ⟨_, _, _, rfl, rfl, by unfold o_feed; rw [if_neg (by omega), if_pos h25]; exact ⟨rfl, hXn, hOn.wide (by omega) (by omega), Off.rf⟩⟩
    · have h8 : ¬ l.toInt ≤ (255 : Int) := fun r => h8 (Int32.le_iff_toInt_le.mpr (by rw [nI_toInt (n := 255) (by omega)]; exact r))
      refine V_aload_n (i := 0) dX9_feed_11 rfl 0 rfl ?_
      refine V_bipush (v := (-2)) dX9_feed_12 rfl ?_
      refine M_callVq (As := [.int ((-2))]) (st := []) dX9_feed_14 lv_X9_69 ⟨by decide, by decide⟩ ⟨rfl, rfl⟩ rfl (ci := 6) hx.1 rfl rfl (Nat.le_of_ble_eq_true rfl) (t_refuse hx hX (j := 0) (by decide)) (fun w14 iv14 lw14 q14 => ?_)
      obtain ⟨rfl, e1, hXr, hOr⟩ := q14
      subst e1
      refine V_iret dX9_feed_17 ⟨rfl, rfl⟩ (Nat.zero_le _) (Nat.zero_le _) ?_
      subst hQ
      exact ⟨_, _, _, rfl, rfl, by unfold o_feed; rw [if_pos (by omega)]; exact ⟨rfl, hXr, hOr, Off.rf⟩⟩
set_option maxRecDepth 20000 in
theorem k_wipe {g : Ev} {S : St} {iv : IV} {lw : LW} (hx : IsX S) {X : Xs} (hX : CX iv lw X) : CQ g mX9_wipe [.ref (0)] S iv lw (fun w iv2 lw2 => OP iv lw (o_wipe X) w iv2 lw2) := by
  refine CT_ofQ rfl (by decide) (Nat.le_of_ble_eq_true rfl) (lv := [(0, .ref (0))]) rfl (fun Q hQ => ?_)
  have hA := hX.1
  have hnc := hA.ok.nc
  have hne := hA.ok.ne
  have hnm := hA.ok.nm
  obtain ⟨s0, e0, hT⟩ := hX.2.2.2.2.1
  have hTn := hT.1.1.1
  refine V_aload_n (i := 0) dX9_wipe_0 rfl 0 rfl ?_
  refine M_getR dX9_wipe_1 lf_X9_36 rfl hx.1 hx.2.2.2.2.1.1 ?_
  refine M_callVq (As := []) (st := []) dX9_wipe_4 lv_X9_207 ⟨by decide, by decide⟩ ⟨rfl, rfl⟩ rfl (ci := 5) hx.2.2.2.2.1.2.1 rfl rfl (Nat.le_of_ble_eq_true rfl) (t_empty hx.2.2.2.2.1.2 hT) (fun w4 iv4 lw4 q4 => ?_)
  obtain ⟨rfl, e1, hTn2, hOn⟩ := q4
  subst e1
  have hXn := hX.tape hTn2 (hOn.wide (by omega) (by omega))
  refine V_iret dX9_wipe_7 ⟨rfl, rfl⟩ (Nat.zero_le _) (Nat.zero_le _) ?_
  subst hQ
  exact ⟨_, _, _, rfl, rfl, rfl, hXn, hOn.wide (by omega) (by omega), Off.rf⟩
set_option maxRecDepth 20000 in
theorem k_drop {g : Ev} {S : St} {iv : IV} {lw : LW} (hx : IsX S) {X : Xs} (hX : CX iv lw X) : CQ g mX9_drop [.ref (0)] S iv lw (fun w iv2 lw2 => OP iv lw (o_drop X) w iv2 lw2) := by
  refine CT_ofQ rfl (by decide) (Nat.le_of_ble_eq_true rfl) (lv := [(0, .ref (0))]) rfl (fun Q hQ => ?_)
  have hA := hX.1
  have hnc := hA.ok.nc
  have hne := hA.ok.ne
  have hnm := hA.ok.nm
  refine V_aload_n (i := 0) dX9_drop_0 rfl 0 rfl ?_
  refine M_getR dX9_drop_1 lf_X9_10 rfl hx.1 hx.2.1.1 ?_
  refine M_getI (x := nI (v_nc (x_A X))) dX9_drop_4 lf_X9_281 rfl hx.2.1.2.1 (hA.nc) ?_
  refine V_if_le (tgt := 20) dX9_drop_7 rfl (fun h7 => ?_) (fun h7 => ?_)
  · have h7 : (v_nc (x_A X)) ≤ 0 := (nI_leI (b := 0) (by omega) (by omega)).mp h7
    refine V_aload_n (i := 0) dX9_drop_20 rfl 0 rfl ?_
    refine V_bipush (v := (-5)) dX9_drop_21 rfl ?_
    refine M_callVq (As := [.int ((-5))]) (st := []) dX9_drop_23 lv_X9_69 ⟨by decide, by decide⟩ ⟨rfl, rfl⟩ rfl (ci := 6) hx.1 rfl rfl (Nat.le_of_ble_eq_true rfl) (t_refuse hx hX (j := 3) (by decide)) (fun w23 iv23 lw23 q23 => ?_)
    obtain ⟨rfl, e1, hXr, hOr⟩ := q23
    subst e1
    refine V_iret dX9_drop_26 ⟨rfl, rfl⟩ (Nat.zero_le _) (Nat.zero_le _) ?_
    subst hQ
    exact ⟨_, _, _, rfl, rfl, by unfold o_drop; rw [if_neg (by omega)]; exact ⟨rfl, hXr, hOr, Off.rf⟩⟩
  · have h7 : ¬ (v_nc (x_A X)) ≤ 0 := fun q => h7 ((nI_leI (b := 0) (by omega) (by omega)).mpr q)
    refine V_aload_n (i := 0) dX9_drop_10 rfl 0 rfl ?_
    refine M_getR dX9_drop_11 lf_X9_10 rfl hx.1 hx.2.1.1 ?_
    refine M_callVq (As := []) (st := []) dX9_drop_14 lv_X9_381 ⟨by decide, by decide⟩ ⟨rfl, rfl⟩ rfl (ci := 0) hx.2.1.2.1 rfl rfl (Nat.le_of_ble_eq_true rfl) (t_removeLastCall hx.2.1.2 hA (by omega)) (fun w14 iv14 lw14 q14 => ?_)
    obtain ⟨rfl, e1, hAn, hOn⟩ := q14
    subst e1
    have hXn := hX.now hAn hOn (Nat.le_refl _)
    refine V_goto (tgt := 26) dX9_drop_17 rfl ?_
    refine V_iret dX9_drop_26 ⟨rfl, rfl⟩ (Nat.zero_le _) (Nat.zero_le _) ?_
    subst hQ
    exact ⟨_, _, _, rfl, rfl, by unfold o_drop; rw [if_pos (by omega)]; exact ⟨rfl, hXn, hOn.wide (by omega) (by omega), Off.rf⟩⟩
set_option maxRecDepth 20000 in
theorem k_seed {g : Ev} {S : St} {iv : IV} {lw : LW} (hx : IsX S) {X : Xs} (hX : CX iv lw X) {v : Int32} : CQ g mX9_seed [.ref (0), .int (v)] S iv lw (fun w iv2 lw2 => OP iv lw (o_seed X v) w iv2 lw2) := by
  refine CT_ofQ rfl (by decide) (Nat.le_of_ble_eq_true rfl) (lv := [(0, .ref (0)), (1, .int (v))]) rfl (fun Q hQ => ?_)
  have hA := hX.1
  have hnc := hA.ok.nc
  have hne := hA.ok.ne
  have hnm := hA.ok.nm
  refine V_aload_n (i := 0) dX9_seed_0 rfl 0 rfl ?_
  refine M_getR dX9_seed_1 lf_X9_10 rfl hx.1 hx.2.1.1 ?_
  refine M_getI (x := v_se (x_A X)) dX9_seed_4 lf_X9_384 rfl hx.2.1.2.1 (hA.se) ?_
  refine V_istore_n (lv2 := [(2, .int (v_se (x_A X))), (0, .ref (0)), (1, .int (v))]) dX9_seed_7 rfl (by decide) rfl ?_
  refine V_aload_n (i := 0) dX9_seed_8 rfl 1 rfl ?_
  refine M_getR dX9_seed_9 lf_X9_10 rfl hx.1 hx.2.1.1 ?_
  refine V_iload_n (i := 1) dX9_seed_12 rfl 2 rfl ?_
  refine M_putI dX9_seed_13 lf_X9_384 rfl hx.2.1.2.1 ⟨rfl, rfl⟩ ?_
  refine V_iload_n (i := 2) dX9_seed_16 rfl 0 rfl ?_
  refine V_iret dX9_seed_17 ⟨rfl, rfl⟩ (Nat.zero_le _) (Nat.zero_le _) ?_
  subst hQ
  have hXn := hX.now (iv2 := up2 iv 1 13 v) (xc_setD hA) (Off.rf.up (by omega) (by omega)) (Nat.le_refl _)
  exact ⟨_, _, _, rfl, rfl, rfl, hXn, Off.rf.up (by omega) (by omega), Off.rf⟩
set_option maxRecDepth 20000 in
theorem k_earOf {g : Ev} {S : St} {iv : IV} {lw : LW} (hx : IsX S) {X : Xs} (hX : CX iv lw X) {e what : Int32} : CQ g mX9_earOf [.ref (0), .int (e), .int (what)] S iv lw (fun w iv2 lw2 => OP iv lw (o_earOf X e what) w iv2 lw2) := by
  refine CT_ofQ rfl (by decide) (Nat.le_of_ble_eq_true rfl) (lv := [(0, .ref (0)), (1, .int (e)), (2, .int (what))]) rfl (fun Q hQ => ?_)
  have hA := hX.1
  have hnc := hA.ok.nc
  have hne := hA.ok.ne
  have hnm := hA.ok.nm
  refine V_aload_n (i := 0) dX9_earOf_0 rfl 0 rfl ?_
  refine M_getR dX9_earOf_1 lf_X9_10 rfl hx.1 hx.2.1.1 ?_
  refine V_iload_n (i := 1) dX9_earOf_4 rfl 1 rfl ?_
  refine M_callVp (As := [.int (e)]) (st := []) dX9_earOf_5 lv_X9_108 ⟨by decide, by decide⟩ ⟨rfl, rfl⟩ rfl (ci := 0) hx.2.1.2.1 rfl rfl (Nat.le_of_ble_eq_true rfl) (t_X0_isEar hx.2.1.2 hA) ?_
  refine V_if_eq (tgt := 20) dX9_earOf_8 rfl (fun h8 => ?_) (fun h8 => ?_)
  · have h8 : ¬ (inR e (v_ne (x_A X))) := bI_eq0.mp h8
    refine V_aload_n (i := 0) dX9_earOf_20 rfl 0 rfl ?_
    refine V_bipush (v := (-2)) dX9_earOf_21 rfl ?_
    refine M_callVq (As := [.int ((-2))]) (st := []) dX9_earOf_23 lv_X9_69 ⟨by decide, by decide⟩ ⟨rfl, rfl⟩ rfl (ci := 6) hx.1 rfl rfl (Nat.le_of_ble_eq_true rfl) (t_refuse hx hX (j := 0) (by decide)) (fun w23 iv23 lw23 q23 => ?_)
    obtain ⟨rfl, e1, hXr, hOr⟩ := q23
    subst e1
    refine V_iret dX9_earOf_26 ⟨rfl, rfl⟩ (Nat.zero_le _) (Nat.zero_le _) ?_
    subst hQ
    exact ⟨_, _, _, rfl, rfl, by unfold o_earOf; rw [if_pos (fun z => h8 z.1)]; exact ⟨rfl, hXr, hOr, Off.rf⟩⟩
  · have h8 : inR e (v_ne (x_A X)) := bI_ne.mp h8
    refine V_iload_n (i := 2) dX9_earOf_11 rfl 2 rfl ?_
    refine V_if_lt (tgt := 20) dX9_earOf_12 rfl (fun h12 => ?_) (fun h12 => ?_)
    · have h12 : what.toInt < 0 := by have q := i_neg.mp h12; exact q
      refine V_aload_n (i := 0) dX9_earOf_20 rfl 0 rfl ?_
      refine V_bipush (v := (-2)) dX9_earOf_21 rfl ?_
      refine M_callVq (As := [.int ((-2))]) (st := []) dX9_earOf_23 lv_X9_69 ⟨by decide, by decide⟩ ⟨rfl, rfl⟩ rfl (ci := 6) hx.1 rfl rfl (Nat.le_of_ble_eq_true rfl) (t_refuse hx hX (j := 0) (by decide)) (fun w23 iv23 lw23 q23 => ?_)
      obtain ⟨rfl, e1, hXr, hOr⟩ := q23
      subst e1
      refine V_iret dX9_earOf_26 ⟨rfl, rfl⟩ (Nat.zero_le _) (Nat.zero_le _) ?_
      subst hQ
      exact ⟨_, _, _, rfl, rfl, by unfold o_earOf; rw [if_pos (fun z => absurd z.2 (by omega))]; exact ⟨rfl, hXr, hOr, Off.rf⟩⟩
    · have h12 : ¬ what.toInt < 0 := fun r => h12 (i_neg.mpr (by exact r))
      refine V_iload_n (i := 2) dX9_earOf_15 rfl 2 rfl ?_
      refine V_iconst (v := nI 1) dX9_earOf_16 rfl ?_
      refine V_icmp_le (tgt := 27) dX9_earOf_17 rfl (fun h17 => ?_) (fun h17 => ?_)
      · have h17 : what.toInt ≤ (1 : Int) := by have q := Int32.le_iff_toInt_le.mp h17; rw [nI_toInt (n := 1) (by omega)] at q; exact q
        have ce := iN_eq (k := e) (by omega)
        have de := iN_i (k := e) (by omega)
        refine M_at (lv2 := [(0, .ref (0)), (1, .int (nI (iN e))), (2, .int (what))]) (st2 := []) ?_ (by rw [← ce]) rfl rfl rfl
        refine V_iload_n (i := 2) dX9_earOf_27 rfl 2 rfl ?_
        refine V_if_ne (tgt := 42) dX9_earOf_28 rfl (fun h28 => ?_) (fun h28 => ?_)
        · have h28 : ¬ what.toInt = 0 := fun r => h28 (i_eq0.mpr (by exact r))
          refine V_aload_n (i := 0) dX9_earOf_42 rfl 0 rfl ?_
          refine M_getR dX9_earOf_43 lf_X9_10 rfl hx.1 hx.2.1.1 ?_
          refine V_iload_n (i := 1) dX9_earOf_46 rfl 1 rfl ?_
          refine M_callVp (As := [.int (nI (iN e))]) (st := []) dX9_earOf_47 lv_X9_133 ⟨by decide, by decide⟩ ⟨rfl, rfl⟩ rfl (ci := 0) hx.2.1.2.1 rfl rfl (Nat.le_of_ble_eq_true rfl) (t_X0_strengthOf hx.2.1.2 hA (by omega)) ?_
          refine V_iret dX9_earOf_50 ⟨rfl, rfl⟩ (Nat.zero_le _) (Nat.zero_le _) ?_
          subst hQ
          exact ⟨_, _, _, rfl, rfl, by unfold o_earOf; rw [if_neg (fun z => z ⟨h8, by omega, by omega⟩), if_neg (by omega)]; exact OP.same hX⟩
        · have h28 : what.toInt = 0 := by have q := i_eq0.mp h28; exact q
          refine V_aload_n (i := 0) dX9_earOf_31 rfl 0 rfl ?_
          refine M_getR dX9_earOf_32 lf_X9_10 rfl hx.1 hx.2.1.1 ?_
          refine V_iload_n (i := 1) dX9_earOf_35 rfl 1 rfl ?_
          refine M_callVp (As := [.int (nI (iN e))]) (st := []) dX9_earOf_36 lv_X9_127 ⟨by decide, by decide⟩ ⟨rfl, rfl⟩ rfl (ci := 0) hx.2.1.2.1 rfl rfl (Nat.le_of_ble_eq_true rfl) (t_X0_kindOf hx.2.1.2 hA (by omega)) ?_
          refine V_goto (tgt := 50) dX9_earOf_39 rfl ?_
          refine V_iret dX9_earOf_50 ⟨rfl, rfl⟩ (Nat.zero_le _) (Nat.zero_le _) ?_
          subst hQ
          exact ⟨_, _, _, rfl, rfl, by unfold o_earOf; rw [if_neg (fun z => z ⟨h8, by omega, by omega⟩), if_pos (by omega)]; exact OP.same hX⟩
      · have h17 : ¬ what.toInt ≤ (1 : Int) := fun r => h17 (Int32.le_iff_toInt_le.mpr (by rw [nI_toInt (n := 1) (by omega)]; exact r))
        refine V_aload_n (i := 0) dX9_earOf_20 rfl 0 rfl ?_
        refine V_bipush (v := (-2)) dX9_earOf_21 rfl ?_
        refine M_callVq (As := [.int ((-2))]) (st := []) dX9_earOf_23 lv_X9_69 ⟨by decide, by decide⟩ ⟨rfl, rfl⟩ rfl (ci := 6) hx.1 rfl rfl (Nat.le_of_ble_eq_true rfl) (t_refuse hx hX (j := 0) (by decide)) (fun w23 iv23 lw23 q23 => ?_)
        obtain ⟨rfl, e1, hXr, hOr⟩ := q23
        subst e1
        refine V_iret dX9_earOf_26 ⟨rfl, rfl⟩ (Nat.zero_le _) (Nat.zero_le _) ?_
        subst hQ
        exact ⟨_, _, _, rfl, rfl, by unfold o_earOf; rw [if_pos (fun z => absurd z.2 (by omega))]; exact ⟨rfl, hXr, hOr, Off.rf⟩⟩
set_option maxRecDepth 20000 in
theorem k_manOf {g : Ev} {S : St} {iv : IV} {lw : LW} (hx : IsX S) {X : Xs} (hX : CX iv lw X) {e what : Int32} : CQ g mX9_manOf [.ref (0), .int (e), .int (what)] S iv lw (fun w iv2 lw2 => OP iv lw (o_manOf X e what) w iv2 lw2) := by
  refine CT_ofQ rfl (by decide) (Nat.le_of_ble_eq_true rfl) (lv := [(0, .ref (0)), (1, .int (e)), (2, .int (what))]) rfl (fun Q hQ => ?_)
  have hA := hX.1
  have hnc := hA.ok.nc
  have hne := hA.ok.ne
  have hnm := hA.ok.nm
  refine V_aload_n (i := 0) dX9_manOf_0 rfl 0 rfl ?_
  refine M_getR dX9_manOf_1 lf_X9_10 rfl hx.1 hx.2.1.1 ?_
  refine V_iload_n (i := 1) dX9_manOf_4 rfl 1 rfl ?_
  refine M_callVp (As := [.int (e)]) (st := []) dX9_manOf_5 lv_X9_235 ⟨by decide, by decide⟩ ⟨rfl, rfl⟩ rfl (ci := 0) hx.2.1.2.1 rfl rfl (Nat.le_of_ble_eq_true rfl) (t_X0_isMan hx.2.1.2 hA) ?_
  refine V_if_eq (tgt := 20) dX9_manOf_8 rfl (fun h8 => ?_) (fun h8 => ?_)
  · have h8 : ¬ (inR e (v_nm (x_A X))) := bI_eq0.mp h8
    refine V_aload_n (i := 0) dX9_manOf_20 rfl 0 rfl ?_
    refine V_bipush (v := (-2)) dX9_manOf_21 rfl ?_
    refine M_callVq (As := [.int ((-2))]) (st := []) dX9_manOf_23 lv_X9_69 ⟨by decide, by decide⟩ ⟨rfl, rfl⟩ rfl (ci := 6) hx.1 rfl rfl (Nat.le_of_ble_eq_true rfl) (t_refuse hx hX (j := 0) (by decide)) (fun w23 iv23 lw23 q23 => ?_)
    obtain ⟨rfl, e1, hXr, hOr⟩ := q23
    subst e1
    refine V_iret dX9_manOf_26 ⟨rfl, rfl⟩ (Nat.zero_le _) (Nat.zero_le _) ?_
    subst hQ
    exact ⟨_, _, _, rfl, rfl, by unfold o_manOf; rw [if_pos (fun z => h8 z.1)]; exact ⟨rfl, hXr, hOr, Off.rf⟩⟩
  · have h8 : inR e (v_nm (x_A X)) := bI_ne.mp h8
    refine V_iload_n (i := 2) dX9_manOf_11 rfl 2 rfl ?_
    refine V_if_lt (tgt := 20) dX9_manOf_12 rfl (fun h12 => ?_) (fun h12 => ?_)
    · have h12 : what.toInt < 0 := by have q := i_neg.mp h12; exact q
      refine V_aload_n (i := 0) dX9_manOf_20 rfl 0 rfl ?_
      refine V_bipush (v := (-2)) dX9_manOf_21 rfl ?_
      refine M_callVq (As := [.int ((-2))]) (st := []) dX9_manOf_23 lv_X9_69 ⟨by decide, by decide⟩ ⟨rfl, rfl⟩ rfl (ci := 6) hx.1 rfl rfl (Nat.le_of_ble_eq_true rfl) (t_refuse hx hX (j := 0) (by decide)) (fun w23 iv23 lw23 q23 => ?_)
      obtain ⟨rfl, e1, hXr, hOr⟩ := q23
      subst e1
      refine V_iret dX9_manOf_26 ⟨rfl, rfl⟩ (Nat.zero_le _) (Nat.zero_le _) ?_
      subst hQ
      exact ⟨_, _, _, rfl, rfl, by unfold o_manOf; rw [if_pos (fun z => absurd z.2 (by omega))]; exact ⟨rfl, hXr, hOr, Off.rf⟩⟩
    · have h12 : ¬ what.toInt < 0 := fun r => h12 (i_neg.mpr (by exact r))
      refine V_iload_n (i := 2) dX9_manOf_15 rfl 2 rfl ?_
      refine V_iconst (v := nI 1) dX9_manOf_16 rfl ?_
      refine V_icmp_le (tgt := 27) dX9_manOf_17 rfl (fun h17 => ?_) (fun h17 => ?_)
      · have h17 : what.toInt ≤ (1 : Int) := by have q := Int32.le_iff_toInt_le.mp h17; rw [nI_toInt (n := 1) (by omega)] at q; exact q
        have ce := iN_eq (k := e) (by omega)
        have de := iN_i (k := e) (by omega)
        refine M_at (lv2 := [(0, .ref (0)), (1, .int (nI (iN e))), (2, .int (what))]) (st2 := []) ?_ (by rw [← ce]) rfl rfl rfl
        refine V_iload_n (i := 2) dX9_manOf_27 rfl 2 rfl ?_
        refine V_if_ne (tgt := 42) dX9_manOf_28 rfl (fun h28 => ?_) (fun h28 => ?_)
        · have h28 : ¬ what.toInt = 0 := fun r => h28 (i_eq0.mpr (by exact r))
          refine V_aload_n (i := 0) dX9_manOf_42 rfl 0 rfl ?_
          refine M_getR dX9_manOf_43 lf_X9_10 rfl hx.1 hx.2.1.1 ?_
          refine V_iload_n (i := 1) dX9_manOf_46 rfl 1 rfl ?_
          refine M_callVp (As := [.int (nI (iN e))]) (st := []) dX9_manOf_47 lv_X9_241 ⟨by decide, by decide⟩ ⟨rfl, rfl⟩ rfl (ci := 0) hx.2.1.2.1 rfl rfl (Nat.le_of_ble_eq_true rfl) (t_X0_lookOf hx.2.1.2 hA (by omega)) ?_
          refine V_iret dX9_manOf_50 ⟨rfl, rfl⟩ (Nat.zero_le _) (Nat.zero_le _) ?_
          subst hQ
          exact ⟨_, _, _, rfl, rfl, by unfold o_manOf; rw [if_neg (fun z => z ⟨h8, by omega, by omega⟩), if_neg (by omega)]; exact OP.same hX⟩
        · have h28 : what.toInt = 0 := by have q := i_eq0.mp h28; exact q
          refine V_aload_n (i := 0) dX9_manOf_31 rfl 0 rfl ?_
          refine M_getR dX9_manOf_32 lf_X9_10 rfl hx.1 hx.2.1.1 ?_
          refine V_iload_n (i := 1) dX9_manOf_35 rfl 1 rfl ?_
          refine M_callVp (As := [.int (nI (iN e))]) (st := []) dX9_manOf_36 lv_X9_238 ⟨by decide, by decide⟩ ⟨rfl, rfl⟩ rfl (ci := 0) hx.2.1.2.1 rfl rfl (Nat.le_of_ble_eq_true rfl) (t_X0_earOfMan hx.2.1.2 hA (by omega)) ?_
          refine V_goto (tgt := 50) dX9_manOf_39 rfl ?_
          refine V_iret dX9_manOf_50 ⟨rfl, rfl⟩ (Nat.zero_le _) (Nat.zero_le _) ?_
          subst hQ
          exact ⟨_, _, _, rfl, rfl, by unfold o_manOf; rw [if_neg (fun z => z ⟨h8, by omega, by omega⟩), if_pos (by omega)]; exact OP.same hX⟩
      · have h17 : ¬ what.toInt ≤ (1 : Int) := fun r => h17 (Int32.le_iff_toInt_le.mpr (by rw [nI_toInt (n := 1) (by omega)]; exact r))
        refine V_aload_n (i := 0) dX9_manOf_20 rfl 0 rfl ?_
        refine V_bipush (v := (-2)) dX9_manOf_21 rfl ?_
        refine M_callVq (As := [.int ((-2))]) (st := []) dX9_manOf_23 lv_X9_69 ⟨by decide, by decide⟩ ⟨rfl, rfl⟩ rfl (ci := 6) hx.1 rfl rfl (Nat.le_of_ble_eq_true rfl) (t_refuse hx hX (j := 0) (by decide)) (fun w23 iv23 lw23 q23 => ?_)
        obtain ⟨rfl, e1, hXr, hOr⟩ := q23
        subst e1
        refine V_iret dX9_manOf_26 ⟨rfl, rfl⟩ (Nat.zero_le _) (Nat.zero_le _) ?_
        subst hQ
        exact ⟨_, _, _, rfl, rfl, by unfold o_manOf; rw [if_pos (fun z => absurd z.2 (by omega))]; exact ⟨rfl, hXr, hOr, Off.rf⟩⟩
set_option maxRecDepth 20000 in
theorem k_twins {g : Ev} {S : St} {iv : IV} {lw : LW} (hx : IsX S) {X : Xs} (hX : CX iv lw X) : CQ g mX9_twins [.ref (0)] S iv lw (fun w iv2 lw2 => OP iv lw (o_twins X) w iv2 lw2) := by
  refine CT_ofQ rfl (by decide) (Nat.le_of_ble_eq_true rfl) (lv := [(0, .ref (0))]) rfl (fun Q hQ => ?_)
  have hA := hX.1
  have hnc := hA.ok.nc
  have hne := hA.ok.ne
  have hnm := hA.ok.nm
  refine V_aload_n (i := 0) dX9_twins_0 rfl 0 rfl ?_
  refine M_getR dX9_twins_1 lf_X9_10 rfl hx.1 hx.2.1.1 ?_
  refine M_callSp (As := [.ref (1)]) (st := []) dX9_twins_4 ls_X9_304 ⟨by decide, by decide⟩ ⟨rfl, rfl⟩ rfl (Nat.le_of_ble_eq_true rfl) (t_countTwins hx.2.1.2 hA) ?_
  refine V_iret dX9_twins_7 ⟨rfl, rfl⟩ (Nat.zero_le _) (Nat.zero_le _) ?_
  subst hQ
  exact ⟨_, _, _, rfl, rfl, OP.same hX⟩
set_option maxRecDepth 20000 in
theorem k_learn {g : Ev} {S : St} {iv : IV} {lw : LW} (hx : IsX S) {X : Xs} (hX : CX iv lw X) {i : Int32} : CQ g mX9_learn [.ref (0), .int (i)] S iv lw (fun w iv2 lw2 => OP iv lw (o_learn X i) w iv2 lw2) := by
  refine CT_ofQ rfl (by decide) (Nat.le_of_ble_eq_true rfl) (lv := [(0, .ref (0)), (1, .int (i))]) rfl (fun Q hQ => ?_)
  have hA := hX.1
  have hnc := hA.ok.nc
  have hne := hA.ok.ne
  have hnm := hA.ok.nm
  refine V_iload_n (i := 1) dX9_learn_0 rfl 1 rfl ?_
  refine V_if_lt (tgt := 26) dX9_learn_1 rfl (fun h1 => ?_) (fun h1 => ?_)
  · have h1 : i.toInt < 0 := by have q := i_neg.mp h1; exact q
    refine V_aload_n (i := 0) dX9_learn_26 rfl 0 rfl ?_
    refine V_bipush (v := (-2)) dX9_learn_27 rfl ?_
    refine M_callVq (As := [.int ((-2))]) (st := []) dX9_learn_29 lv_X9_69 ⟨by decide, by decide⟩ ⟨rfl, rfl⟩ rfl (ci := 6) hx.1 rfl rfl (Nat.le_of_ble_eq_true rfl) (t_refuse hx hX (j := 0) (by decide)) (fun w29 iv29 lw29 q29 => ?_)
    obtain ⟨rfl, e1, hXr, hOr⟩ := q29
    subst e1
    refine V_iret dX9_learn_32 ⟨rfl, rfl⟩ (Nat.zero_le _) (Nat.zero_le _) ?_
    subst hQ
    exact ⟨_, _, _, rfl, rfl, by unfold o_learn; rw [if_neg (by omega)]; exact ⟨rfl, hXr, hOr, Off.rf⟩⟩
  · have h1 : ¬ i.toInt < 0 := fun r => h1 (i_neg.mpr (by exact r))
    refine V_iload_n (i := 1) dX9_learn_4 rfl 1 rfl ?_
    refine V_aload_n (i := 0) dX9_learn_5 rfl 0 rfl ?_
    refine M_getR dX9_learn_6 lf_X9_10 rfl hx.1 hx.2.1.1 ?_
    refine M_getI (x := nI (v_nc (x_A X))) dX9_learn_9 lf_X9_281 rfl hx.2.1.2.1 (hA.nc) ?_
    refine V_icmp_ge (tgt := 26) dX9_learn_12 rfl (fun h12 => ?_) (fun h12 => ?_)
    · have h12 : ((v_nc (x_A X)) : Int) ≤ i.toInt := by have q := Int32.le_iff_toInt_le.mp h12; rw [nI_toInt (n := (v_nc (x_A X))) (by omega)] at q; exact q
      refine V_aload_n (i := 0) dX9_learn_26 rfl 0 rfl ?_
      refine V_bipush (v := (-2)) dX9_learn_27 rfl ?_
      refine M_callVq (As := [.int ((-2))]) (st := []) dX9_learn_29 lv_X9_69 ⟨by decide, by decide⟩ ⟨rfl, rfl⟩ rfl (ci := 6) hx.1 rfl rfl (Nat.le_of_ble_eq_true rfl) (t_refuse hx hX (j := 0) (by decide)) (fun w29 iv29 lw29 q29 => ?_)
      obtain ⟨rfl, e1, hXr, hOr⟩ := q29
      subst e1
      refine V_iret dX9_learn_32 ⟨rfl, rfl⟩ (Nat.zero_le _) (Nat.zero_le _) ?_
      subst hQ
      exact ⟨_, _, _, rfl, rfl, by unfold o_learn; rw [if_neg (by omega)]; exact ⟨rfl, hXr, hOr, Off.rf⟩⟩
    · have h12 : ¬ ((v_nc (x_A X)) : Int) ≤ i.toInt := fun r => h12 (Int32.le_iff_toInt_le.mpr (by rw [nI_toInt (n := (v_nc (x_A X))) (by omega)]; exact r))
      have ci := iN_eq (k := i) (by omega)
      have di := iN_i (k := i) (by omega)
      refine M_at (lv2 := [(0, .ref (0)), (1, .int (nI (iN i)))]) (st2 := []) ?_ (by rw [← ci]) rfl rfl rfl
      refine V_aload_n (i := 0) dX9_learn_15 rfl 0 rfl ?_
      refine M_getR dX9_learn_16 lf_X9_10 rfl hx.1 hx.2.1.1 ?_
      refine V_iload_n (i := 1) dX9_learn_19 rfl 1 rfl ?_
      refine M_callVp (As := [.int (nI (iN i))]) (st := []) dX9_learn_20 lv_X9_355 ⟨by decide, by decide⟩ ⟨rfl, rfl⟩ rfl (ci := 0) hx.2.1.2.1 rfl rfl (Nat.le_of_ble_eq_true rfl) (t_learnedAt hx.2.1.2 hA (i := iN i) (by omega)) ?_
      refine V_goto (tgt := 32) dX9_learn_23 rfl ?_
      refine V_iret dX9_learn_32 ⟨rfl, rfl⟩ (Nat.zero_le _) (Nat.zero_le _) ?_
      subst hQ
      exact ⟨_, _, _, rfl, rfl, by unfold o_learn; rw [if_pos (by omega)]; exact OP.same hX⟩
set_option maxRecDepth 20000 in
theorem k_fresh {g : Ev} {S : St} {iv : IV} {lw : LW} (hx : IsX S) {X : Xs} (hX : CX iv lw X) {m d : Int32} : CQ g mX9_fresh [.ref (0), .int (m), .int (d)] S iv lw (fun w iv2 lw2 => OP iv lw (o_fresh X m d) w iv2 lw2) := by
  refine CT_ofQ rfl (by decide) (Nat.le_of_ble_eq_true rfl) (lv := [(0, .ref (0)), (1, .int (m)), (2, .int (d))]) rfl (fun Q hQ => ?_)
  have hA := hX.1
  have hnc := hA.ok.nc
  have hne := hA.ok.ne
  have hnm := hA.ok.nm
  refine V_iload_n (i := 1) dX9_fresh_0 rfl 1 rfl ?_
  refine V_iconst (v := nI 1) dX9_fresh_1 rfl ?_
  refine V_icmp_lt (tgt := 17) dX9_fresh_2 rfl (fun h2 => ?_) (fun h2 => ?_)
  · have h2 : m.toInt < (1 : Int) := by have q := Int32.lt_iff_toInt_lt.mp h2; rw [nI_toInt (n := 1) (by omega)] at q; exact q
    refine V_aload_n (i := 0) dX9_fresh_17 rfl 0 rfl ?_
    refine V_bipush (v := (-2)) dX9_fresh_18 rfl ?_
    refine M_callVq (As := [.int ((-2))]) (st := []) dX9_fresh_20 lv_X9_69 ⟨by decide, by decide⟩ ⟨rfl, rfl⟩ rfl (ci := 6) hx.1 rfl rfl (Nat.le_of_ble_eq_true rfl) (t_refuse hx hX (j := 0) (by decide)) (fun w20 iv20 lw20 q20 => ?_)
    obtain ⟨rfl, e1, hXr, hOr⟩ := q20
    subst e1
    refine V_iret dX9_fresh_23 ⟨rfl, rfl⟩ (Nat.zero_le _) (Nat.zero_le _) ?_
    subst hQ
    exact ⟨_, _, _, rfl, rfl, by unfold o_fresh; rw [if_pos (by omega)]; exact ⟨rfl, hXr, hOr, Off.rf⟩⟩
  · have h2 : ¬ m.toInt < (1 : Int) := fun r => h2 (Int32.lt_iff_toInt_lt.mpr (by rw [nI_toInt (n := 1) (by omega)]; exact r))
    refine V_iload_n (i := 1) dX9_fresh_5 rfl 1 rfl ?_
    refine V_iconst (v := nI 5) dX9_fresh_6 rfl ?_
    refine V_icmp_gt (tgt := 17) dX9_fresh_7 rfl (fun h7 => ?_) (fun h7 => ?_)
    · have h7 : (5 : Int) < m.toInt := by have q := Int32.lt_iff_toInt_lt.mp h7; rw [nI_toInt (n := 5) (by omega)] at q; exact q
      refine V_aload_n (i := 0) dX9_fresh_17 rfl 0 rfl ?_
      refine V_bipush (v := (-2)) dX9_fresh_18 rfl ?_
      refine M_callVq (As := [.int ((-2))]) (st := []) dX9_fresh_20 lv_X9_69 ⟨by decide, by decide⟩ ⟨rfl, rfl⟩ rfl (ci := 6) hx.1 rfl rfl (Nat.le_of_ble_eq_true rfl) (t_refuse hx hX (j := 0) (by decide)) (fun w20 iv20 lw20 q20 => ?_)
      obtain ⟨rfl, e1, hXr, hOr⟩ := q20
      subst e1
      refine V_iret dX9_fresh_23 ⟨rfl, rfl⟩ (Nat.zero_le _) (Nat.zero_le _) ?_
      subst hQ
      exact ⟨_, _, _, rfl, rfl, by unfold o_fresh; rw [if_pos (by omega)]; exact ⟨rfl, hXr, hOr, Off.rf⟩⟩
    · have h7 : ¬ (5 : Int) < m.toInt := fun r => h7 (Int32.lt_iff_toInt_lt.mpr (by rw [nI_toInt (n := 5) (by omega)]; exact r))
      refine V_iload_n (i := 2) dX9_fresh_10 rfl 2 rfl ?_
      refine M_callSp (As := [.int (d)]) (st := []) dX9_fresh_11 ls_X9_308 ⟨by decide, by decide⟩ ⟨rfl, rfl⟩ rfl (Nat.le_of_ble_eq_true rfl) (t_isDistance) ?_
      refine V_if_ne (tgt := 24) dX9_fresh_14 rfl (fun h14 => ?_) (fun h14 => ?_)
      · have h14 : (0 : Int) ≤ d.toInt ∧ d.toInt ≤ 8 := bI_ne.mp h14
        have cm := iN_eq (k := m) (by omega)
        have cd := iN_eq (k := d) (by omega)
        have dm := iN_i (k := m) (by omega)
        have dd := iN_i (k := d) (by omega)
        refine M_at (lv2 := [(0, .ref (0)), (1, .int (nI (iN m))), (2, .int (nI (iN d)))]) (st2 := []) ?_ (by rw [← cm, ← cd]) rfl rfl rfl
        refine V_aload_n (i := 0) dX9_fresh_24 rfl 0 rfl ?_
        refine M_getR dX9_fresh_25 lf_X9_10 rfl hx.1 hx.2.1.1 ?_
        refine V_iload_n (i := 1) dX9_fresh_28 rfl 1 rfl ?_
        refine V_iload_n (i := 2) dX9_fresh_29 rfl 2 rfl ?_
        refine M_callSp (As := [.ref (1), .int (nI (iN m)), .int (nI (iN d))]) (st := []) dX9_fresh_30 ls_X9_327 ⟨by decide, by decide⟩ ⟨rfl, rfl⟩ rfl (Nat.le_of_ble_eq_true rfl) (t_firstFresh hx.2.1.2 hA (m := iN m) (d := iN d) (by omega) (by omega)) ?_
        refine V_iret dX9_fresh_33 ⟨rfl, rfl⟩ (Nat.zero_le _) (Nat.zero_le _) ?_
        subst hQ
        exact ⟨_, _, _, rfl, rfl, by unfold o_fresh; rw [if_neg (by omega)]; exact OP.same hX⟩
      · have h14 : ¬ ((0 : Int) ≤ d.toInt ∧ d.toInt ≤ 8) := bI_eq0.mp h14
        refine V_aload_n (i := 0) dX9_fresh_17 rfl 0 rfl ?_
        refine V_bipush (v := (-2)) dX9_fresh_18 rfl ?_
        refine M_callVq (As := [.int ((-2))]) (st := []) dX9_fresh_20 lv_X9_69 ⟨by decide, by decide⟩ ⟨rfl, rfl⟩ rfl (ci := 6) hx.1 rfl rfl (Nat.le_of_ble_eq_true rfl) (t_refuse hx hX (j := 0) (by decide)) (fun w20 iv20 lw20 q20 => ?_)
        obtain ⟨rfl, e1, hXr, hOr⟩ := q20
        subst e1
        refine V_iret dX9_fresh_23 ⟨rfl, rfl⟩ (Nat.zero_le _) (Nat.zero_le _) ?_
        subst hQ
        exact ⟨_, _, _, rfl, rfl, by unfold o_fresh; rw [if_pos (by omega)]; exact ⟨rfl, hXr, hOr, Off.rf⟩⟩
set_option maxRecDepth 20000 in
theorem k_keep {g : Ev} {S : St} {iv : IV} {lw : LW} (hx : IsX S) {X : Xs} (hX : CX iv lw X) {d : Int32} : CQ g mX9_keep [.ref (0), .int (d)] S iv lw (fun w iv2 lw2 => OP iv lw (o_keep X d) w iv2 lw2) := by
  refine CT_ofQ rfl (by decide) (Nat.le_of_ble_eq_true rfl) (lv := [(0, .ref (0)), (1, .int (d))]) rfl (fun Q hQ => ?_)
  have hA := hX.1
  have hnc := hA.ok.nc
  have hne := hA.ok.ne
  have hnm := hA.ok.nm
  refine V_iload_n (i := 1) dX9_keep_0 rfl 1 rfl ?_
  refine M_callSp (As := [.int (d)]) (st := []) dX9_keep_1 ls_X9_308 ⟨by decide, by decide⟩ ⟨rfl, rfl⟩ rfl (Nat.le_of_ble_eq_true rfl) (t_isDistance) ?_
  refine V_if_eq (tgt := 22) dX9_keep_4 rfl (fun h4 => ?_) (fun h4 => ?_)
  · have h4 : ¬ ((0 : Int) ≤ d.toInt ∧ d.toInt ≤ 8) := bI_eq0.mp h4
    refine V_aload_n (i := 0) dX9_keep_22 rfl 0 rfl ?_
    refine V_bipush (v := (-2)) dX9_keep_23 rfl ?_
    refine M_callVq (As := [.int ((-2))]) (st := []) dX9_keep_25 lv_X9_69 ⟨by decide, by decide⟩ ⟨rfl, rfl⟩ rfl (ci := 6) hx.1 rfl rfl (Nat.le_of_ble_eq_true rfl) (t_refuse hx hX (j := 0) (by decide)) (fun w25 iv25 lw25 q25 => ?_)
    obtain ⟨rfl, e1, hXr, hOr⟩ := q25
    subst e1
    refine V_iret dX9_keep_28 ⟨rfl, rfl⟩ (Nat.zero_le _) (Nat.zero_le _) ?_
    subst hQ
    exact ⟨_, _, _, rfl, rfl, by unfold o_keep; rw [if_neg (by omega)]; exact ⟨rfl, hXr, hOr, Off.rf⟩⟩
  · have h4 : (0 : Int) ≤ d.toInt ∧ d.toInt ≤ 8 := bI_ne.mp h4
    have cd := iN_eq (k := d) (by omega)
    have dd := iN_i (k := d) (by omega)
    refine M_at (lv2 := [(0, .ref (0)), (1, .int (nI (iN d)))]) (st2 := []) ?_ (by rw [← cd]) rfl rfl rfl
    refine V_aload_n (i := 0) dX9_keep_7 rfl 0 rfl ?_
    refine M_getR dX9_keep_8 lf_X9_57 rfl hx.1 hx.2.2.2.2.2.2.2.1.1 ?_
    refine V_aload_n (i := 0) dX9_keep_11 rfl 0 rfl ?_
    refine M_getR dX9_keep_12 lf_X9_10 rfl hx.1 hx.2.1.1 ?_
    refine V_iload_n (i := 1) dX9_keep_15 rfl 1 rfl ?_
    refine M_callVq (As := [.ref (1), .int (nI (iN d))]) (st := []) dX9_keep_16 lv_X9_330 ⟨by decide, by decide⟩ ⟨rfl, rfl⟩ rfl (ci := 3) hx.2.2.2.2.2.2.2.1.2.1 rfl rfl (Nat.le_of_ble_eq_true rfl) (t_bestSet hx.2.1.2 hA hx.2.2.2.2.2.2.2.1.2 (by omega) (d := iN d) (by omega)) (fun w16 iv16 lw16 q16 => ?_)
    obtain ⟨rfl, e1, hO⟩ := q16
    subst e1
    refine V_goto (tgt := 28) dX9_keep_19 rfl ?_
    refine V_iret dX9_keep_28 ⟨rfl, rfl⟩ (Nat.zero_le _) (Nat.zero_le _) ?_
    subst hQ
    exact ⟨_, _, _, rfl, rfl, by unfold o_keep; rw [if_pos (by omega)]; exact ⟨rfl, hX.aux (fun a ha => hO a (by omega)) (fun _ _ => rfl), hO.wide (by omega) (by omega), Off.rf⟩⟩
