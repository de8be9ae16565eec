/-! element, says, nearest -/
def tlV (k a o : Nat) : Nat := if o = 1 ∨ o = 3 then cntTo (fun i => decide (tornQ k a i 8)) 8 else if o = 2 ∨ o = 4 then chg k 4 else if o = 5 then cntTo (fun i => decide (echoQ k a i)) 8 else a
def unQ (k o : Nat) : Bool := decide (k = o ∨ o = 0 ∨ (k = 3 ∧ o = 1) ∨ (k = 4 ∧ o = 2))
def o_says (X : Xs) (s k : Int32) : Ans := if ¬ (inR s 8 ∧ 0 ≤ k.toInt ∧ k.toInt ≤ 5) then rfA X 0 else if rowQ (x_T X (iN s)) then rfA X 1 else if ¬ earQ (x_T X (iN s)) then rfA X 2 else if ¬ unQ (v_kd (x_A X) (iN ((x_T X (iN s)).1 - nI 10))) (iN k) = true then rfA X 1 else (nI (tlV (v_kd (x_A X) (iN ((x_T X (iN s)).1 - nI 10))) (v_by (x_A X) (iN ((x_T X (iN s)).1 - nI 10))) (iN k)), X)
theorem bl_some {f : Nat → Nat} : ∀ {n : Nat}, 0 < n → bestLo f n ≠ none
  | 0, h => absurd h (by omega)
  | n + 1, _ => by
    unfold bestLo
    split
    · exact fun z => by cases z
    · split <;> exact fun z => by cases z
set_option maxRecDepth 20000 in
theorem k_element_yes {g : Ev} {S : St} {iv : IV} {lw : LW} (hx : IsX S) {X : Xs} (hX : CX iv lw X) {j : Nat} (hj : j < 8) {i : Int32} (hr : rowQ (x_T X j) ∧ 0 ≤ i.toInt ∧ i.toInt < (x_T X j).2.1) : CP g mX9_element [.ref (0), .int (nI j), .int (i)] S iv lw (.long (o_element X (nI j) i)) := by
  refine CT_ofQ rfl (by decide) (Nat.le_of_ble_eq_true rfl) (lv := [(0, .ref (0)), (1, .int (nI j)), (2, .int (i))]) rfl (fun Q hQ => ?_)
  have hA := hX.1
  have hnc := hA.ok.nc
  have hne := hA.ok.ne
  have hnm := hA.ok.nm
  have hTj := hX.2.2.2.1 j hj
  have hjn : iN (nI j) = j := iN_nI (by omega)
  have h8 := in8 hj
  have hk := hTj.1.1
  have hk2 := hTj.1.2.1
  have hk3 := hTj.1.2.2
  refine V_aload_n (i := 0) dX9_element_0 rfl 0 rfl ?_
  refine V_iload_n (i := 1) dX9_element_1 rfl 1 rfl ?_
  refine M_callVp (As := [.int (nI j)]) (st := []) dX9_element_2 lv_X9_65 ⟨by decide, by decide⟩ ⟨rfl, rfl⟩ rfl (ci := 6) hx.1 rfl rfl (Nat.le_of_ble_eq_true rfl) (t_shelfAt_in hx hj) ?_
  refine V_astore_n (lv2 := [(3, .ref (29 + 2 * j)), (0, .ref (0)), (1, .int (nI j)), (2, .int (i))]) dX9_element_5 rfl (by decide) rfl ?_
  refine V_aload_n (i := 3) dX9_element_6 rfl 0 rfl ?_
  refine V_ifnonnull (tgt := 14) dX9_element_7 rfl ?_
  refine V_aload_n (i := 3) dX9_element_14 rfl 0 rfl ?_
  refine V_iload_n (i := 2) dX9_element_15 rfl 3 rfl ?_
  refine M_callVp (As := [.int (i)]) (st := []) dX9_element_16 lv_X9_104 ⟨by decide, by decide⟩ ⟨rfl, rfl⟩ rfl (ci := 4) (sh_ok hx hj).1 rfl rfl (Nat.le_of_ble_eq_true rfl) (t_elementAt (sh_ok hx hj) hTj (i := i) hr.1 hr.2) ?_
  refine V_lret dX9_element_19 ⟨rfl, rfl⟩ (Nat.zero_le _) (Nat.zero_le _) ?_
  subst hQ
  exact ⟨by unfold o_element; rw [hjn, if_pos ⟨h8, hr⟩], rfl⟩
set_option maxRecDepth 20000 in
theorem k_element_not {g : Ev} {S : St} {iv : IV} {lw : LW} (hx : IsX S) {X : Xs} (hX : CX iv lw X) {j : Nat} (hj : j < 8) {i : Int32} (hr : ¬ (rowQ (x_T X j) ∧ 0 ≤ i.toInt ∧ i.toInt < (x_T X j).2.1)) : CP g mX9_element [.ref (0), .int (nI j), .int (i)] S iv lw (.long (o_element X (nI j) i)) := by
  refine CT_ofQ rfl (by decide) (Nat.le_of_ble_eq_true rfl) (lv := [(0, .ref (0)), (1, .int (nI j)), (2, .int (i))]) rfl (fun Q hQ => ?_)
  have hA := hX.1
  have hnc := hA.ok.nc
  have hne := hA.ok.ne
  have hnm := hA.ok.nm
  have hTj := hX.2.2.2.1 j hj
  have hjn : iN (nI j) = j := iN_nI (by omega)
  have h8 := in8 hj
  have hk := hTj.1.1
  have hk2 := hTj.1.2.1
  have hk3 := hTj.1.2.2
  refine V_aload_n (i := 0) dX9_element_0 rfl 0 rfl ?_
  refine V_iload_n (i := 1) dX9_element_1 rfl 1 rfl ?_
  refine M_callVp (As := [.int (nI j)]) (st := []) dX9_element_2 lv_X9_65 ⟨by decide, by decide⟩ ⟨rfl, rfl⟩ rfl (ci := 6) hx.1 rfl rfl (Nat.le_of_ble_eq_true rfl) (t_shelfAt_in hx hj) ?_
  refine V_astore_n (lv2 := [(3, .ref (29 + 2 * j)), (0, .ref (0)), (1, .int (nI j)), (2, .int (i))]) dX9_element_5 rfl (by decide) rfl ?_
  refine V_aload_n (i := 3) dX9_element_6 rfl 0 rfl ?_
  refine V_ifnonnull (tgt := 14) dX9_element_7 rfl ?_
  refine V_aload_n (i := 3) dX9_element_14 rfl 0 rfl ?_
  refine V_iload_n (i := 2) dX9_element_15 rfl 3 rfl ?_
  refine M_callVp (As := [.int (i)]) (st := []) dX9_element_16 lv_X9_104 ⟨by decide, by decide⟩ ⟨rfl, rfl⟩ rfl (ci := 4) (sh_ok hx hj).1 rfl rfl (Nat.le_of_ble_eq_true rfl) (t_elementAt_no (sh_ok hx hj) hTj (i := i) hr) ?_
  refine V_lret dX9_element_19 ⟨rfl, rfl⟩ (Nat.zero_le _) (Nat.zero_le _) ?_
  subst hQ
  exact ⟨by unfold o_element; rw [hjn, if_neg (fun z => hr z.2)], rfl⟩
set_option maxRecDepth 20000 in
theorem k_element_no {g : Ev} {S : St} {iv : IV} {lw : LW} (hx : IsX S) {X : Xs} (hX : CX iv lw X) {s : Int32} (hs : ¬ inR s 8) {i : Int32} : CP g mX9_element [.ref (0), .int (s), .int (i)] S iv lw (.long (o_element X (s) i)) := by
  refine CT_ofQ rfl (by decide) (Nat.le_of_ble_eq_true rfl) (lv := [(0, .ref (0)), (1, .int (s)), (2, .int (i))]) rfl (fun Q hQ => ?_)
  have hA := hX.1
  have hnc := hA.ok.nc
  have hne := hA.ok.ne
  have hnm := hA.ok.nm
  refine V_aload_n (i := 0) dX9_element_0 rfl 0 rfl ?_
  refine V_iload_n (i := 1) dX9_element_1 rfl 1 rfl ?_
  refine M_callVp (As := [.int (s)]) (st := []) dX9_element_2 lv_X9_65 ⟨by decide, by decide⟩ ⟨rfl, rfl⟩ rfl (ci := 6) hx.1 rfl rfl (Nat.le_of_ble_eq_true rfl) (t_shelfAt_no hx hs) ?_
  refine V_astore_nN (lv2 := [(3, .null), (0, .ref (0)), (1, .int (s)), (2, .int (i))]) dX9_element_5 rfl (by decide) rfl ?_
  refine V_aload_nN (i := 3) dX9_element_6 rfl 0 rfl ?_
  refine V_ifnonnullN dX9_element_7 ?_
  refine V_lconst (v := lN 0) dX9_element_10 rfl ?_
  refine V_goto (tgt := 19) dX9_element_11 rfl ?_
  refine V_lret dX9_element_19 ⟨rfl, rfl⟩ (Nat.zero_le _) (Nat.zero_le _) ?_
  subst hQ
  exact ⟨by unfold o_element; rw [if_neg (fun z => hs z.1)], rfl⟩
theorem k_element {g : Ev} {S : St} {iv : IV} {lw : LW} (hx : IsX S) {X : Xs} (hX : CX iv lw X) {s i : Int32} : CP g mX9_element [.ref 0, .int s, .int i] S iv lw (.long (o_element X s i)) := by
  by_cases hs : inR s 8
  · obtain ⟨j, hj, rfl⟩ := (inR_nI (by omega)).mp hs
    by_cases hr : rowQ (x_T X j) ∧ 0 ≤ i.toInt ∧ i.toInt < (x_T X j).2.1
    · exact k_element_yes hx hX hj hr
    · exact k_element_not hx hX hj hr
  · exact k_element_no hx hX hs
set_option maxRecDepth 20000 in
theorem k_nearest {g : Ev} {S : St} {iv : IV} {lw : LW} (hx : IsX S) {X : Xs} (hX : CX iv lw X) {s m what : Int32} : CQ g mX9_nearest [.ref (0), .int (s), .int (m), .int (what)] S iv lw (fun w iv2 lw2 => OP iv lw (o_nearest X s m what) w iv2 lw2) := by
  refine CT_ofQ rfl (by decide) (Nat.le_of_ble_eq_true rfl) (lv := [(0, .ref (0)), (1, .int (s)), (2, .int (m)), (3, .int (what))]) rfl (fun Q hQ => ?_)
  have hA := hX.1
  have hnc := hA.ok.nc
  have hne := hA.ok.ne
  have hnm := hA.ok.nm
  refine V_aload_n (i := 0) dX9_nearest_0 rfl 0 rfl ?_
  refine V_iload_n (i := 1) dX9_nearest_1 rfl 1 rfl ?_
  refine V_iload_n (i := 2) dX9_nearest_2 rfl 2 rfl ?_
  refine V_iconst (v := nI 1) dX9_nearest_3 rfl ?_
  refine V_iload_n (i := 3) dX9_nearest_4 rfl 3 rfl ?_
  refine V_if_eq (tgt := 13) dX9_nearest_5 rfl (fun h5 => ?_) (fun h5 => ?_)
  · have h5 : what.toInt = 0 := by have q := i_eq0.mp h5; exact q
    refine V_iconst (v := nI 1) dX9_nearest_13 rfl ?_
    refine V_goto (tgt := 18) dX9_nearest_14 rfl ?_
    refine M_callVq (As := [.int (s), .int (m), .int (nI 1), .int (nI 1)]) (st := []) dX9_nearest_18 lv_X9_250 ⟨by decide, by decide⟩ ⟨rfl, rfl⟩ rfl (ci := 6) hx.1 rfl rfl (Nat.le_of_ble_eq_true rfl) (t_takeHearing hx hX (s := s) (m := m) (P := what.toInt = 0 ∨ what.toInt = 1) ((bI_t (by omega)).symm) ((bI_t (show true = true from rfl)).symm)) (fun w18 iv18 lw18 q18 => ?_)
    obtain ⟨rfl, e1, hH, hO⟩ := q18
    subst e1
    have hA2 := hA.off hO (by omega)
    have hX2 : CX iv18 lw X := hX.aux (fun a ha => hO a (by omega)) (fun _ _ => rfl)
    refine V_istore (lv2 := [(4, .int (thA (thW X s m (what.toInt = 0 ∨ what.toInt = 1)))), (0, .ref (0)), (1, .int (s)), (2, .int (m)), (3, .int (what))]) dX9_nearest_21 (by decide) rfl ?_
    refine V_iload dX9_nearest_23 0 rfl ?_
    refine V_if_eq (tgt := 35) dX9_nearest_25 rfl (fun h25 => ?_) (fun h25 => ?_)
    · have hW : thW X s m (what.toInt = 0 ∨ what.toInt = 1) = none := thA_0.mp h25
      have hWn := thW_none hW
      have hXh := hH hW
      refine V_aload_n (i := 0) dX9_nearest_35 rfl 1 rfl ?_
      refine M_getR dX9_nearest_36 lf_X9_10 rfl hx.1 hx.2.1.1 ?_
      refine M_getI (x := nI (v_nc (x_A X))) dX9_nearest_39 lf_X9_281 rfl hx.2.1.2.1 (hA2.nc) ?_
      refine V_if_ne (tgt := 52) dX9_nearest_42 rfl (fun h42 => ?_) (fun h42 => ?_)
      · have h42 : ¬ (v_nc (x_A X)) = 0 := fun q => h42 ((nI_eq (b := 0) (by omega) (by omega)).mpr q)
        refine V_aload_n (i := 0) dX9_nearest_52 rfl 1 rfl ?_
        refine M_getR dX9_nearest_53 lf_X9_10 rfl hx.1 hx.2.1.1 ?_
        refine V_aload_n (i := 0) dX9_nearest_56 rfl 1 rfl ?_
        refine M_getR dX9_nearest_57 lf_X9_43 rfl hx.1 hx.2.2.2.2.2.1.1 ?_
        refine M_callSp (As := [.ref (1), .ref (47)]) (st := []) dX9_nearest_60 ls_X9_358 ⟨by decide, by decide⟩ ⟨rfl, rfl⟩ rfl (Nat.le_of_ble_eq_true rfl) (t_nearestCall hx.2.1.2 hA2 hx.2.2.2.2.2.1.2 hXh) ?_
        refine V_istore (lv2 := [(5, .int (oI (nrV (x_A X) (hrX X s m true)))), (4, .int (thA (thW X s m (what.toInt = 0 ∨ what.toInt = 1)))), (0, .ref (0)), (1, .int (s)), (2, .int (m)), (3, .int (what))]) dX9_nearest_63 (by decide) rfl ?_
        refine V_iload_n (i := 3) dX9_nearest_65 rfl 5 rfl ?_
        refine V_if_ne (tgt := 74) dX9_nearest_66 rfl (fun h66 => ?_) (fun h66 => ?_)
        · have h66 : ¬ what.toInt = 0 := fun r => h66 (i_eq0.mpr (by exact r))
          have hnr : nrV (x_A X) (hrX X s m true) ≠ none := by unfold nrV; exact bl_some (by omega)
          obtain ⟨p0, hp0⟩ := Option.ne_none_iff_exists'.mp hnr
          have hp1 : p0 < v_nc (x_A X) := bestLo_lt _ hp0
          refine M_at (lv2 := [(5, .int (nI p0)), (4, .int (thA (thW X s m (what.toInt = 0 ∨ what.toInt = 1)))), (0, .ref (0)), (1, .int (s)), (2, .int (m)), (3, .int (what))]) (st2 := []) ?_ (by rw [hp0]; rfl) rfl rfl rfl
          refine V_aload_n (i := 0) dX9_nearest_74 rfl 2 rfl ?_
          refine M_getR dX9_nearest_75 lf_X9_10 rfl hx.1 hx.2.1.1 ?_
          refine V_aload_n (i := 0) dX9_nearest_78 rfl 2 rfl ?_
          refine M_getR dX9_nearest_79 lf_X9_43 rfl hx.1 hx.2.2.2.2.2.1.1 ?_
          refine V_iload dX9_nearest_82 0 rfl ?_
          refine M_callSp (As := [.ref (1), .ref (47), .int (nI p0)]) (st := []) dX9_nearest_84 ls_X9_362 ⟨by decide, by decide⟩ ⟨rfl, rfl⟩ rfl (Nat.le_of_ble_eq_true rfl) (t_differences hx.2.1.2 hA2 hx.2.2.2.2.2.1.2 hXh (c := p0) (by omega)) ?_
          refine V_iret dX9_nearest_87 ⟨rfl, rfl⟩ (Nat.zero_le _) (Nat.zero_le _) ?_
          subst hQ
          exact ⟨_, _, _, rfl, rfl, by unfold o_nearest; rw [hW]; show OP _ _ (if v_nc (x_A X) = 0 then _ else _) _ _ _; rw [if_neg (by omega), if_neg (by omega), hp0]; exact OP.hear hX hO⟩
        · have h66 : what.toInt = 0 := by have q := i_eq0.mp h66; exact q
          refine V_iload dX9_nearest_69 0 rfl ?_
          refine V_goto (tgt := 87) dX9_nearest_71 rfl ?_
          refine V_iret dX9_nearest_87 ⟨rfl, rfl⟩ (Nat.zero_le _) (Nat.zero_le _) ?_
          subst hQ
          exact ⟨_, _, _, rfl, rfl, by unfold o_nearest; rw [hW]; show OP _ _ (if v_nc (x_A X) = 0 then _ else _) _ _ _; rw [if_neg (by omega), if_pos (by omega)]; exact OP.hear hX hO⟩
      · have h42 : (v_nc (x_A X)) = 0 := (nI_eq (b := 0) (by omega) (by omega)).mp h42
        refine V_aload_n (i := 0) dX9_nearest_45 rfl 1 rfl ?_
        refine V_bipush (v := (-5)) dX9_nearest_46 rfl ?_
        refine M_callVq (As := [.int ((-5))]) (st := []) dX9_nearest_48 lv_X9_69 ⟨by decide, by decide⟩ ⟨rfl, rfl⟩ rfl (ci := 6) hx.1 rfl rfl (Nat.le_of_ble_eq_true rfl) (t_refuse hx hX2 (j := 3) (by decide)) (fun w48 iv48 lw48 q48 => ?_)
        obtain ⟨rfl, e1, hXr, hOr⟩ := q48
        subst e1
        refine V_iret dX9_nearest_51 ⟨rfl, rfl⟩ (Nat.zero_le _) (Nat.zero_le _) ?_
        subst hQ
        exact ⟨_, _, _, rfl, rfl, by unfold o_nearest; rw [hW]; show OP _ _ (if v_nc (x_A X) = 0 then _ else _) _ _ _; rw [if_pos (by omega)]; exact ⟨rfl, hXr, (hO.wide (by omega) (by omega)).tr hOr, Off.rf⟩⟩
    · obtain ⟨k0, hk0⟩ := Option.ne_none_iff_exists'.mp (fun z => h25 (thA_0.mpr z))
      refine V_aload_n (i := 0) dX9_nearest_28 rfl 1 rfl ?_
      refine V_iload dX9_nearest_29 0 rfl ?_
      refine M_callVq (As := [.int (thA (thW X s m (what.toInt = 0 ∨ what.toInt = 1)))]) (st := []) dX9_nearest_31 lv_X9_69 ⟨by decide, by decide⟩ ⟨rfl, rfl⟩ rfl (ci := 6) hx.1 rfl rfl (Nat.le_of_ble_eq_true rfl) ((show CQ g mX9_refuse [.ref 0, .int (thA (thW X s m (what.toInt = 0 ∨ what.toInt = 1)))] S iv18 lw _ from by rw [hk0]; exact t_refuse hx hX2 (j := k0) (thW_lt hk0))) (fun w31 iv31 lw31 q31 => ?_)
      obtain ⟨rfl, e1, hXr, hOr⟩ := q31
      subst e1
      refine V_iret dX9_nearest_34 ⟨rfl, rfl⟩ (Nat.zero_le _) (Nat.zero_le _) ?_
      subst hQ
      exact ⟨_, _, _, rfl, rfl, by unfold o_nearest; rw [hk0]; exact ⟨rfl, hXr, (hO.wide (by omega) (by omega)).tr hOr, Off.rf⟩⟩
  · have h5 : ¬ what.toInt = 0 := fun r => h5 (i_eq0.mpr (by exact r))
    refine V_iload_n (i := 3) dX9_nearest_8 rfl 3 rfl ?_
    refine V_iconst (v := nI 1) dX9_nearest_9 rfl ?_
    refine V_icmp_ne (tgt := 17) dX9_nearest_10 rfl (fun h10 => ?_) (fun h10 => ?_)
    · have h10 : ¬ what.toInt = (1 : Int) := fun r => h10 (i_eqq.mpr (by rw [nI_toInt (n := 1) (by omega)]; exact r))
      refine V_iconst (v := nI 0) dX9_nearest_17 rfl ?_
      refine M_callVq (As := [.int (s), .int (m), .int (nI 1), .int (nI 0)]) (st := []) dX9_nearest_18 lv_X9_250 ⟨by decide, by decide⟩ ⟨rfl, rfl⟩ rfl (ci := 6) hx.1 rfl rfl (Nat.le_of_ble_eq_true rfl) (t_takeHearing hx hX (s := s) (m := m) (P := what.toInt = 0 ∨ what.toInt = 1) ((bI_f (by omega)).symm) ((bI_t (show true = true from rfl)).symm)) (fun w18 iv18 lw18 q18 => ?_)
      obtain ⟨rfl, e1, hH, hO⟩ := q18
      subst e1
      have hA2 := hA.off hO (by omega)
      have hX2 : CX iv18 lw X := hX.aux (fun a ha => hO a (by omega)) (fun _ _ => rfl)
      refine V_istore (lv2 := [(4, .int (thA (thW X s m (what.toInt = 0 ∨ what.toInt = 1)))), (0, .ref (0)), (1, .int (s)), (2, .int (m)), (3, .int (what))]) dX9_nearest_21 (by decide) rfl ?_
      refine V_iload dX9_nearest_23 0 rfl ?_
      refine V_if_eq (tgt := 35) dX9_nearest_25 rfl (fun h25 => ?_) (fun h25 => ?_)
      · have hW : thW X s m (what.toInt = 0 ∨ what.toInt = 1) = none := thA_0.mp h25
        have hWn := thW_none hW
        have hXh := hH hW
        refine V_aload_n (i := 0) dX9_nearest_35 rfl 1 rfl ?_
        refine M_getR dX9_nearest_36 lf_X9_10 rfl hx.1 hx.2.1.1 ?_
        refine M_getI (x := nI (v_nc (x_A X))) dX9_nearest_39 lf_X9_281 rfl hx.2.1.2.1 (hA2.nc) ?_
        refine V_if_ne (tgt := 52) dX9_nearest_42 rfl (fun h42 => ?_) (fun h42 => ?_)
        · have h42 : ¬ (v_nc (x_A X)) = 0 := fun q => h42 ((nI_eq (b := 0) (by omega) (by omega)).mpr q)
          refine V_aload_n (i := 0) dX9_nearest_52 rfl 1 rfl ?_
          refine M_getR dX9_nearest_53 lf_X9_10 rfl hx.1 hx.2.1.1 ?_
          refine V_aload_n (i := 0) dX9_nearest_56 rfl 1 rfl ?_
          refine M_getR dX9_nearest_57 lf_X9_43 rfl hx.1 hx.2.2.2.2.2.1.1 ?_
          refine M_callSp (As := [.ref (1), .ref (47)]) (st := []) dX9_nearest_60 ls_X9_358 ⟨by decide, by decide⟩ ⟨rfl, rfl⟩ rfl (Nat.le_of_ble_eq_true rfl) (t_nearestCall hx.2.1.2 hA2 hx.2.2.2.2.2.1.2 hXh) ?_
          refine V_istore (lv2 := [(5, .int (oI (nrV (x_A X) (hrX X s m true)))), (4, .int (thA (thW X s m (what.toInt = 0 ∨ what.toInt = 1)))), (0, .ref (0)), (1, .int (s)), (2, .int (m)), (3, .int (what))]) dX9_nearest_63 (by decide) rfl ?_
          refine V_iload_n (i := 3) dX9_nearest_65 rfl 5 rfl ?_
          refine V_if_ne (tgt := 74) dX9_nearest_66 rfl (fun h66 => ?_) (fun h66 => ?_)
          · have h66 : ¬ what.toInt = 0 := fun r => h66 (i_eq0.mpr (by exact r))
            have hnr : nrV (x_A X) (hrX X s m true) ≠ none := by unfold nrV; exact bl_some (by omega)
            obtain ⟨p0, hp0⟩ := Option.ne_none_iff_exists'.mp hnr
            have hp1 : p0 < v_nc (x_A X) := bestLo_lt _ hp0
            refine M_at (lv2 := [(5, .int (nI p0)), (4, .int (thA (thW X s m (what.toInt = 0 ∨ what.toInt = 1)))), (0, .ref (0)), (1, .int (s)), (2, .int (m)), (3, .int (what))]) (st2 := []) ?_ (by rw [hp0]; rfl) rfl rfl rfl
            refine V_aload_n (i := 0) dX9_nearest_74 rfl 2 rfl ?_
            refine M_getR dX9_nearest_75 lf_X9_10 rfl hx.1 hx.2.1.1 ?_
            refine V_aload_n (i := 0) dX9_nearest_78 rfl 2 rfl ?_
            refine M_getR dX9_nearest_79 lf_X9_43 rfl hx.1 hx.2.2.2.2.2.1.1 ?_
            refine V_iload dX9_nearest_82 0 rfl ?_
            refine M_callSp (As := [.ref (1), .ref (47), .int (nI p0)]) (st := []) dX9_nearest_84 ls_X9_362 ⟨by decide, by decide⟩ ⟨rfl, rfl⟩ rfl (Nat.le_of_ble_eq_true rfl) (t_differences hx.2.1.2 hA2 hx.2.2.2.2.2.1.2 hXh (c := p0) (by omega)) ?_
            refine V_iret dX9_nearest_87 ⟨rfl, rfl⟩ (Nat.zero_le _) (Nat.zero_le _) ?_
            subst hQ
            exact ⟨_, _, _, rfl, rfl, by unfold o_nearest; rw [hW]; show OP _ _ (if v_nc (x_A X) = 0 then _ else _) _ _ _; rw [if_neg (by omega), if_neg (by omega), hp0]; exact OP.hear hX hO⟩
          · have h66 : what.toInt = 0 := by have q := i_eq0.mp h66; exact q
            refine V_iload dX9_nearest_69 0 rfl ?_
            refine V_goto (tgt := 87) dX9_nearest_71 rfl ?_
            refine V_iret dX9_nearest_87 ⟨rfl, rfl⟩ (Nat.zero_le _) (Nat.zero_le _) ?_
            subst hQ
            exact ⟨_, _, _, rfl, rfl, by unfold o_nearest; rw [hW]; show OP _ _ (if v_nc (x_A X) = 0 then _ else _) _ _ _; rw [if_neg (by omega), if_pos (by omega)]; exact OP.hear hX hO⟩
        · have h42 : (v_nc (x_A X)) = 0 := (nI_eq (b := 0) (by omega) (by omega)).mp h42
          refine V_aload_n (i := 0) dX9_nearest_45 rfl 1 rfl ?_
          refine V_bipush (v := (-5)) dX9_nearest_46 rfl ?_
          refine M_callVq (As := [.int ((-5))]) (st := []) dX9_nearest_48 lv_X9_69 ⟨by decide, by decide⟩ ⟨rfl, rfl⟩ rfl (ci := 6) hx.1 rfl rfl (Nat.le_of_ble_eq_true rfl) (t_refuse hx hX2 (j := 3) (by decide)) (fun w48 iv48 lw48 q48 => ?_)
          obtain ⟨rfl, e1, hXr, hOr⟩ := q48
          subst e1
          refine V_iret dX9_nearest_51 ⟨rfl, rfl⟩ (Nat.zero_le _) (Nat.zero_le _) ?_
          subst hQ
          exact ⟨_, _, _, rfl, rfl, by unfold o_nearest; rw [hW]; show OP _ _ (if v_nc (x_A X) = 0 then _ else _) _ _ _; rw [if_pos (by omega)]; exact ⟨rfl, hXr, (hO.wide (by omega) (by omega)).tr hOr, Off.rf⟩⟩
      · obtain ⟨k0, hk0⟩ := Option.ne_none_iff_exists'.mp (fun z => h25 (thA_0.mpr z))
        refine V_aload_n (i := 0) dX9_nearest_28 rfl 1 rfl ?_
        refine V_iload dX9_nearest_29 0 rfl ?_
        refine M_callVq (As := [.int (thA (thW X s m (what.toInt = 0 ∨ what.toInt = 1)))]) (st := []) dX9_nearest_31 lv_X9_69 ⟨by decide, by decide⟩ ⟨rfl, rfl⟩ rfl (ci := 6) hx.1 rfl rfl (Nat.le_of_ble_eq_true rfl) ((show CQ g mX9_refuse [.ref 0, .int (thA (thW X s m (what.toInt = 0 ∨ what.toInt = 1)))] S iv18 lw _ from by rw [hk0]; exact t_refuse hx hX2 (j := k0) (thW_lt hk0))) (fun w31 iv31 lw31 q31 => ?_)
        obtain ⟨rfl, e1, hXr, hOr⟩ := q31
        subst e1
        refine V_iret dX9_nearest_34 ⟨rfl, rfl⟩ (Nat.zero_le _) (Nat.zero_le _) ?_
        subst hQ
        exact ⟨_, _, _, rfl, rfl, by unfold o_nearest; rw [hk0]; exact ⟨rfl, hXr, (hO.wide (by omega) (by omega)).tr hOr, Off.rf⟩⟩
    · have h10 : what.toInt = (1 : Int) := by have q := i_eqq.mp h10; rw [nI_toInt (n := 1) (by omega)] at q; exact q
      refine V_iconst (v := nI 1) dX9_nearest_13 rfl ?_
      refine V_goto (tgt := 18) dX9_nearest_14 rfl ?_
      refine M_callVq (As := [.int (s), .int (m), .int (nI 1), .int (nI 1)]) (st := []) dX9_nearest_18 lv_X9_250 ⟨by decide, by decide⟩ ⟨rfl, rfl⟩ rfl (ci := 6) hx.1 rfl rfl (Nat.le_of_ble_eq_true rfl) (t_takeHearing hx hX (s := s) (m := m) (P := what.toInt = 0 ∨ what.toInt = 1) ((bI_t (by omega)).symm) ((bI_t (show true = true from rfl)).symm)) (fun w18 iv18 lw18 q18 => ?_)
      obtain ⟨rfl, e1, hH, hO⟩ := q18
      subst e1
      have hA2 := hA.off hO (by omega)
      have hX2 : CX iv18 lw X := hX.aux (fun a ha => hO a (by omega)) (fun _ _ => rfl)
      refine V_istore (lv2 := [(4, .int (thA (thW X s m (what.toInt = 0 ∨ what.toInt = 1)))), (0, .ref (0)), (1, .int (s)), (2, .int (m)), (3, .int (what))]) dX9_nearest_21 (by decide) rfl ?_
      refine V_iload dX9_nearest_23 0 rfl ?_
      refine V_if_eq (tgt := 35) dX9_nearest_25 rfl (fun h25 => ?_) (fun h25 => ?_)
      · have hW : thW X s m (what.toInt = 0 ∨ what.toInt = 1) = none := thA_0.mp h25
        have hWn := thW_none hW
        have hXh := hH hW
        refine V_aload_n (i := 0) dX9_nearest_35 rfl 1 rfl ?_
        refine M_getR dX9_nearest_36 lf_X9_10 rfl hx.1 hx.2.1.1 ?_
        refine M_getI (x := nI (v_nc (x_A X))) dX9_nearest_39 lf_X9_281 rfl hx.2.1.2.1 (hA2.nc) ?_
        refine V_if_ne (tgt := 52) dX9_nearest_42 rfl (fun h42 => ?_) (fun h42 => ?_)
        · have h42 : ¬ (v_nc (x_A X)) = 0 := fun q => h42 ((nI_eq (b := 0) (by omega) (by omega)).mpr q)
          refine V_aload_n (i := 0) dX9_nearest_52 rfl 1 rfl ?_
          refine M_getR dX9_nearest_53 lf_X9_10 rfl hx.1 hx.2.1.1 ?_
          refine V_aload_n (i := 0) dX9_nearest_56 rfl 1 rfl ?_
          refine M_getR dX9_nearest_57 lf_X9_43 rfl hx.1 hx.2.2.2.2.2.1.1 ?_
          refine M_callSp (As := [.ref (1), .ref (47)]) (st := []) dX9_nearest_60 ls_X9_358 ⟨by decide, by decide⟩ ⟨rfl, rfl⟩ rfl (Nat.le_of_ble_eq_true rfl) (t_nearestCall hx.2.1.2 hA2 hx.2.2.2.2.2.1.2 hXh) ?_
          refine V_istore (lv2 := [(5, .int (oI (nrV (x_A X) (hrX X s m true)))), (4, .int (thA (thW X s m (what.toInt = 0 ∨ what.toInt = 1)))), (0, .ref (0)), (1, .int (s)), (2, .int (m)), (3, .int (what))]) dX9_nearest_63 (by decide) rfl ?_
          refine V_iload_n (i := 3) dX9_nearest_65 rfl 5 rfl ?_
          refine V_if_ne (tgt := 74) dX9_nearest_66 rfl (fun h66 => ?_) (fun h66 => ?_)
          · have h66 : ¬ what.toInt = 0 := fun r => h66 (i_eq0.mpr (by exact r))
            have hnr : nrV (x_A X) (hrX X s m true) ≠ none := by unfold nrV; exact bl_some (by omega)
            obtain ⟨p0, hp0⟩ := Option.ne_none_iff_exists'.mp hnr
            have hp1 : p0 < v_nc (x_A X) := bestLo_lt _ hp0
            refine M_at (lv2 := [(5, .int (nI p0)), (4, .int (thA (thW X s m (what.toInt = 0 ∨ what.toInt = 1)))), (0, .ref (0)), (1, .int (s)), (2, .int (m)), (3, .int (what))]) (st2 := []) ?_ (by rw [hp0]; rfl) rfl rfl rfl
            refine V_aload_n (i := 0) dX9_nearest_74 rfl 2 rfl ?_
            refine M_getR dX9_nearest_75 lf_X9_10 rfl hx.1 hx.2.1.1 ?_
            refine V_aload_n (i := 0) dX9_nearest_78 rfl 2 rfl ?_
            refine M_getR dX9_nearest_79 lf_X9_43 rfl hx.1 hx.2.2.2.2.2.1.1 ?_
            refine V_iload dX9_nearest_82 0 rfl ?_
            refine M_callSp (As := [.ref (1), .ref (47), .int (nI p0)]) (st := []) dX9_nearest_84 ls_X9_362 ⟨by decide, by decide⟩ ⟨rfl, rfl⟩ rfl (Nat.le_of_ble_eq_true rfl) (t_differences hx.2.1.2 hA2 hx.2.2.2.2.2.1.2 hXh (c := p0) (by omega)) ?_
            refine V_iret dX9_nearest_87 ⟨rfl, rfl⟩ (Nat.zero_le _) (Nat.zero_le _) ?_
            subst hQ
            exact ⟨_, _, _, rfl, rfl, by unfold o_nearest; rw [hW]; show OP _ _ (if v_nc (x_A X) = 0 then _ else _) _ _ _; rw [if_neg (by omega), if_neg (by omega), hp0]; exact OP.hear hX hO⟩
          · have h66 : what.toInt = 0 := by have q := i_eq0.mp h66; exact q
            refine V_iload dX9_nearest_69 0 rfl ?_
            refine V_goto (tgt := 87) dX9_nearest_71 rfl ?_
            refine V_iret dX9_nearest_87 ⟨rfl, rfl⟩ (Nat.zero_le _) (Nat.zero_le _) ?_
            subst hQ
            exact ⟨_, _, _, rfl, rfl, by unfold o_nearest; rw [hW]; show OP _ _ (if v_nc (x_A X) = 0 then _ else _) _ _ _; rw [if_neg (by omega), if_pos (by omega)]; exact OP.hear hX hO⟩
        · have h42 : (v_nc (x_A X)) = 0 := (nI_eq (b := 0) (by omega) (by omega)).mp h42
          refine V_aload_n (i := 0) dX9_nearest_45 rfl 1 rfl ?_
          refine V_bipush (v := (-5)) dX9_nearest_46 rfl ?_
          refine M_callVq (As := [.int ((-5))]) (st := []) dX9_nearest_48 lv_X9_69 ⟨by decide, by decide⟩ ⟨rfl, rfl⟩ rfl (ci := 6) hx.1 rfl rfl (Nat.le_of_ble_eq_true rfl) (t_refuse hx hX2 (j := 3) (by decide)) (fun w48 iv48 lw48 q48 => ?_)
          obtain ⟨rfl, e1, hXr, hOr⟩ := q48
          subst e1
          refine V_iret dX9_nearest_51 ⟨rfl, rfl⟩ (Nat.zero_le _) (Nat.zero_le _) ?_
          subst hQ
          exact ⟨_, _, _, rfl, rfl, by unfold o_nearest; rw [hW]; show OP _ _ (if v_nc (x_A X) = 0 then _ else _) _ _ _; rw [if_pos (by omega)]; exact ⟨rfl, hXr, (hO.wide (by omega) (by omega)).tr hOr, Off.rf⟩⟩
      · obtain ⟨k0, hk0⟩ := Option.ne_none_iff_exists'.mp (fun z => h25 (thA_0.mpr z))
        refine V_aload_n (i := 0) dX9_nearest_28 rfl 1 rfl ?_
        refine V_iload dX9_nearest_29 0 rfl ?_
        refine M_callVq (As := [.int (thA (thW X s m (what.toInt = 0 ∨ what.toInt = 1)))]) (st := []) dX9_nearest_31 lv_X9_69 ⟨by decide, by decide⟩ ⟨rfl, rfl⟩ rfl (ci := 6) hx.1 rfl rfl (Nat.le_of_ble_eq_true rfl) ((show CQ g mX9_refuse [.ref 0, .int (thA (thW X s m (what.toInt = 0 ∨ what.toInt = 1)))] S iv18 lw _ from by rw [hk0]; exact t_refuse hx hX2 (j := k0) (thW_lt hk0))) (fun w31 iv31 lw31 q31 => ?_)
        obtain ⟨rfl, e1, hXr, hOr⟩ := q31
        subst e1
        refine V_iret dX9_nearest_34 ⟨rfl, rfl⟩ (Nat.zero_le _) (Nat.zero_le _) ?_
        subst hQ
        exact ⟨_, _, _, rfl, rfl, by unfold o_nearest; rw [hk0]; exact ⟨rfl, hXr, (hO.wide (by omega) (by omega)).tr hOr, Off.rf⟩⟩
