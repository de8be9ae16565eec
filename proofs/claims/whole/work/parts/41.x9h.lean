/-! says -/
set_option maxRecDepth 20000 in
theorem k_says_in {g : Ev} {S : St} {iv : IV} {lw : LW} (hx : IsX S) {X : Xs} (hX : CX iv lw X) {j : Nat} (hj : j < 8) {k : Int32} : CQ g mX9_says [.ref (0), .int (nI j), .int (k)] S iv lw (fun w iv2 lw2 => OP iv lw (o_says X (nI j) k) w iv2 lw2) := by
  refine CT_ofQ rfl (by decide) (Nat.le_of_ble_eq_true rfl) (lv := [(0, .ref (0)), (1, .int (nI j)), (2, .int (k))]) rfl (fun Q hQ => ?_)
  have hA := hX.1
  have hnc := hA.ok.nc
  have hne := hA.ok.ne
  have hnm := hA.ok.nm
  have hTj := hX.2.2.2.1 j hj
  have hjn : iN (nI j) = j := iN_nI (by omega)
  have h8 := in8 hj
  have hk := hTj.1.1
  have hk2 := hTj.1.2.1
  have hk3 := hTj.1.2.2
  refine V_aload_n (i := 0) dX9_says_0 rfl 0 rfl ?_
  refine V_iload_n (i := 1) dX9_says_1 rfl 1 rfl ?_
  refine M_callVp (As := [.int (nI j)]) (st := []) dX9_says_2 lv_X9_65 ⟨by decide, by decide⟩ ⟨rfl, rfl⟩ rfl (ci := 6) hx.1 rfl rfl (Nat.le_of_ble_eq_true rfl) (t_shelfAt_in hx hj) ?_
  refine V_astore_n (lv2 := [(3, .ref (29 + 2 * j)), (0, .ref (0)), (1, .int (nI j)), (2, .int (k))]) dX9_says_5 rfl (by decide) rfl ?_
  refine V_aload_n (i := 3) dX9_says_6 rfl 0 rfl ?_
  refine V_ifnull dX9_says_7 ?_
  refine V_iload_n (i := 2) dX9_says_10 rfl 3 rfl ?_
  refine M_callSp (As := [.int (k)]) (st := []) dX9_says_11 ls_X9_119 ⟨by decide, by decide⟩ ⟨rfl, rfl⟩ rfl (Nat.le_of_ble_eq_true rfl) (t_X3_isKind) ?_
  refine V_if_ne (tgt := 24) dX9_says_14 rfl (fun h14 => ?_) (fun h14 => ?_)
  · have h14 : (0 : Int) ≤ k.toInt ∧ k.toInt ≤ 5 := bI_ne.mp h14
    refine V_aload_n (i := 3) dX9_says_24 rfl 0 rfl ?_
    refine M_callVp (As := []) (st := []) dX9_says_25 lv_X9_93 ⟨by decide, by decide⟩ ⟨rfl, rfl⟩ rfl (ci := 4) (sh_ok hx hj).1 rfl rfl (Nat.le_of_ble_eq_true rfl) (t_hasRow (sh_ok hx hj) hTj) ?_
    refine V_if_eq (tgt := 38) dX9_says_28 rfl (fun h28 => ?_) (fun h28 => ?_)
    · have h28 : ¬ (rowQ (x_T X j)) := bI_eq0.mp h28
      refine V_aload_n (i := 3) dX9_says_38 rfl 0 rfl ?_
      refine M_callVp (As := []) (st := []) dX9_says_39 lv_X9_89 ⟨by decide, by decide⟩ ⟨rfl, rfl⟩ rfl (ci := 4) (sh_ok hx hj).1 rfl rfl (Nat.le_of_ble_eq_true rfl) (t_hasEar (sh_ok hx hj) hTj) ?_
      refine V_if_ne (tgt := 52) dX9_says_42 rfl (fun h42 => ?_) (fun h42 => ?_)
      · have h42 : earQ (x_T X j) := bI_ne.mp h42
        obtain ⟨e0, he0, hc0⟩ := hX.2.2.2.2.2.2 j hj h42
        have hen : iN ((x_T X j).1 - nI 10) = e0 := by rw [hc0, nI_sub (by omega), iN_nI (by omega)]; omega
        have hkd := hA.ok.kd (e := e0) he0
        have hby := hA.ok.by (e := e0) he0
        have ck := iN_eq (k := k) (by omega)
        have dk := iN_i (k := k) (by omega)
        refine M_at (lv2 := [(3, .ref (29 + 2 * j)), (0, .ref (0)), (1, .int (nI j)), (2, .int (nI (iN k)))]) (st2 := []) ?_ (by rw [← ck]) rfl rfl rfl
        refine V_aload_n (i := 0) dX9_says_52 rfl 1 rfl ?_
        refine M_getR dX9_says_53 lf_X9_10 rfl hx.1 hx.2.1.1 ?_
        refine V_aload_n (i := 3) dX9_says_56 rfl 0 rfl ?_
        refine M_callVp (As := []) (st := [.ref (1)]) dX9_says_57 lv_X9_124 ⟨by decide, by decide⟩ ⟨rfl, rfl⟩ rfl (ci := 4) (sh_ok hx hj).1 rfl rfl (Nat.le_of_ble_eq_true rfl) (t_earNumber (sh_ok hx hj) hTj (e := e0) (by omega) hc0) ?_
        refine M_callVp (As := [.int (nI e0)]) (st := []) dX9_says_60 lv_X9_127 ⟨by decide, by decide⟩ ⟨rfl, rfl⟩ rfl (ci := 0) hx.2.1.2.1 rfl rfl (Nat.le_of_ble_eq_true rfl) (t_X0_kindOf hx.2.1.2 hA (e := e0) he0) ?_
        refine V_istore (lv2 := [(4, .int (nI (v_kd (x_A X) e0))), (3, .ref (29 + 2 * j)), (0, .ref (0)), (1, .int (nI j)), (2, .int (nI (iN k)))]) dX9_says_63 (by decide) rfl ?_
        refine V_iload dX9_says_65 0 rfl ?_
        refine V_iload_n (i := 2) dX9_says_67 rfl 4 rfl ?_
        refine M_callSp (As := [.int (nI (v_kd (x_A X) e0)), .int (nI (iN k))]) (st := []) dX9_says_68 ls_X9_130 ⟨by decide, by decide⟩ ⟨rfl, rfl⟩ rfl (Nat.le_of_ble_eq_true rfl) (t_X3_isUnder (k := v_kd (x_A X) e0) (o := iN k) (by omega) (by omega)) ?_
        refine V_if_ne (tgt := 81) dX9_says_71 rfl (fun h71 => ?_) (fun h71 => ?_)
        · have h71 : v_kd (x_A X) e0 = iN k ∨ iN k = 0 ∨ (v_kd (x_A X) e0 = 3 ∧ iN k = 1) ∨ (v_kd (x_A X) e0 = 4 ∧ iN k = 2) := bI_ne.mp h71
          refine V_iload dX9_says_81 0 rfl ?_
          refine V_aload_n (i := 0) dX9_says_83 rfl 2 rfl ?_
          refine M_getR dX9_says_84 lf_X9_10 rfl hx.1 hx.2.1.1 ?_
          refine V_aload_n (i := 3) dX9_says_87 rfl 1 rfl ?_
          refine M_callVp (As := []) (st := [.ref (1), .int (nI (v_kd (x_A X) e0))]) dX9_says_88 lv_X9_124 ⟨by decide, by decide⟩ ⟨rfl, rfl⟩ rfl (ci := 4) (sh_ok hx hj).1 rfl rfl (Nat.le_of_ble_eq_true rfl) (t_earNumber (sh_ok hx hj) hTj (e := e0) (by omega) hc0) ?_
          refine M_callVp (As := [.int (nI e0)]) (st := [.int (nI (v_kd (x_A X) e0))]) dX9_says_91 lv_X9_133 ⟨by decide, by decide⟩ ⟨rfl, rfl⟩ rfl (ci := 0) hx.2.1.2.1 rfl rfl (Nat.le_of_ble_eq_true rfl) (t_X0_strengthOf hx.2.1.2 hA (e := e0) he0) ?_
          refine V_iload_n (i := 2) dX9_says_94 rfl 4 rfl ?_
          refine M_callSp (As := [.int (nI (v_kd (x_A X) e0)), .int (nI (v_by (x_A X) e0)), .int (nI (iN k))]) (st := []) dX9_says_95 ls_X9_136 ⟨by decide, by decide⟩ ⟨rfl, rfl⟩ rfl (Nat.le_of_ble_eq_true rfl) (t_X3_tellOf (k := v_kd (x_A X) e0) (a := v_by (x_A X) e0) (o := iN k) (by omega) (by omega) (by omega)) ?_
          refine V_iret dX9_says_98 ⟨rfl, rfl⟩ (Nat.zero_le _) (Nat.zero_le _) ?_
          subst hQ
          exact ⟨_, _, _, rfl, rfl, by unfold o_says; rw [hjn, if_neg (fun z => z ⟨h8, by omega, by omega⟩), if_neg h28, if_neg (fun z => z h42), hen, if_neg (show ¬ ¬ unQ (v_kd (x_A X) e0) (iN k) = true from fun z => z (decide_eq_true h71))]; exact OP.same hX⟩
        · have h71 : ¬ (v_kd (x_A X) e0 = iN k ∨ iN k = 0 ∨ (v_kd (x_A X) e0 = 3 ∧ iN k = 1) ∨ (v_kd (x_A X) e0 = 4 ∧ iN k = 2)) := bI_eq0.mp h71
          refine V_aload_n (i := 0) dX9_says_74 rfl 2 rfl ?_
          refine V_bipush (v := (-3)) dX9_says_75 rfl ?_
          refine M_callVq (As := [.int ((-3))]) (st := []) dX9_says_77 lv_X9_69 ⟨by decide, by decide⟩ ⟨rfl, rfl⟩ rfl (ci := 6) hx.1 rfl rfl (Nat.le_of_ble_eq_true rfl) (t_refuse hx hX (j := 1) (by decide)) (fun w77 iv77 lw77 q77 => ?_)
          obtain ⟨rfl, e1, hXr, hOr⟩ := q77
          subst e1
          refine V_iret dX9_says_80 ⟨rfl, rfl⟩ (Nat.zero_le _) (Nat.zero_le _) ?_
          subst hQ
          exact ⟨_, _, _, rfl, rfl, by unfold o_says; rw [hjn, if_neg (fun z => z ⟨h8, by omega, by omega⟩), if_neg h28, if_neg (fun z => z h42), hen, if_pos (show ¬ unQ (v_kd (x_A X) e0) (iN k) = true from fun z => h71 (of_decide_eq_true z))]; exact ⟨rfl, hXr, hOr, Off.rf⟩⟩
      · have h42 : ¬ (earQ (x_T X j)) := bI_eq0.mp h42
        refine V_aload_n (i := 0) dX9_says_45 rfl 1 rfl ?_
        refine V_bipush (v := (-4)) dX9_says_46 rfl ?_
        refine M_callVq (As := [.int ((-4))]) (st := []) dX9_says_48 lv_X9_69 ⟨by decide, by decide⟩ ⟨rfl, rfl⟩ rfl (ci := 6) hx.1 rfl rfl (Nat.le_of_ble_eq_true rfl) (t_refuse hx hX (j := 2) (by decide)) (fun w48 iv48 lw48 q48 => ?_)
        obtain ⟨rfl, e1, hXr, hOr⟩ := q48
        subst e1
        refine V_iret dX9_says_51 ⟨rfl, rfl⟩ (Nat.zero_le _) (Nat.zero_le _) ?_
        subst hQ
        exact ⟨_, _, _, rfl, rfl, by unfold o_says; rw [hjn, if_neg (fun z => z ⟨h8, by omega, by omega⟩), if_neg h28, if_pos h42]; exact ⟨rfl, hXr, hOr, Off.rf⟩⟩
    · have h28 : rowQ (x_T X j) := bI_ne.mp h28
      refine V_aload_n (i := 0) dX9_says_31 rfl 1 rfl ?_
      refine V_bipush (v := (-3)) dX9_says_32 rfl ?_
      refine M_callVq (As := [.int ((-3))]) (st := []) dX9_says_34 lv_X9_69 ⟨by decide, by decide⟩ ⟨rfl, rfl⟩ rfl (ci := 6) hx.1 rfl rfl (Nat.le_of_ble_eq_true rfl) (t_refuse hx hX (j := 1) (by decide)) (fun w34 iv34 lw34 q34 => ?_)
      obtain ⟨rfl, e1, hXr, hOr⟩ := q34
      subst e1
      refine V_iret dX9_says_37 ⟨rfl, rfl⟩ (Nat.zero_le _) (Nat.zero_le _) ?_
      subst hQ
      exact ⟨_, _, _, rfl, rfl, by unfold o_says; rw [hjn, if_neg (fun z => z ⟨h8, by omega, by omega⟩), if_pos h28]; exact ⟨rfl, hXr, hOr, Off.rf⟩⟩
  · have h14 : ¬ ((0 : Int) ≤ k.toInt ∧ k.toInt ≤ 5) := bI_eq0.mp h14
    refine V_aload_n (i := 0) dX9_says_17 rfl 1 rfl ?_
    refine V_bipush (v := (-2)) dX9_says_18 rfl ?_
    refine M_callVq (As := [.int ((-2))]) (st := []) dX9_says_20 lv_X9_69 ⟨by decide, by decide⟩ ⟨rfl, rfl⟩ rfl (ci := 6) hx.1 rfl rfl (Nat.le_of_ble_eq_true rfl) (t_refuse hx hX (j := 0) (by decide)) (fun w20 iv20 lw20 q20 => ?_)
    obtain ⟨rfl, e1, hXr, hOr⟩ := q20
    subst e1
    refine V_iret dX9_says_23 ⟨rfl, rfl⟩ (Nat.zero_le _) (Nat.zero_le _) ?_
    subst hQ
    exact ⟨_, _, _, rfl, rfl, by unfold o_says; rw [hjn, if_pos (by omega)]; exact ⟨rfl, hXr, hOr, Off.rf⟩⟩
set_option maxRecDepth 20000 in
theorem k_says_no {g : Ev} {S : St} {iv : IV} {lw : LW} (hx : IsX S) {X : Xs} (hX : CX iv lw X) {s : Int32} (hs : ¬ inR s 8) {k : Int32} : CQ g mX9_says [.ref (0), .int (s), .int (k)] S iv lw (fun w iv2 lw2 => OP iv lw (o_says X (s) k) w iv2 lw2) := by
  refine CT_ofQ rfl (by decide) (Nat.le_of_ble_eq_true rfl) (lv := [(0, .ref (0)), (1, .int (s)), (2, .int (k))]) rfl (fun Q hQ => ?_)
  have hA := hX.1
  have hnc := hA.ok.nc
  have hne := hA.ok.ne
  have hnm := hA.ok.nm
  refine V_aload_n (i := 0) dX9_says_0 rfl 0 rfl ?_
  refine V_iload_n (i := 1) dX9_says_1 rfl 1 rfl ?_
  refine M_callVp (As := [.int (s)]) (st := []) dX9_says_2 lv_X9_65 ⟨by decide, by decide⟩ ⟨rfl, rfl⟩ rfl (ci := 6) hx.1 rfl rfl (Nat.le_of_ble_eq_true rfl) (t_shelfAt_no hx hs) ?_
  refine V_astore_nN (lv2 := [(3, .null), (0, .ref (0)), (1, .int (s)), (2, .int (k))]) dX9_says_5 rfl (by decide) rfl ?_
  refine V_aload_nN (i := 3) dX9_says_6 rfl 0 rfl ?_
  refine V_ifnullN (tgt := 17) dX9_says_7 rfl ?_
  refine V_aload_n (i := 0) dX9_says_17 rfl 1 rfl ?_
  refine V_bipush (v := (-2)) dX9_says_18 rfl ?_
  refine M_callVq (As := [.int ((-2))]) (st := []) dX9_says_20 lv_X9_69 ⟨by decide, by decide⟩ ⟨rfl, rfl⟩ rfl (ci := 6) hx.1 rfl rfl (Nat.le_of_ble_eq_true rfl) (t_refuse hx hX (j := 0) (by decide)) (fun w20 iv20 lw20 q20 => ?_)
  obtain ⟨rfl, e1, hXr, hOr⟩ := q20
  subst e1
  refine V_iret dX9_says_23 ⟨rfl, rfl⟩ (Nat.zero_le _) (Nat.zero_le _) ?_
  subst hQ
  exact ⟨_, _, _, rfl, rfl, by unfold o_says; rw [if_pos (fun z => hs z.1)]; exact ⟨rfl, hXr, hOr, Off.rf⟩⟩
theorem k_says {g : Ev} {S : St} {iv : IV} {lw : LW} (hx : IsX S) {X : Xs} (hX : CX iv lw X) {s : Int32} {k : Int32} : CQ g mX9_says [.ref (0), .int (s), .int (k)] S iv lw (fun w iv2 lw2 => OP iv lw (o_says X (s) k) w iv2 lw2) := by
  by_cases hs : inR s 8
  · obtain ⟨j, hj, rfl⟩ := (inR_nI (by omega)).mp hs
    exact k_says_in hx hX hj
  · exact k_says_no hx hX hs
