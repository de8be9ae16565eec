/-! what is asked of the class: shelves -/
theorem iN_nI {j : Nat} (h : j < 2 ^ 31) : iN (nI j) = j := by unfold iN; rw [nI_toInt h]; rfl
theorem in8 {j : Nat} (h : j < 8) : inR (nI j) 8 := (inR_nI (by omega)).mpr ⟨j, h, rfl⟩
def o_row (X : Xs) (s k m : Int32) : Ans := if ¬ (inR s 8 ∧ 0 ≤ k.toInt ∧ k.toInt < 5 ∧ 0 ≤ m.toInt ∧ m.toInt ≤ 40) then rfA X 0 else (nI 1, x_sT X (iN s) (nI (iN k), iN m, fun _ => lN 0))
def o_holds (X : Xs) (s : Int32) : Ans := (if inR s 8 then (x_T X (iN s)).1 else -1, X)
def o_set (X : Xs) (s i : Int32) (v : Int64) : Ans := if ¬ inR s 8 then rfA X 0 else if ¬ rowQ (x_T X (iN s)) then rfA X (whyJ (x_T X (iN s))) else if ¬ (0 ≤ i.toInt ∧ i.toInt < (x_T X (iN s)).2.1) then rfA X 0 else (nI 1, x_sT X (iN s) ((x_T X (iN s)).1, (x_T X (iN s)).2.1, fun q => if q = i.toNatClampNeg then fitL (x_T X (iN s)).1 v else (x_T X (iN s)).2.2 q))
def o_show (X : Xs) (s e : Int32) : Ans := if ¬ (inR s 8 ∧ (e = -1 ∨ inR e (v_ne (x_A X)))) then rfA X 0 else if e = -1 then (nI 1, x_sT X (iN s) (-1, 0, (x_T X (iN s)).2.2)) else (nI 1, x_sT X (iN s) (nI (10 + iN e), 0, (x_T X (iN s)).2.2))
def o_judge (X : Xs) (s m : Int32) : Ans := if ¬ (inR s 8 ∧ 0 ≤ m.toInt ∧ m.toInt ≤ 40) then rfA X 0 else if ¬ rowQ (x_T X (iN s)) then rfA X (whyJ (x_T X (iN s))) else if m.toInt ≤ (x_T X (iN s)).2.1 then (oI (ffO (fun i => !decide (ntQ ((x_T X (iN s)).2.2 i) ∨ ((x_T X (iN s)).2.2 i).toInt = 9)) (iN m)), X) else rfA X 0
def o_element (X : Xs) (s i : Int32) : Int64 := if inR s 8 ∧ rowQ (x_T X (iN s)) ∧ 0 ≤ i.toInt ∧ i.toInt < (x_T X (iN s)).2.1 then (x_T X (iN s)).2.2 i.toNatClampNeg else lN 0
set_option maxRecDepth 20000 in
theorem k_row_in {g : Ev} {S : St} {iv : IV} {lw : LW} (hx : IsX S) {X : Xs} (hX : CX iv lw X) {j : Nat} (hj : j < 8) {k : Int32} {m : Int32} : CQ g mX9_row [.ref (0), .int (nI j), .int (k), .int (m)] S iv lw (fun w iv2 lw2 => OP iv lw (o_row X (nI j) k m) w iv2 lw2) := by
  refine CT_ofQ rfl (by decide) (Nat.le_of_ble_eq_true rfl) (lv := [(0, .ref (0)), (1, .int (nI j)), (2, .int (k)), (3, .int (m))]) rfl (fun Q hQ => ?_)
  have hA := hX.1
  have hnc := hA.ok.nc
  have hne := hA.ok.ne
  have hnm := hA.ok.nm
  have hTj := hX.2.2.2.1 j hj
  have hjn : iN (nI j) = j := iN_nI (by omega)
  have h8 := in8 hj
  have hk := hTj.1.1
  have hk2 := hTj.1.2.1
  have hk3 := hTj.1.2.2
  refine V_aload_n (i := 0) dX9_row_0 rfl 0 rfl ?_
  refine V_iload_n (i := 1) dX9_row_1 rfl 1 rfl ?_
  refine M_callVp (As := [.int (nI j)]) (st := []) dX9_row_2 lv_X9_65 ⟨by decide, by decide⟩ ⟨rfl, rfl⟩ rfl (ci := 6) hx.1 rfl rfl (Nat.le_of_ble_eq_true rfl) (t_shelfAt_in hx hj) ?_
  refine V_astore (lv2 := [(4, .ref (29 + 2 * j)), (0, .ref (0)), (1, .int (nI j)), (2, .int (k)), (3, .int (m))]) dX9_row_5 (by decide) rfl ?_
  refine V_aload dX9_row_7 0 rfl ?_
  refine V_ifnull dX9_row_9 ?_
  refine V_iload_n (i := 2) dX9_row_12 rfl 3 rfl ?_
  refine V_if_lt (tgt := 31) dX9_row_13 rfl (fun h13 => ?_) (fun h13 => ?_)
  · have h13 : k.toInt < 0 := by have q := i_neg.mp h13; exact q
    refine V_aload_n (i := 0) dX9_row_31 rfl 1 rfl ?_
    refine V_bipush (v := (-2)) dX9_row_32 rfl ?_
    refine M_callVq (As := [.int ((-2))]) (st := []) dX9_row_34 lv_X9_69 ⟨by decide, by decide⟩ ⟨rfl, rfl⟩ rfl (ci := 6) hx.1 rfl rfl (Nat.le_of_ble_eq_true rfl) (t_refuse hx hX (j := 0) (by decide)) (fun w34 iv34 lw34 q34 => ?_)
    obtain ⟨rfl, e1, hXr, hOr⟩ := q34
    subst e1
    refine V_iret dX9_row_37 ⟨rfl, rfl⟩ (Nat.zero_le _) (Nat.zero_le _) ?_
    subst hQ
    exact ⟨_, _, _, rfl, rfl, by unfold o_row; rw [hjn, if_pos (by omega)]; exact ⟨rfl, hXr, hOr, Off.rf⟩⟩
  · have h13 : ¬ k.toInt < 0 := fun r => h13 (i_neg.mpr (by exact r))
    refine V_iload_n (i := 2) dX9_row_16 rfl 3 rfl ?_
    refine V_iconst (v := nI 5) dX9_row_17 rfl ?_
    refine V_icmp_ge (tgt := 31) dX9_row_18 rfl (fun h18 => ?_) (fun h18 => ?_)
    · have h18 : (5 : Int) ≤ k.toInt := by have q := Int32.le_iff_toInt_le.mp h18; rw [nI_toInt (n := 5) (by omega)] at q; exact q
      refine V_aload_n (i := 0) dX9_row_31 rfl 1 rfl ?_
      refine V_bipush (v := (-2)) dX9_row_32 rfl ?_
      refine M_callVq (As := [.int ((-2))]) (st := []) dX9_row_34 lv_X9_69 ⟨by decide, by decide⟩ ⟨rfl, rfl⟩ rfl (ci := 6) hx.1 rfl rfl (Nat.le_of_ble_eq_true rfl) (t_refuse hx hX (j := 0) (by decide)) (fun w34 iv34 lw34 q34 => ?_)
      obtain ⟨rfl, e1, hXr, hOr⟩ := q34
      subst e1
      refine V_iret dX9_row_37 ⟨rfl, rfl⟩ (Nat.zero_le _) (Nat.zero_le _) ?_
      subst hQ
      exact ⟨_, _, _, rfl, rfl, by unfold o_row; rw [hjn, if_pos (by omega)]; exact ⟨rfl, hXr, hOr, Off.rf⟩⟩
    · have h18 : ¬ (5 : Int) ≤ k.toInt := fun r => h18 (Int32.le_iff_toInt_le.mpr (by rw [nI_toInt (n := 5) (by omega)]; exact r))
      refine V_iload_n (i := 3) dX9_row_21 rfl 4 rfl ?_
      refine V_if_lt (tgt := 31) dX9_row_22 rfl (fun h22 => ?_) (fun h22 => ?_)
      · have h22 : m.toInt < 0 := by have q := i_neg.mp h22; exact q
        refine V_aload_n (i := 0) dX9_row_31 rfl 1 rfl ?_
        refine V_bipush (v := (-2)) dX9_row_32 rfl ?_
        refine M_callVq (As := [.int ((-2))]) (st := []) dX9_row_34 lv_X9_69 ⟨by decide, by decide⟩ ⟨rfl, rfl⟩ rfl (ci := 6) hx.1 rfl rfl (Nat.le_of_ble_eq_true rfl) (t_refuse hx hX (j := 0) (by decide)) (fun w34 iv34 lw34 q34 => ?_)
        obtain ⟨rfl, e1, hXr, hOr⟩ := q34
        subst e1
        refine V_iret dX9_row_37 ⟨rfl, rfl⟩ (Nat.zero_le _) (Nat.zero_le _) ?_
        subst hQ
        exact ⟨_, _, _, rfl, rfl, by unfold o_row; rw [hjn, if_pos (by omega)]; exact ⟨rfl, hXr, hOr, Off.rf⟩⟩
      · have h22 : ¬ m.toInt < 0 := fun r => h22 (i_neg.mpr (by exact r))
        refine V_iload_n (i := 3) dX9_row_25 rfl 4 rfl ?_
        refine V_bipush (v := nI 40) dX9_row_26 rfl ?_
        refine V_icmp_le (tgt := 38) dX9_row_28 rfl (fun h28 => ?_) (fun h28 => ?_)
        · have h28 : m.toInt ≤ (40 : Int) := by have q := Int32.le_iff_toInt_le.mp h28; rw [nI_toInt (n := 40) (by omega)] at q; exact q
          have ck := iN_eq (k := k) (by omega)
          have cm := iN_eq (k := m) (by omega)
          have dk := iN_i (k := k) (by omega)
          have dm := iN_i (k := m) (by omega)
          refine M_at (lv2 := [(4, .ref (29 + 2 * j)), (0, .ref (0)), (1, .int (nI j)), (2, .int (nI (iN k))), (3, .int (nI (iN m)))]) (st2 := []) ?_ (by rw [← ck, ← cm]) rfl rfl rfl
          refine V_aload dX9_row_38 0 rfl ?_
          refine V_iload_n (i := 2) dX9_row_40 rfl 3 rfl ?_
          refine V_iload_n (i := 3) dX9_row_41 rfl 4 rfl ?_
          refine M_callVn (As := [.int (nI (iN k)), .int (nI (iN m))]) (st := []) dX9_row_42 lv_X9_73 ⟨by decide, by decide⟩ ⟨rfl, rfl⟩ rfl (ci := 4) (sh_ok hx hj).1 rfl rfl (Nat.le_of_ble_eq_true rfl) (t_putRow (sh_ok hx hj) hTj (k := iN k) (m := iN m) (by omega) (by omega)) (fun iv42 lw42 q42 => ?_)
          obtain ⟨hTn, hOn, hLn⟩ := q42
          have hXn := hX.shelf hj hTn hOn hLn (fun q => by have q2 : 10 ≤ (nI (iN k)).toInt := q; rw [nI_toInt (by omega)] at q2; omega)
          refine V_iconst (v := nI 1) dX9_row_45 rfl ?_
          refine V_iret dX9_row_46 ⟨rfl, rfl⟩ (Nat.zero_le _) (Nat.zero_le _) ?_
          subst hQ
          exact ⟨_, _, _, rfl, rfl, by unfold o_row; rw [hjn, if_neg (fun z => z ⟨h8, by omega, by omega, by omega, by omega⟩)]; exact ⟨rfl, hXn, hOn.wide (by omega) (by omega), hLn.wide (by omega) (by omega)⟩⟩
        · have h28 : ¬ m.toInt ≤ (40 : Int) := fun r => h28 (Int32.le_iff_toInt_le.mpr (by rw [nI_toInt (n := 40) (by omega)]; exact r))
          refine V_aload_n (i := 0) dX9_row_31 rfl 1 rfl ?_
          refine V_bipush (v := (-2)) dX9_row_32 rfl ?_
          refine M_callVq (As := [.int ((-2))]) (st := []) dX9_row_34 lv_X9_69 ⟨by decide, by decide⟩ ⟨rfl, rfl⟩ rfl (ci := 6) hx.1 rfl rfl (Nat.le_of_ble_eq_true rfl) (t_refuse hx hX (j := 0) (by decide)) (fun w34 iv34 lw34 q34 => ?_)
          obtain ⟨rfl, e1, hXr, hOr⟩ := q34
          subst e1
          refine V_iret dX9_row_37 ⟨rfl, rfl⟩ (Nat.zero_le _) (Nat.zero_le _) ?_
          subst hQ
          exact ⟨_, _, _, rfl, rfl, by unfold o_row; rw [hjn, if_pos (by omega)]; exact ⟨rfl, hXr, hOr, Off.rf⟩⟩
set_option maxRecDepth 20000 in
theorem k_row_no {g : Ev} {S : St} {iv : IV} {lw : LW} (hx : IsX S) {X : Xs} (hX : CX iv lw X) {s : Int32} (hs : ¬ inR s 8) {k : Int32} {m : Int32} : CQ g mX9_row [.ref (0), .int (s), .int (k), .int (m)] S iv lw (fun w iv2 lw2 => OP iv lw (o_row X (s) k m) w iv2 lw2) := by
  refine CT_ofQ rfl (by decide) (Nat.le_of_ble_eq_true rfl) (lv := [(0, .ref (0)), (1, .int (s)), (2, .int (k)), (3, .int (m))]) rfl (fun Q hQ => ?_)
  have hA := hX.1
  have hnc := hA.ok.nc
  have hne := hA.ok.ne
  have hnm := hA.ok.nm
  refine V_aload_n (i := 0) dX9_row_0 rfl 0 rfl ?_
  refine V_iload_n (i := 1) dX9_row_1 rfl 1 rfl ?_
  refine M_callVp (As := [.int (s)]) (st := []) dX9_row_2 lv_X9_65 ⟨by decide, by decide⟩ ⟨rfl, rfl⟩ rfl (ci := 6) hx.1 rfl rfl (Nat.le_of_ble_eq_true rfl) (t_shelfAt_no hx hs) ?_
  refine V_astoreN (lv2 := [(4, .null), (0, .ref (0)), (1, .int (s)), (2, .int (k)), (3, .int (m))]) dX9_row_5 (by decide) rfl ?_
  refine V_aloadN dX9_row_7 0 rfl ?_
  refine V_ifnullN (tgt := 31) dX9_row_9 rfl ?_
  refine V_aload_n (i := 0) dX9_row_31 rfl 1 rfl ?_
  refine V_bipush (v := (-2)) dX9_row_32 rfl ?_
  refine M_callVq (As := [.int ((-2))]) (st := []) dX9_row_34 lv_X9_69 ⟨by decide, by decide⟩ ⟨rfl, rfl⟩ rfl (ci := 6) hx.1 rfl rfl (Nat.le_of_ble_eq_true rfl) (t_refuse hx hX (j := 0) (by decide)) (fun w34 iv34 lw34 q34 => ?_)
  obtain ⟨rfl, e1, hXr, hOr⟩ := q34
  subst e1
  refine V_iret dX9_row_37 ⟨rfl, rfl⟩ (Nat.zero_le _) (Nat.zero_le _) ?_
  subst hQ
  exact ⟨_, _, _, rfl, rfl, by unfold o_row; rw [if_pos (fun z => hs z.1)]; exact ⟨rfl, hXr, hOr, Off.rf⟩⟩
theorem k_row {g : Ev} {S : St} {iv : IV} {lw : LW} (hx : IsX S) {X : Xs} (hX : CX iv lw X) {s : Int32} {k : Int32} {m : Int32} : CQ g mX9_row [.ref (0), .int (s), .int (k), .int (m)] S iv lw (fun w iv2 lw2 => OP iv lw (o_row X (s) k m) w iv2 lw2) := by
  by_cases hs : inR s 8
  · obtain ⟨j, hj, rfl⟩ := (inR_nI (by omega)).mp hs
    exact k_row_in hx hX hj
  · exact k_row_no hx hX hs
set_option maxRecDepth 20000 in
theorem k_holds_in {g : Ev} {S : St} {iv : IV} {lw : LW} (hx : IsX S) {X : Xs} (hX : CX iv lw X) {j : Nat} (hj : j < 8) : CQ g mX9_holds [.ref (0), .int (nI j)] S iv lw (fun w iv2 lw2 => OP iv lw (o_holds X (nI j)) w iv2 lw2) := by
  refine CT_ofQ rfl (by decide) (Nat.le_of_ble_eq_true rfl) (lv := [(0, .ref (0)), (1, .int (nI j))]) rfl (fun Q hQ => ?_)
  have hA := hX.1
  have hnc := hA.ok.nc
  have hne := hA.ok.ne
  have hnm := hA.ok.nm
  have hTj := hX.2.2.2.1 j hj
  have hjn : iN (nI j) = j := iN_nI (by omega)
  have h8 := in8 hj
  have hk := hTj.1.1
  have hk2 := hTj.1.2.1
  have hk3 := hTj.1.2.2
  refine V_aload_n (i := 0) dX9_holds_0 rfl 0 rfl ?_
  refine V_iload_n (i := 1) dX9_holds_1 rfl 1 rfl ?_
  refine M_callVp (As := [.int (nI j)]) (st := []) dX9_holds_2 lv_X9_65 ⟨by decide, by decide⟩ ⟨rfl, rfl⟩ rfl (ci := 6) hx.1 rfl rfl (Nat.le_of_ble_eq_true rfl) (t_shelfAt_in hx hj) ?_
  refine V_astore_n (lv2 := [(2, .ref (29 + 2 * j)), (0, .ref (0)), (1, .int (nI j))]) dX9_holds_5 rfl (by decide) rfl ?_
  refine V_aload_n (i := 2) dX9_holds_6 rfl 0 rfl ?_
  refine V_ifnonnull (tgt := 14) dX9_holds_7 rfl ?_
  refine V_aload_n (i := 2) dX9_holds_14 rfl 0 rfl ?_
  refine M_getI (x := (x_T X j).1) dX9_holds_15 lf_X9_96 rfl (sh_ok hx hj).1 (hTj.2.1) ?_
  refine V_iret dX9_holds_18 ⟨rfl, rfl⟩ (Nat.zero_le _) (Nat.zero_le _) ?_
  subst hQ
  exact ⟨_, _, _, rfl, rfl, by unfold o_holds; rw [hjn, if_pos h8]; exact OP.same hX⟩
set_option maxRecDepth 20000 in
theorem k_holds_no {g : Ev} {S : St} {iv : IV} {lw : LW} (hx : IsX S) {X : Xs} (hX : CX iv lw X) {s : Int32} (hs : ¬ inR s 8) : CQ g mX9_holds [.ref (0), .int (s)] S iv lw (fun w iv2 lw2 => OP iv lw (o_holds X (s)) w iv2 lw2) := by
  refine CT_ofQ rfl (by decide) (Nat.le_of_ble_eq_true rfl) (lv := [(0, .ref (0)), (1, .int (s))]) rfl (fun Q hQ => ?_)
  have hA := hX.1
  have hnc := hA.ok.nc
  have hne := hA.ok.ne
  have hnm := hA.ok.nm
  refine V_aload_n (i := 0) dX9_holds_0 rfl 0 rfl ?_
  refine V_iload_n (i := 1) dX9_holds_1 rfl 1 rfl ?_
  refine M_callVp (As := [.int (s)]) (st := []) dX9_holds_2 lv_X9_65 ⟨by decide, by decide⟩ ⟨rfl, rfl⟩ rfl (ci := 6) hx.1 rfl rfl (Nat.le_of_ble_eq_true rfl) (t_shelfAt_no hx hs) ?_
  refine V_astore_nN (lv2 := [(2, .null), (0, .ref (0)), (1, .int (s))]) dX9_holds_5 rfl (by decide) rfl ?_
  refine V_aload_nN (i := 2) dX9_holds_6 rfl 0 rfl ?_
  refine V_ifnonnullN dX9_holds_7 ?_
  refine V_iconst (v := (-1)) dX9_holds_10 rfl ?_
  refine V_goto (tgt := 18) dX9_holds_11 rfl ?_
  refine V_iret dX9_holds_18 ⟨rfl, rfl⟩ (Nat.zero_le _) (Nat.zero_le _) ?_
  subst hQ
  exact ⟨_, _, _, rfl, rfl, by unfold o_holds; rw [if_neg hs]; exact OP.same hX⟩
theorem k_holds {g : Ev} {S : St} {iv : IV} {lw : LW} (hx : IsX S) {X : Xs} (hX : CX iv lw X) {s : Int32} : CQ g mX9_holds [.ref (0), .int (s)] S iv lw (fun w iv2 lw2 => OP iv lw (o_holds X (s)) w iv2 lw2) := by
  by_cases hs : inR s 8
  · obtain ⟨j, hj, rfl⟩ := (inR_nI (by omega)).mp hs
    exact k_holds_in hx hX hj
  · exact k_holds_no hx hX hs
set_option maxRecDepth 20000 in
theorem k_set_in {g : Ev} {S : St} {iv : IV} {lw : LW} (hx : IsX S) {X : Xs} (hX : CX iv lw X) {j : Nat} (hj : j < 8) {i : Int32} {v : Int64} : CQ g mX9_set [.ref (0), .int (nI j), .int (i), .long (v)] S iv lw (fun w iv2 lw2 => OP iv lw (o_set X (nI j) i v) w iv2 lw2) := by
  refine CT_ofQ rfl (by decide) (Nat.le_of_ble_eq_true rfl) (lv := [(0, .ref (0)), (1, .int (nI j)), (2, .int (i)), (3, .long (v))]) rfl (fun Q hQ => ?_)
  have hA := hX.1
  have hnc := hA.ok.nc
  have hne := hA.ok.ne
  have hnm := hA.ok.nm
  have hTj := hX.2.2.2.1 j hj
  have hjn : iN (nI j) = j := iN_nI (by omega)
  have h8 := in8 hj
  have hk := hTj.1.1
  have hk2 := hTj.1.2.1
  have hk3 := hTj.1.2.2
  refine V_aload_n (i := 0) dX9_set_0 rfl 0 rfl ?_
  refine V_iload_n (i := 1) dX9_set_1 rfl 1 rfl ?_
  refine M_callVp (As := [.int (nI j)]) (st := []) dX9_set_2 lv_X9_65 ⟨by decide, by decide⟩ ⟨rfl, rfl⟩ rfl (ci := 6) hx.1 rfl rfl (Nat.le_of_ble_eq_true rfl) (t_shelfAt_in hx hj) ?_
  refine V_astore (lv2 := [(5, .ref (29 + 2 * j)), (0, .ref (0)), (1, .int (nI j)), (2, .int (i)), (3, .long (v))]) dX9_set_5 (by decide) rfl ?_
  refine V_aload dX9_set_7 0 rfl ?_
  refine V_ifnonnull (tgt := 19) dX9_set_9 rfl ?_
  refine V_aload dX9_set_19 0 rfl ?_
  refine M_callVp (As := []) (st := []) dX9_set_21 lv_X9_77 ⟨by decide, by decide⟩ ⟨rfl, rfl⟩ rfl (ci := 4) (sh_ok hx hj).1 rfl rfl (Nat.le_of_ble_eq_true rfl) (t_whyNoRow (sh_ok hx hj) hTj) ?_
  refine V_istore (lv2 := [(6, .int (whyV (x_T X j))), (5, .ref (29 + 2 * j)), (0, .ref (0)), (1, .int (nI j)), (2, .int (i)), (3, .long (v))]) dX9_set_24 (by decide) rfl ?_
  refine V_iload dX9_set_26 0 rfl ?_
  refine V_if_eq (tgt := 38) dX9_set_28 rfl (fun h28 => ?_) (fun h28 => ?_)
  · have hrw : rowQ (x_T X j) := whyV_0.mp h28
    refine V_aload dX9_set_38 1 rfl ?_
    refine V_iload_n (i := 2) dX9_set_40 rfl 4 rfl ?_
    refine V_iconst (v := nI 1) dX9_set_41 rfl ?_
    have h1t : (nI 1).toInt = 1 := rfl
    refine M_callVp (As := [.int (i), .int (nI 1)]) (st := []) dX9_set_42 lv_X9_81 ⟨by decide, by decide⟩ ⟨rfl, rfl⟩ rfl (ci := 4) (sh_ok hx hj).1 rfl rfl (Nat.le_of_ble_eq_true rfl) (t_hasPlaces (sh_ok hx hj) hTj (i := i) (m := nI 1)) ?_
    refine V_if_ne (tgt := 55) dX9_set_45 rfl (fun h45 => ?_) (fun h45 => ?_)
    · have h45 : plQ (x_T X j) i (nI 1) := bI_ne.mp h45
      have h45i : 0 ≤ i.toInt ∧ i.toInt < (x_T X j).2.1 := ⟨h45.1, by have := h45.2.2.2; rw [h1t] at this; omega⟩
      refine V_aload dX9_set_55 1 rfl ?_
      refine V_iload_n (i := 2) dX9_set_57 rfl 4 rfl ?_
      refine V_lload_n (i := 3) dX9_set_58 rfl 5 rfl ?_
      refine M_callVn (As := [.int (i), .long (v)]) (st := []) dX9_set_59 lv_X9_85 ⟨by decide, by decide⟩ ⟨rfl, rfl⟩ rfl (ci := 4) (sh_ok hx hj).1 rfl rfl (Nat.le_of_ble_eq_true rfl) (t_putElement (sh_ok hx hj) hTj (i := i) (v := v) h45i) (fun iv59 lw59 q59 => ?_)
      obtain ⟨rfl, rfl⟩ := q59
      have hXn := hX.shelf hj (xs_put (j := i.toNatClampNeg) (v := fitL (x_T X j).1 v) hTj) Off.rf (Off.rf.up (by omega) (by omega)) (hX.2.2.2.2.2.2 j hj)
      refine V_iconst (v := nI 1) dX9_set_62 rfl ?_
      refine V_iret dX9_set_63 ⟨rfl, rfl⟩ (Nat.zero_le _) (Nat.zero_le _) ?_
      subst hQ
      exact ⟨_, _, _, rfl, rfl, by unfold o_set; rw [hjn, if_neg (fun z => z h8), if_neg (fun z => z hrw), if_neg (fun z => z h45i)]; exact ⟨rfl, hXn, Off.rf, Off.rf.up (by omega) (by omega)⟩⟩
    · have h45 : ¬ (plQ (x_T X j) i (nI 1)) := bI_eq0.mp h45
      have h45i : ¬ (0 ≤ i.toInt ∧ i.toInt < (x_T X j).2.1) := fun z => h45 ⟨z.1, by rw [h1t]; omega, by rw [h1t]; omega, by rw [h1t]; omega⟩
      refine V_aload_n (i := 0) dX9_set_48 rfl 2 rfl ?_
      refine V_bipush (v := (-2)) dX9_set_49 rfl ?_
      refine M_callVq (As := [.int ((-2))]) (st := []) dX9_set_51 lv_X9_69 ⟨by decide, by decide⟩ ⟨rfl, rfl⟩ rfl (ci := 6) hx.1 rfl rfl (Nat.le_of_ble_eq_true rfl) (t_refuse hx hX (j := 0) (by decide)) (fun w51 iv51 lw51 q51 => ?_)
      obtain ⟨rfl, e1, hXr, hOr⟩ := q51
      subst e1
      refine V_iret dX9_set_54 ⟨rfl, rfl⟩ (Nat.zero_le _) (Nat.zero_le _) ?_
      subst hQ
      exact ⟨_, _, _, rfl, rfl, by unfold o_set; rw [hjn, if_neg (fun z => z h8), if_neg (fun z => z hrw), if_pos h45i]; exact ⟨rfl, hXr, hOr, Off.rf⟩⟩
  · have hrw : ¬ rowQ (x_T X j) := fun z => h28 (whyV_0.mpr z)
    refine V_aload_n (i := 0) dX9_set_31 rfl 2 rfl ?_
    refine V_iload dX9_set_32 0 rfl ?_
    refine M_callVq (As := [.int (whyV (x_T X j))]) (st := []) dX9_set_34 lv_X9_69 ⟨by decide, by decide⟩ ⟨rfl, rfl⟩ rfl (ci := 6) hx.1 rfl rfl (Nat.le_of_ble_eq_true rfl) ((show CQ g mX9_refuse [.ref 0, .int (whyV (x_T X j))] S iv lw _ from by rw [whyV_w hrw]; exact t_refuse hx hX (j := whyJ (x_T X j)) whyJ_lt)) (fun w34 iv34 lw34 q34 => ?_)
    obtain ⟨rfl, e1, hXr, hOr⟩ := q34
    subst e1
    refine V_iret dX9_set_37 ⟨rfl, rfl⟩ (Nat.zero_le _) (Nat.zero_le _) ?_
    subst hQ
    exact ⟨_, _, _, rfl, rfl, by unfold o_set; rw [hjn, if_neg (fun z => z h8), if_pos hrw]; exact ⟨rfl, hXr, hOr, Off.rf⟩⟩
set_option maxRecDepth 20000 in
theorem k_set_no {g : Ev} {S : St} {iv : IV} {lw : LW} (hx : IsX S) {X : Xs} (hX : CX iv lw X) {s : Int32} (hs : ¬ inR s 8) {i : Int32} {v : Int64} : CQ g mX9_set [.ref (0), .int (s), .int (i), .long (v)] S iv lw (fun w iv2 lw2 => OP iv lw (o_set X (s) i v) w iv2 lw2) := by
  refine CT_ofQ rfl (by decide) (Nat.le_of_ble_eq_true rfl) (lv := [(0, .ref (0)), (1, .int (s)), (2, .int (i)), (3, .long (v))]) rfl (fun Q hQ => ?_)
  have hA := hX.1
  have hnc := hA.ok.nc
  have hne := hA.ok.ne
  have hnm := hA.ok.nm
  refine V_aload_n (i := 0) dX9_set_0 rfl 0 rfl ?_
  refine V_iload_n (i := 1) dX9_set_1 rfl 1 rfl ?_
  refine M_callVp (As := [.int (s)]) (st := []) dX9_set_2 lv_X9_65 ⟨by decide, by decide⟩ ⟨rfl, rfl⟩ rfl (ci := 6) hx.1 rfl rfl (Nat.le_of_ble_eq_true rfl) (t_shelfAt_no hx hs) ?_
  refine V_astoreN (lv2 := [(5, .null), (0, .ref (0)), (1, .int (s)), (2, .int (i)), (3, .long (v))]) dX9_set_5 (by decide) rfl ?_
  refine V_aloadN dX9_set_7 0 rfl ?_
  refine V_ifnonnullN dX9_set_9 ?_
  refine V_aload_n (i := 0) dX9_set_12 rfl 1 rfl ?_
  refine V_bipush (v := (-2)) dX9_set_13 rfl ?_
  refine M_callVq (As := [.int ((-2))]) (st := []) dX9_set_15 lv_X9_69 ⟨by decide, by decide⟩ ⟨rfl, rfl⟩ rfl (ci := 6) hx.1 rfl rfl (Nat.le_of_ble_eq_true rfl) (t_refuse hx hX (j := 0) (by decide)) (fun w15 iv15 lw15 q15 => ?_)
  obtain ⟨rfl, e1, hXr, hOr⟩ := q15
  subst e1
  refine V_iret dX9_set_18 ⟨rfl, rfl⟩ (Nat.zero_le _) (Nat.zero_le _) ?_
  subst hQ
  exact ⟨_, _, _, rfl, rfl, by unfold o_set; rw [if_pos hs]; exact ⟨rfl, hXr, hOr, Off.rf⟩⟩
theorem k_set {g : Ev} {S : St} {iv : IV} {lw : LW} (hx : IsX S) {X : Xs} (hX : CX iv lw X) {s : Int32} {i : Int32} {v : Int64} : CQ g mX9_set [.ref (0), .int (s), .int (i), .long (v)] S iv lw (fun w iv2 lw2 => OP iv lw (o_set X (s) i v) w iv2 lw2) := by
  by_cases hs : inR s 8
  · obtain ⟨j, hj, rfl⟩ := (inR_nI (by omega)).mp hs
    exact k_set_in hx hX hj
  · exact k_set_no hx hX hs
set_option maxRecDepth 20000 in
theorem k_show_in {g : Ev} {S : St} {iv : IV} {lw : LW} (hx : IsX S) {X : Xs} (hX : CX iv lw X) {j : Nat} (hj : j < 8) {e : Int32} : CQ g mX9_show [.ref (0), .int (nI j), .int (e)] S iv lw (fun w iv2 lw2 => OP iv lw (o_show X (nI j) e) w iv2 lw2) := by
  refine CT_ofQ rfl (by decide) (Nat.le_of_ble_eq_true rfl) (lv := [(0, .ref (0)), (1, .int (nI j)), (2, .int (e))]) rfl (fun Q hQ => ?_)
  have hA := hX.1
  have hnc := hA.ok.nc
  have hne := hA.ok.ne
  have hnm := hA.ok.nm
  have hTj := hX.2.2.2.1 j hj
  have hjn : iN (nI j) = j := iN_nI (by omega)
  have h8 := in8 hj
  have hk := hTj.1.1
  have hk2 := hTj.1.2.1
  have hk3 := hTj.1.2.2
  refine V_aload_n (i := 0) dX9_show_0 rfl 0 rfl ?_
  refine V_iload_n (i := 1) dX9_show_1 rfl 1 rfl ?_
  refine M_callVp (As := [.int (nI j)]) (st := []) dX9_show_2 lv_X9_65 ⟨by decide, by decide⟩ ⟨rfl, rfl⟩ rfl (ci := 6) hx.1 rfl rfl (Nat.le_of_ble_eq_true rfl) (t_shelfAt_in hx hj) ?_
  refine V_astore_n (lv2 := [(3, .ref (29 + 2 * j)), (0, .ref (0)), (1, .int (nI j)), (2, .int (e))]) dX9_show_5 rfl (by decide) rfl ?_
  refine V_aload_n (i := 3) dX9_show_6 rfl 0 rfl ?_
  refine V_ifnull dX9_show_7 ?_
  refine V_iload_n (i := 2) dX9_show_10 rfl 3 rfl ?_
  refine V_iconst (v := (-1)) dX9_show_11 rfl ?_
  refine V_icmp_eq (tgt := 33) dX9_show_12 rfl (fun h12 => ?_) (fun h12 => ?_)
  · refine V_iload_n (i := 2) dX9_show_33 rfl 3 rfl ?_
    refine V_iconst (v := (-1)) dX9_show_34 rfl ?_
    refine V_icmp_ne (tgt := 45) dX9_show_35 rfl (fun h35 => ?_) (fun h35 => ?_)
    · exact absurd h12 h35
    · refine V_aload_n (i := 3) dX9_show_38 rfl 0 rfl ?_
      refine M_callVn (As := []) (st := []) dX9_show_39 lv_X9_112 ⟨by decide, by decide⟩ ⟨rfl, rfl⟩ rfl (ci := 4) (sh_ok hx hj).1 rfl rfl (Nat.le_of_ble_eq_true rfl) (t_clear (sh_ok hx hj) hTj) (fun iv39 lw39 q39 => ?_)
      obtain ⟨e1, hTn, hOn⟩ := q39
      subst e1
      have hXn := hX.shelf hj hTn hOn Off.rf (fun q => absurd (show (10 : Int) ≤ (-1 : Int32).toInt from q) (by decide))
      refine V_goto (tgt := 50) dX9_show_42 rfl ?_
      refine V_iconst (v := nI 1) dX9_show_50 rfl ?_
      refine V_iret dX9_show_51 ⟨rfl, rfl⟩ (Nat.zero_le _) (Nat.zero_le _) ?_
      subst hQ
      exact ⟨_, _, _, rfl, rfl, by unfold o_show; rw [hjn, if_neg (fun z => z ⟨h8, Or.inl h12⟩), if_pos h35]; exact ⟨rfl, hXn, hOn.wide (by omega) (by omega), Off.rf⟩⟩
  · refine V_aload_n (i := 0) dX9_show_15 rfl 1 rfl ?_
    refine M_getR dX9_show_16 lf_X9_10 rfl hx.1 hx.2.1.1 ?_
    refine V_iload_n (i := 2) dX9_show_19 rfl 3 rfl ?_
    refine M_callVp (As := [.int (e)]) (st := []) dX9_show_20 lv_X9_108 ⟨by decide, by decide⟩ ⟨rfl, rfl⟩ rfl (ci := 0) hx.2.1.2.1 rfl rfl (Nat.le_of_ble_eq_true rfl) (t_X0_isEar hx.2.1.2 hA) ?_
    refine V_if_ne (tgt := 33) dX9_show_23 rfl (fun h23 => ?_) (fun h23 => ?_)
    · have h23 : inR e (v_ne (x_A X)) := bI_ne.mp h23
      refine V_iload_n (i := 2) dX9_show_33 rfl 3 rfl ?_
      refine V_iconst (v := (-1)) dX9_show_34 rfl ?_
      refine V_icmp_ne (tgt := 45) dX9_show_35 rfl (fun h35 => ?_) (fun h35 => ?_)
      · have ce := iN_eq (k := e) (by omega)
        have de := iN_i (k := e) (by omega)
        refine M_at (lv2 := [(3, .ref (29 + 2 * j)), (0, .ref (0)), (1, .int (nI j)), (2, .int (nI (iN e)))]) (st2 := []) ?_ (by rw [← ce]) rfl rfl rfl
        refine V_aload_n (i := 3) dX9_show_45 rfl 0 rfl ?_
        refine V_iload_n (i := 2) dX9_show_46 rfl 3 rfl ?_
        refine M_callVn (As := [.int (nI (iN e))]) (st := []) dX9_show_47 lv_X9_115 ⟨by decide, by decide⟩ ⟨rfl, rfl⟩ rfl (ci := 4) (sh_ok hx hj).1 rfl rfl (Nat.le_of_ble_eq_true rfl) (t_putEar (sh_ok hx hj) hTj (e := iN e) (by omega)) (fun iv47 lw47 q47 => ?_)
        obtain ⟨e1, hTn, hOn⟩ := q47
        subst e1
        have hXn := hX.shelf hj hTn hOn Off.rf (fun _ => ⟨iN e, by omega, rfl⟩)
        refine V_iconst (v := nI 1) dX9_show_50 rfl ?_
        refine V_iret dX9_show_51 ⟨rfl, rfl⟩ (Nat.zero_le _) (Nat.zero_le _) ?_
        subst hQ
        exact ⟨_, _, _, rfl, rfl, by unfold o_show; rw [hjn, if_neg (fun z => z ⟨h8, Or.inr h23⟩), if_neg h35]; exact ⟨rfl, hXn, hOn.wide (by omega) (by omega), Off.rf⟩⟩
      · refine V_aload_n (i := 3) dX9_show_38 rfl 0 rfl ?_
        refine M_callVn (As := []) (st := []) dX9_show_39 lv_X9_112 ⟨by decide, by decide⟩ ⟨rfl, rfl⟩ rfl (ci := 4) (sh_ok hx hj).1 rfl rfl (Nat.le_of_ble_eq_true rfl) (t_clear (sh_ok hx hj) hTj) (fun iv39 lw39 q39 => ?_)
        obtain ⟨e1, hTn, hOn⟩ := q39
        subst e1
        have hXn := hX.shelf hj hTn hOn Off.rf (fun q => absurd (show (10 : Int) ≤ (-1 : Int32).toInt from q) (by decide))
        refine V_goto (tgt := 50) dX9_show_42 rfl ?_
        refine V_iconst (v := nI 1) dX9_show_50 rfl ?_
        refine V_iret dX9_show_51 ⟨rfl, rfl⟩ (Nat.zero_le _) (Nat.zero_le _) ?_
        subst hQ
        exact ⟨_, _, _, rfl, rfl, by unfold o_show; rw [hjn, if_neg (fun z => z ⟨h8, Or.inr h23⟩), if_pos h35]; exact ⟨rfl, hXn, hOn.wide (by omega) (by omega), Off.rf⟩⟩
    · have h23 : ¬ (inR e (v_ne (x_A X))) := bI_eq0.mp h23
      refine V_aload_n (i := 0) dX9_show_26 rfl 1 rfl ?_
      refine V_bipush (v := (-2)) dX9_show_27 rfl ?_
      refine M_callVq (As := [.int ((-2))]) (st := []) dX9_show_29 lv_X9_69 ⟨by decide, by decide⟩ ⟨rfl, rfl⟩ rfl (ci := 6) hx.1 rfl rfl (Nat.le_of_ble_eq_true rfl) (t_refuse hx hX (j := 0) (by decide)) (fun w29 iv29 lw29 q29 => ?_)
      obtain ⟨rfl, e1, hXr, hOr⟩ := q29
      subst e1
      refine V_iret dX9_show_32 ⟨rfl, rfl⟩ (Nat.zero_le _) (Nat.zero_le _) ?_
      subst hQ
      exact ⟨_, _, _, rfl, rfl, by unfold o_show; rw [hjn, if_pos (fun z => z.2.elim h12 h23)]; exact ⟨rfl, hXr, hOr, Off.rf⟩⟩
set_option maxRecDepth 20000 in
theorem k_show_no {g : Ev} {S : St} {iv : IV} {lw : LW} (hx : IsX S) {X : Xs} (hX : CX iv lw X) {s : Int32} (hs : ¬ inR s 8) {e : Int32} : CQ g mX9_show [.ref (0), .int (s), .int (e)] S iv lw (fun w iv2 lw2 => OP iv lw (o_show X (s) e) w iv2 lw2) := by
  refine CT_ofQ rfl (by decide) (Nat.le_of_ble_eq_true rfl) (lv := [(0, .ref (0)), (1, .int (s)), (2, .int (e))]) rfl (fun Q hQ => ?_)
  have hA := hX.1
  have hnc := hA.ok.nc
  have hne := hA.ok.ne
  have hnm := hA.ok.nm
  refine V_aload_n (i := 0) dX9_show_0 rfl 0 rfl ?_
  refine V_iload_n (i := 1) dX9_show_1 rfl 1 rfl ?_
  refine M_callVp (As := [.int (s)]) (st := []) dX9_show_2 lv_X9_65 ⟨by decide, by decide⟩ ⟨rfl, rfl⟩ rfl (ci := 6) hx.1 rfl rfl (Nat.le_of_ble_eq_true rfl) (t_shelfAt_no hx hs) ?_
  refine V_astore_nN (lv2 := [(3, .null), (0, .ref (0)), (1, .int (s)), (2, .int (e))]) dX9_show_5 rfl (by decide) rfl ?_
  refine V_aload_nN (i := 3) dX9_show_6 rfl 0 rfl ?_
  refine V_ifnullN (tgt := 26) dX9_show_7 rfl ?_
  refine V_aload_n (i := 0) dX9_show_26 rfl 1 rfl ?_
  refine V_bipush (v := (-2)) dX9_show_27 rfl ?_
  refine M_callVq (As := [.int ((-2))]) (st := []) dX9_show_29 lv_X9_69 ⟨by decide, by decide⟩ ⟨rfl, rfl⟩ rfl (ci := 6) hx.1 rfl rfl (Nat.le_of_ble_eq_true rfl) (t_refuse hx hX (j := 0) (by decide)) (fun w29 iv29 lw29 q29 => ?_)
  obtain ⟨rfl, e1, hXr, hOr⟩ := q29
  subst e1
  refine V_iret dX9_show_32 ⟨rfl, rfl⟩ (Nat.zero_le _) (Nat.zero_le _) ?_
  subst hQ
  exact ⟨_, _, _, rfl, rfl, by unfold o_show; rw [if_pos (fun z => hs z.1)]; exact ⟨rfl, hXr, hOr, Off.rf⟩⟩
theorem k_show {g : Ev} {S : St} {iv : IV} {lw : LW} (hx : IsX S) {X : Xs} (hX : CX iv lw X) {s : Int32} {e : Int32} : CQ g mX9_show [.ref (0), .int (s), .int (e)] S iv lw (fun w iv2 lw2 => OP iv lw (o_show X (s) e) w iv2 lw2) := by
  by_cases hs : inR s 8
  · obtain ⟨j, hj, rfl⟩ := (inR_nI (by omega)).mp hs
    exact k_show_in hx hX hj
  · exact k_show_no hx hX hs
set_option maxRecDepth 20000 in
theorem k_judge_in {g : Ev} {S : St} {iv : IV} {lw : LW} (hx : IsX S) {X : Xs} (hX : CX iv lw X) {j : Nat} (hj : j < 8) {m : Int32} : CQ g mX9_judge [.ref (0), .int (nI j), .int (m)] S iv lw (fun w iv2 lw2 => OP iv lw (o_judge X (nI j) m) w iv2 lw2) := by
  refine CT_ofQ rfl (by decide) (Nat.le_of_ble_eq_true rfl) (lv := [(0, .ref (0)), (1, .int (nI j)), (2, .int (m))]) rfl (fun Q hQ => ?_)
  have hA := hX.1
  have hnc := hA.ok.nc
  have hne := hA.ok.ne
  have hnm := hA.ok.nm
  have hTj := hX.2.2.2.1 j hj
  have hjn : iN (nI j) = j := iN_nI (by omega)
  have h8 := in8 hj
  have hk := hTj.1.1
  have hk2 := hTj.1.2.1
  have hk3 := hTj.1.2.2
  refine V_aload_n (i := 0) dX9_judge_0 rfl 0 rfl ?_
  refine V_iload_n (i := 1) dX9_judge_1 rfl 1 rfl ?_
  refine M_callVp (As := [.int (nI j)]) (st := []) dX9_judge_2 lv_X9_65 ⟨by decide, by decide⟩ ⟨rfl, rfl⟩ rfl (ci := 6) hx.1 rfl rfl (Nat.le_of_ble_eq_true rfl) (t_shelfAt_in hx hj) ?_
  refine V_astore_n (lv2 := [(3, .ref (29 + 2 * j)), (0, .ref (0)), (1, .int (nI j)), (2, .int (m))]) dX9_judge_5 rfl (by decide) rfl ?_
  refine V_aload_n (i := 3) dX9_judge_6 rfl 0 rfl ?_
  refine V_ifnull dX9_judge_7 ?_
  refine V_iload_n (i := 2) dX9_judge_10 rfl 3 rfl ?_
  refine V_if_lt (tgt := 20) dX9_judge_11 rfl (fun h11 => ?_) (fun h11 => ?_)
  · have h11 : m.toInt < 0 := by have q := i_neg.mp h11; exact q
    refine V_aload_n (i := 0) dX9_judge_20 rfl 1 rfl ?_
    refine V_bipush (v := (-2)) dX9_judge_21 rfl ?_
    refine M_callVq (As := [.int ((-2))]) (st := []) dX9_judge_23 lv_X9_69 ⟨by decide, by decide⟩ ⟨rfl, rfl⟩ rfl (ci := 6) hx.1 rfl rfl (Nat.le_of_ble_eq_true rfl) (t_refuse hx hX (j := 0) (by decide)) (fun w23 iv23 lw23 q23 => ?_)
    obtain ⟨rfl, e1, hXr, hOr⟩ := q23
    subst e1
    refine V_iret dX9_judge_26 ⟨rfl, rfl⟩ (Nat.zero_le _) (Nat.zero_le _) ?_
    subst hQ
    exact ⟨_, _, _, rfl, rfl, by unfold o_judge; rw [hjn, if_pos (by omega)]; exact ⟨rfl, hXr, hOr, Off.rf⟩⟩
  · have h11 : ¬ m.toInt < 0 := fun r => h11 (i_neg.mpr (by exact r))
    refine V_iload_n (i := 2) dX9_judge_14 rfl 3 rfl ?_
    refine V_bipush (v := nI 40) dX9_judge_15 rfl ?_
    refine V_icmp_le (tgt := 27) dX9_judge_17 rfl (fun h17 => ?_) (fun h17 => ?_)
    · have h17 : m.toInt ≤ (40 : Int) := by have q := Int32.le_iff_toInt_le.mp h17; rw [nI_toInt (n := 40) (by omega)] at q; exact q
      refine V_aload_n (i := 3) dX9_judge_27 rfl 0 rfl ?_
      refine M_callVp (As := []) (st := []) dX9_judge_28 lv_X9_77 ⟨by decide, by decide⟩ ⟨rfl, rfl⟩ rfl (ci := 4) (sh_ok hx hj).1 rfl rfl (Nat.le_of_ble_eq_true rfl) (t_whyNoRow (sh_ok hx hj) hTj) ?_
      refine V_istore (lv2 := [(4, .int (whyV (x_T X j))), (3, .ref (29 + 2 * j)), (0, .ref (0)), (1, .int (nI j)), (2, .int (m))]) dX9_judge_31 (by decide) rfl ?_
      refine V_iload dX9_judge_33 0 rfl ?_
      refine V_if_eq (tgt := 45) dX9_judge_35 rfl (fun h35 => ?_) (fun h35 => ?_)
      · have hrw : rowQ (x_T X j) := whyV_0.mp h35
        refine V_iload_n (i := 2) dX9_judge_45 rfl 4 rfl ?_
        refine V_aload_n (i := 3) dX9_judge_46 rfl 1 rfl ?_
        refine M_getI (x := nI (x_T X j).2.1) dX9_judge_47 lf_X9_146 rfl (sh_ok hx hj).1 (hTj.2.2.1) ?_
        refine V_icmp_gt (tgt := 61) dX9_judge_50 rfl (fun h50 => ?_) (fun h50 => ?_)
        · have h50 : ((x_T X j).2.1 : Int) < m.toInt := by have q := Int32.lt_iff_toInt_lt.mp h50; rw [nI_toInt (n := (x_T X j).2.1) (by omega)] at q; exact q
          refine V_aload_n (i := 0) dX9_judge_61 rfl 2 rfl ?_
          refine V_bipush (v := (-2)) dX9_judge_62 rfl ?_
          refine M_callVq (As := [.int ((-2))]) (st := []) dX9_judge_64 lv_X9_69 ⟨by decide, by decide⟩ ⟨rfl, rfl⟩ rfl (ci := 6) hx.1 rfl rfl (Nat.le_of_ble_eq_true rfl) (t_refuse hx hX (j := 0) (by decide)) (fun w64 iv64 lw64 q64 => ?_)
          obtain ⟨rfl, e1, hXr, hOr⟩ := q64
          subst e1
          refine V_iret dX9_judge_67 ⟨rfl, rfl⟩ (Nat.zero_le _) (Nat.zero_le _) ?_
          subst hQ
          exact ⟨_, _, _, rfl, rfl, by unfold o_judge; rw [hjn, if_neg (fun z => z ⟨h8, by omega, by omega⟩), if_neg (fun z => z hrw), if_neg (by omega)]; exact ⟨rfl, hXr, hOr, Off.rf⟩⟩
        · have h50 : ¬ ((x_T X j).2.1 : Int) < m.toInt := fun r => h50 (Int32.lt_iff_toInt_lt.mpr (by rw [nI_toInt (n := (x_T X j).2.1) (by omega)]; exact r))
          have cm := iN_eq (k := m) (by omega)
          have dm := iN_i (k := m) (by omega)
          refine M_at (lv2 := [(4, .int (whyV (x_T X j))), (3, .ref (29 + 2 * j)), (0, .ref (0)), (1, .int (nI j)), (2, .int (nI (iN m)))]) (st2 := []) ?_ (by rw [← cm]) rfl rfl rfl
          refine V_aload_n (i := 3) dX9_judge_53 rfl 1 rfl ?_
          refine V_iload_n (i := 2) dX9_judge_54 rfl 4 rfl ?_
          refine M_callVp (As := [.int (nI (iN m))]) (st := []) dX9_judge_55 lv_X9_365 ⟨by decide, by decide⟩ ⟨rfl, rfl⟩ rfl (ci := 4) (sh_ok hx hj).1 rfl rfl (Nat.le_of_ble_eq_true rfl) (t_firstUnheard (sh_ok hx hj) hTj (m := iN m) hrw (by omega)) ?_
          refine V_goto (tgt := 67) dX9_judge_58 rfl ?_
          refine V_iret dX9_judge_67 ⟨rfl, rfl⟩ (Nat.zero_le _) (Nat.zero_le _) ?_
          subst hQ
          exact ⟨_, _, _, rfl, rfl, by unfold o_judge; rw [hjn, if_neg (fun z => z ⟨h8, by omega, by omega⟩), if_neg (fun z => z hrw), if_pos (by omega)]; exact OP.same hX⟩
      · have hrw : ¬ rowQ (x_T X j) := fun z => h35 (whyV_0.mpr z)
        refine V_aload_n (i := 0) dX9_judge_38 rfl 2 rfl ?_
        refine V_iload dX9_judge_39 0 rfl ?_
        refine M_callVq (As := [.int (whyV (x_T X j))]) (st := []) dX9_judge_41 lv_X9_69 ⟨by decide, by decide⟩ ⟨rfl, rfl⟩ rfl (ci := 6) hx.1 rfl rfl (Nat.le_of_ble_eq_true rfl) ((show CQ g mX9_refuse [.ref 0, .int (whyV (x_T X j))] S iv lw _ from by rw [whyV_w hrw]; exact t_refuse hx hX (j := whyJ (x_T X j)) whyJ_lt)) (fun w41 iv41 lw41 q41 => ?_)
        obtain ⟨rfl, e1, hXr, hOr⟩ := q41
        subst e1
        refine V_iret dX9_judge_44 ⟨rfl, rfl⟩ (Nat.zero_le _) (Nat.zero_le _) ?_
        subst hQ
        exact ⟨_, _, _, rfl, rfl, by unfold o_judge; rw [hjn, if_neg (fun z => z ⟨h8, by omega, by omega⟩), if_pos hrw]; exact ⟨rfl, hXr, hOr, Off.rf⟩⟩
    · have h17 : ¬ m.toInt ≤ (40 : Int) := fun r => h17 (Int32.le_iff_toInt_le.mpr (by rw [nI_toInt (n := 40) (by omega)]; exact r))
      refine V_aload_n (i := 0) dX9_judge_20 rfl 1 rfl ?_
      refine V_bipush (v := (-2)) dX9_judge_21 rfl ?_
      refine M_callVq (As := [.int ((-2))]) (st := []) dX9_judge_23 lv_X9_69 ⟨by decide, by decide⟩ ⟨rfl, rfl⟩ rfl (ci := 6) hx.1 rfl rfl (Nat.le_of_ble_eq_true rfl) (t_refuse hx hX (j := 0) (by decide)) (fun w23 iv23 lw23 q23 => ?_)
      obtain ⟨rfl, e1, hXr, hOr⟩ := q23
      subst e1
      refine V_iret dX9_judge_26 ⟨rfl, rfl⟩ (Nat.zero_le _) (Nat.zero_le _) ?_
      subst hQ
      exact ⟨_, _, _, rfl, rfl, by unfold o_judge; rw [hjn, if_pos (by omega)]; exact ⟨rfl, hXr, hOr, Off.rf⟩⟩
set_option maxRecDepth 20000 in
theorem k_judge_no {g : Ev} {S : St} {iv : IV} {lw : LW} (hx : IsX S) {X : Xs} (hX : CX iv lw X) {s : Int32} (hs : ¬ inR s 8) {m : Int32} : CQ g mX9_judge [.ref (0), .int (s), .int (m)] S iv lw (fun w iv2 lw2 => OP iv lw (o_judge X (s) m) w iv2 lw2) := by
  refine CT_ofQ rfl (by decide) (Nat.le_of_ble_eq_true rfl) (lv := [(0, .ref (0)), (1, .int (s)), (2, .int (m))]) rfl (fun Q hQ => ?_)
  have hA := hX.1
  have hnc := hA.ok.nc
  have hne := hA.ok.ne
  have hnm := hA.ok.nm
  refine V_aload_n (i := 0) dX9_judge_0 rfl 0 rfl ?_
  refine V_iload_n (i := 1) dX9_judge_1 rfl 1 rfl ?_
  refine M_callVp (As := [.int (s)]) (st := []) dX9_judge_2 lv_X9_65 ⟨by decide, by decide⟩ ⟨rfl, rfl⟩ rfl (ci := 6) hx.1 rfl rfl (Nat.le_of_ble_eq_true rfl) (t_shelfAt_no hx hs) ?_
  refine V_astore_nN (lv2 := [(3, .null), (0, .ref (0)), (1, .int (s)), (2, .int (m))]) dX9_judge_5 rfl (by decide) rfl ?_
  refine V_aload_nN (i := 3) dX9_judge_6 rfl 0 rfl ?_
  refine V_ifnullN (tgt := 20) dX9_judge_7 rfl ?_
  refine V_aload_n (i := 0) dX9_judge_20 rfl 1 rfl ?_
  refine V_bipush (v := (-2)) dX9_judge_21 rfl ?_
  refine M_callVq (As := [.int ((-2))]) (st := []) dX9_judge_23 lv_X9_69 ⟨by decide, by decide⟩ ⟨rfl, rfl⟩ rfl (ci := 6) hx.1 rfl rfl (Nat.le_of_ble_eq_true rfl) (t_refuse hx hX (j := 0) (by decide)) (fun w23 iv23 lw23 q23 => ?_)
  obtain ⟨rfl, e1, hXr, hOr⟩ := q23
  subst e1
  refine V_iret dX9_judge_26 ⟨rfl, rfl⟩ (Nat.zero_le _) (Nat.zero_le _) ?_
  subst hQ
  exact ⟨_, _, _, rfl, rfl, by unfold o_judge; rw [if_pos (fun z => hs z.1)]; exact ⟨rfl, hXr, hOr, Off.rf⟩⟩
theorem k_judge {g : Ev} {S : St} {iv : IV} {lw : LW} (hx : IsX S) {X : Xs} (hX : CX iv lw X) {s : Int32} {m : Int32} : CQ g mX9_judge [.ref (0), .int (s), .int (m)] S iv lw (fun w iv2 lw2 => OP iv lw (o_judge X (s) m) w iv2 lw2) := by
  by_cases hs : inR s 8
  · obtain ⟨j, hj, rfl⟩ := (inR_nI (by omega)).mp hs
    exact k_judge_in hx hX hj
  · exact k_judge_no hx hX hs
