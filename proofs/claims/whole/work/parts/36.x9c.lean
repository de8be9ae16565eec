/-! what is asked of the class, second part -/
theorem npIn_keep {f : Nat → Nat → Nat} {c : Nat} {o : Option Nat} (h : o ≠ none) : ∀ n, npIn f c o n ≠ none
  | 0 => h
  | n + 1 => by
    unfold npIn
    split
    · exact fun z => by cases z
    · exact npIn_keep h n
theorem np_1 {f : Nat → Nat → Nat} : ∀ m, npIn f 0 none (m + 2) ≠ none
  | 0 => by
    have h : npIn f 0 none 1 = none := npIn_0 1 (by omega)
    have h2 : npIn f 0 none 2 = some (100 * 0 + 1) := npIn_new (by omega) (Or.inl h)
    rw [show npIn f 0 none (0 + 2) = some (100 * 0 + 1) from h2]
    exact fun z => by cases z
  | m + 1 => by
    have ih := np_1 (f := f) m
    unfold npIn
    split
    · exact fun z => by cases z
    · exact ih
theorem np_some {f : Nat → Nat → Nat} {N : Nat} (h : 2 ≤ N) : ∀ k, npTo f N (k + 1) ≠ none
  | 0 => by
    obtain ⟨m, rfl⟩ : ∃ m, N = m + 2 := ⟨N - 2, by omega⟩
    exact np_1 m
  | k + 1 => npIn_keep (np_some h k) N
theorem OP.hear {iv iv2 : IV} {lw : LW} {X : Xs} {x : Int32} (hX : CX iv lw X) (hO : Off 47 2 iv iv2) : OP iv lw (x, X) (.int x) iv2 lw := ⟨rfl, hX.aux (fun a ha => hO a (by omega)) (fun _ _ => rfl), hO.wide (by omega) (by omega), Off.rf⟩
theorem OP.crowd {iv iv2 : IV} {lw : LW} {X : Xs} {x : Int32} (hX : CX iv lw X) (hO : Of2 47 2 49 5 iv iv2) : OP iv lw (x, X) (.int x) iv2 lw := ⟨rfl, hX.aux (fun a ha => hO a (by omega) (by omega)) (fun _ _ => rfl), fun a ha => hO a (by omega) (by omega), Off.rf⟩
theorem sub_iN {w : Int32} {k : Nat} (hk : k ≤ 1000) (h : (k : Int) ≤ w.toInt) : w - nI k = nI (iN w - k) := by
  have e := iN_eq (k := w) (by omega)
  have e2 := iN_i (k := w) (by omega)
  have h3 : w - nI k = nI (iN w) - nI k := by rw [← e]
  rw [h3, nI_sub (by omega)]
def o_heard (X : Xs) (c e i : Int32) : Ans := if ¬ (inR c (v_nc (x_A X)) ∧ inR e (v_ne (x_A X)) ∧ inR i (v_sz (x_A X) (iN c))) then rfA X 0 else (nI (noteBy (x_A X) (iN c) (iN e) (iN i)), X)
def o_apart (X : Xs) (c d : Int32) : Ans := if ¬ (inR c (v_nc (x_A X)) ∧ inR d (v_nc (x_A X))) then rfA X 0 else (nI (dpk (x_A X) (iN c) (iN d)), X)
def o_known (X : Xs) (c e : Int32) : Ans := if ¬ (inR c (v_nc (x_A X)) ∧ inR e (v_ne (x_A X))) then rfA X 0 else (if behind (x_A X) (iN c) (iN e) ≤ v_sz (x_A X) (iN c) + 1 then nI (behind (x_A X) (iN c) (iN e)) else -1, X)
def o_earFor (X : Xs) (c : Int32) : Ans := if ¬ inR c (v_nc (x_A X)) then rfA X 0 else if 0 < v_ne (x_A X) then (oI (bestLo (fun e => behind (x_A X) (iN c) e) (v_ne (x_A X))), X) else rfA X 3
def o_mean (X : Xs) (e : Int32) : Ans := if ¬ inR e (v_ne (x_A X)) then rfA X 0 else if 0 < v_nc (x_A X) then (nI (meanV (x_A X) (iN e)), X) else rfA X 3
def o_worst (X : Xs) (e : Int32) : Ans := if ¬ inR e (v_ne (x_A X)) then rfA X 0 else if 0 < v_nc (x_A X) then (oI (bestHi (fun c => riskV (x_A X) c (iN e)) (v_nc (x_A X))), X) else rfA X 3
def o_risk (X : Xs) (c e : Int32) : Ans := if ¬ (inR c (v_nc (x_A X)) ∧ inR e (v_ne (x_A X))) then rfA X 0 else (nI (riskV (x_A X) (iN c) (iN e)), X)
def o_alikeFirst (X : Xs) (c d : Int32) : Ans := if ¬ (inR c (v_nc (x_A X)) ∧ inR d (v_nc (x_A X))) then rfA X 0 else (nI (sameV (x_A X) (iN c) (iN d)), X)
def o_notes (X : Xs) (t : Int32) : Ans := if 0 ≤ t.toInt ∧ t.toInt ≤ 4 then (nI (sumTo (fun c => cntTo (fun i => decide (v_nt (x_A X) c i = iN t)) (v_sz (x_A X) c)) (v_nc (x_A X))), X) else rfA X 0
def o_change (X : Xs) (c d : Int32) : Ans := if ¬ (inR c (v_nc (x_A X)) ∧ 0 ≤ d.toInt ∧ d.toInt ≤ 8) then rfA X 0 else if v_sz (x_A X) (iN c) ≤ 5 then (oI (fcTo (fun x => dst (rowP (v_sz (x_A X) (iN c)) x) (v_pk (x_A X) (iN c))) (fun x => clearB (x_A X) (rowP (v_sz (x_A X) (iN c)) x) (iN d) (some (iN c))) (5 ^ v_sz (x_A X) (iN c))), X) else rfA X 3
def npV (V : Cv) : Option Nat := npTo (dpk V) (v_nc V) (v_nc V)
def o_alike (X : Xs) (what : Int32) : Ans := if ¬ (0 ≤ what.toInt ∧ what.toInt ≤ 1) then rfA X 0 else if v_nc (x_A X) < 2 then rfA X 3 else (if what.toInt = 0 then oI (npV (x_A X)) else nI (pvF (dpk (x_A X)) (npV (x_A X))), X)
def o_mixed (X : Xs) (e what : Int32) : Ans := if ¬ (inR e (v_ne (x_A X)) ∧ 0 ≤ what.toInt ∧ what.toInt ≤ 1) then rfA X 0 else (if what.toInt = 0 then nI (mixAll (x_A X) (iN e) (v_nc (x_A X))) else oI (fmTo (x_A X) (iN e) (v_nc (x_A X))), X)
noncomputable def dC (V : Cv) (c : Nat) : Nat → Option Nat := ddF (gV V c) (lV V c) (v_lk V) (v_su V) (v_nm V)
noncomputable def o_does (X : Xs) (c m : Int32) : Ans := if ¬ (inR c (v_nc (x_A X)) ∧ inR m (v_nm (x_A X))) then rfA X 0 else (oI (dC (x_A X) (iN c) (iN m)), X)
noncomputable def o_right (X : Xs) (c : Int32) : Ans := if ¬ inR c (v_nc (x_A X)) then rfA X 0 else (nI (cntTo (fun m => decide (dC (x_A X) (iN c) m = some (iN c))) (v_nm (x_A X))), X)
noncomputable def o_leads (X : Xs) (c : Int32) : Ans := if ¬ inR c (v_nc (x_A X)) then rfA X 0 else (oI (ffO (fun m => !decide (dC (x_A X) (iN c) m = none) && !decide (dC (x_A X) (iN c) m = some (iN c))) (v_nm (x_A X))), X)
noncomputable def o_follows (X : Xs) (c : Int32) : Ans := if ¬ inR c (v_nc (x_A X)) then rfA X 0 else (nI (btTo (fun m => !decide (dC (x_A X) (iN c) m = gV (x_A X) (iN c) m)) (v_nm (x_A X))), X)
noncomputable def o_sureFor (X : Xs) (c : Int32) : Ans := if inR c (v_nc (x_A X)) then (oI ((ffO (fun i => decide (cntTo (fun m => decide (ddF (gV (x_A X) (iN c)) (lV (x_A X) (iN c)) (v_lk (x_A X)) (10 * i) (v_nm (x_A X)) m = some (iN c))) (v_nm (x_A X)) = v_nm (x_A X))) 101).map (10 * ·)), X) else rfA X 0
def o_callOf (X : Xs) (c what : Int32) : Ans := if ¬ inR c (v_nc (x_A X)) then rfA X 0 else if what.toInt = 0 then (nI (v_sz (x_A X) (iN c)), X) else if what.toInt = 1 then (nI (v_us (x_A X) (iN c)), X) else if what.toInt = 2 then (nI (v_co (x_A X) (iN c)), X) else if 10 ≤ what.toInt ∧ what.toInt - 10 < v_sz (x_A X) (iN c) then (nI (v_nt (x_A X) (iN c) (iN what - 10)), X) else rfA X 0
def o_image (X : Xs) : Ans := (nI 1, x_sK X (some (x_A X)))
set_option maxRecDepth 20000 in
theorem k_heard {g : Ev} {S : St} {iv : IV} {lw : LW} (hx : IsX S) {X : Xs} (hX : CX iv lw X) {c e i : Int32} : CQ g mX9_heard [.ref (0), .int (c), .int (e), .int (i)] S iv lw (fun w iv2 lw2 => OP iv lw (o_heard X c e i) w iv2 lw2) := by
  refine CT_ofQ rfl (by decide) (Nat.le_of_ble_eq_true rfl) (lv := [(0, .ref (0)), (1, .int (c)), (2, .int (e)), (3, .int (i))]) rfl (fun Q hQ => ?_)
  have hA := hX.1
  have hnc := hA.ok.nc
  have hne := hA.ok.ne
  have hnm := hA.ok.nm
  refine V_aload_n (i := 0) dX9_heard_0 rfl 0 rfl ?_
  refine M_getR dX9_heard_1 lf_X9_10 rfl hx.1 hx.2.1.1 ?_
  refine V_iload_n (i := 1) dX9_heard_4 rfl 1 rfl ?_
  refine M_callVp (As := [.int (c)]) (st := []) dX9_heard_5 lv_X9_180 ⟨by decide, by decide⟩ ⟨rfl, rfl⟩ rfl (ci := 0) hx.2.1.2.1 rfl rfl (Nat.le_of_ble_eq_true rfl) (t_X0_isCall hx.2.1.2 hA) ?_
  refine V_if_eq (tgt := 34) dX9_heard_8 rfl (fun h8 => ?_) (fun h8 => ?_)
  · have h8 : ¬ (inR c (v_nc (x_A X))) := bI_eq0.mp h8
    refine V_aload_n (i := 0) dX9_heard_34 rfl 0 rfl ?_
    refine V_bipush (v := (-2)) dX9_heard_35 rfl ?_
    refine M_callVq (As := [.int ((-2))]) (st := []) dX9_heard_37 lv_X9_69 ⟨by decide, by decide⟩ ⟨rfl, rfl⟩ rfl (ci := 6) hx.1 rfl rfl (Nat.le_of_ble_eq_true rfl) (t_refuse hx hX (j := 0) (by decide)) (fun w37 iv37 lw37 q37 => ?_)
    obtain ⟨rfl, e1, hXr, hOr⟩ := q37
    subst e1
    refine V_iret dX9_heard_40 ⟨rfl, rfl⟩ (Nat.zero_le _) (Nat.zero_le _) ?_
    subst hQ
    exact ⟨_, _, _, rfl, rfl, by unfold o_heard; rw [if_pos (fun z => h8 z.1)]; exact ⟨rfl, hXr, hOr, Off.rf⟩⟩
  · have h8 : inR c (v_nc (x_A X)) := bI_ne.mp h8
    refine V_aload_n (i := 0) dX9_heard_11 rfl 0 rfl ?_
    refine M_getR dX9_heard_12 lf_X9_10 rfl hx.1 hx.2.1.1 ?_
    refine V_iload_n (i := 2) dX9_heard_15 rfl 2 rfl ?_
    refine M_callVp (As := [.int (e)]) (st := []) dX9_heard_16 lv_X9_108 ⟨by decide, by decide⟩ ⟨rfl, rfl⟩ rfl (ci := 0) hx.2.1.2.1 rfl rfl (Nat.le_of_ble_eq_true rfl) (t_X0_isEar hx.2.1.2 hA) ?_
    refine V_if_eq (tgt := 34) dX9_heard_19 rfl (fun h19 => ?_) (fun h19 => ?_)
    · have h19 : ¬ (inR e (v_ne (x_A X))) := bI_eq0.mp h19
      refine V_aload_n (i := 0) dX9_heard_34 rfl 0 rfl ?_
      refine V_bipush (v := (-2)) dX9_heard_35 rfl ?_
      refine M_callVq (As := [.int ((-2))]) (st := []) dX9_heard_37 lv_X9_69 ⟨by decide, by decide⟩ ⟨rfl, rfl⟩ rfl (ci := 6) hx.1 rfl rfl (Nat.le_of_ble_eq_true rfl) (t_refuse hx hX (j := 0) (by decide)) (fun w37 iv37 lw37 q37 => ?_)
      obtain ⟨rfl, e1, hXr, hOr⟩ := q37
      subst e1
      refine V_iret dX9_heard_40 ⟨rfl, rfl⟩ (Nat.zero_le _) (Nat.zero_le _) ?_
      subst hQ
      exact ⟨_, _, _, rfl, rfl, by unfold o_heard; rw [if_pos (fun z => h19 z.2.1)]; exact ⟨rfl, hXr, hOr, Off.rf⟩⟩
    · have h19 : inR e (v_ne (x_A X)) := bI_ne.mp h19
      have cc := iN_eq (k := c) (by omega)
      have dc := iN_i (k := c) (by omega)
      refine M_at (lv2 := [(0, .ref (0)), (1, .int (nI (iN c))), (2, .int (e)), (3, .int (i))]) (st2 := []) ?_ (by rw [← cc]) rfl rfl rfl
      refine V_aload_n (i := 0) dX9_heard_22 rfl 0 rfl ?_
      refine M_getR dX9_heard_23 lf_X9_10 rfl hx.1 hx.2.1.1 ?_
      refine V_iload_n (i := 1) dX9_heard_26 rfl 1 rfl ?_
      refine V_iload_n (i := 3) dX9_heard_27 rfl 3 rfl ?_
      refine M_callVp (As := [.int (nI (iN c)), .int (i)]) (st := []) dX9_heard_28 lv_X9_229 ⟨by decide, by decide⟩ ⟨rfl, rfl⟩ rfl (ci := 0) hx.2.1.2.1 rfl rfl (Nat.le_of_ble_eq_true rfl) (t_X0_isNoteOf hx.2.1.2 hA (c := iN c) (by omega)) ?_
      refine V_if_ne (tgt := 41) dX9_heard_31 rfl (fun h31 => ?_) (fun h31 => ?_)
      · have h31 : inR i (v_sz (x_A X) (iN c)) := bI_ne.mp h31
        have ce := iN_eq (k := e) (by omega)
        have ci := iN_eq (k := i) (by omega)
        have de := iN_i (k := e) (by omega)
        have di := iN_i (k := i) (by omega)
        refine M_at (lv2 := [(0, .ref (0)), (1, .int (nI (iN c))), (2, .int (nI (iN e))), (3, .int (nI (iN i)))]) (st2 := []) ?_ (by rw [← ce, ← ci]) rfl rfl rfl
        refine V_aload_n (i := 0) dX9_heard_41 rfl 0 rfl ?_
        refine M_getR dX9_heard_42 lf_X9_10 rfl hx.1 hx.2.1.1 ?_
        refine V_iload_n (i := 1) dX9_heard_45 rfl 1 rfl ?_
        refine V_iload_n (i := 2) dX9_heard_46 rfl 2 rfl ?_
        refine V_iload_n (i := 3) dX9_heard_47 rfl 3 rfl ?_
        refine M_callSp (As := [.ref (1), .int (nI (iN c)), .int (nI (iN e)), .int (nI (iN i))]) (st := []) dX9_heard_48 ls_X9_244 ⟨by decide, by decide⟩ ⟨rfl, rfl⟩ rfl (Nat.le_of_ble_eq_true rfl) (t_noteByEar hx.2.1.2 hA (c := iN c) (e := iN e) (i := iN i) (by omega) (by omega) (by omega)) ?_
        refine V_iret dX9_heard_51 ⟨rfl, rfl⟩ (Nat.zero_le _) (Nat.zero_le _) ?_
        subst hQ
        exact ⟨_, _, _, rfl, rfl, by unfold o_heard; rw [if_neg (fun z => z ⟨h8, h19, h31⟩)]; exact OP.same hX⟩
      · have h31 : ¬ (inR i (v_sz (x_A X) (iN c))) := bI_eq0.mp h31
        refine V_aload_n (i := 0) dX9_heard_34 rfl 0 rfl ?_
        refine V_bipush (v := (-2)) dX9_heard_35 rfl ?_
        refine M_callVq (As := [.int ((-2))]) (st := []) dX9_heard_37 lv_X9_69 ⟨by decide, by decide⟩ ⟨rfl, rfl⟩ rfl (ci := 6) hx.1 rfl rfl (Nat.le_of_ble_eq_true rfl) (t_refuse hx hX (j := 0) (by decide)) (fun w37 iv37 lw37 q37 => ?_)
        obtain ⟨rfl, e1, hXr, hOr⟩ := q37
        subst e1
        refine V_iret dX9_heard_40 ⟨rfl, rfl⟩ (Nat.zero_le _) (Nat.zero_le _) ?_
        subst hQ
        exact ⟨_, _, _, rfl, rfl, by unfold o_heard; rw [if_pos (fun z => h31 z.2.2)]; exact ⟨rfl, hXr, hOr, Off.rf⟩⟩
set_option maxRecDepth 20000 in
theorem k_apart {g : Ev} {S : St} {iv : IV} {lw : LW} (hx : IsX S) {X : Xs} (hX : CX iv lw X) {c d : Int32} : CQ g mX9_apart [.ref (0), .int (c), .int (d)] S iv lw (fun w iv2 lw2 => OP iv lw (o_apart X c d) w iv2 lw2) := by
  refine CT_ofQ rfl (by decide) (Nat.le_of_ble_eq_true rfl) (lv := [(0, .ref (0)), (1, .int (c)), (2, .int (d))]) rfl (fun Q hQ => ?_)
  have hA := hX.1
  have hnc := hA.ok.nc
  have hne := hA.ok.ne
  have hnm := hA.ok.nm
  refine V_aload_n (i := 0) dX9_apart_0 rfl 0 rfl ?_
  refine M_getR dX9_apart_1 lf_X9_10 rfl hx.1 hx.2.1.1 ?_
  refine V_iload_n (i := 1) dX9_apart_4 rfl 1 rfl ?_
  refine M_callVp (As := [.int (c)]) (st := []) dX9_apart_5 lv_X9_180 ⟨by decide, by decide⟩ ⟨rfl, rfl⟩ rfl (ci := 0) hx.2.1.2.1 rfl rfl (Nat.le_of_ble_eq_true rfl) (t_X0_isCall hx.2.1.2 hA) ?_
  refine V_if_eq (tgt := 22) dX9_apart_8 rfl (fun h8 => ?_) (fun h8 => ?_)
  · have h8 : ¬ (inR c (v_nc (x_A X))) := bI_eq0.mp h8
    refine V_aload_n (i := 0) dX9_apart_22 rfl 0 rfl ?_
    refine V_bipush (v := (-2)) dX9_apart_23 rfl ?_
    refine M_callVq (As := [.int ((-2))]) (st := []) dX9_apart_25 lv_X9_69 ⟨by decide, by decide⟩ ⟨rfl, rfl⟩ rfl (ci := 6) hx.1 rfl rfl (Nat.le_of_ble_eq_true rfl) (t_refuse hx hX (j := 0) (by decide)) (fun w25 iv25 lw25 q25 => ?_)
    obtain ⟨rfl, e1, hXr, hOr⟩ := q25
    subst e1
    refine V_iret dX9_apart_28 ⟨rfl, rfl⟩ (Nat.zero_le _) (Nat.zero_le _) ?_
    subst hQ
    exact ⟨_, _, _, rfl, rfl, by unfold o_apart; rw [if_pos (fun z => h8 z.1)]; exact ⟨rfl, hXr, hOr, Off.rf⟩⟩
  · have h8 : inR c (v_nc (x_A X)) := bI_ne.mp h8
    refine V_aload_n (i := 0) dX9_apart_11 rfl 0 rfl ?_
    refine M_getR dX9_apart_12 lf_X9_10 rfl hx.1 hx.2.1.1 ?_
    refine V_iload_n (i := 2) dX9_apart_15 rfl 2 rfl ?_
    refine M_callVp (As := [.int (d)]) (st := []) dX9_apart_16 lv_X9_180 ⟨by decide, by decide⟩ ⟨rfl, rfl⟩ rfl (ci := 0) hx.2.1.2.1 rfl rfl (Nat.le_of_ble_eq_true rfl) (t_X0_isCall hx.2.1.2 hA) ?_
    refine V_if_ne (tgt := 29) dX9_apart_19 rfl (fun h19 => ?_) (fun h19 => ?_)
    · have h19 : inR d (v_nc (x_A X)) := bI_ne.mp h19
      have cc := iN_eq (k := c) (by omega)
      have cd := iN_eq (k := d) (by omega)
      have dc := iN_i (k := c) (by omega)
      have dd := iN_i (k := d) (by omega)
      refine M_at (lv2 := [(0, .ref (0)), (1, .int (nI (iN c))), (2, .int (nI (iN d)))]) (st2 := []) ?_ (by rw [← cc, ← cd]) rfl rfl rfl
      refine V_aload_n (i := 0) dX9_apart_29 rfl 0 rfl ?_
      refine M_getR dX9_apart_30 lf_X9_10 rfl hx.1 hx.2.1.1 ?_
      refine V_iload_n (i := 1) dX9_apart_33 rfl 1 rfl ?_
      refine M_callVp (As := [.int (nI (iN c))]) (st := []) dX9_apart_34 lv_X9_266 ⟨by decide, by decide⟩ ⟨rfl, rfl⟩ rfl (ci := 0) hx.2.1.2.1 rfl rfl (Nat.le_of_ble_eq_true rfl) (t_X0_packedOf hx.2.1.2 hA (c := iN c) (by omega)) ?_
      refine V_aload_n (i := 0) dX9_apart_37 rfl 0 rfl ?_
      refine M_getR dX9_apart_38 lf_X9_10 rfl hx.1 hx.2.1.1 ?_
      refine V_iload_n (i := 2) dX9_apart_41 rfl 2 rfl ?_
      refine M_callVp (As := [.int (nI (iN d))]) (st := [.int (nI (v_pk (x_A X) (iN c)))]) dX9_apart_42 lv_X9_266 ⟨by decide, by decide⟩ ⟨rfl, rfl⟩ rfl (ci := 0) hx.2.1.2.1 rfl rfl (Nat.le_of_ble_eq_true rfl) (t_X0_packedOf hx.2.1.2 hA (c := iN d) (by omega)) ?_
      refine M_callSp (As := [.int (nI (v_pk (x_A X) (iN c))), .int (nI (v_pk (x_A X) (iN d)))]) (st := []) dX9_apart_45 ls_X9_269 ⟨by decide, by decide⟩ ⟨rfl, rfl⟩ rfl (Nat.le_of_ble_eq_true rfl) (t_distance (z_pk8 hA.ok (by omega)) (z_pk8 hA.ok (by omega))) ?_
      refine V_iret dX9_apart_48 ⟨rfl, rfl⟩ (Nat.zero_le _) (Nat.zero_le _) ?_
      subst hQ
      exact ⟨_, _, _, rfl, rfl, by unfold o_apart; rw [if_neg (fun z => z ⟨h8, h19⟩)]; exact OP.same hX⟩
    · have h19 : ¬ (inR d (v_nc (x_A X))) := bI_eq0.mp h19
      refine V_aload_n (i := 0) dX9_apart_22 rfl 0 rfl ?_
      refine V_bipush (v := (-2)) dX9_apart_23 rfl ?_
      refine M_callVq (As := [.int ((-2))]) (st := []) dX9_apart_25 lv_X9_69 ⟨by decide, by decide⟩ ⟨rfl, rfl⟩ rfl (ci := 6) hx.1 rfl rfl (Nat.le_of_ble_eq_true rfl) (t_refuse hx hX (j := 0) (by decide)) (fun w25 iv25 lw25 q25 => ?_)
      obtain ⟨rfl, e1, hXr, hOr⟩ := q25
      subst e1
      refine V_iret dX9_apart_28 ⟨rfl, rfl⟩ (Nat.zero_le _) (Nat.zero_le _) ?_
      subst hQ
      exact ⟨_, _, _, rfl, rfl, by unfold o_apart; rw [if_pos (fun z => h19 z.2)]; exact ⟨rfl, hXr, hOr, Off.rf⟩⟩
set_option maxRecDepth 20000 in
theorem k_alikeFirst {g : Ev} {S : St} {iv : IV} {lw : LW} (hx : IsX S) {X : Xs} (hX : CX iv lw X) {c d : Int32} : CQ g mX9_alikeFirst [.ref (0), .int (c), .int (d)] S iv lw (fun w iv2 lw2 => OP iv lw (o_alikeFirst X c d) w iv2 lw2) := by
  refine CT_ofQ rfl (by decide) (Nat.le_of_ble_eq_true rfl) (lv := [(0, .ref (0)), (1, .int (c)), (2, .int (d))]) rfl (fun Q hQ => ?_)
  have hA := hX.1
  have hnc := hA.ok.nc
  have hne := hA.ok.ne
  have hnm := hA.ok.nm
  refine V_aload_n (i := 0) dX9_alikeFirst_0 rfl 0 rfl ?_
  refine M_getR dX9_alikeFirst_1 lf_X9_10 rfl hx.1 hx.2.1.1 ?_
  refine V_iload_n (i := 1) dX9_alikeFirst_4 rfl 1 rfl ?_
  refine M_callVp (As := [.int (c)]) (st := []) dX9_alikeFirst_5 lv_X9_180 ⟨by decide, by decide⟩ ⟨rfl, rfl⟩ rfl (ci := 0) hx.2.1.2.1 rfl rfl (Nat.le_of_ble_eq_true rfl) (t_X0_isCall hx.2.1.2 hA) ?_
  refine V_if_eq (tgt := 22) dX9_alikeFirst_8 rfl (fun h8 => ?_) (fun h8 => ?_)
  · have h8 : ¬ (inR c (v_nc (x_A X))) := bI_eq0.mp h8
    refine V_aload_n (i := 0) dX9_alikeFirst_22 rfl 0 rfl ?_
    refine V_bipush (v := (-2)) dX9_alikeFirst_23 rfl ?_
    refine M_callVq (As := [.int ((-2))]) (st := []) dX9_alikeFirst_25 lv_X9_69 ⟨by decide, by decide⟩ ⟨rfl, rfl⟩ rfl (ci := 6) hx.1 rfl rfl (Nat.le_of_ble_eq_true rfl) (t_refuse hx hX (j := 0) (by decide)) (fun w25 iv25 lw25 q25 => ?_)
    obtain ⟨rfl, e1, hXr, hOr⟩ := q25
    subst e1
    refine V_iret dX9_alikeFirst_28 ⟨rfl, rfl⟩ (Nat.zero_le _) (Nat.zero_le _) ?_
    subst hQ
    exact ⟨_, _, _, rfl, rfl, by unfold o_alikeFirst; rw [if_pos (fun z => h8 z.1)]; exact ⟨rfl, hXr, hOr, Off.rf⟩⟩
  · have h8 : inR c (v_nc (x_A X)) := bI_ne.mp h8
    refine V_aload_n (i := 0) dX9_alikeFirst_11 rfl 0 rfl ?_
    refine M_getR dX9_alikeFirst_12 lf_X9_10 rfl hx.1 hx.2.1.1 ?_
    refine V_iload_n (i := 2) dX9_alikeFirst_15 rfl 2 rfl ?_
    refine M_callVp (As := [.int (d)]) (st := []) dX9_alikeFirst_16 lv_X9_180 ⟨by decide, by decide⟩ ⟨rfl, rfl⟩ rfl (ci := 0) hx.2.1.2.1 rfl rfl (Nat.le_of_ble_eq_true rfl) (t_X0_isCall hx.2.1.2 hA) ?_
    refine V_if_ne (tgt := 29) dX9_alikeFirst_19 rfl (fun h19 => ?_) (fun h19 => ?_)
    · have h19 : inR d (v_nc (x_A X)) := bI_ne.mp h19
      have cc := iN_eq (k := c) (by omega)
      have cd := iN_eq (k := d) (by omega)
      have dc := iN_i (k := c) (by omega)
      have dd := iN_i (k := d) (by omega)
      refine M_at (lv2 := [(0, .ref (0)), (1, .int (nI (iN c))), (2, .int (nI (iN d)))]) (st2 := []) ?_ (by rw [← cc, ← cd]) rfl rfl rfl
      refine V_aload_n (i := 0) dX9_alikeFirst_29 rfl 0 rfl ?_
      refine M_getR dX9_alikeFirst_30 lf_X9_10 rfl hx.1 hx.2.1.1 ?_
      refine V_iload_n (i := 1) dX9_alikeFirst_33 rfl 1 rfl ?_
      refine V_iload_n (i := 2) dX9_alikeFirst_34 rfl 2 rfl ?_
      refine M_callSp (As := [.ref (1), .int (nI (iN c)), .int (nI (iN d))]) (st := []) dX9_alikeFirst_35 ls_X9_293 ⟨by decide, by decide⟩ ⟨rfl, rfl⟩ rfl (Nat.le_of_ble_eq_true rfl) (t_sameStart hx.2.1.2 hA (c := iN c) (d := iN d) (by omega) (by omega)) ?_
      refine V_iret dX9_alikeFirst_38 ⟨rfl, rfl⟩ (Nat.zero_le _) (Nat.zero_le _) ?_
      subst hQ
      exact ⟨_, _, _, rfl, rfl, by unfold o_alikeFirst; rw [if_neg (fun z => z ⟨h8, h19⟩)]; exact OP.same hX⟩
    · have h19 : ¬ (inR d (v_nc (x_A X))) := bI_eq0.mp h19
      refine V_aload_n (i := 0) dX9_alikeFirst_22 rfl 0 rfl ?_
      refine V_bipush (v := (-2)) dX9_alikeFirst_23 rfl ?_
      refine M_callVq (As := [.int ((-2))]) (st := []) dX9_alikeFirst_25 lv_X9_69 ⟨by decide, by decide⟩ ⟨rfl, rfl⟩ rfl (ci := 6) hx.1 rfl rfl (Nat.le_of_ble_eq_true rfl) (t_refuse hx hX (j := 0) (by decide)) (fun w25 iv25 lw25 q25 => ?_)
      obtain ⟨rfl, e1, hXr, hOr⟩ := q25
      subst e1
      refine V_iret dX9_alikeFirst_28 ⟨rfl, rfl⟩ (Nat.zero_le _) (Nat.zero_le _) ?_
      subst hQ
      exact ⟨_, _, _, rfl, rfl, by unfold o_alikeFirst; rw [if_pos (fun z => h19 z.2)]; exact ⟨rfl, hXr, hOr, Off.rf⟩⟩
set_option maxRecDepth 20000 in
theorem k_risk {g : Ev} {S : St} {iv : IV} {lw : LW} (hx : IsX S) {X : Xs} (hX : CX iv lw X) {c e : Int32} : CQ g mX9_risk [.ref (0), .int (c), .int (e)] S iv lw (fun w iv2 lw2 => OP iv lw (o_risk X c e) w iv2 lw2) := by
  refine CT_ofQ rfl (by decide) (Nat.le_of_ble_eq_true rfl) (lv := [(0, .ref (0)), (1, .int (c)), (2, .int (e))]) rfl (fun Q hQ => ?_)
  have hA := hX.1
  have hnc := hA.ok.nc
  have hne := hA.ok.ne
  have hnm := hA.ok.nm
  refine V_aload_n (i := 0) dX9_risk_0 rfl 0 rfl ?_
  refine M_getR dX9_risk_1 lf_X9_10 rfl hx.1 hx.2.1.1 ?_
  refine V_iload_n (i := 1) dX9_risk_4 rfl 1 rfl ?_
  refine M_callVp (As := [.int (c)]) (st := []) dX9_risk_5 lv_X9_180 ⟨by decide, by decide⟩ ⟨rfl, rfl⟩ rfl (ci := 0) hx.2.1.2.1 rfl rfl (Nat.le_of_ble_eq_true rfl) (t_X0_isCall hx.2.1.2 hA) ?_
  refine V_if_eq (tgt := 22) dX9_risk_8 rfl (fun h8 => ?_) (fun h8 => ?_)
  · have h8 : ¬ (inR c (v_nc (x_A X))) := bI_eq0.mp h8
    refine V_aload_n (i := 0) dX9_risk_22 rfl 0 rfl ?_
    refine V_bipush (v := (-2)) dX9_risk_23 rfl ?_
    refine M_callVq (As := [.int ((-2))]) (st := []) dX9_risk_25 lv_X9_69 ⟨by decide, by decide⟩ ⟨rfl, rfl⟩ rfl (ci := 6) hx.1 rfl rfl (Nat.le_of_ble_eq_true rfl) (t_refuse hx hX (j := 0) (by decide)) (fun w25 iv25 lw25 q25 => ?_)
    obtain ⟨rfl, e1, hXr, hOr⟩ := q25
    subst e1
    refine V_iret dX9_risk_28 ⟨rfl, rfl⟩ (Nat.zero_le _) (Nat.zero_le _) ?_
    subst hQ
    exact ⟨_, _, _, rfl, rfl, by unfold o_risk; rw [if_pos (fun z => h8 z.1)]; exact ⟨rfl, hXr, hOr, Off.rf⟩⟩
  · have h8 : inR c (v_nc (x_A X)) := bI_ne.mp h8
    refine V_aload_n (i := 0) dX9_risk_11 rfl 0 rfl ?_
    refine M_getR dX9_risk_12 lf_X9_10 rfl hx.1 hx.2.1.1 ?_
    refine V_iload_n (i := 2) dX9_risk_15 rfl 2 rfl ?_
    refine M_callVp (As := [.int (e)]) (st := []) dX9_risk_16 lv_X9_108 ⟨by decide, by decide⟩ ⟨rfl, rfl⟩ rfl (ci := 0) hx.2.1.2.1 rfl rfl (Nat.le_of_ble_eq_true rfl) (t_X0_isEar hx.2.1.2 hA) ?_
    refine V_if_ne (tgt := 29) dX9_risk_19 rfl (fun h19 => ?_) (fun h19 => ?_)
    · have h19 : inR e (v_ne (x_A X)) := bI_ne.mp h19
      have cc := iN_eq (k := c) (by omega)
      have ce := iN_eq (k := e) (by omega)
      have dc := iN_i (k := c) (by omega)
      have de := iN_i (k := e) (by omega)
      refine M_at (lv2 := [(0, .ref (0)), (1, .int (nI (iN c))), (2, .int (nI (iN e)))]) (st2 := []) ?_ (by rw [← cc, ← ce]) rfl rfl rfl
      refine V_aload_n (i := 0) dX9_risk_29 rfl 0 rfl ?_
      refine M_getR dX9_risk_30 lf_X9_10 rfl hx.1 hx.2.1.1 ?_
      refine V_aload_n (i := 0) dX9_risk_33 rfl 0 rfl ?_
      refine M_getR dX9_risk_34 lf_X9_43 rfl hx.1 hx.2.2.2.2.2.1.1 ?_
      refine V_iload_n (i := 1) dX9_risk_37 rfl 1 rfl ?_
      refine V_iload_n (i := 2) dX9_risk_38 rfl 2 rfl ?_
      refine M_callSq (As := [.ref (1), .ref (47), .int (nI (iN c)), .int (nI (iN e))]) (st := []) dX9_risk_39 ls_X9_352 ⟨by decide, by decide⟩ ⟨rfl, rfl⟩ rfl (Nat.le_of_ble_eq_true rfl) (t_riskOf hx.2.1.2 hA hx.2.2.2.2.2.1.2 (by omega) (c := iN c) (e := iN e) (by omega) (by omega)) (fun w39 iv39 lw39 q39 => ?_)
      obtain ⟨rfl, e1, hO⟩ := q39
      subst e1
      have hA2 := hA.off hO (by omega)
      refine V_iret dX9_risk_42 ⟨rfl, rfl⟩ (Nat.zero_le _) (Nat.zero_le _) ?_
      subst hQ
      exact ⟨_, _, _, rfl, rfl, by unfold o_risk; rw [if_neg (fun z => z ⟨h8, h19⟩)]; exact OP.hear hX hO⟩
    · have h19 : ¬ (inR e (v_ne (x_A X))) := bI_eq0.mp h19
      refine V_aload_n (i := 0) dX9_risk_22 rfl 0 rfl ?_
      refine V_bipush (v := (-2)) dX9_risk_23 rfl ?_
      refine M_callVq (As := [.int ((-2))]) (st := []) dX9_risk_25 lv_X9_69 ⟨by decide, by decide⟩ ⟨rfl, rfl⟩ rfl (ci := 6) hx.1 rfl rfl (Nat.le_of_ble_eq_true rfl) (t_refuse hx hX (j := 0) (by decide)) (fun w25 iv25 lw25 q25 => ?_)
      obtain ⟨rfl, e1, hXr, hOr⟩ := q25
      subst e1
      refine V_iret dX9_risk_28 ⟨rfl, rfl⟩ (Nat.zero_le _) (Nat.zero_le _) ?_
      subst hQ
      exact ⟨_, _, _, rfl, rfl, by unfold o_risk; rw [if_pos (fun z => h19 z.2)]; exact ⟨rfl, hXr, hOr, Off.rf⟩⟩
set_option maxRecDepth 20000 in
theorem k_known {g : Ev} {S : St} {iv : IV} {lw : LW} (hx : IsX S) {X : Xs} (hX : CX iv lw X) {c e : Int32} : CQ g mX9_known [.ref (0), .int (c), .int (e)] S iv lw (fun w iv2 lw2 => OP iv lw (o_known X c e) w iv2 lw2) := by
  refine CT_ofQ rfl (by decide) (Nat.le_of_ble_eq_true rfl) (lv := [(0, .ref (0)), (1, .int (c)), (2, .int (e))]) rfl (fun Q hQ => ?_)
  have hA := hX.1
  have hnc := hA.ok.nc
  have hne := hA.ok.ne
  have hnm := hA.ok.nm
  refine V_aload_n (i := 0) dX9_known_0 rfl 0 rfl ?_
  refine M_getR dX9_known_1 lf_X9_10 rfl hx.1 hx.2.1.1 ?_
  refine V_iload_n (i := 1) dX9_known_4 rfl 1 rfl ?_
  refine M_callVp (As := [.int (c)]) (st := []) dX9_known_5 lv_X9_180 ⟨by decide, by decide⟩ ⟨rfl, rfl⟩ rfl (ci := 0) hx.2.1.2.1 rfl rfl (Nat.le_of_ble_eq_true rfl) (t_X0_isCall hx.2.1.2 hA) ?_
  refine V_if_eq (tgt := 22) dX9_known_8 rfl (fun h8 => ?_) (fun h8 => ?_)
  · have h8 : ¬ (inR c (v_nc (x_A X))) := bI_eq0.mp h8
    refine V_aload_n (i := 0) dX9_known_22 rfl 0 rfl ?_
    refine V_bipush (v := (-2)) dX9_known_23 rfl ?_
    refine M_callVq (As := [.int ((-2))]) (st := []) dX9_known_25 lv_X9_69 ⟨by decide, by decide⟩ ⟨rfl, rfl⟩ rfl (ci := 6) hx.1 rfl rfl (Nat.le_of_ble_eq_true rfl) (t_refuse hx hX (j := 0) (by decide)) (fun w25 iv25 lw25 q25 => ?_)
    obtain ⟨rfl, e1, hXr, hOr⟩ := q25
    subst e1
    refine V_iret dX9_known_28 ⟨rfl, rfl⟩ (Nat.zero_le _) (Nat.zero_le _) ?_
    subst hQ
    exact ⟨_, _, _, rfl, rfl, by unfold o_known; rw [if_pos (fun z => h8 z.1)]; exact ⟨rfl, hXr, hOr, Off.rf⟩⟩
  · have h8 : inR c (v_nc (x_A X)) := bI_ne.mp h8
    refine V_aload_n (i := 0) dX9_known_11 rfl 0 rfl ?_
    refine M_getR dX9_known_12 lf_X9_10 rfl hx.1 hx.2.1.1 ?_
    refine V_iload_n (i := 2) dX9_known_15 rfl 2 rfl ?_
    refine M_callVp (As := [.int (e)]) (st := []) dX9_known_16 lv_X9_108 ⟨by decide, by decide⟩ ⟨rfl, rfl⟩ rfl (ci := 0) hx.2.1.2.1 rfl rfl (Nat.le_of_ble_eq_true rfl) (t_X0_isEar hx.2.1.2 hA) ?_
    refine V_if_ne (tgt := 29) dX9_known_19 rfl (fun h19 => ?_) (fun h19 => ?_)
    · have h19 : inR e (v_ne (x_A X)) := bI_ne.mp h19
      have cc := iN_eq (k := c) (by omega)
      have ce := iN_eq (k := e) (by omega)
      have dc := iN_i (k := c) (by omega)
      have de := iN_i (k := e) (by omega)
      refine M_at (lv2 := [(0, .ref (0)), (1, .int (nI (iN c))), (2, .int (nI (iN e)))]) (st2 := []) ?_ (by rw [← cc, ← ce]) rfl rfl rfl
      refine V_aload_n (i := 0) dX9_known_29 rfl 0 rfl ?_
      refine M_getR dX9_known_30 lf_X9_10 rfl hx.1 hx.2.1.1 ?_
      refine V_aload_n (i := 0) dX9_known_33 rfl 0 rfl ?_
      refine M_getR dX9_known_34 lf_X9_43 rfl hx.1 hx.2.2.2.2.2.1.1 ?_
      refine V_iload_n (i := 1) dX9_known_37 rfl 1 rfl ?_
      refine V_iload_n (i := 2) dX9_known_38 rfl 2 rfl ?_
      refine M_callSq (As := [.ref (1), .ref (47), .int (nI (iN c)), .int (nI (iN e))]) (st := []) dX9_known_39 ls_X9_272 ⟨by decide, by decide⟩ ⟨rfl, rfl⟩ rfl (Nat.le_of_ble_eq_true rfl) (t_countedBehind hx.2.1.2 hA hx.2.2.2.2.2.1.2 (by omega) (c := iN c) (e := iN e) (by omega) (by omega)) (fun w39 iv39 lw39 q39 => ?_)
      obtain ⟨rfl, e1, hO⟩ := q39
      subst e1
      have hA2 := hA.off hO (by omega)
      refine V_istore_n (lv2 := [(3, .int (nI (behind (x_A X) (iN c) (iN e)))), (0, .ref (0)), (1, .int (nI (iN c))), (2, .int (nI (iN e)))]) dX9_known_42 rfl (by decide) rfl ?_
      refine V_iload_n (i := 3) dX9_known_43 rfl 0 rfl ?_
      refine V_aload_n (i := 0) dX9_known_44 rfl 1 rfl ?_
      refine M_getR dX9_known_45 lf_X9_10 rfl hx.1 hx.2.1.1 ?_
      refine V_iload_n (i := 1) dX9_known_48 rfl 2 rfl ?_
      refine M_callVp (As := [.int (nI (iN c))]) (st := [.int (nI (behind (x_A X) (iN c) (iN e)))]) dX9_known_49 lv_X9_220 ⟨by decide, by decide⟩ ⟨rfl, rfl⟩ rfl (ci := 0) hx.2.1.2.1 rfl rfl (Nat.le_of_ble_eq_true rfl) (t_X0_sizeOf hx.2.1.2 hA2 (c := iN c) (by omega)) ?_
      refine V_iconst (v := nI 1) dX9_known_52 rfl ?_
      refine V_iadd dX9_known_53 ?_
      refine M_top (nI_add _ _) ?_
      have hb1 := behind_le (x_A X) (iN c) (iN e)
      have hb2 := hA.ok.sz (c := iN c) (by omega)
      refine V_icmp_gt (tgt := 61) dX9_known_54 rfl (fun h54 => ?_) (fun h54 => ?_)
      · have h54 : ((v_sz (x_A X) (iN c)) + 1) < (behind (x_A X) (iN c) (iN e)) := (nI_ltI (by omega) (by omega)).mp h54
        refine V_iconst (v := (-1)) dX9_known_61 rfl ?_
        refine V_iret dX9_known_62 ⟨rfl, rfl⟩ (Nat.zero_le _) (Nat.zero_le _) ?_
        subst hQ
        exact ⟨_, _, _, rfl, rfl, by unfold o_known; rw [if_neg (fun z => z ⟨h8, h19⟩), if_neg (by omega)]; exact OP.hear hX hO⟩
      · have h54 : ¬ ((v_sz (x_A X) (iN c)) + 1) < (behind (x_A X) (iN c) (iN e)) := fun q => h54 ((nI_ltI (by omega) (by omega)).mpr q)
        refine V_iload_n (i := 3) dX9_known_57 rfl 0 rfl ?_
        refine V_goto (tgt := 62) dX9_known_58 rfl ?_
        refine V_iret dX9_known_62 ⟨rfl, rfl⟩ (Nat.zero_le _) (Nat.zero_le _) ?_
        subst hQ
        exact ⟨_, _, _, rfl, rfl, by unfold o_known; rw [if_neg (fun z => z ⟨h8, h19⟩), if_pos (by omega)]; exact OP.hear hX hO⟩
    · have h19 : ¬ (inR e (v_ne (x_A X))) := bI_eq0.mp h19
      refine V_aload_n (i := 0) dX9_known_22 rfl 0 rfl ?_
      refine V_bipush (v := (-2)) dX9_known_23 rfl ?_
      refine M_callVq (As := [.int ((-2))]) (st := []) dX9_known_25 lv_X9_69 ⟨by decide, by decide⟩ ⟨rfl, rfl⟩ rfl (ci := 6) hx.1 rfl rfl (Nat.le_of_ble_eq_true rfl) (t_refuse hx hX (j := 0) (by decide)) (fun w25 iv25 lw25 q25 => ?_)
      obtain ⟨rfl, e1, hXr, hOr⟩ := q25
      subst e1
      refine V_iret dX9_known_28 ⟨rfl, rfl⟩ (Nat.zero_le _) (Nat.zero_le _) ?_
      subst hQ
      exact ⟨_, _, _, rfl, rfl, by unfold o_known; rw [if_pos (fun z => h19 z.2)]; exact ⟨rfl, hXr, hOr, Off.rf⟩⟩
set_option maxRecDepth 20000 in
theorem k_earFor {g : Ev} {S : St} {iv : IV} {lw : LW} (hx : IsX S) {X : Xs} (hX : CX iv lw X) {c : Int32} : CQ g mX9_earFor [.ref (0), .int (c)] S iv lw (fun w iv2 lw2 => OP iv lw (o_earFor X c) w iv2 lw2) := by
  refine CT_ofQ rfl (by decide) (Nat.le_of_ble_eq_true rfl) (lv := [(0, .ref (0)), (1, .int (c))]) rfl (fun Q hQ => ?_)
  have hA := hX.1
  have hnc := hA.ok.nc
  have hne := hA.ok.ne
  have hnm := hA.ok.nm
  refine V_aload_n (i := 0) dX9_earFor_0 rfl 0 rfl ?_
  refine M_getR dX9_earFor_1 lf_X9_10 rfl hx.1 hx.2.1.1 ?_
  refine V_iload_n (i := 1) dX9_earFor_4 rfl 1 rfl ?_
  refine M_callVp (As := [.int (c)]) (st := []) dX9_earFor_5 lv_X9_180 ⟨by decide, by decide⟩ ⟨rfl, rfl⟩ rfl (ci := 0) hx.2.1.2.1 rfl rfl (Nat.le_of_ble_eq_true rfl) (t_X0_isCall hx.2.1.2 hA) ?_
  refine V_if_ne (tgt := 18) dX9_earFor_8 rfl (fun h8 => ?_) (fun h8 => ?_)
  · have h8 : inR c (v_nc (x_A X)) := bI_ne.mp h8
    refine V_aload_n (i := 0) dX9_earFor_18 rfl 0 rfl ?_
    refine M_getR dX9_earFor_19 lf_X9_10 rfl hx.1 hx.2.1.1 ?_
    refine M_getI (x := nI (v_ne (x_A X))) dX9_earFor_22 lf_X9_275 rfl hx.2.1.2.1 (hA.ne) ?_
    refine V_if_le (tgt := 43) dX9_earFor_25 rfl (fun h25 => ?_) (fun h25 => ?_)
    · have h25 : (v_ne (x_A X)) ≤ 0 := (nI_leI (b := 0) (by omega) (by omega)).mp h25
      refine V_aload_n (i := 0) dX9_earFor_43 rfl 0 rfl ?_
      refine V_bipush (v := (-5)) dX9_earFor_44 rfl ?_
      refine M_callVq (As := [.int ((-5))]) (st := []) dX9_earFor_46 lv_X9_69 ⟨by decide, by decide⟩ ⟨rfl, rfl⟩ rfl (ci := 6) hx.1 rfl rfl (Nat.le_of_ble_eq_true rfl) (t_refuse hx hX (j := 3) (by decide)) (fun w46 iv46 lw46 q46 => ?_)
      obtain ⟨rfl, e1, hXr, hOr⟩ := q46
      subst e1
      refine V_iret dX9_earFor_49 ⟨rfl, rfl⟩ (Nat.zero_le _) (Nat.zero_le _) ?_
      subst hQ
      exact ⟨_, _, _, rfl, rfl, by unfold o_earFor; rw [if_neg (fun z => z h8), if_neg (by omega)]; exact ⟨rfl, hXr, hOr, Off.rf⟩⟩
    · have h25 : ¬ (v_ne (x_A X)) ≤ 0 := fun q => h25 ((nI_leI (b := 0) (by omega) (by omega)).mpr q)
      have cc := iN_eq (k := c) (by omega)
      have dc := iN_i (k := c) (by omega)
      refine M_at (lv2 := [(0, .ref (0)), (1, .int (nI (iN c)))]) (st2 := []) ?_ (by rw [← cc]) rfl rfl rfl
      refine V_aload_n (i := 0) dX9_earFor_28 rfl 0 rfl ?_
      refine M_getR dX9_earFor_29 lf_X9_10 rfl hx.1 hx.2.1.1 ?_
      refine V_aload_n (i := 0) dX9_earFor_32 rfl 0 rfl ?_
      refine M_getR dX9_earFor_33 lf_X9_43 rfl hx.1 hx.2.2.2.2.2.1.1 ?_
      refine V_iload_n (i := 1) dX9_earFor_36 rfl 1 rfl ?_
      refine M_callSq (As := [.ref (1), .ref (47), .int (nI (iN c))]) (st := []) dX9_earFor_37 ls_X9_278 ⟨by decide, by decide⟩ ⟨rfl, rfl⟩ rfl (Nat.le_of_ble_eq_true rfl) (t_bestEar hx.2.1.2 hA hx.2.2.2.2.2.1.2 (by omega) (c := iN c) (by omega)) (fun w37 iv37 lw37 q37 => ?_)
      obtain ⟨rfl, e1, hO⟩ := q37
      subst e1
      have hA2 := hA.off hO (by omega)
      refine V_goto (tgt := 49) dX9_earFor_40 rfl ?_
      refine V_iret dX9_earFor_49 ⟨rfl, rfl⟩ (Nat.zero_le _) (Nat.zero_le _) ?_
      subst hQ
      exact ⟨_, _, _, rfl, rfl, by unfold o_earFor; rw [if_neg (fun z => z h8), if_pos (by omega)]; exact OP.hear hX hO⟩
  · have h8 : ¬ (inR c (v_nc (x_A X))) := bI_eq0.mp h8
    refine V_aload_n (i := 0) dX9_earFor_11 rfl 0 rfl ?_
    refine V_bipush (v := (-2)) dX9_earFor_12 rfl ?_
    refine M_callVq (As := [.int ((-2))]) (st := []) dX9_earFor_14 lv_X9_69 ⟨by decide, by decide⟩ ⟨rfl, rfl⟩ rfl (ci := 6) hx.1 rfl rfl (Nat.le_of_ble_eq_true rfl) (t_refuse hx hX (j := 0) (by decide)) (fun w14 iv14 lw14 q14 => ?_)
    obtain ⟨rfl, e1, hXr, hOr⟩ := q14
    subst e1
    refine V_iret dX9_earFor_17 ⟨rfl, rfl⟩ (Nat.zero_le _) (Nat.zero_le _) ?_
    subst hQ
    exact ⟨_, _, _, rfl, rfl, by unfold o_earFor; rw [if_pos h8]; exact ⟨rfl, hXr, hOr, Off.rf⟩⟩
set_option maxRecDepth 20000 in
theorem k_mean {g : Ev} {S : St} {iv : IV} {lw : LW} (hx : IsX S) {X : Xs} (hX : CX iv lw X) {e : Int32} : CQ g mX9_mean [.ref (0), .int (e)] S iv lw (fun w iv2 lw2 => OP iv lw (o_mean X e) w iv2 lw2) := by
  refine CT_ofQ rfl (by decide) (Nat.le_of_ble_eq_true rfl) (lv := [(0, .ref (0)), (1, .int (e))]) rfl (fun Q hQ => ?_)
  have hA := hX.1
  have hnc := hA.ok.nc
  have hne := hA.ok.ne
  have hnm := hA.ok.nm
  refine V_aload_n (i := 0) dX9_mean_0 rfl 0 rfl ?_
  refine M_getR dX9_mean_1 lf_X9_10 rfl hx.1 hx.2.1.1 ?_
  refine V_iload_n (i := 1) dX9_mean_4 rfl 1 rfl ?_
  refine M_callVp (As := [.int (e)]) (st := []) dX9_mean_5 lv_X9_108 ⟨by decide, by decide⟩ ⟨rfl, rfl⟩ rfl (ci := 0) hx.2.1.2.1 rfl rfl (Nat.le_of_ble_eq_true rfl) (t_X0_isEar hx.2.1.2 hA) ?_
  refine V_if_ne (tgt := 18) dX9_mean_8 rfl (fun h8 => ?_) (fun h8 => ?_)
  · have h8 : inR e (v_ne (x_A X)) := bI_ne.mp h8
    refine V_aload_n (i := 0) dX9_mean_18 rfl 0 rfl ?_
    refine M_getR dX9_mean_19 lf_X9_10 rfl hx.1 hx.2.1.1 ?_
    refine M_getI (x := nI (v_nc (x_A X))) dX9_mean_22 lf_X9_281 rfl hx.2.1.2.1 (hA.nc) ?_
    refine V_if_le (tgt := 43) dX9_mean_25 rfl (fun h25 => ?_) (fun h25 => ?_)
    · have h25 : (v_nc (x_A X)) ≤ 0 := (nI_leI (b := 0) (by omega) (by omega)).mp h25
      refine V_aload_n (i := 0) dX9_mean_43 rfl 0 rfl ?_
      refine V_bipush (v := (-5)) dX9_mean_44 rfl ?_
      refine M_callVq (As := [.int ((-5))]) (st := []) dX9_mean_46 lv_X9_69 ⟨by decide, by decide⟩ ⟨rfl, rfl⟩ rfl (ci := 6) hx.1 rfl rfl (Nat.le_of_ble_eq_true rfl) (t_refuse hx hX (j := 3) (by decide)) (fun w46 iv46 lw46 q46 => ?_)
      obtain ⟨rfl, e1, hXr, hOr⟩ := q46
      subst e1
      refine V_iret dX9_mean_49 ⟨rfl, rfl⟩ (Nat.zero_le _) (Nat.zero_le _) ?_
      subst hQ
      exact ⟨_, _, _, rfl, rfl, by unfold o_mean; rw [if_neg (fun z => z h8), if_neg (by omega)]; exact ⟨rfl, hXr, hOr, Off.rf⟩⟩
    · have h25 : ¬ (v_nc (x_A X)) ≤ 0 := fun q => h25 ((nI_leI (b := 0) (by omega) (by omega)).mpr q)
      have ce := iN_eq (k := e) (by omega)
      have de := iN_i (k := e) (by omega)
      refine M_at (lv2 := [(0, .ref (0)), (1, .int (nI (iN e)))]) (st2 := []) ?_ (by rw [← ce]) rfl rfl rfl
      refine V_aload_n (i := 0) dX9_mean_28 rfl 0 rfl ?_
      refine M_getR dX9_mean_29 lf_X9_10 rfl hx.1 hx.2.1.1 ?_
      refine V_aload_n (i := 0) dX9_mean_32 rfl 0 rfl ?_
      refine M_getR dX9_mean_33 lf_X9_43 rfl hx.1 hx.2.2.2.2.2.1.1 ?_
      refine V_iload_n (i := 1) dX9_mean_36 rfl 1 rfl ?_
      refine M_callSq (As := [.ref (1), .ref (47), .int (nI (iN e))]) (st := []) dX9_mean_37 ls_X9_284 ⟨by decide, by decide⟩ ⟨rfl, rfl⟩ rfl (Nat.le_of_ble_eq_true rfl) (t_meanBehind hx.2.1.2 hA hx.2.2.2.2.2.1.2 (by omega) (e := iN e) (by omega)) (fun w37 iv37 lw37 q37 => ?_)
      obtain ⟨rfl, e1, hO⟩ := q37
      subst e1
      have hA2 := hA.off hO (by omega)
      refine V_goto (tgt := 49) dX9_mean_40 rfl ?_
      refine V_iret dX9_mean_49 ⟨rfl, rfl⟩ (Nat.zero_le _) (Nat.zero_le _) ?_
      subst hQ
      exact ⟨_, _, _, rfl, rfl, by unfold o_mean; rw [if_neg (fun z => z h8), if_pos (by omega)]; exact OP.hear hX hO⟩
  · have h8 : ¬ (inR e (v_ne (x_A X))) := bI_eq0.mp h8
    refine V_aload_n (i := 0) dX9_mean_11 rfl 0 rfl ?_
    refine V_bipush (v := (-2)) dX9_mean_12 rfl ?_
    refine M_callVq (As := [.int ((-2))]) (st := []) dX9_mean_14 lv_X9_69 ⟨by decide, by decide⟩ ⟨rfl, rfl⟩ rfl (ci := 6) hx.1 rfl rfl (Nat.le_of_ble_eq_true rfl) (t_refuse hx hX (j := 0) (by decide)) (fun w14 iv14 lw14 q14 => ?_)
    obtain ⟨rfl, e1, hXr, hOr⟩ := q14
    subst e1
    refine V_iret dX9_mean_17 ⟨rfl, rfl⟩ (Nat.zero_le _) (Nat.zero_le _) ?_
    subst hQ
    exact ⟨_, _, _, rfl, rfl, by unfold o_mean; rw [if_pos h8]; exact ⟨rfl, hXr, hOr, Off.rf⟩⟩
set_option maxRecDepth 20000 in
theorem k_worst {g : Ev} {S : St} {iv : IV} {lw : LW} (hx : IsX S) {X : Xs} (hX : CX iv lw X) {e : Int32} : CQ g mX9_worst [.ref (0), .int (e)] S iv lw (fun w iv2 lw2 => OP iv lw (o_worst X e) w iv2 lw2) := by
  refine CT_ofQ rfl (by decide) (Nat.le_of_ble_eq_true rfl) (lv := [(0, .ref (0)), (1, .int (e))]) rfl (fun Q hQ => ?_)
  have hA := hX.1
  have hnc := hA.ok.nc
  have hne := hA.ok.ne
  have hnm := hA.ok.nm
  refine V_aload_n (i := 0) dX9_worst_0 rfl 0 rfl ?_
  refine M_getR dX9_worst_1 lf_X9_10 rfl hx.1 hx.2.1.1 ?_
  refine V_iload_n (i := 1) dX9_worst_4 rfl 1 rfl ?_
  refine M_callVp (As := [.int (e)]) (st := []) dX9_worst_5 lv_X9_108 ⟨by decide, by decide⟩ ⟨rfl, rfl⟩ rfl (ci := 0) hx.2.1.2.1 rfl rfl (Nat.le_of_ble_eq_true rfl) (t_X0_isEar hx.2.1.2 hA) ?_
  refine V_if_ne (tgt := 18) dX9_worst_8 rfl (fun h8 => ?_) (fun h8 => ?_)
  · have h8 : inR e (v_ne (x_A X)) := bI_ne.mp h8
    refine V_aload_n (i := 0) dX9_worst_18 rfl 0 rfl ?_
    refine M_getR dX9_worst_19 lf_X9_10 rfl hx.1 hx.2.1.1 ?_
    refine M_getI (x := nI (v_nc (x_A X))) dX9_worst_22 lf_X9_281 rfl hx.2.1.2.1 (hA.nc) ?_
    refine V_if_le (tgt := 43) dX9_worst_25 rfl (fun h25 => ?_) (fun h25 => ?_)
    · have h25 : (v_nc (x_A X)) ≤ 0 := (nI_leI (b := 0) (by omega) (by omega)).mp h25
      refine V_aload_n (i := 0) dX9_worst_43 rfl 0 rfl ?_
      refine V_bipush (v := (-5)) dX9_worst_44 rfl ?_
      refine M_callVq (As := [.int ((-5))]) (st := []) dX9_worst_46 lv_X9_69 ⟨by decide, by decide⟩ ⟨rfl, rfl⟩ rfl (ci := 6) hx.1 rfl rfl (Nat.le_of_ble_eq_true rfl) (t_refuse hx hX (j := 3) (by decide)) (fun w46 iv46 lw46 q46 => ?_)
      obtain ⟨rfl, e1, hXr, hOr⟩ := q46
      subst e1
      refine V_iret dX9_worst_49 ⟨rfl, rfl⟩ (Nat.zero_le _) (Nat.zero_le _) ?_
      subst hQ
      exact ⟨_, _, _, rfl, rfl, by unfold o_worst; rw [if_neg (fun z => z h8), if_neg (by omega)]; exact ⟨rfl, hXr, hOr, Off.rf⟩⟩
    · have h25 : ¬ (v_nc (x_A X)) ≤ 0 := fun q => h25 ((nI_leI (b := 0) (by omega) (by omega)).mpr q)
      have ce := iN_eq (k := e) (by omega)
      have de := iN_i (k := e) (by omega)
      refine M_at (lv2 := [(0, .ref (0)), (1, .int (nI (iN e)))]) (st2 := []) ?_ (by rw [← ce]) rfl rfl rfl
      refine V_aload_n (i := 0) dX9_worst_28 rfl 0 rfl ?_
      refine M_getR dX9_worst_29 lf_X9_10 rfl hx.1 hx.2.1.1 ?_
      refine V_aload_n (i := 0) dX9_worst_32 rfl 0 rfl ?_
      refine M_getR dX9_worst_33 lf_X9_43 rfl hx.1 hx.2.2.2.2.2.1.1 ?_
      refine V_iload_n (i := 1) dX9_worst_36 rfl 1 rfl ?_
      refine M_callSq (As := [.ref (1), .ref (47), .int (nI (iN e))]) (st := []) dX9_worst_37 ls_X9_287 ⟨by decide, by decide⟩ ⟨rfl, rfl⟩ rfl (Nat.le_of_ble_eq_true rfl) (t_riskiest hx.2.1.2 hA hx.2.2.2.2.2.1.2 (by omega) (e := iN e) (by omega)) (fun w37 iv37 lw37 q37 => ?_)
      obtain ⟨rfl, e1, hO⟩ := q37
      subst e1
      have hA2 := hA.off hO (by omega)
      refine V_goto (tgt := 49) dX9_worst_40 rfl ?_
      refine V_iret dX9_worst_49 ⟨rfl, rfl⟩ (Nat.zero_le _) (Nat.zero_le _) ?_
      subst hQ
      exact ⟨_, _, _, rfl, rfl, by unfold o_worst; rw [if_neg (fun z => z h8), if_pos (by omega)]; exact OP.hear hX hO⟩
  · have h8 : ¬ (inR e (v_ne (x_A X))) := bI_eq0.mp h8
    refine V_aload_n (i := 0) dX9_worst_11 rfl 0 rfl ?_
    refine V_bipush (v := (-2)) dX9_worst_12 rfl ?_
    refine M_callVq (As := [.int ((-2))]) (st := []) dX9_worst_14 lv_X9_69 ⟨by decide, by decide⟩ ⟨rfl, rfl⟩ rfl (ci := 6) hx.1 rfl rfl (Nat.le_of_ble_eq_true rfl) (t_refuse hx hX (j := 0) (by decide)) (fun w14 iv14 lw14 q14 => ?_)
    obtain ⟨rfl, e1, hXr, hOr⟩ := q14
    subst e1
    refine V_iret dX9_worst_17 ⟨rfl, rfl⟩ (Nat.zero_le _) (Nat.zero_le _) ?_
    subst hQ
    exact ⟨_, _, _, rfl, rfl, by unfold o_worst; rw [if_pos h8]; exact ⟨rfl, hXr, hOr, Off.rf⟩⟩
set_option maxRecDepth 20000 in
theorem k_notes {g : Ev} {S : St} {iv : IV} {lw : LW} (hx : IsX S) {X : Xs} (hX : CX iv lw X) {t : Int32} : CQ g mX9_notes [.ref (0), .int (t)] S iv lw (fun w iv2 lw2 => OP iv lw (o_notes X t) w iv2 lw2) := by
  refine CT_ofQ rfl (by decide) (Nat.le_of_ble_eq_true rfl) (lv := [(0, .ref (0)), (1, .int (t))]) rfl (fun Q hQ => ?_)
  have hA := hX.1
  have hnc := hA.ok.nc
  have hne := hA.ok.ne
  have hnm := hA.ok.nm
  refine V_iload_n (i := 1) dX9_notes_0 rfl 1 rfl ?_
  refine V_i2l dX9_notes_1 ?_
  refine M_callSp (As := [.long ((t).toInt64)]) (st := []) dX9_notes_2 ls_X9_297 ⟨by decide, by decide⟩ ⟨rfl, rfl⟩ rfl (Nat.le_of_ble_eq_true rfl) (t_X0_isNote) ?_
  refine V_if_eq (tgt := 19) dX9_notes_5 rfl (fun h5 => ?_) (fun h5 => ?_)
  · have h5 : ¬ (ntQ (t.toInt64)) := bI_eq0.mp h5
    have h5i : ¬ (0 ≤ t.toInt ∧ t.toInt ≤ 4) := fun z => h5 (by unfold ntQ; rw [i64]; exact z)
    refine V_aload_n (i := 0) dX9_notes_19 rfl 0 rfl ?_
    refine V_bipush (v := (-2)) dX9_notes_20 rfl ?_
    refine M_callVq (As := [.int ((-2))]) (st := []) dX9_notes_22 lv_X9_69 ⟨by decide, by decide⟩ ⟨rfl, rfl⟩ rfl (ci := 6) hx.1 rfl rfl (Nat.le_of_ble_eq_true rfl) (t_refuse hx hX (j := 0) (by decide)) (fun w22 iv22 lw22 q22 => ?_)
    obtain ⟨rfl, e1, hXr, hOr⟩ := q22
    subst e1
    refine V_iret dX9_notes_25 ⟨rfl, rfl⟩ (Nat.zero_le _) (Nat.zero_le _) ?_
    subst hQ
    exact ⟨_, _, _, rfl, rfl, by unfold o_notes; rw [if_neg h5i]; exact ⟨rfl, hXr, hOr, Off.rf⟩⟩
  · have h5 : ntQ (t.toInt64) := bI_ne.mp h5
    have h5i : 0 ≤ t.toInt ∧ t.toInt ≤ 4 := by unfold ntQ at h5; rw [i64] at h5; exact h5
    have ct := iN_eq (k := t) (by omega)
    have dt := iN_i (k := t) (by omega)
    refine M_at (lv2 := [(0, .ref (0)), (1, .int (nI (iN t)))]) (st2 := []) ?_ (by rw [← ct]) rfl rfl rfl
    refine V_aload_n (i := 0) dX9_notes_8 rfl 0 rfl ?_
    refine M_getR dX9_notes_9 lf_X9_10 rfl hx.1 hx.2.1.1 ?_
    refine V_iload_n (i := 1) dX9_notes_12 rfl 1 rfl ?_
    refine M_callVp (As := [.int (nI (iN t))]) (st := []) dX9_notes_13 lv_X9_301 ⟨by decide, by decide⟩ ⟨rfl, rfl⟩ rfl (ci := 0) hx.2.1.2.1 rfl rfl (Nat.le_of_ble_eq_true rfl) (t_X0_countNote hx.2.1.2 hA (t := iN t) (by omega)) ?_
    refine V_goto (tgt := 25) dX9_notes_16 rfl ?_
    refine V_iret dX9_notes_25 ⟨rfl, rfl⟩ (Nat.zero_le _) (Nat.zero_le _) ?_
    subst hQ
    exact ⟨_, _, _, rfl, rfl, by unfold o_notes; rw [if_pos h5i]; exact OP.same hX⟩
set_option maxRecDepth 20000 in
theorem k_change {g : Ev} {S : St} {iv : IV} {lw : LW} (hx : IsX S) {X : Xs} (hX : CX iv lw X) {c d : Int32} : CQ g mX9_change [.ref (0), .int (c), .int (d)] S iv lw (fun w iv2 lw2 => OP iv lw (o_change X c d) w iv2 lw2) := by
  refine CT_ofQ rfl (by decide) (Nat.le_of_ble_eq_true rfl) (lv := [(0, .ref (0)), (1, .int (c)), (2, .int (d))]) rfl (fun Q hQ => ?_)
  have hA := hX.1
  have hnc := hA.ok.nc
  have hne := hA.ok.ne
  have hnm := hA.ok.nm
  refine V_aload_n (i := 0) dX9_change_0 rfl 0 rfl ?_
  refine M_getR dX9_change_1 lf_X9_10 rfl hx.1 hx.2.1.1 ?_
  refine V_iload_n (i := 1) dX9_change_4 rfl 1 rfl ?_
  refine M_callVp (As := [.int (c)]) (st := []) dX9_change_5 lv_X9_180 ⟨by decide, by decide⟩ ⟨rfl, rfl⟩ rfl (ci := 0) hx.2.1.2.1 rfl rfl (Nat.le_of_ble_eq_true rfl) (t_X0_isCall hx.2.1.2 hA) ?_
  refine V_if_eq (tgt := 18) dX9_change_8 rfl (fun h8 => ?_) (fun h8 => ?_)
  · have h8 : ¬ (inR c (v_nc (x_A X))) := bI_eq0.mp h8
    refine V_aload_n (i := 0) dX9_change_18 rfl 0 rfl ?_
    refine V_bipush (v := (-2)) dX9_change_19 rfl ?_
    refine M_callVq (As := [.int ((-2))]) (st := []) dX9_change_21 lv_X9_69 ⟨by decide, by decide⟩ ⟨rfl, rfl⟩ rfl (ci := 6) hx.1 rfl rfl (Nat.le_of_ble_eq_true rfl) (t_refuse hx hX (j := 0) (by decide)) (fun w21 iv21 lw21 q21 => ?_)
    obtain ⟨rfl, e1, hXr, hOr⟩ := q21
    subst e1
    refine V_iret dX9_change_24 ⟨rfl, rfl⟩ (Nat.zero_le _) (Nat.zero_le _) ?_
    subst hQ
    exact ⟨_, _, _, rfl, rfl, by unfold o_change; rw [if_pos (fun z => h8 z.1)]; exact ⟨rfl, hXr, hOr, Off.rf⟩⟩
  · have h8 : inR c (v_nc (x_A X)) := bI_ne.mp h8
    refine V_iload_n (i := 2) dX9_change_11 rfl 2 rfl ?_
    refine M_callSp (As := [.int (d)]) (st := []) dX9_change_12 ls_X9_308 ⟨by decide, by decide⟩ ⟨rfl, rfl⟩ rfl (Nat.le_of_ble_eq_true rfl) (t_isDistance) ?_
    refine V_if_ne (tgt := 25) dX9_change_15 rfl (fun h15 => ?_) (fun h15 => ?_)
    · have h15 : (0 : Int) ≤ d.toInt ∧ d.toInt ≤ 8 := bI_ne.mp h15
      have cc := iN_eq (k := c) (by omega)
      have cd := iN_eq (k := d) (by omega)
      have dc := iN_i (k := c) (by omega)
      have dd := iN_i (k := d) (by omega)
      refine M_at (lv2 := [(0, .ref (0)), (1, .int (nI (iN c))), (2, .int (nI (iN d)))]) (st2 := []) ?_ (by rw [← cc, ← cd]) rfl rfl rfl
      refine V_aload_n (i := 0) dX9_change_25 rfl 0 rfl ?_
      refine M_getR dX9_change_26 lf_X9_10 rfl hx.1 hx.2.1.1 ?_
      refine V_iload_n (i := 1) dX9_change_29 rfl 1 rfl ?_
      refine M_callVp (As := [.int (nI (iN c))]) (st := []) dX9_change_30 lv_X9_220 ⟨by decide, by decide⟩ ⟨rfl, rfl⟩ rfl (ci := 0) hx.2.1.2.1 rfl rfl (Nat.le_of_ble_eq_true rfl) (t_X0_sizeOf hx.2.1.2 hA (c := iN c) (by omega)) ?_
      refine V_iconst (v := nI 5) dX9_change_33 rfl ?_
      have hb2 := hA.ok.sz (c := iN c) (by omega)
      refine V_icmp_le (tgt := 44) dX9_change_34 rfl (fun h34 => ?_) (fun h34 => ?_)
      · have h34 : (v_sz (x_A X) (iN c)) ≤ 5 := (nI_leI (by omega) (by omega)).mp h34
        refine V_aload_n (i := 0) dX9_change_44 rfl 0 rfl ?_
        refine M_getR dX9_change_45 lf_X9_10 rfl hx.1 hx.2.1.1 ?_
        refine V_iload_n (i := 1) dX9_change_48 rfl 1 rfl ?_
        refine V_iload_n (i := 2) dX9_change_49 rfl 2 rfl ?_
        refine M_callSp (As := [.ref (1), .int (nI (iN c)), .int (nI (iN d))]) (st := []) dX9_change_50 ls_X9_311 ⟨by decide, by decide⟩ ⟨rfl, rfl⟩ rfl (Nat.le_of_ble_eq_true rfl) (t_fewestChanges hx.2.1.2 hA (c := iN c) (d := iN d) (by omega) (by omega) (by omega)) ?_
        refine V_iret dX9_change_53 ⟨rfl, rfl⟩ (Nat.zero_le _) (Nat.zero_le _) ?_
        subst hQ
        exact ⟨_, _, _, rfl, rfl, by unfold o_change; rw [if_neg (fun z => z ⟨h8, h15⟩), if_pos (by omega)]; exact OP.same hX⟩
      · have h34 : ¬ (v_sz (x_A X) (iN c)) ≤ 5 := fun q => h34 ((nI_leI (by omega) (by omega)).mpr q)
        refine V_aload_n (i := 0) dX9_change_37 rfl 0 rfl ?_
        refine V_bipush (v := (-5)) dX9_change_38 rfl ?_
        refine M_callVq (As := [.int ((-5))]) (st := []) dX9_change_40 lv_X9_69 ⟨by decide, by decide⟩ ⟨rfl, rfl⟩ rfl (ci := 6) hx.1 rfl rfl (Nat.le_of_ble_eq_true rfl) (t_refuse hx hX (j := 3) (by decide)) (fun w40 iv40 lw40 q40 => ?_)
        obtain ⟨rfl, e1, hXr, hOr⟩ := q40
        subst e1
        refine V_iret dX9_change_43 ⟨rfl, rfl⟩ (Nat.zero_le _) (Nat.zero_le _) ?_
        subst hQ
        exact ⟨_, _, _, rfl, rfl, by unfold o_change; rw [if_neg (fun z => z ⟨h8, h15⟩), if_neg (by omega)]; exact ⟨rfl, hXr, hOr, Off.rf⟩⟩
    · have h15 : ¬ ((0 : Int) ≤ d.toInt ∧ d.toInt ≤ 8) := bI_eq0.mp h15
      refine V_aload_n (i := 0) dX9_change_18 rfl 0 rfl ?_
      refine V_bipush (v := (-2)) dX9_change_19 rfl ?_
      refine M_callVq (As := [.int ((-2))]) (st := []) dX9_change_21 lv_X9_69 ⟨by decide, by decide⟩ ⟨rfl, rfl⟩ rfl (ci := 6) hx.1 rfl rfl (Nat.le_of_ble_eq_true rfl) (t_refuse hx hX (j := 0) (by decide)) (fun w21 iv21 lw21 q21 => ?_)
      obtain ⟨rfl, e1, hXr, hOr⟩ := q21
      subst e1
      refine V_iret dX9_change_24 ⟨rfl, rfl⟩ (Nat.zero_le _) (Nat.zero_le _) ?_
      subst hQ
      exact ⟨_, _, _, rfl, rfl, by unfold o_change; rw [if_pos (fun z => h15 z.2)]; exact ⟨rfl, hXr, hOr, Off.rf⟩⟩
set_option maxRecDepth 20000 in
theorem k_alike {g : Ev} {S : St} {iv : IV} {lw : LW} (hx : IsX S) {X : Xs} (hX : CX iv lw X) {what : Int32} : CQ g mX9_alike [.ref (0), .int (what)] S iv lw (fun w iv2 lw2 => OP iv lw (o_alike X what) w iv2 lw2) := by
  refine CT_ofQ rfl (by decide) (Nat.le_of_ble_eq_true rfl) (lv := [(0, .ref (0)), (1, .int (what))]) rfl (fun Q hQ => ?_)
  have hA := hX.1
  have hnc := hA.ok.nc
  have hne := hA.ok.ne
  have hnm := hA.ok.nm
  refine V_iload_n (i := 1) dX9_alike_0 rfl 1 rfl ?_
  refine V_if_lt (tgt := 9) dX9_alike_1 rfl (fun h1 => ?_) (fun h1 => ?_)
  · have h1 : what.toInt < 0 := by have q := i_neg.mp h1; exact q
    refine V_aload_n (i := 0) dX9_alike_9 rfl 0 rfl ?_
    refine V_bipush (v := (-2)) dX9_alike_10 rfl ?_
    refine M_callVq (As := [.int ((-2))]) (st := []) dX9_alike_12 lv_X9_69 ⟨by decide, by decide⟩ ⟨rfl, rfl⟩ rfl (ci := 6) hx.1 rfl rfl (Nat.le_of_ble_eq_true rfl) (t_refuse hx hX (j := 0) (by decide)) (fun w12 iv12 lw12 q12 => ?_)
    obtain ⟨rfl, e1, hXr, hOr⟩ := q12
    subst e1
    refine V_iret dX9_alike_15 ⟨rfl, rfl⟩ (Nat.zero_le _) (Nat.zero_le _) ?_
    subst hQ
    exact ⟨_, _, _, rfl, rfl, by unfold o_alike; rw [if_pos (by omega)]; exact ⟨rfl, hXr, hOr, Off.rf⟩⟩
  · have h1 : ¬ what.toInt < 0 := fun r => h1 (i_neg.mpr (by exact r))
    refine V_iload_n (i := 1) dX9_alike_4 rfl 1 rfl ?_
    refine V_iconst (v := nI 1) dX9_alike_5 rfl ?_
    refine V_icmp_le (tgt := 16) dX9_alike_6 rfl (fun h6 => ?_) (fun h6 => ?_)
    · have h6 : what.toInt ≤ (1 : Int) := by have q := Int32.le_iff_toInt_le.mp h6; rw [nI_toInt (n := 1) (by omega)] at q; exact q
      refine V_aload_n (i := 0) dX9_alike_16 rfl 0 rfl ?_
      refine M_getR dX9_alike_17 lf_X9_10 rfl hx.1 hx.2.1.1 ?_
      refine M_getI (x := nI (v_nc (x_A X))) dX9_alike_20 lf_X9_281 rfl hx.2.1.2.1 (hA.nc) ?_
      refine V_iconst (v := nI 2) dX9_alike_23 rfl ?_
      refine V_icmp_ge (tgt := 34) dX9_alike_24 rfl (fun h24 => ?_) (fun h24 => ?_)
      · have h24 : 2 ≤ (v_nc (x_A X)) := (nI_leI (by omega) (by omega)).mp h24
        refine V_aload_n (i := 0) dX9_alike_34 rfl 0 rfl ?_
        refine M_getR dX9_alike_35 lf_X9_10 rfl hx.1 hx.2.1.1 ?_
        refine M_callSp (As := [.ref (1)]) (st := []) dX9_alike_38 ls_X9_314 ⟨by decide, by decide⟩ ⟨rfl, rfl⟩ rfl (Nat.le_of_ble_eq_true rfl) (t_nearestPair hx.2.1.2 hA) ?_
        refine V_istore_n (lv2 := [(2, .int (oI (npV (x_A X)))), (0, .ref (0)), (1, .int (what))]) dX9_alike_41 rfl (by decide) rfl ?_
        refine V_iload_n (i := 1) dX9_alike_42 rfl 2 rfl ?_
        refine V_if_ne (tgt := 50) dX9_alike_43 rfl (fun h43 => ?_) (fun h43 => ?_)
        · have h43 : ¬ what.toInt = 0 := fun r => h43 (i_eq0.mpr (by exact r))
          have hnp : npV (x_A X) ≠ none := by unfold npV; obtain ⟨m, hm⟩ : ∃ m, v_nc (x_A X) = m + 1 := ⟨v_nc (x_A X) - 1, by omega⟩; rw [show npTo (dpk (x_A X)) (v_nc (x_A X)) (v_nc (x_A X)) = npTo (dpk (x_A X)) (v_nc (x_A X)) (m + 1) from by rw [← hm]]; exact np_some (by omega) m
          obtain ⟨p0, hp0⟩ := Option.ne_none_iff_exists'.mp hnp
          have hpo := npTo_ok (f := dpk (x_A X)) hnc (v_nc (x_A X)) p0 hp0
          refine M_at (lv2 := [(2, .int (nI p0)), (0, .ref (0)), (1, .int (what))]) (st2 := []) ?_ (by rw [hp0]; rfl) rfl rfl rfl
          refine V_aload_n (i := 0) dX9_alike_50 rfl 1 rfl ?_
          refine M_getR dX9_alike_51 lf_X9_10 rfl hx.1 hx.2.1.1 ?_
          refine V_iload_n (i := 2) dX9_alike_54 rfl 0 rfl ?_
          refine M_callSp (As := [.ref (1), .int (nI p0)]) (st := []) dX9_alike_55 ls_X9_317 ⟨by decide, by decide⟩ ⟨rfl, rfl⟩ rfl (Nat.le_of_ble_eq_true rfl) (t_pairDistance hx.2.1.2 hA (p := p0) (by omega) hpo.2) ?_
          refine V_iret dX9_alike_58 ⟨rfl, rfl⟩ (Nat.zero_le _) (Nat.zero_le _) ?_
          subst hQ
          exact ⟨_, _, _, rfl, rfl, by unfold o_alike; rw [if_neg (by omega), if_neg (by omega), if_neg (by omega), hp0]; exact OP.same hX⟩
        · have h43 : what.toInt = 0 := by have q := i_eq0.mp h43; exact q
          refine V_iload_n (i := 2) dX9_alike_46 rfl 0 rfl ?_
          refine V_goto (tgt := 58) dX9_alike_47 rfl ?_
          refine V_iret dX9_alike_58 ⟨rfl, rfl⟩ (Nat.zero_le _) (Nat.zero_le _) ?_
          subst hQ
          exact ⟨_, _, _, rfl, rfl, by unfold o_alike; rw [if_neg (by omega), if_neg (by omega), if_pos (by omega)]; exact OP.same hX⟩
      · have h24 : ¬ 2 ≤ (v_nc (x_A X)) := fun q => h24 ((nI_leI (by omega) (by omega)).mpr q)
        refine V_aload_n (i := 0) dX9_alike_27 rfl 0 rfl ?_
        refine V_bipush (v := (-5)) dX9_alike_28 rfl ?_
        refine M_callVq (As := [.int ((-5))]) (st := []) dX9_alike_30 lv_X9_69 ⟨by decide, by decide⟩ ⟨rfl, rfl⟩ rfl (ci := 6) hx.1 rfl rfl (Nat.le_of_ble_eq_true rfl) (t_refuse hx hX (j := 3) (by decide)) (fun w30 iv30 lw30 q30 => ?_)
        obtain ⟨rfl, e1, hXr, hOr⟩ := q30
        subst e1
        refine V_iret dX9_alike_33 ⟨rfl, rfl⟩ (Nat.zero_le _) (Nat.zero_le _) ?_
        subst hQ
        exact ⟨_, _, _, rfl, rfl, by unfold o_alike; rw [if_neg (by omega), if_pos (by omega)]; exact ⟨rfl, hXr, hOr, Off.rf⟩⟩
    · have h6 : ¬ what.toInt ≤ (1 : Int) := fun r => h6 (Int32.le_iff_toInt_le.mpr (by rw [nI_toInt (n := 1) (by omega)]; exact r))
      refine V_aload_n (i := 0) dX9_alike_9 rfl 0 rfl ?_
      refine V_bipush (v := (-2)) dX9_alike_10 rfl ?_
      refine M_callVq (As := [.int ((-2))]) (st := []) dX9_alike_12 lv_X9_69 ⟨by decide, by decide⟩ ⟨rfl, rfl⟩ rfl (ci := 6) hx.1 rfl rfl (Nat.le_of_ble_eq_true rfl) (t_refuse hx hX (j := 0) (by decide)) (fun w12 iv12 lw12 q12 => ?_)
      obtain ⟨rfl, e1, hXr, hOr⟩ := q12
      subst e1
      refine V_iret dX9_alike_15 ⟨rfl, rfl⟩ (Nat.zero_le _) (Nat.zero_le _) ?_
      subst hQ
      exact ⟨_, _, _, rfl, rfl, by unfold o_alike; rw [if_pos (by omega)]; exact ⟨rfl, hXr, hOr, Off.rf⟩⟩
set_option maxRecDepth 20000 in
theorem k_mixed {g : Ev} {S : St} {iv : IV} {lw : LW} (hx : IsX S) {X : Xs} (hX : CX iv lw X) {e what : Int32} : CQ g mX9_mixed [.ref (0), .int (e), .int (what)] S iv lw (fun w iv2 lw2 => OP iv lw (o_mixed X e what) w iv2 lw2) := by
  refine CT_ofQ rfl (by decide) (Nat.le_of_ble_eq_true rfl) (lv := [(0, .ref (0)), (1, .int (e)), (2, .int (what))]) rfl (fun Q hQ => ?_)
  have hA := hX.1
  have hnc := hA.ok.nc
  have hne := hA.ok.ne
  have hnm := hA.ok.nm
  refine V_aload_n (i := 0) dX9_mixed_0 rfl 0 rfl ?_
  refine M_getR dX9_mixed_1 lf_X9_10 rfl hx.1 hx.2.1.1 ?_
  refine V_iload_n (i := 1) dX9_mixed_4 rfl 1 rfl ?_
  refine M_callVp (As := [.int (e)]) (st := []) dX9_mixed_5 lv_X9_108 ⟨by decide, by decide⟩ ⟨rfl, rfl⟩ rfl (ci := 0) hx.2.1.2.1 rfl rfl (Nat.le_of_ble_eq_true rfl) (t_X0_isEar hx.2.1.2 hA) ?_
  refine V_if_eq (tgt := 20) dX9_mixed_8 rfl (fun h8 => ?_) (fun h8 => ?_)
  · have h8 : ¬ (inR e (v_ne (x_A X))) := bI_eq0.mp h8
    refine V_aload_n (i := 0) dX9_mixed_20 rfl 0 rfl ?_
    refine V_bipush (v := (-2)) dX9_mixed_21 rfl ?_
    refine M_callVq (As := [.int ((-2))]) (st := []) dX9_mixed_23 lv_X9_69 ⟨by decide, by decide⟩ ⟨rfl, rfl⟩ rfl (ci := 6) hx.1 rfl rfl (Nat.le_of_ble_eq_true rfl) (t_refuse hx hX (j := 0) (by decide)) (fun w23 iv23 lw23 q23 => ?_)
    obtain ⟨rfl, e1, hXr, hOr⟩ := q23
    subst e1
    refine V_iret dX9_mixed_26 ⟨rfl, rfl⟩ (Nat.zero_le _) (Nat.zero_le _) ?_
    subst hQ
    exact ⟨_, _, _, rfl, rfl, by unfold o_mixed; rw [if_pos (fun z => h8 z.1)]; exact ⟨rfl, hXr, hOr, Off.rf⟩⟩
  · have h8 : inR e (v_ne (x_A X)) := bI_ne.mp h8
    refine V_iload_n (i := 2) dX9_mixed_11 rfl 2 rfl ?_
    refine V_if_lt (tgt := 20) dX9_mixed_12 rfl (fun h12 => ?_) (fun h12 => ?_)
    · have h12 : what.toInt < 0 := by have q := i_neg.mp h12; exact q
      refine V_aload_n (i := 0) dX9_mixed_20 rfl 0 rfl ?_
      refine V_bipush (v := (-2)) dX9_mixed_21 rfl ?_
      refine M_callVq (As := [.int ((-2))]) (st := []) dX9_mixed_23 lv_X9_69 ⟨by decide, by decide⟩ ⟨rfl, rfl⟩ rfl (ci := 6) hx.1 rfl rfl (Nat.le_of_ble_eq_true rfl) (t_refuse hx hX (j := 0) (by decide)) (fun w23 iv23 lw23 q23 => ?_)
      obtain ⟨rfl, e1, hXr, hOr⟩ := q23
      subst e1
      refine V_iret dX9_mixed_26 ⟨rfl, rfl⟩ (Nat.zero_le _) (Nat.zero_le _) ?_
      subst hQ
      exact ⟨_, _, _, rfl, rfl, by unfold o_mixed; rw [if_pos (fun z => absurd z.2 (by omega))]; exact ⟨rfl, hXr, hOr, Off.rf⟩⟩
    · have h12 : ¬ what.toInt < 0 := fun r => h12 (i_neg.mpr (by exact r))
      refine V_iload_n (i := 2) dX9_mixed_15 rfl 2 rfl ?_
      refine V_iconst (v := nI 1) dX9_mixed_16 rfl ?_
      refine V_icmp_le (tgt := 27) dX9_mixed_17 rfl (fun h17 => ?_) (fun h17 => ?_)
      · have h17 : what.toInt ≤ (1 : Int) := by have q := Int32.le_iff_toInt_le.mp h17; rw [nI_toInt (n := 1) (by omega)] at q; exact q
        have ce := iN_eq (k := e) (by omega)
        have de := iN_i (k := e) (by omega)
        refine M_at (lv2 := [(0, .ref (0)), (1, .int (nI (iN e))), (2, .int (what))]) (st2 := []) ?_ (by rw [← ce]) rfl rfl rfl
        refine V_iload_n (i := 2) dX9_mixed_27 rfl 2 rfl ?_
        refine V_if_ne (tgt := 46) dX9_mixed_28 rfl (fun h28 => ?_) (fun h28 => ?_)
        · have h28 : ¬ what.toInt = 0 := fun r => h28 (i_eq0.mpr (by exact r))
          refine V_aload_n (i := 0) dX9_mixed_46 rfl 0 rfl ?_
          refine M_getR dX9_mixed_47 lf_X9_10 rfl hx.1 hx.2.1.1 ?_
          refine V_aload_n (i := 0) dX9_mixed_50 rfl 0 rfl ?_
          refine M_getR dX9_mixed_51 lf_X9_43 rfl hx.1 hx.2.2.2.2.2.1.1 ?_
          refine V_iload_n (i := 1) dX9_mixed_54 rfl 1 rfl ?_
          refine M_callSq (As := [.ref (1), .ref (47), .int (nI (iN e))]) (st := []) dX9_mixed_55 ls_X9_324 ⟨by decide, by decide⟩ ⟨rfl, rfl⟩ rfl (Nat.le_of_ble_eq_true rfl) (t_firstMixed hx.2.1.2 hA hx.2.2.2.2.2.1.2 (by omega) (e := iN e) (by omega)) (fun w55 iv55 lw55 q55 => ?_)
          obtain ⟨rfl, e1, hO⟩ := q55
          subst e1
          have hA2 := hA.off hO (by omega)
          refine V_iret dX9_mixed_58 ⟨rfl, rfl⟩ (Nat.zero_le _) (Nat.zero_le _) ?_
          subst hQ
          exact ⟨_, _, _, rfl, rfl, by unfold o_mixed; rw [if_neg (fun z => z ⟨h8, by omega, by omega⟩), if_neg (by omega)]; exact OP.hear hX hO⟩
        · have h28 : what.toInt = 0 := by have q := i_eq0.mp h28; exact q
          refine V_aload_n (i := 0) dX9_mixed_31 rfl 0 rfl ?_
          refine M_getR dX9_mixed_32 lf_X9_10 rfl hx.1 hx.2.1.1 ?_
          refine V_aload_n (i := 0) dX9_mixed_35 rfl 0 rfl ?_
          refine M_getR dX9_mixed_36 lf_X9_43 rfl hx.1 hx.2.2.2.2.2.1.1 ?_
          refine V_iload_n (i := 1) dX9_mixed_39 rfl 1 rfl ?_
          refine M_callSq (As := [.ref (1), .ref (47), .int (nI (iN e))]) (st := []) dX9_mixed_40 ls_X9_321 ⟨by decide, by decide⟩ ⟨rfl, rfl⟩ rfl (Nat.le_of_ble_eq_true rfl) (t_countMixed hx.2.1.2 hA hx.2.2.2.2.2.1.2 (by omega) (e := iN e) (by omega)) (fun w40 iv40 lw40 q40 => ?_)
          obtain ⟨rfl, e1, hO⟩ := q40
          subst e1
          have hA2 := hA.off hO (by omega)
          refine V_goto (tgt := 58) dX9_mixed_43 rfl ?_
          refine V_iret dX9_mixed_58 ⟨rfl, rfl⟩ (Nat.zero_le _) (Nat.zero_le _) ?_
          subst hQ
          exact ⟨_, _, _, rfl, rfl, by unfold o_mixed; rw [if_neg (fun z => z ⟨h8, by omega, by omega⟩), if_pos (by omega)]; exact OP.hear hX hO⟩
      · have h17 : ¬ what.toInt ≤ (1 : Int) := fun r => h17 (Int32.le_iff_toInt_le.mpr (by rw [nI_toInt (n := 1) (by omega)]; exact r))
        refine V_aload_n (i := 0) dX9_mixed_20 rfl 0 rfl ?_
        refine V_bipush (v := (-2)) dX9_mixed_21 rfl ?_
        refine M_callVq (As := [.int ((-2))]) (st := []) dX9_mixed_23 lv_X9_69 ⟨by decide, by decide⟩ ⟨rfl, rfl⟩ rfl (ci := 6) hx.1 rfl rfl (Nat.le_of_ble_eq_true rfl) (t_refuse hx hX (j := 0) (by decide)) (fun w23 iv23 lw23 q23 => ?_)
        obtain ⟨rfl, e1, hXr, hOr⟩ := q23
        subst e1
        refine V_iret dX9_mixed_26 ⟨rfl, rfl⟩ (Nat.zero_le _) (Nat.zero_le _) ?_
        subst hQ
        exact ⟨_, _, _, rfl, rfl, by unfold o_mixed; rw [if_pos (fun z => absurd z.2 (by omega))]; exact ⟨rfl, hXr, hOr, Off.rf⟩⟩
set_option maxRecDepth 20000 in
theorem k_does {g : Ev} {S : St} {iv : IV} {lw : LW} (hx : IsX S) {X : Xs} (hX : CX iv lw X) {c m : Int32} : CQ g mX9_does [.ref (0), .int (c), .int (m)] S iv lw (fun w iv2 lw2 => OP iv lw (o_does X c m) w iv2 lw2) := by
  refine CT_ofQ rfl (by decide) (Nat.le_of_ble_eq_true rfl) (lv := [(0, .ref (0)), (1, .int (c)), (2, .int (m))]) rfl (fun Q hQ => ?_)
  have hA := hX.1
  have hnc := hA.ok.nc
  have hne := hA.ok.ne
  have hnm := hA.ok.nm
  refine V_aload_n (i := 0) dX9_does_0 rfl 0 rfl ?_
  refine M_getR dX9_does_1 lf_X9_10 rfl hx.1 hx.2.1.1 ?_
  refine V_iload_n (i := 1) dX9_does_4 rfl 1 rfl ?_
  refine M_callVp (As := [.int (c)]) (st := []) dX9_does_5 lv_X9_180 ⟨by decide, by decide⟩ ⟨rfl, rfl⟩ rfl (ci := 0) hx.2.1.2.1 rfl rfl (Nat.le_of_ble_eq_true rfl) (t_X0_isCall hx.2.1.2 hA) ?_
  refine V_if_eq (tgt := 22) dX9_does_8 rfl (fun h8 => ?_) (fun h8 => ?_)
  · have h8 : ¬ (inR c (v_nc (x_A X))) := bI_eq0.mp h8
    refine V_aload_n (i := 0) dX9_does_22 rfl 0 rfl ?_
    refine V_bipush (v := (-2)) dX9_does_23 rfl ?_
    refine M_callVq (As := [.int ((-2))]) (st := []) dX9_does_25 lv_X9_69 ⟨by decide, by decide⟩ ⟨rfl, rfl⟩ rfl (ci := 6) hx.1 rfl rfl (Nat.le_of_ble_eq_true rfl) (t_refuse hx hX (j := 0) (by decide)) (fun w25 iv25 lw25 q25 => ?_)
    obtain ⟨rfl, e1, hXr, hOr⟩ := q25
    subst e1
    refine V_iret dX9_does_28 ⟨rfl, rfl⟩ (Nat.zero_le _) (Nat.zero_le _) ?_
    subst hQ
    exact ⟨_, _, _, rfl, rfl, by unfold o_does; rw [if_pos (fun z => h8 z.1)]; exact ⟨rfl, hXr, hOr, Off.rf⟩⟩
  · have h8 : inR c (v_nc (x_A X)) := bI_ne.mp h8
    refine V_aload_n (i := 0) dX9_does_11 rfl 0 rfl ?_
    refine M_getR dX9_does_12 lf_X9_10 rfl hx.1 hx.2.1.1 ?_
    refine V_iload_n (i := 2) dX9_does_15 rfl 2 rfl ?_
    refine M_callVp (As := [.int (m)]) (st := []) dX9_does_16 lv_X9_235 ⟨by decide, by decide⟩ ⟨rfl, rfl⟩ rfl (ci := 0) hx.2.1.2.1 rfl rfl (Nat.le_of_ble_eq_true rfl) (t_X0_isMan hx.2.1.2 hA) ?_
    refine V_if_ne (tgt := 29) dX9_does_19 rfl (fun h19 => ?_) (fun h19 => ?_)
    · have h19 : inR m (v_nm (x_A X)) := bI_ne.mp h19
      have cc := iN_eq (k := c) (by omega)
      have cm := iN_eq (k := m) (by omega)
      have dc := iN_i (k := c) (by omega)
      have dm := iN_i (k := m) (by omega)
      refine M_at (lv2 := [(0, .ref (0)), (1, .int (nI (iN c))), (2, .int (nI (iN m)))]) (st2 := []) ?_ (by rw [← cc, ← cm]) rfl rfl rfl
      refine V_aload_n (i := 0) dX9_does_29 rfl 0 rfl ?_
      refine M_getR dX9_does_30 lf_X9_50 rfl hx.1 hx.2.2.2.2.2.2.1.1 ?_
      refine V_aload_n (i := 0) dX9_does_33 rfl 0 rfl ?_
      refine M_getR dX9_does_34 lf_X9_10 rfl hx.1 hx.2.1.1 ?_
      refine V_aload_n (i := 0) dX9_does_37 rfl 0 rfl ?_
      refine M_getR dX9_does_38 lf_X9_43 rfl hx.1 hx.2.2.2.2.2.1.1 ?_
      refine V_iload_n (i := 1) dX9_does_41 rfl 1 rfl ?_
      refine M_callVn (As := [.ref (1), .ref (47), .int (nI (iN c))]) (st := []) dX9_does_42 lv_X9_333 ⟨by decide, by decide⟩ ⟨rfl, rfl⟩ rfl (ci := 1) hx.2.2.2.2.2.2.1.2.1 rfl rfl (Nat.le_of_ble_eq_true rfl) (t_hearAndDo hx.2.2.2.2.2.2.1.2 hx.2.1.2 hA hx.2.2.2.2.2.1.2 (by omega) (by omega) (c := iN c) (by omega)) (fun iv42 lw42 q42 => ?_)
      obtain ⟨e1, hG, hD, hO⟩ := q42
      subst e1
      refine V_aload_n (i := 0) dX9_does_45 rfl 0 rfl ?_
      refine M_getR dX9_does_46 lf_X9_50 rfl hx.1 hx.2.2.2.2.2.2.1.1 ?_
      refine V_iload_n (i := 2) dX9_does_49 rfl 2 rfl ?_
      refine M_callVp (As := [.int (nI (iN m))]) (st := []) dX9_does_50 lv_X9_337 ⟨by decide, by decide⟩ ⟨rfl, rfl⟩ rfl (ci := 1) hx.2.2.2.2.2.2.1.2.1 rfl rfl (Nat.le_of_ble_eq_true rfl) (t_deedOf hx.2.2.2.2.2.2.1.2 hG hD (m := iN m) (by omega)) ?_
      refine V_iret dX9_does_53 ⟨rfl, rfl⟩ (Nat.zero_le _) (Nat.zero_le _) ?_
      subst hQ
      exact ⟨_, _, _, rfl, rfl, by unfold o_does; rw [if_neg (fun z => z ⟨h8, h19⟩)]; exact OP.crowd hX hO⟩
    · have h19 : ¬ (inR m (v_nm (x_A X))) := bI_eq0.mp h19
      refine V_aload_n (i := 0) dX9_does_22 rfl 0 rfl ?_
      refine V_bipush (v := (-2)) dX9_does_23 rfl ?_
      refine M_callVq (As := [.int ((-2))]) (st := []) dX9_does_25 lv_X9_69 ⟨by decide, by decide⟩ ⟨rfl, rfl⟩ rfl (ci := 6) hx.1 rfl rfl (Nat.le_of_ble_eq_true rfl) (t_refuse hx hX (j := 0) (by decide)) (fun w25 iv25 lw25 q25 => ?_)
      obtain ⟨rfl, e1, hXr, hOr⟩ := q25
      subst e1
      refine V_iret dX9_does_28 ⟨rfl, rfl⟩ (Nat.zero_le _) (Nat.zero_le _) ?_
      subst hQ
      exact ⟨_, _, _, rfl, rfl, by unfold o_does; rw [if_pos (fun z => h19 z.2)]; exact ⟨rfl, hXr, hOr, Off.rf⟩⟩
set_option maxRecDepth 20000 in
theorem k_right {g : Ev} {S : St} {iv : IV} {lw : LW} (hx : IsX S) {X : Xs} (hX : CX iv lw X) {c : Int32} : CQ g mX9_right [.ref (0), .int (c)] S iv lw (fun w iv2 lw2 => OP iv lw (o_right X c) w iv2 lw2) := by
  refine CT_ofQ rfl (by decide) (Nat.le_of_ble_eq_true rfl) (lv := [(0, .ref (0)), (1, .int (c))]) rfl (fun Q hQ => ?_)
  have hA := hX.1
  have hnc := hA.ok.nc
  have hne := hA.ok.ne
  have hnm := hA.ok.nm
  refine V_aload_n (i := 0) dX9_right_0 rfl 0 rfl ?_
  refine M_getR dX9_right_1 lf_X9_10 rfl hx.1 hx.2.1.1 ?_
  refine V_iload_n (i := 1) dX9_right_4 rfl 1 rfl ?_
  refine M_callVp (As := [.int (c)]) (st := []) dX9_right_5 lv_X9_180 ⟨by decide, by decide⟩ ⟨rfl, rfl⟩ rfl (ci := 0) hx.2.1.2.1 rfl rfl (Nat.le_of_ble_eq_true rfl) (t_X0_isCall hx.2.1.2 hA) ?_
  refine V_if_ne (tgt := 18) dX9_right_8 rfl (fun h8 => ?_) (fun h8 => ?_)
  · have h8 : inR c (v_nc (x_A X)) := bI_ne.mp h8
    have cc := iN_eq (k := c) (by omega)
    have dc := iN_i (k := c) (by omega)
    refine M_at (lv2 := [(0, .ref (0)), (1, .int (nI (iN c)))]) (st2 := []) ?_ (by rw [← cc]) rfl rfl rfl
    refine V_aload_n (i := 0) dX9_right_18 rfl 0 rfl ?_
    refine M_getR dX9_right_19 lf_X9_50 rfl hx.1 hx.2.2.2.2.2.2.1.1 ?_
    refine V_aload_n (i := 0) dX9_right_22 rfl 0 rfl ?_
    refine M_getR dX9_right_23 lf_X9_10 rfl hx.1 hx.2.1.1 ?_
    refine V_aload_n (i := 0) dX9_right_26 rfl 0 rfl ?_
    refine M_getR dX9_right_27 lf_X9_43 rfl hx.1 hx.2.2.2.2.2.1.1 ?_
    refine V_iload_n (i := 1) dX9_right_30 rfl 1 rfl ?_
    refine M_callVn (As := [.ref (1), .ref (47), .int (nI (iN c))]) (st := []) dX9_right_31 lv_X9_333 ⟨by decide, by decide⟩ ⟨rfl, rfl⟩ rfl (ci := 1) hx.2.2.2.2.2.2.1.2.1 rfl rfl (Nat.le_of_ble_eq_true rfl) (t_hearAndDo hx.2.2.2.2.2.2.1.2 hx.2.1.2 hA hx.2.2.2.2.2.1.2 (by omega) (by omega) (c := iN c) (by omega)) (fun iv31 lw31 q31 => ?_)
    obtain ⟨e1, hG, hD, hO⟩ := q31
    subst e1
    refine V_aload_n (i := 0) dX9_right_34 rfl 0 rfl ?_
    refine M_getR dX9_right_35 lf_X9_50 rfl hx.1 hx.2.2.2.2.2.2.1.1 ?_
    refine V_iload_n (i := 1) dX9_right_38 rfl 1 rfl ?_
    refine M_callVp (As := [.int (nI (iN c))]) (st := []) dX9_right_39 lv_X9_340 ⟨by decide, by decide⟩ ⟨rfl, rfl⟩ rfl (ci := 1) hx.2.2.2.2.2.2.1.2.1 rfl rfl (Nat.le_of_ble_eq_true rfl) (t_countDoing hx.2.2.2.2.2.2.1.2 hG hD (c := iN c) (by omega)) ?_
    refine V_iret dX9_right_42 ⟨rfl, rfl⟩ (Nat.zero_le _) (Nat.zero_le _) ?_
    subst hQ
    exact ⟨_, _, _, rfl, rfl, by unfold o_right; rw [if_neg (fun z => z h8)]; exact OP.crowd hX hO⟩
  · have h8 : ¬ (inR c (v_nc (x_A X))) := bI_eq0.mp h8
    refine V_aload_n (i := 0) dX9_right_11 rfl 0 rfl ?_
    refine V_bipush (v := (-2)) dX9_right_12 rfl ?_
    refine M_callVq (As := [.int ((-2))]) (st := []) dX9_right_14 lv_X9_69 ⟨by decide, by decide⟩ ⟨rfl, rfl⟩ rfl (ci := 6) hx.1 rfl rfl (Nat.le_of_ble_eq_true rfl) (t_refuse hx hX (j := 0) (by decide)) (fun w14 iv14 lw14 q14 => ?_)
    obtain ⟨rfl, e1, hXr, hOr⟩ := q14
    subst e1
    refine V_iret dX9_right_17 ⟨rfl, rfl⟩ (Nat.zero_le _) (Nat.zero_le _) ?_
    subst hQ
    exact ⟨_, _, _, rfl, rfl, by unfold o_right; rw [if_pos h8]; exact ⟨rfl, hXr, hOr, Off.rf⟩⟩
set_option maxRecDepth 20000 in
theorem k_leads {g : Ev} {S : St} {iv : IV} {lw : LW} (hx : IsX S) {X : Xs} (hX : CX iv lw X) {c : Int32} : CQ g mX9_leads [.ref (0), .int (c)] S iv lw (fun w iv2 lw2 => OP iv lw (o_leads X c) w iv2 lw2) := by
  refine CT_ofQ rfl (by decide) (Nat.le_of_ble_eq_true rfl) (lv := [(0, .ref (0)), (1, .int (c))]) rfl (fun Q hQ => ?_)
  have hA := hX.1
  have hnc := hA.ok.nc
  have hne := hA.ok.ne
  have hnm := hA.ok.nm
  refine V_aload_n (i := 0) dX9_leads_0 rfl 0 rfl ?_
  refine M_getR dX9_leads_1 lf_X9_10 rfl hx.1 hx.2.1.1 ?_
  refine V_iload_n (i := 1) dX9_leads_4 rfl 1 rfl ?_
  refine M_callVp (As := [.int (c)]) (st := []) dX9_leads_5 lv_X9_180 ⟨by decide, by decide⟩ ⟨rfl, rfl⟩ rfl (ci := 0) hx.2.1.2.1 rfl rfl (Nat.le_of_ble_eq_true rfl) (t_X0_isCall hx.2.1.2 hA) ?_
  refine V_if_ne (tgt := 18) dX9_leads_8 rfl (fun h8 => ?_) (fun h8 => ?_)
  · have h8 : inR c (v_nc (x_A X)) := bI_ne.mp h8
    have cc := iN_eq (k := c) (by omega)
    have dc := iN_i (k := c) (by omega)
    refine M_at (lv2 := [(0, .ref (0)), (1, .int (nI (iN c)))]) (st2 := []) ?_ (by rw [← cc]) rfl rfl rfl
    refine V_aload_n (i := 0) dX9_leads_18 rfl 0 rfl ?_
    refine M_getR dX9_leads_19 lf_X9_50 rfl hx.1 hx.2.2.2.2.2.2.1.1 ?_
    refine V_aload_n (i := 0) dX9_leads_22 rfl 0 rfl ?_
    refine M_getR dX9_leads_23 lf_X9_10 rfl hx.1 hx.2.1.1 ?_
    refine V_aload_n (i := 0) dX9_leads_26 rfl 0 rfl ?_
    refine M_getR dX9_leads_27 lf_X9_43 rfl hx.1 hx.2.2.2.2.2.1.1 ?_
    refine V_iload_n (i := 1) dX9_leads_30 rfl 1 rfl ?_
    refine M_callVn (As := [.ref (1), .ref (47), .int (nI (iN c))]) (st := []) dX9_leads_31 lv_X9_333 ⟨by decide, by decide⟩ ⟨rfl, rfl⟩ rfl (ci := 1) hx.2.2.2.2.2.2.1.2.1 rfl rfl (Nat.le_of_ble_eq_true rfl) (t_hearAndDo hx.2.2.2.2.2.2.1.2 hx.2.1.2 hA hx.2.2.2.2.2.1.2 (by omega) (by omega) (c := iN c) (by omega)) (fun iv31 lw31 q31 => ?_)
    obtain ⟨e1, hG, hD, hO⟩ := q31
    subst e1
    refine V_aload_n (i := 0) dX9_leads_34 rfl 0 rfl ?_
    refine M_getR dX9_leads_35 lf_X9_50 rfl hx.1 hx.2.2.2.2.2.2.1.1 ?_
    refine V_iload_n (i := 1) dX9_leads_38 rfl 1 rfl ?_
    refine M_callVp (As := [.int (nI (iN c))]) (st := []) dX9_leads_39 lv_X9_343 ⟨by decide, by decide⟩ ⟨rfl, rfl⟩ rfl (ci := 1) hx.2.2.2.2.2.2.1.2.1 rfl rfl (Nat.le_of_ble_eq_true rfl) (t_firstNotDoing hx.2.2.2.2.2.2.1.2 hG hD (c := iN c) (by omega)) ?_
    refine V_iret dX9_leads_42 ⟨rfl, rfl⟩ (Nat.zero_le _) (Nat.zero_le _) ?_
    subst hQ
    exact ⟨_, _, _, rfl, rfl, by unfold o_leads; rw [if_neg (fun z => z h8)]; exact OP.crowd hX hO⟩
  · have h8 : ¬ (inR c (v_nc (x_A X))) := bI_eq0.mp h8
    refine V_aload_n (i := 0) dX9_leads_11 rfl 0 rfl ?_
    refine V_bipush (v := (-2)) dX9_leads_12 rfl ?_
    refine M_callVq (As := [.int ((-2))]) (st := []) dX9_leads_14 lv_X9_69 ⟨by decide, by decide⟩ ⟨rfl, rfl⟩ rfl (ci := 6) hx.1 rfl rfl (Nat.le_of_ble_eq_true rfl) (t_refuse hx hX (j := 0) (by decide)) (fun w14 iv14 lw14 q14 => ?_)
    obtain ⟨rfl, e1, hXr, hOr⟩ := q14
    subst e1
    refine V_iret dX9_leads_17 ⟨rfl, rfl⟩ (Nat.zero_le _) (Nat.zero_le _) ?_
    subst hQ
    exact ⟨_, _, _, rfl, rfl, by unfold o_leads; rw [if_pos h8]; exact ⟨rfl, hXr, hOr, Off.rf⟩⟩
set_option maxRecDepth 20000 in
theorem k_follows {g : Ev} {S : St} {iv : IV} {lw : LW} (hx : IsX S) {X : Xs} (hX : CX iv lw X) {c : Int32} : CQ g mX9_follows [.ref (0), .int (c)] S iv lw (fun w iv2 lw2 => OP iv lw (o_follows X c) w iv2 lw2) := by
  refine CT_ofQ rfl (by decide) (Nat.le_of_ble_eq_true rfl) (lv := [(0, .ref (0)), (1, .int (c))]) rfl (fun Q hQ => ?_)
  have hA := hX.1
  have hnc := hA.ok.nc
  have hne := hA.ok.ne
  have hnm := hA.ok.nm
  refine V_aload_n (i := 0) dX9_follows_0 rfl 0 rfl ?_
  refine M_getR dX9_follows_1 lf_X9_10 rfl hx.1 hx.2.1.1 ?_
  refine V_iload_n (i := 1) dX9_follows_4 rfl 1 rfl ?_
  refine M_callVp (As := [.int (c)]) (st := []) dX9_follows_5 lv_X9_180 ⟨by decide, by decide⟩ ⟨rfl, rfl⟩ rfl (ci := 0) hx.2.1.2.1 rfl rfl (Nat.le_of_ble_eq_true rfl) (t_X0_isCall hx.2.1.2 hA) ?_
  refine V_if_ne (tgt := 18) dX9_follows_8 rfl (fun h8 => ?_) (fun h8 => ?_)
  · have h8 : inR c (v_nc (x_A X)) := bI_ne.mp h8
    have cc := iN_eq (k := c) (by omega)
    have dc := iN_i (k := c) (by omega)
    refine M_at (lv2 := [(0, .ref (0)), (1, .int (nI (iN c)))]) (st2 := []) ?_ (by rw [← cc]) rfl rfl rfl
    refine V_aload_n (i := 0) dX9_follows_18 rfl 0 rfl ?_
    refine M_getR dX9_follows_19 lf_X9_50 rfl hx.1 hx.2.2.2.2.2.2.1.1 ?_
    refine V_aload_n (i := 0) dX9_follows_22 rfl 0 rfl ?_
    refine M_getR dX9_follows_23 lf_X9_10 rfl hx.1 hx.2.1.1 ?_
    refine V_aload_n (i := 0) dX9_follows_26 rfl 0 rfl ?_
    refine M_getR dX9_follows_27 lf_X9_43 rfl hx.1 hx.2.2.2.2.2.1.1 ?_
    refine V_iload_n (i := 1) dX9_follows_30 rfl 1 rfl ?_
    refine M_callVn (As := [.ref (1), .ref (47), .int (nI (iN c))]) (st := []) dX9_follows_31 lv_X9_333 ⟨by decide, by decide⟩ ⟨rfl, rfl⟩ rfl (ci := 1) hx.2.2.2.2.2.2.1.2.1 rfl rfl (Nat.le_of_ble_eq_true rfl) (t_hearAndDo hx.2.2.2.2.2.2.1.2 hx.2.1.2 hA hx.2.2.2.2.2.1.2 (by omega) (by omega) (c := iN c) (by omega)) (fun iv31 lw31 q31 => ?_)
    obtain ⟨e1, hG, hD, hO⟩ := q31
    subst e1
    refine V_aload_n (i := 0) dX9_follows_34 rfl 0 rfl ?_
    refine M_getR dX9_follows_35 lf_X9_50 rfl hx.1 hx.2.2.2.2.2.2.1.1 ?_
    refine M_callVp (As := []) (st := []) dX9_follows_38 lv_X9_346 ⟨by decide, by decide⟩ ⟨rfl, rfl⟩ rfl (ci := 1) hx.2.2.2.2.2.2.1.2.1 rfl rfl (Nat.le_of_ble_eq_true rfl) (t_notByGuess hx.2.2.2.2.2.2.1.2 hG hD) ?_
    refine V_iret dX9_follows_41 ⟨rfl, rfl⟩ (Nat.zero_le _) (Nat.zero_le _) ?_
    subst hQ
    exact ⟨_, _, _, rfl, rfl, by unfold o_follows; rw [if_neg (fun z => z h8)]; exact OP.crowd hX hO⟩
  · have h8 : ¬ (inR c (v_nc (x_A X))) := bI_eq0.mp h8
    refine V_aload_n (i := 0) dX9_follows_11 rfl 0 rfl ?_
    refine V_bipush (v := (-2)) dX9_follows_12 rfl ?_
    refine M_callVq (As := [.int ((-2))]) (st := []) dX9_follows_14 lv_X9_69 ⟨by decide, by decide⟩ ⟨rfl, rfl⟩ rfl (ci := 6) hx.1 rfl rfl (Nat.le_of_ble_eq_true rfl) (t_refuse hx hX (j := 0) (by decide)) (fun w14 iv14 lw14 q14 => ?_)
    obtain ⟨rfl, e1, hXr, hOr⟩ := q14
    subst e1
    refine V_iret dX9_follows_17 ⟨rfl, rfl⟩ (Nat.zero_le _) (Nat.zero_le _) ?_
    subst hQ
    exact ⟨_, _, _, rfl, rfl, by unfold o_follows; rw [if_pos h8]; exact ⟨rfl, hXr, hOr, Off.rf⟩⟩
set_option maxRecDepth 20000 in
theorem k_sureFor {g : Ev} {S : St} {iv : IV} {lw : LW} (hx : IsX S) {X : Xs} (hX : CX iv lw X) {c : Int32} : CQ g mX9_sureFor [.ref (0), .int (c)] S iv lw (fun w iv2 lw2 => OP iv lw (o_sureFor X c) w iv2 lw2) := by
  refine CT_ofQ rfl (by decide) (Nat.le_of_ble_eq_true rfl) (lv := [(0, .ref (0)), (1, .int (c))]) rfl (fun Q hQ => ?_)
  have hA := hX.1
  have hnc := hA.ok.nc
  have hne := hA.ok.ne
  have hnm := hA.ok.nm
  refine V_aload_n (i := 0) dX9_sureFor_0 rfl 0 rfl ?_
  refine M_getR dX9_sureFor_1 lf_X9_10 rfl hx.1 hx.2.1.1 ?_
  refine V_iload_n (i := 1) dX9_sureFor_4 rfl 1 rfl ?_
  refine M_callVp (As := [.int (c)]) (st := []) dX9_sureFor_5 lv_X9_180 ⟨by decide, by decide⟩ ⟨rfl, rfl⟩ rfl (ci := 0) hx.2.1.2.1 rfl rfl (Nat.le_of_ble_eq_true rfl) (t_X0_isCall hx.2.1.2 hA) ?_
  refine V_if_eq (tgt := 30) dX9_sureFor_8 rfl (fun h8 => ?_) (fun h8 => ?_)
  · have h8 : ¬ (inR c (v_nc (x_A X))) := bI_eq0.mp h8
    refine V_aload_n (i := 0) dX9_sureFor_30 rfl 0 rfl ?_
    refine V_bipush (v := (-2)) dX9_sureFor_31 rfl ?_
    refine M_callVq (As := [.int ((-2))]) (st := []) dX9_sureFor_33 lv_X9_69 ⟨by decide, by decide⟩ ⟨rfl, rfl⟩ rfl (ci := 6) hx.1 rfl rfl (Nat.le_of_ble_eq_true rfl) (t_refuse hx hX (j := 0) (by decide)) (fun w33 iv33 lw33 q33 => ?_)
    obtain ⟨rfl, e1, hXr, hOr⟩ := q33
    subst e1
    refine V_iret dX9_sureFor_36 ⟨rfl, rfl⟩ (Nat.zero_le _) (Nat.zero_le _) ?_
    subst hQ
    exact ⟨_, _, _, rfl, rfl, by unfold o_sureFor; rw [if_neg h8]; exact ⟨rfl, hXr, hOr, Off.rf⟩⟩
  · have h8 : inR c (v_nc (x_A X)) := bI_ne.mp h8
    have cc := iN_eq (k := c) (by omega)
    have dc := iN_i (k := c) (by omega)
    refine M_at (lv2 := [(0, .ref (0)), (1, .int (nI (iN c)))]) (st2 := []) ?_ (by rw [← cc]) rfl rfl rfl
    refine V_aload_n (i := 0) dX9_sureFor_11 rfl 0 rfl ?_
    refine M_getR dX9_sureFor_12 lf_X9_50 rfl hx.1 hx.2.2.2.2.2.2.1.1 ?_
    refine V_aload_n (i := 0) dX9_sureFor_15 rfl 0 rfl ?_
    refine M_getR dX9_sureFor_16 lf_X9_10 rfl hx.1 hx.2.1.1 ?_
    refine V_aload_n (i := 0) dX9_sureFor_19 rfl 0 rfl ?_
    refine M_getR dX9_sureFor_20 lf_X9_43 rfl hx.1 hx.2.2.2.2.2.1.1 ?_
    refine V_iload_n (i := 1) dX9_sureFor_23 rfl 1 rfl ?_
    refine M_callVq (As := [.ref (1), .ref (47), .int (nI (iN c))]) (st := []) dX9_sureFor_24 lv_X9_349 ⟨by decide, by decide⟩ ⟨rfl, rfl⟩ rfl (ci := 1) hx.2.2.2.2.2.2.1.2.1 rfl rfl (Nat.le_of_ble_eq_true rfl) (t_leastSure hx.2.2.2.2.2.2.1.2 hx.2.1.2 hA hx.2.2.2.2.2.1.2 (by omega) (by omega) (c := iN c) (by omega)) (fun w24 iv24 lw24 q24 => ?_)
    obtain ⟨rfl, e1, hO⟩ := q24
    subst e1
    refine V_goto (tgt := 36) dX9_sureFor_27 rfl ?_
    refine V_iret dX9_sureFor_36 ⟨rfl, rfl⟩ (Nat.zero_le _) (Nat.zero_le _) ?_
    subst hQ
    exact ⟨_, _, _, rfl, rfl, by unfold o_sureFor; rw [if_pos h8]; exact OP.crowd hX hO⟩
set_option maxRecDepth 20000 in
theorem k_callOf {g : Ev} {S : St} {iv : IV} {lw : LW} (hx : IsX S) {X : Xs} (hX : CX iv lw X) {c what : Int32} : CQ g mX9_callOf [.ref (0), .int (c), .int (what)] S iv lw (fun w iv2 lw2 => OP iv lw (o_callOf X c what) w iv2 lw2) := by
  refine CT_ofQ rfl (by decide) (Nat.le_of_ble_eq_true rfl) (lv := [(0, .ref (0)), (1, .int (c)), (2, .int (what))]) rfl (fun Q hQ => ?_)
  have hA := hX.1
  have hnc := hA.ok.nc
  have hne := hA.ok.ne
  have hnm := hA.ok.nm
  refine V_aload_n (i := 0) dX9_callOf_0 rfl 0 rfl ?_
  refine M_getR dX9_callOf_1 lf_X9_10 rfl hx.1 hx.2.1.1 ?_
  refine V_iload_n (i := 1) dX9_callOf_4 rfl 1 rfl ?_
  refine M_callVp (As := [.int (c)]) (st := []) dX9_callOf_5 lv_X9_180 ⟨by decide, by decide⟩ ⟨rfl, rfl⟩ rfl (ci := 0) hx.2.1.2.1 rfl rfl (Nat.le_of_ble_eq_true rfl) (t_X0_isCall hx.2.1.2 hA) ?_
  refine V_if_ne (tgt := 18) dX9_callOf_8 rfl (fun h8 => ?_) (fun h8 => ?_)
  · have h8 : inR c (v_nc (x_A X)) := bI_ne.mp h8
    have cc := iN_eq (k := c) (by omega)
    have dc := iN_i (k := c) (by omega)
    refine M_at (lv2 := [(0, .ref (0)), (1, .int (nI (iN c))), (2, .int (what))]) (st2 := []) ?_ (by rw [← cc]) rfl rfl rfl
    refine V_iload_n (i := 2) dX9_callOf_18 rfl 2 rfl ?_
    by_cases hs19_0 : what.toInt = 0
    · refine V_tabIn (v := 0) (tgt := 44) dX9_callOf_19 (by exact hs19_0) (by decide) rfl rfl ?_
      refine V_aload_n (i := 0) dX9_callOf_44 rfl 0 rfl ?_
      refine M_getR dX9_callOf_45 lf_X9_10 rfl hx.1 hx.2.1.1 ?_
      refine V_iload_n (i := 1) dX9_callOf_48 rfl 1 rfl ?_
      refine M_callVp (As := [.int (nI (iN c))]) (st := []) dX9_callOf_49 lv_X9_220 ⟨by decide, by decide⟩ ⟨rfl, rfl⟩ rfl (ci := 0) hx.2.1.2.1 rfl rfl (Nat.le_of_ble_eq_true rfl) (t_X0_sizeOf hx.2.1.2 hA (c := iN c) (by omega)) ?_
      refine V_iret dX9_callOf_52 ⟨rfl, rfl⟩ (Nat.zero_le _) (Nat.zero_le _) ?_
      subst hQ
      exact ⟨_, _, _, rfl, rfl, by unfold o_callOf; rw [if_neg (fun z => z h8), if_pos (by omega)]; exact OP.same hX⟩
    by_cases hs19_1 : what.toInt = 1
    · refine V_tabIn (v := 1) (tgt := 53) dX9_callOf_19 (by exact hs19_1) (by decide) rfl rfl ?_
      refine V_aload_n (i := 0) dX9_callOf_53 rfl 0 rfl ?_
      refine M_getR dX9_callOf_54 lf_X9_10 rfl hx.1 hx.2.1.1 ?_
      refine V_iload_n (i := 1) dX9_callOf_57 rfl 1 rfl ?_
      refine M_callVp (As := [.int (nI (iN c))]) (st := []) dX9_callOf_58 lv_X9_223 ⟨by decide, by decide⟩ ⟨rfl, rfl⟩ rfl (ci := 0) hx.2.1.2.1 rfl rfl (Nat.le_of_ble_eq_true rfl) (t_X0_useOf hx.2.1.2 hA (c := iN c) (by omega)) ?_
      refine V_iret dX9_callOf_61 ⟨rfl, rfl⟩ (Nat.zero_le _) (Nat.zero_le _) ?_
      subst hQ
      exact ⟨_, _, _, rfl, rfl, by unfold o_callOf; rw [if_neg (fun z => z h8), if_neg (by omega), if_pos (by omega)]; exact OP.same hX⟩
    by_cases hs19_2 : what.toInt = 2
    · refine V_tabIn (v := 2) (tgt := 62) dX9_callOf_19 (by exact hs19_2) (by decide) rfl rfl ?_
      refine V_aload_n (i := 0) dX9_callOf_62 rfl 0 rfl ?_
      refine M_getR dX9_callOf_63 lf_X9_10 rfl hx.1 hx.2.1.1 ?_
      refine V_iload_n (i := 1) dX9_callOf_66 rfl 1 rfl ?_
      refine M_callVp (As := [.int (nI (iN c))]) (st := []) dX9_callOf_67 lv_X9_226 ⟨by decide, by decide⟩ ⟨rfl, rfl⟩ rfl (ci := 0) hx.2.1.2.1 rfl rfl (Nat.le_of_ble_eq_true rfl) (t_X0_costOf hx.2.1.2 hA (c := iN c) (by omega)) ?_
      refine V_iret dX9_callOf_70 ⟨rfl, rfl⟩ (Nat.zero_le _) (Nat.zero_le _) ?_
      subst hQ
      exact ⟨_, _, _, rfl, rfl, by unfold o_callOf; rw [if_neg (fun z => z h8), if_neg (by omega), if_neg (by omega), if_pos (by omega)]; exact OP.same hX⟩
    refine V_tableOut (tgt := 71) dX9_callOf_19 (by omega) rfl ?_
    have hb2 := hA.ok.sz (c := iN c) (by omega)
    refine V_iload_n (i := 2) dX9_callOf_71 rfl 2 rfl ?_
    refine V_bipush (v := nI 10) dX9_callOf_72 rfl ?_
    refine V_icmp_lt (tgt := 107) dX9_callOf_74 rfl (fun h74 => ?_) (fun h74 => ?_)
    · have h74 : what.toInt < (10 : Int) := by have q := Int32.lt_iff_toInt_lt.mp h74; rw [nI_toInt (n := 10) (by omega)] at q; exact q
      refine V_aload_n (i := 0) dX9_callOf_107 rfl 0 rfl ?_
      refine V_bipush (v := (-2)) dX9_callOf_108 rfl ?_
      refine M_callVq (As := [.int ((-2))]) (st := []) dX9_callOf_110 lv_X9_69 ⟨by decide, by decide⟩ ⟨rfl, rfl⟩ rfl (ci := 6) hx.1 rfl rfl (Nat.le_of_ble_eq_true rfl) (t_refuse hx hX (j := 0) (by decide)) (fun w110 iv110 lw110 q110 => ?_)
      obtain ⟨rfl, e1, hXr, hOr⟩ := q110
      subst e1
      refine V_iret dX9_callOf_113 ⟨rfl, rfl⟩ (Nat.zero_le _) (Nat.zero_le _) ?_
      subst hQ
      exact ⟨_, _, _, rfl, rfl, by unfold o_callOf; rw [if_neg (fun z => z h8), if_neg (by omega), if_neg (by omega), if_neg (by omega), if_neg (by omega)]; exact ⟨rfl, hXr, hOr, Off.rf⟩⟩
    · have h74 : ¬ what.toInt < (10 : Int) := fun r => h74 (Int32.lt_iff_toInt_lt.mpr (by rw [nI_toInt (n := 10) (by omega)]; exact r))
      refine V_aload_n (i := 0) dX9_callOf_77 rfl 0 rfl ?_
      refine M_getR dX9_callOf_78 lf_X9_10 rfl hx.1 hx.2.1.1 ?_
      refine V_iload_n (i := 1) dX9_callOf_81 rfl 1 rfl ?_
      refine V_iload_n (i := 2) dX9_callOf_82 rfl 2 rfl ?_
      refine V_bipush (v := nI 10) dX9_callOf_83 rfl ?_
      have hw := iN_i (k := what) (by omega)
      refine V_isub dX9_callOf_85 ?_
      refine M_top (x2 := nI (iN what - 10)) (sub_iN (by omega) (by omega)) ?_
      refine M_callVp (As := [.int (nI (iN c)), .int (nI (iN what - 10))]) (st := []) dX9_callOf_86 lv_X9_229 ⟨by decide, by decide⟩ ⟨rfl, rfl⟩ rfl (ci := 0) hx.2.1.2.1 rfl rfl (Nat.le_of_ble_eq_true rfl) (t_X0_isNoteOf hx.2.1.2 hA (c := iN c) (by omega)) ?_
      refine V_if_eq (tgt := 107) dX9_callOf_89 rfl (fun h89 => ?_) (fun h89 => ?_)
      · have h89 : ¬ (inR (nI (iN what - 10)) (v_sz (x_A X) (iN c))) := bI_eq0.mp h89
        have h89 : ¬ (what.toInt - 10 < v_sz (x_A X) (iN c)) := fun z => h89 ((inR_nI (by omega)).mpr ⟨_, by omega, rfl⟩)
        refine V_aload_n (i := 0) dX9_callOf_107 rfl 0 rfl ?_
        refine V_bipush (v := (-2)) dX9_callOf_108 rfl ?_
        refine M_callVq (As := [.int ((-2))]) (st := []) dX9_callOf_110 lv_X9_69 ⟨by decide, by decide⟩ ⟨rfl, rfl⟩ rfl (ci := 6) hx.1 rfl rfl (Nat.le_of_ble_eq_true rfl) (t_refuse hx hX (j := 0) (by decide)) (fun w110 iv110 lw110 q110 => ?_)
        obtain ⟨rfl, e1, hXr, hOr⟩ := q110
        subst e1
        refine V_iret dX9_callOf_113 ⟨rfl, rfl⟩ (Nat.zero_le _) (Nat.zero_le _) ?_
        subst hQ
        exact ⟨_, _, _, rfl, rfl, by unfold o_callOf; rw [if_neg (fun z => z h8), if_neg (by omega), if_neg (by omega), if_neg (by omega), if_neg (by omega)]; exact ⟨rfl, hXr, hOr, Off.rf⟩⟩
      · have h89 : inR (nI (iN what - 10)) (v_sz (x_A X) (iN c)) := bI_ne.mp h89
        have h89 : iN what - 10 < v_sz (x_A X) (iN c) := by obtain ⟨j, hj, e⟩ := (inR_nI (by omega)).mp h89; have hj2 := congrArg Int32.toInt e; have hz := Int32.toInt_lt what; rw [nI_toInt (by omega), nI_toInt (by omega)] at hj2; omega
        refine V_aload_n (i := 0) dX9_callOf_92 rfl 0 rfl ?_
        refine M_getR dX9_callOf_93 lf_X9_10 rfl hx.1 hx.2.1.1 ?_
        refine V_iload_n (i := 1) dX9_callOf_96 rfl 1 rfl ?_
        refine V_iload_n (i := 2) dX9_callOf_97 rfl 2 rfl ?_
        refine V_bipush (v := nI 10) dX9_callOf_98 rfl ?_
        refine V_isub dX9_callOf_100 ?_
        refine M_top (x2 := nI (iN what - 10)) (sub_iN (by omega) (by omega)) ?_
        refine M_callVp (As := [.int (nI (iN c)), .int (nI (iN what - 10))]) (st := []) dX9_callOf_101 lv_X9_232 ⟨by decide, by decide⟩ ⟨rfl, rfl⟩ rfl (ci := 0) hx.2.1.2.1 rfl rfl (Nat.le_of_ble_eq_true rfl) (t_X0_noteAt hx.2.1.2 hA (c := iN c) (i := iN what - 10) (by omega) h89) ?_
        refine V_goto (tgt := 113) dX9_callOf_104 rfl ?_
        refine V_iret dX9_callOf_113 ⟨rfl, rfl⟩ (Nat.zero_le _) (Nat.zero_le _) ?_
        subst hQ
        exact ⟨_, _, _, rfl, rfl, by unfold o_callOf; rw [if_neg (fun z => z h8), if_neg (by omega), if_neg (by omega), if_neg (by omega), if_pos (by omega)]; exact OP.same hX⟩
  · have h8 : ¬ (inR c (v_nc (x_A X))) := bI_eq0.mp h8
    refine V_aload_n (i := 0) dX9_callOf_11 rfl 0 rfl ?_
    refine V_bipush (v := (-2)) dX9_callOf_12 rfl ?_
    refine M_callVq (As := [.int ((-2))]) (st := []) dX9_callOf_14 lv_X9_69 ⟨by decide, by decide⟩ ⟨rfl, rfl⟩ rfl (ci := 6) hx.1 rfl rfl (Nat.le_of_ble_eq_true rfl) (t_refuse hx hX (j := 0) (by decide)) (fun w14 iv14 lw14 q14 => ?_)
    obtain ⟨rfl, e1, hXr, hOr⟩ := q14
    subst e1
    refine V_iret dX9_callOf_17 ⟨rfl, rfl⟩ (Nat.zero_le _) (Nat.zero_le _) ?_
    subst hQ
    exact ⟨_, _, _, rfl, rfl, by unfold o_callOf; rw [if_pos h8]; exact ⟨rfl, hXr, hOr, Off.rf⟩⟩
set_option maxRecDepth 20000 in
theorem k_image {g : Ev} {S : St} {iv : IV} {lw : LW} (hx : IsX S) {X : Xs} (hX : CX iv lw X) : CQ g mX9_image [.ref (0)] S iv lw (fun w iv2 lw2 => OP iv lw (o_image X) w iv2 lw2) := by
  refine CT_ofQ rfl (by decide) (Nat.le_of_ble_eq_true rfl) (lv := [(0, .ref (0))]) rfl (fun Q hQ => ?_)
  have hA := hX.1
  have hnc := hA.ok.nc
  have hne := hA.ok.ne
  have hnm := hA.ok.nm
  refine V_aload_n (i := 0) dX9_image_0 rfl 0 rfl ?_
  refine M_getR dX9_image_1 lf_X9_16 rfl hx.1 hx.2.2.1.1 ?_
  refine V_aload_n (i := 0) dX9_image_4 rfl 0 rfl ?_
  refine M_getR dX9_image_5 lf_X9_10 rfl hx.1 hx.2.1.1 ?_
  refine M_callVn (As := [.ref (1)]) (st := []) dX9_image_8 lv_X9_210 ⟨by decide, by decide⟩ ⟨rfl, rfl⟩ rfl (ci := 0) hx.2.2.1.2.1 rfl rfl (Nat.le_of_ble_eq_true rfl) (t_takeAll hx.2.2.1.2 hx.2.1.2 (by omega) hA) (fun iv8 lw8 q8 => ?_)
  obtain ⟨e1, hK, hO⟩ := q8
  subst e1
  refine V_aload_n (i := 0) dX9_image_11 rfl 0 rfl ?_
  refine V_iconst (v := nI 1) dX9_image_12 rfl ?_
  refine M_putI dX9_image_13 lf_X9_22 rfl hx.1 ⟨rfl, rfl⟩ ?_
  refine V_iconst (v := nI 1) dX9_image_16 rfl ?_
  refine V_iret dX9_image_17 ⟨rfl, rfl⟩ (Nat.zero_le _) (Nat.zero_le _) ?_
  subst hQ
  obtain ⟨a1, a2, a3, a4, ⟨s, e, a5⟩, a6, a7⟩ := hX
  refine ⟨_, _, _, rfl, rfl, rfl, ⟨a1.of (fun a g1 g2 => by rw [up2_a (by omega)]; exact hO a (by omega)), up2_s, fun K hK2 => ?_, fun t ht => (a4 t ht).of (by rw [up2_a (by omega)]; exact hO _ (by omega)) rfl, ⟨s, e, a5.of (by rw [up2_a (by decide)]; exact hO _ (by omega)) (by rw [up2_a (by decide)]; exact hO _ (by omega))⟩, fun j hj => (by rw [up2_ne (by decide)]; exact (congrFun (hO 56 (by omega)) j).trans (a6 j hj)), a7⟩, (hO.wide (by omega) (by omega)).up (by omega) (by omega), Off.rf⟩
  cases hK2
  exact hK.of (fun a g1 g2 => up2_a (by omega))
