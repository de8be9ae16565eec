/-! the reference: what changes the camp, what is read of it, hearings told -/
theorem r_inM {g : Ev} {S : St} {iv : IV} {lw : LW} {v : Int32} {lo hi : Nat} (h1 : lo < 2 ^ 31) (h2 : hi < 2 ^ 31) : CP g mX10_in [.long v.toInt64, .long (lN lo), .long (nI hi).toInt64] S iv lw (.int (bI ((lo : Int) ≤ v.toInt ∧ v.toInt ≤ (hi : Int)))) := r_in.eq (congrArg Value.int (bI_congr (by rw [i64, i64, lN_toInt h1, nI_toInt h2])))
def nnW (X : Xs) (s : Int32) (m : Nat) : Option Nat := match nrW X s with
  | some k => some k
  | none => if ¬ m ≤ (x_T X (iN s)).2.1 then some 0 else if ¬ ffO (UHp (x_T X (iN s))) m = none then some 3 else none
theorem nn_s {X : Xs} {s : Int32} {m k : Nat} (h : nrW X s = some k) : nnW X s m = some k := by unfold nnW; rw [h]
theorem nn_n {X : Xs} {s : Int32} {m : Nat} (h : nrW X s = none) : nnW X s m = if ¬ m ≤ (x_T X (iN s)).2.1 then some 0 else if ¬ ffO (UHp (x_T X (iN s))) m = none then some 3 else none := by unfold nnW; rw [h]
theorem th_nn {X : Xs} {s m : Int32} {P : Prop} [Decidable P] (h : inR s 8 ∧ 0 ≤ m.toInt ∧ m.toInt ≤ 8 ∧ P) : thW X s m P = nnW X s (iN m) := by
  have hm := iN_i h.2.1
  have hn : nrW X s = if rowQ (x_T X (iN s)) then none else some (whyJ (x_T X (iN s))) := if_neg (fun z => z h.1)
  unfold thW nnW
  rw [hn, if_neg (show ¬ ¬ (inR s 8 ∧ 0 ≤ m.toInt ∧ m.toInt ≤ 8 ∧ P) from fun z => z h)]
  by_cases q : rowQ (x_T X (iN s))
  · rw [if_neg (show ¬ ¬ rowQ (x_T X (iN s)) from fun z => z q), if_pos q]
    show _ = (if ¬ iN m ≤ (x_T X (iN s)).2.1 then some 0 else if ¬ ffO (UHp (x_T X (iN s))) (iN m) = none then some 3 else none)
    by_cases q2 : iN m ≤ (x_T X (iN s)).2.1
    · rw [if_neg (show ¬ ¬ m.toInt ≤ ((x_T X (iN s)).2.1 : Int) by omega), if_neg (show ¬ ¬ iN m ≤ (x_T X (iN s)).2.1 from fun z => z q2)]
    · rw [if_pos (show ¬ m.toInt ≤ ((x_T X (iN s)).2.1 : Int) by omega), if_pos q2]
  · rw [if_pos q, if_neg q]
theorem heN_l {v : Int64} (h : heQ v) : v = lN (heN v) := by
  apply Int64.toInt_inj.mp
  have h1 := h
  unfold heQ ntQ at h1
  rw [lN_toInt (by unfold heN; omega)]
  unfold heN
  omega
theorem uh_f {T : Sv} {i : Nat} (h : heQ (T.2.2 i)) : UHp T i = false := by unfold UHp; rw [decide_eq_true (show ntQ (T.2.2 i) ∨ (T.2.2 i).toInt = 9 from h)]; rfl
theorem uh_t {T : Sv} {i : Nat} (h : ¬ heQ (T.2.2 i)) : UHp T i = true := by unfold UHp; rw [decide_eq_false (show ¬ (ntQ (T.2.2 i) ∨ (T.2.2 i).toInt = 9) from h)]; rfl
theorem MP.thr {S : St} {b : Nat} {iv iv2 : IV} {lw lw2 : LW} {X : Xs} {o : Option Nat} {a : Int32} (ho : o = none) (h : MX S iv lw b X) (hk : XOK X) (hm : MA b iv iv2) (hl : Off (b + 38) 1 lw lw2) : MP S b iv lw (thR X o a) (.int a) iv2 lw2 := by subst ho; exact MP.ma h hk hm hl
theorem MP.thk {S : St} {b : Nat} {iv iv2 : IV} {lw : LW} {X : Xs} {o : Option Nat} {a : Int32} {k : Nat} (ho : o = some k) (h : MX S iv2 lw b (x_rf X k)) (hO : Off b 42 iv iv2) : MP S b iv lw (thR X o a) (.int (thA o)) iv2 lw := by subst ho; exact ⟨rfl, h, hO, Off.rf⟩
set_option maxRecDepth 20000 in
theorem q_tell {g : Ev} {S : St} {iv : IV} {lw : LW} {b : Nat} (hs : SS S b) {X : Xs} (hX : MX S iv lw b X) (hk : XOK X) {c : Int32} {what : Int32} {v : Int32} : CQ g mX10_tell [.ref (b), .int (c), .int (what), .int (v)] S iv lw (fun w iv2 lw2 => MP S b iv lw (o_tell X c what v) w iv2 lw2) := by
  refine CT_ofQ rfl (by decide) (Nat.le_of_ble_eq_true rfl) (lv := [(0, .ref (b)), (1, .int (c)), (2, .int (what)), (3, .int (v))]) rfl (fun Q hQ => ?_)
  have hb := hs.1
  have hA := hX.1
  have hv := hk.1
  have hnc := hv.nc
  have hne := hv.ne
  have hnm := hv.nm
  refine V_iload_n (i := 2) dX10_tell_0 rfl 2 rfl ?_
  refine V_if_ne (tgt := 16) dX10_tell_1 rfl (fun h1 => ?_) (fun h1 => ?_)
  · have h1 : ¬ what.toInt = 0 := fun r => h1 (i_eq0.mpr (by exact r))
    refine V_iload_n (i := 2) dX10_tell_16 rfl 2 rfl ?_
    refine V_iconst (v := nI 1) dX10_tell_17 rfl ?_
    refine V_icmp_ne (tgt := 37) dX10_tell_18 rfl (fun h18 => ?_) (fun h18 => ?_)
    · have h18 : ¬ what.toInt = (1 : Int) := fun r => h18 (i_eqq.mpr (by rw [nI_toInt (n := 1) (by omega)]; exact r))
      refine V_iconst (v := nI 0) dX10_tell_37 rfl ?_
      refine V_istore (lv2 := [(4, .int (nI 0)), (0, .ref (b)), (1, .int (c)), (2, .int (what)), (3, .int (v))]) dX10_tell_38 (by decide) rfl ?_
      refine V_aload_n (i := 0) dX10_tell_40 rfl 1 rfl ?_
      refine V_iload_n (i := 1) dX10_tell_41 rfl 2 rfl ?_
      refine M_callVp (As := [.int (c)]) (st := []) dX10_tell_42 lv_X10_155 ⟨by decide, by decide⟩ ⟨rfl, rfl⟩ rfl (ci := 7) hb.1 rfl rfl (Nat.le_of_ble_eq_true rfl) (r_isCall hb hA hv) ?_
      refine V_if_eq (tgt := 53) dX10_tell_45 rfl (fun h45 => ?_) (fun h45 => ?_)
      · have h45 : ¬ (inR c (v_nc (x_A X))) := bI_eq0.mp h45
        refine V_aload_n (i := 0) dX10_tell_53 rfl 1 rfl ?_
        refine V_bipush (v := (-2)) dX10_tell_54 rfl ?_
        refine M_callVq (As := [.int ((-2))]) (st := []) dX10_tell_56 lv_X10_107 ⟨by decide, by decide⟩ ⟨rfl, rfl⟩ rfl (ci := 7) hb.1 rfl rfl (Nat.le_of_ble_eq_true rfl) (q_refuse hs hX hk (j := 0) (by decide)) (fun w56 iv56 lw56 q56 => ?_)
        obtain ⟨rfl, e1, hXr, hOr⟩ := q56
        subst e1
        refine V_iret dX10_tell_59 ⟨rfl, rfl⟩ (Nat.zero_le _) (Nat.zero_le _) ?_
        subst hQ
        exact ⟨_, _, _, rfl, rfl, by unfold o_tell; rw [if_pos h45]; exact ⟨rfl, hXr, hOr, Off.rf⟩⟩
      · have h45 : inR c (v_nc (x_A X)) := bI_ne.mp h45
        refine V_iload dX10_tell_48 0 rfl ?_
        refine V_if_ne (tgt := 60) dX10_tell_50 rfl (fun q => absurd (by decide) q) (fun _ => ?_)
        refine V_aload_n (i := 0) dX10_tell_53 rfl 1 rfl ?_
        refine V_bipush (v := (-2)) dX10_tell_54 rfl ?_
        refine M_callVq (As := [.int ((-2))]) (st := []) dX10_tell_56 lv_X10_107 ⟨by decide, by decide⟩ ⟨rfl, rfl⟩ rfl (ci := 7) hb.1 rfl rfl (Nat.le_of_ble_eq_true rfl) (q_refuse hs hX hk (j := 0) (by decide)) (fun w56 iv56 lw56 q56 => ?_)
        obtain ⟨rfl, e1, hXr, hOr⟩ := q56
        subst e1
        refine V_iret dX10_tell_59 ⟨rfl, rfl⟩ (Nat.zero_le _) (Nat.zero_le _) ?_
        subst hQ
        exact ⟨_, _, _, rfl, rfl, by unfold o_tell; rw [if_neg (fun z => z h45), if_neg (by omega), if_neg (by omega)]; exact ⟨rfl, hXr, hOr, Off.rf⟩⟩
    · have h18 : what.toInt = (1 : Int) := by have q := i_eqq.mp h18; rw [nI_toInt (n := 1) (by omega)] at q; exact q
      refine V_iload_n (i := 3) dX10_tell_21 rfl 3 rfl ?_
      refine V_i2l dX10_tell_22 ?_
      refine V_lconst (v := lN 0) dX10_tell_23 rfl ?_
      refine V_ldc2 (v := lN 99) dX10_tell_24 mw_1281 ?_
      refine M_callSp (As := [.long ((v).toInt64), .long (lN 0), .long (lN 99)]) (st := []) dX10_tell_27 ls_X10_91 ⟨by decide, by decide⟩ ⟨rfl, rfl⟩ rfl (Nat.le_of_ble_eq_true rfl) (r_inK (by decide) (by decide)) ?_
      refine V_if_eq (tgt := 37) dX10_tell_30 rfl (fun h30 => ?_) (fun h30 => ?_)
      · have h30 : ¬ ((0 : Int) ≤ v.toInt ∧ v.toInt ≤ 99) := bI_eq0.mp h30
        refine V_iconst (v := nI 0) dX10_tell_37 rfl ?_
        refine V_istore (lv2 := [(4, .int (nI 0)), (0, .ref (b)), (1, .int (c)), (2, .int (what)), (3, .int (v))]) dX10_tell_38 (by decide) rfl ?_
        refine V_aload_n (i := 0) dX10_tell_40 rfl 1 rfl ?_
        refine V_iload_n (i := 1) dX10_tell_41 rfl 2 rfl ?_
        refine M_callVp (As := [.int (c)]) (st := []) dX10_tell_42 lv_X10_155 ⟨by decide, by decide⟩ ⟨rfl, rfl⟩ rfl (ci := 7) hb.1 rfl rfl (Nat.le_of_ble_eq_true rfl) (r_isCall hb hA hv) ?_
        refine V_if_eq (tgt := 53) dX10_tell_45 rfl (fun h45 => ?_) (fun h45 => ?_)
        · have h45 : ¬ (inR c (v_nc (x_A X))) := bI_eq0.mp h45
          refine V_aload_n (i := 0) dX10_tell_53 rfl 1 rfl ?_
          refine V_bipush (v := (-2)) dX10_tell_54 rfl ?_
          refine M_callVq (As := [.int ((-2))]) (st := []) dX10_tell_56 lv_X10_107 ⟨by decide, by decide⟩ ⟨rfl, rfl⟩ rfl (ci := 7) hb.1 rfl rfl (Nat.le_of_ble_eq_true rfl) (q_refuse hs hX hk (j := 0) (by decide)) (fun w56 iv56 lw56 q56 => ?_)
          obtain ⟨rfl, e1, hXr, hOr⟩ := q56
          subst e1
          refine V_iret dX10_tell_59 ⟨rfl, rfl⟩ (Nat.zero_le _) (Nat.zero_le _) ?_
          subst hQ
          exact ⟨_, _, _, rfl, rfl, by unfold o_tell; rw [if_pos h45]; exact ⟨rfl, hXr, hOr, Off.rf⟩⟩
        · have h45 : inR c (v_nc (x_A X)) := bI_ne.mp h45
          refine V_iload dX10_tell_48 0 rfl ?_
          refine V_if_ne (tgt := 60) dX10_tell_50 rfl (fun q => absurd (by decide) q) (fun _ => ?_)
          refine V_aload_n (i := 0) dX10_tell_53 rfl 1 rfl ?_
          refine V_bipush (v := (-2)) dX10_tell_54 rfl ?_
          refine M_callVq (As := [.int ((-2))]) (st := []) dX10_tell_56 lv_X10_107 ⟨by decide, by decide⟩ ⟨rfl, rfl⟩ rfl (ci := 7) hb.1 rfl rfl (Nat.le_of_ble_eq_true rfl) (q_refuse hs hX hk (j := 0) (by decide)) (fun w56 iv56 lw56 q56 => ?_)
          obtain ⟨rfl, e1, hXr, hOr⟩ := q56
          subst e1
          refine V_iret dX10_tell_59 ⟨rfl, rfl⟩ (Nat.zero_le _) (Nat.zero_le _) ?_
          subst hQ
          exact ⟨_, _, _, rfl, rfl, by unfold o_tell; rw [if_neg (fun z => z h45), if_neg (by omega), if_neg (by omega)]; exact ⟨rfl, hXr, hOr, Off.rf⟩⟩
      · have h30 : (0 : Int) ≤ v.toInt ∧ v.toInt ≤ 99 := bI_ne.mp h30
        refine V_iconst (v := nI 1) dX10_tell_33 rfl ?_
        refine V_goto (tgt := 38) dX10_tell_34 rfl ?_
        refine V_istore (lv2 := [(4, .int (nI 1)), (0, .ref (b)), (1, .int (c)), (2, .int (what)), (3, .int (v))]) dX10_tell_38 (by decide) rfl ?_
        refine V_aload_n (i := 0) dX10_tell_40 rfl 1 rfl ?_
        refine V_iload_n (i := 1) dX10_tell_41 rfl 2 rfl ?_
        refine M_callVp (As := [.int (c)]) (st := []) dX10_tell_42 lv_X10_155 ⟨by decide, by decide⟩ ⟨rfl, rfl⟩ rfl (ci := 7) hb.1 rfl rfl (Nat.le_of_ble_eq_true rfl) (r_isCall hb hA hv) ?_
        refine V_if_eq (tgt := 53) dX10_tell_45 rfl (fun h45 => ?_) (fun h45 => ?_)
        · have h45 : ¬ (inR c (v_nc (x_A X))) := bI_eq0.mp h45
          refine V_aload_n (i := 0) dX10_tell_53 rfl 1 rfl ?_
          refine V_bipush (v := (-2)) dX10_tell_54 rfl ?_
          refine M_callVq (As := [.int ((-2))]) (st := []) dX10_tell_56 lv_X10_107 ⟨by decide, by decide⟩ ⟨rfl, rfl⟩ rfl (ci := 7) hb.1 rfl rfl (Nat.le_of_ble_eq_true rfl) (q_refuse hs hX hk (j := 0) (by decide)) (fun w56 iv56 lw56 q56 => ?_)
          obtain ⟨rfl, e1, hXr, hOr⟩ := q56
          subst e1
          refine V_iret dX10_tell_59 ⟨rfl, rfl⟩ (Nat.zero_le _) (Nat.zero_le _) ?_
          subst hQ
          exact ⟨_, _, _, rfl, rfl, by unfold o_tell; rw [if_pos h45]; exact ⟨rfl, hXr, hOr, Off.rf⟩⟩
        · have h45 : inR c (v_nc (x_A X)) := bI_ne.mp h45
          refine V_iload dX10_tell_48 0 rfl ?_
          refine V_if_ne (tgt := 60) dX10_tell_50 rfl (fun _ => ?_) (fun q => absurd q (by decide))
          have cc := iN_eq (k := c) (by omega)
          have cv := iN_eq (k := v) (by omega)
          have dc := iN_i (k := c) (by omega)
          have dv := iN_i (k := v) (by omega)
          refine M_at (lv2 := [(4, .int (nI 1)), (0, .ref (b)), (1, .int (nI (iN c))), (2, .int (what)), (3, .int (nI (iN v)))]) (st2 := []) ?_ (by rw [← cc, ← cv]) rfl rfl rfl
          refine V_iload_n (i := 2) dX10_tell_60 rfl 3 rfl ?_
          refine V_if_ne (tgt := 71) dX10_tell_61 rfl (fun _ => ?_) (fun q => absurd q (fun z => h1 (i_eq0.mp z)))
          refine V_aload_n (i := 0) dX10_tell_71 rfl 1 rfl ?_
          refine M_getR dX10_tell_72 lf_X10_48 rfl hb.1 hb.2.2.2.2.2.2.2.2.2.2.2.2.1.1 ?_
          refine V_astore (lv2 := [(5, .ref (b + 32)), (4, .int (nI 1)), (0, .ref (b)), (1, .int (nI (iN c))), (2, .int (what)), (3, .int (nI (iN v)))]) dX10_tell_75 (by decide) rfl ?_
          refine V_aload dX10_tell_77 0 rfl ?_
          refine V_iload_n (i := 1) dX10_tell_79 rfl 3 rfl ?_
          refine M_ialdn (j := (iN c)) (x := nI (v_co (x_A X) (iN c))) dX10_tell_80 hb.2.2.2.2.2.2.2.2.2.2.2.2.1.2 (by decide) (by omega) (hA.co (c := (iN c)) (by omega)) ?_
          refine V_istore (lv2 := [(6, .int (nI (v_co (x_A X) (iN c)))), (5, .ref (b + 32)), (4, .int (nI 1)), (0, .ref (b)), (1, .int (nI (iN c))), (2, .int (what)), (3, .int (nI (iN v)))]) dX10_tell_81 (by decide) rfl ?_
          refine V_aload dX10_tell_83 1 rfl ?_
          refine V_iload_n (i := 1) dX10_tell_85 rfl 4 rfl ?_
          refine V_iload_n (i := 3) dX10_tell_86 rfl 6 rfl ?_
          refine M_iastn (j := (iN c)) dX10_tell_87 hb.2.2.2.2.2.2.2.2.2.2.2.2.1.2 (by decide) (by omega) ?_
          refine V_iload dX10_tell_88 0 rfl ?_
          refine V_iret dX10_tell_90 ⟨rfl, rfl⟩ (Nat.zero_le _) (Nat.zero_le _) ?_
          subst hQ
          have hAn := mc_setK (c := iN c) (u := iN v) hA hv
          have hBn : MB b iv (up2 iv (b + 32) (iN c) (nI (iN v))) := MB.rf.up (by omega)
          exact ⟨_, _, _, rfl, rfl, by unfold o_tell; rw [if_neg (fun z => z h45), if_neg (by omega), if_pos (by omega)]; exact ⟨rfl, hX.now hk hAn hBn Off.rf, hBn.off, Off.rf⟩⟩
  · have h1 : what.toInt = 0 := by have q := i_eq0.mp h1; exact q
    refine V_iload_n (i := 3) dX10_tell_4 rfl 3 rfl ?_
    refine V_i2l dX10_tell_5 ?_
    refine V_lconst (v := lN 1) dX10_tell_6 rfl ?_
    refine V_ldc2 (v := lN 99) dX10_tell_7 mw_1281 ?_
    refine M_callSp (As := [.long ((v).toInt64), .long (lN 1), .long (lN 99)]) (st := []) dX10_tell_10 ls_X10_91 ⟨by decide, by decide⟩ ⟨rfl, rfl⟩ rfl (Nat.le_of_ble_eq_true rfl) (r_inK (by decide) (by decide)) ?_
    refine V_goto (tgt := 38) dX10_tell_13 rfl ?_
    refine V_istore (lv2 := [(4, .int (bI ((1 : Int) ≤ v.toInt ∧ v.toInt ≤ 99))), (0, .ref (b)), (1, .int (c)), (2, .int (what)), (3, .int (v))]) dX10_tell_38 (by decide) rfl ?_
    refine V_aload_n (i := 0) dX10_tell_40 rfl 1 rfl ?_
    refine V_iload_n (i := 1) dX10_tell_41 rfl 2 rfl ?_
    refine M_callVp (As := [.int (c)]) (st := []) dX10_tell_42 lv_X10_155 ⟨by decide, by decide⟩ ⟨rfl, rfl⟩ rfl (ci := 7) hb.1 rfl rfl (Nat.le_of_ble_eq_true rfl) (r_isCall hb hA hv) ?_
    refine V_if_eq (tgt := 53) dX10_tell_45 rfl (fun h45 => ?_) (fun h45 => ?_)
    · have h45 : ¬ (inR c (v_nc (x_A X))) := bI_eq0.mp h45
      refine V_aload_n (i := 0) dX10_tell_53 rfl 1 rfl ?_
      refine V_bipush (v := (-2)) dX10_tell_54 rfl ?_
      refine M_callVq (As := [.int ((-2))]) (st := []) dX10_tell_56 lv_X10_107 ⟨by decide, by decide⟩ ⟨rfl, rfl⟩ rfl (ci := 7) hb.1 rfl rfl (Nat.le_of_ble_eq_true rfl) (q_refuse hs hX hk (j := 0) (by decide)) (fun w56 iv56 lw56 q56 => ?_)
      obtain ⟨rfl, e1, hXr, hOr⟩ := q56
      subst e1
      refine V_iret dX10_tell_59 ⟨rfl, rfl⟩ (Nat.zero_le _) (Nat.zero_le _) ?_
      subst hQ
      exact ⟨_, _, _, rfl, rfl, by unfold o_tell; rw [if_pos h45]; exact ⟨rfl, hXr, hOr, Off.rf⟩⟩
    · have h45 : inR c (v_nc (x_A X)) := bI_ne.mp h45
      refine V_iload dX10_tell_48 0 rfl ?_
      refine V_if_ne (tgt := 60) dX10_tell_50 rfl (fun h50 => ?_) (fun h50 => ?_)
      · have h50 : (1 : Int) ≤ v.toInt ∧ v.toInt ≤ 99 := bI_ne.mp h50
        have cc := iN_eq (k := c) (by omega)
        have cv := iN_eq (k := v) (by omega)
        have dc := iN_i (k := c) (by omega)
        have dv := iN_i (k := v) (by omega)
        refine M_at (lv2 := [(4, .int (bI ((1 : Int) ≤ v.toInt ∧ v.toInt ≤ 99))), (0, .ref (b)), (1, .int (nI (iN c))), (2, .int (what)), (3, .int (nI (iN v)))]) (st2 := []) ?_ (by rw [← cc, ← cv]) rfl rfl rfl
        refine V_iload_n (i := 2) dX10_tell_60 rfl 3 rfl ?_
        refine V_if_ne (tgt := 71) dX10_tell_61 rfl (fun q => absurd (i_eq0.mpr h1) q) (fun _ => ?_)
        refine V_aload_n (i := 0) dX10_tell_64 rfl 1 rfl ?_
        refine M_getR dX10_tell_65 lf_X10_45 rfl hb.1 hb.2.2.2.2.2.2.2.2.2.2.2.1.1 ?_
        refine V_goto (tgt := 75) dX10_tell_68 rfl ?_
        refine V_astore (lv2 := [(5, .ref (b + 31)), (4, .int (bI ((1 : Int) ≤ v.toInt ∧ v.toInt ≤ 99))), (0, .ref (b)), (1, .int (nI (iN c))), (2, .int (what)), (3, .int (nI (iN v)))]) dX10_tell_75 (by decide) rfl ?_
        refine V_aload dX10_tell_77 0 rfl ?_
        refine V_iload_n (i := 1) dX10_tell_79 rfl 3 rfl ?_
        refine M_ialdn (j := (iN c)) (x := nI (v_us (x_A X) (iN c))) dX10_tell_80 hb.2.2.2.2.2.2.2.2.2.2.2.1.2 (by decide) (by omega) (hA.us (c := (iN c)) (by omega)) ?_
        refine V_istore (lv2 := [(6, .int (nI (v_us (x_A X) (iN c)))), (5, .ref (b + 31)), (4, .int (bI ((1 : Int) ≤ v.toInt ∧ v.toInt ≤ 99))), (0, .ref (b)), (1, .int (nI (iN c))), (2, .int (what)), (3, .int (nI (iN v)))]) dX10_tell_81 (by decide) rfl ?_
        refine V_aload dX10_tell_83 1 rfl ?_
        refine V_iload_n (i := 1) dX10_tell_85 rfl 4 rfl ?_
        refine V_iload_n (i := 3) dX10_tell_86 rfl 6 rfl ?_
        refine M_iastn (j := (iN c)) dX10_tell_87 hb.2.2.2.2.2.2.2.2.2.2.2.1.2 (by decide) (by omega) ?_
        refine V_iload dX10_tell_88 0 rfl ?_
        refine V_iret dX10_tell_90 ⟨rfl, rfl⟩ (Nat.zero_le _) (Nat.zero_le _) ?_
        subst hQ
        have hAn := mc_setU (c := iN c) (u := iN v) hA hv
        have hBn : MB b iv (up2 iv (b + 31) (iN c) (nI (iN v))) := MB.rf.up (by omega)
        exact ⟨_, _, _, rfl, rfl, by unfold o_tell; rw [if_neg (fun z => z h45), if_pos (by omega)]; exact ⟨rfl, hX.now hk hAn hBn Off.rf, hBn.off, Off.rf⟩⟩
      · have h50 : ¬ ((1 : Int) ≤ v.toInt ∧ v.toInt ≤ 99) := bI_eq0.mp h50
        refine V_aload_n (i := 0) dX10_tell_53 rfl 1 rfl ?_
        refine V_bipush (v := (-2)) dX10_tell_54 rfl ?_
        refine M_callVq (As := [.int ((-2))]) (st := []) dX10_tell_56 lv_X10_107 ⟨by decide, by decide⟩ ⟨rfl, rfl⟩ rfl (ci := 7) hb.1 rfl rfl (Nat.le_of_ble_eq_true rfl) (q_refuse hs hX hk (j := 0) (by decide)) (fun w56 iv56 lw56 q56 => ?_)
        obtain ⟨rfl, e1, hXr, hOr⟩ := q56
        subst e1
        refine V_iret dX10_tell_59 ⟨rfl, rfl⟩ (Nat.zero_le _) (Nat.zero_le _) ?_
        subst hQ
        exact ⟨_, _, _, rfl, rfl, by unfold o_tell; rw [if_neg (fun z => z h45), if_neg (by omega), if_neg (by omega)]; exact ⟨rfl, hXr, hOr, Off.rf⟩⟩
set_option maxRecDepth 20000 in
theorem q_ask {g : Ev} {S : St} {iv : IV} {lw : LW} {b : Nat} (hs : SS S b) {X : Xs} (hX : MX S iv lw b X) (hk : XOK X) {what : Int32} {v : Int32} : CQ g mX10_ask [.ref (b), .int (what), .int (v)] S iv lw (fun w iv2 lw2 => MP S b iv lw (o_ask X what v) w iv2 lw2) := by
  refine CT_ofQ rfl (by decide) (Nat.le_of_ble_eq_true rfl) (lv := [(0, .ref (b)), (1, .int (what)), (2, .int (v))]) rfl (fun Q hQ => ?_)
  have hb := hs.1
  have hA := hX.1
  have hv := hk.1
  have hnc := hv.nc
  have hne := hv.ne
  have hnm := hv.nm
  refine V_iload_n (i := 1) dX10_ask_0 rfl 1 rfl ?_
  refine V_if_ne (tgt := 16) dX10_ask_1 rfl (fun h1 => ?_) (fun h1 => ?_)
  · have h1 : ¬ what.toInt = 0 := fun r => h1 (i_eq0.mpr (by exact r))
    refine V_iload_n (i := 1) dX10_ask_16 rfl 1 rfl ?_
    refine V_iconst (v := nI 1) dX10_ask_17 rfl ?_
    refine V_icmp_ne (tgt := 37) dX10_ask_18 rfl (fun h18 => ?_) (fun h18 => ?_)
    · have h18 : ¬ what.toInt = (1 : Int) := fun r => h18 (i_eqq.mpr (by rw [nI_toInt (n := 1) (by omega)]; exact r))
      refine V_iconst (v := nI 0) dX10_ask_37 rfl ?_
      refine V_istore_n (lv2 := [(3, .int (nI 0)), (0, .ref (b)), (1, .int (what)), (2, .int (v))]) dX10_ask_38 rfl (by decide) rfl ?_
      refine V_iload_n (i := 3) dX10_ask_39 rfl 0 rfl ?_
      refine V_if_ne (tgt := 50) dX10_ask_40 rfl (fun q => absurd (by decide) q) (fun _ => ?_)
      refine V_aload_n (i := 0) dX10_ask_43 rfl 1 rfl ?_
      refine V_bipush (v := (-2)) dX10_ask_44 rfl ?_
      refine M_callVq (As := [.int ((-2))]) (st := []) dX10_ask_46 lv_X10_107 ⟨by decide, by decide⟩ ⟨rfl, rfl⟩ rfl (ci := 7) hb.1 rfl rfl (Nat.le_of_ble_eq_true rfl) (q_refuse hs hX hk (j := 0) (by decide)) (fun w46 iv46 lw46 q46 => ?_)
      obtain ⟨rfl, e1, hXr, hOr⟩ := q46
      subst e1
      refine V_iret dX10_ask_49 ⟨rfl, rfl⟩ (Nat.zero_le _) (Nat.zero_le _) ?_
      subst hQ
      exact ⟨_, _, _, rfl, rfl, by unfold o_ask; rw [if_neg (by omega), if_neg (by omega)]; exact ⟨rfl, hXr, hOr, Off.rf⟩⟩
    · have h18 : what.toInt = (1 : Int) := by have q := i_eqq.mp h18; rw [nI_toInt (n := 1) (by omega)] at q; exact q
      refine V_iload_n (i := 2) dX10_ask_21 rfl 2 rfl ?_
      refine V_i2l dX10_ask_22 ?_
      refine V_lconst (v := lN 0) dX10_ask_23 rfl ?_
      refine V_ldc2 (v := lN 100) dX10_ask_24 mw_1316 ?_
      refine M_callSp (As := [.long ((v).toInt64), .long (lN 0), .long (lN 100)]) (st := []) dX10_ask_27 ls_X10_91 ⟨by decide, by decide⟩ ⟨rfl, rfl⟩ rfl (Nat.le_of_ble_eq_true rfl) (r_inK (by decide) (by decide)) ?_
      refine V_if_eq (tgt := 37) dX10_ask_30 rfl (fun h30 => ?_) (fun h30 => ?_)
      · have h30 : ¬ ((0 : Int) ≤ v.toInt ∧ v.toInt ≤ 100) := bI_eq0.mp h30
        refine V_iconst (v := nI 0) dX10_ask_37 rfl ?_
        refine V_istore_n (lv2 := [(3, .int (nI 0)), (0, .ref (b)), (1, .int (what)), (2, .int (v))]) dX10_ask_38 rfl (by decide) rfl ?_
        refine V_iload_n (i := 3) dX10_ask_39 rfl 0 rfl ?_
        refine V_if_ne (tgt := 50) dX10_ask_40 rfl (fun q => absurd (by decide) q) (fun _ => ?_)
        refine V_aload_n (i := 0) dX10_ask_43 rfl 1 rfl ?_
        refine V_bipush (v := (-2)) dX10_ask_44 rfl ?_
        refine M_callVq (As := [.int ((-2))]) (st := []) dX10_ask_46 lv_X10_107 ⟨by decide, by decide⟩ ⟨rfl, rfl⟩ rfl (ci := 7) hb.1 rfl rfl (Nat.le_of_ble_eq_true rfl) (q_refuse hs hX hk (j := 0) (by decide)) (fun w46 iv46 lw46 q46 => ?_)
        obtain ⟨rfl, e1, hXr, hOr⟩ := q46
        subst e1
        refine V_iret dX10_ask_49 ⟨rfl, rfl⟩ (Nat.zero_le _) (Nat.zero_le _) ?_
        subst hQ
        exact ⟨_, _, _, rfl, rfl, by unfold o_ask; rw [if_neg (by omega), if_neg (by omega)]; exact ⟨rfl, hXr, hOr, Off.rf⟩⟩
      · have h30 : (0 : Int) ≤ v.toInt ∧ v.toInt ≤ 100 := bI_ne.mp h30
        refine V_iconst (v := nI 1) dX10_ask_33 rfl ?_
        refine V_goto (tgt := 38) dX10_ask_34 rfl ?_
        refine V_istore_n (lv2 := [(3, .int (nI 1)), (0, .ref (b)), (1, .int (what)), (2, .int (v))]) dX10_ask_38 rfl (by decide) rfl ?_
        refine V_iload_n (i := 3) dX10_ask_39 rfl 0 rfl ?_
        refine V_if_ne (tgt := 50) dX10_ask_40 rfl (fun _ => ?_) (fun q => absurd q (by decide))
        have cv := iN_eq (k := v) (by omega)
        have dv := iN_i (k := v) (by omega)
        refine M_at (lv2 := [(3, .int (nI 1)), (0, .ref (b)), (1, .int (what)), (2, .int (nI (iN v)))]) (st2 := []) ?_ (by rw [← cv]) rfl rfl rfl
        refine V_iload_n (i := 1) dX10_ask_50 rfl 2 rfl ?_
        refine V_if_ne (tgt := 61) dX10_ask_51 rfl (fun _ => ?_) (fun q => absurd q (fun z => h1 (i_eq0.mp z)))
        refine V_aload_n (i := 0) dX10_ask_61 rfl 1 rfl ?_
        refine M_getI (x := nI (v_lo (x_A X))) dX10_ask_62 lf_X10_67 rfl hb.1 (hA.lo) ?_
        refine V_istore (lv2 := [(4, .int (nI (v_lo (x_A X)))), (3, .int (nI 1)), (0, .ref (b)), (1, .int (what)), (2, .int (nI (iN v)))]) dX10_ask_65 (by decide) rfl ?_
        refine V_aload_n (i := 0) dX10_ask_67 rfl 2 rfl ?_
        refine V_iload_n (i := 1) dX10_ask_68 rfl 3 rfl ?_
        refine V_if_ne (tgt := 76) dX10_ask_69 rfl (fun _ => ?_) (fun q => absurd q (fun z => h1 (i_eq0.mp z)))
        refine V_aload_n (i := 0) dX10_ask_76 rfl 2 rfl ?_
        refine M_getI (x := nI (v_su (x_A X))) dX10_ask_77 lf_X10_63 rfl hb.1 (hA.su) ?_
        refine M_putI dX10_ask_80 lf_X10_63 rfl hb.1 ⟨rfl, rfl⟩ ?_
        refine V_aload_n (i := 0) dX10_ask_83 rfl 2 rfl ?_
        refine V_iload_n (i := 1) dX10_ask_84 rfl 3 rfl ?_
        refine V_iconst (v := nI 1) dX10_ask_85 rfl ?_
        refine V_icmp_ne (tgt := 93) dX10_ask_86 rfl (fun q => absurd ((i_eq (by decide)).mpr (by omega)) q) (fun _ => ?_)
        refine V_iload_n (i := 2) dX10_ask_89 rfl 4 rfl ?_
        refine V_goto (tgt := 97) dX10_ask_90 rfl ?_
        refine M_putI dX10_ask_97 lf_X10_67 rfl hb.1 ⟨rfl, rfl⟩ ?_
        refine V_iload dX10_ask_100 0 rfl ?_
        refine V_iret dX10_ask_102 ⟨rfl, rfl⟩ (Nat.zero_le _) (Nat.zero_le _) ?_
        subst hQ
        have hAn : MC (up2 (up2 iv b 20 (nI (v_su (x_A X)))) b 21 (nI (iN v))) b (v_setL (x_A X) (iN v)) := mc_setL (V := v_setS (x_A X) (v_su (x_A X))) (s := iN v) (mc_setS hA hnc) hnc
        have hBn : MB b iv (up2 (up2 iv b 20 (nI (v_su (x_A X)))) b 21 (nI (iN v))) := (MB.rf.up (by omega)).up (by omega)
        exact ⟨_, _, _, rfl, rfl, by unfold o_ask; rw [if_neg (by omega), if_pos (by omega)]; exact ⟨rfl, hX.now hk hAn hBn Off.rf, hBn.off, Off.rf⟩⟩
  · have h1 : what.toInt = 0 := by have q := i_eq0.mp h1; exact q
    refine V_iload_n (i := 2) dX10_ask_4 rfl 2 rfl ?_
    refine V_i2l dX10_ask_5 ?_
    refine V_lconst (v := lN 0) dX10_ask_6 rfl ?_
    refine V_ldc2 (v := lN 1000) dX10_ask_7 mw_1315 ?_
    refine M_callSp (As := [.long ((v).toInt64), .long (lN 0), .long (lN 1000)]) (st := []) dX10_ask_10 ls_X10_91 ⟨by decide, by decide⟩ ⟨rfl, rfl⟩ rfl (Nat.le_of_ble_eq_true rfl) (r_inK (by decide) (by decide)) ?_
    refine V_goto (tgt := 38) dX10_ask_13 rfl ?_
    refine V_istore_n (lv2 := [(3, .int (bI ((0 : Int) ≤ v.toInt ∧ v.toInt ≤ 1000))), (0, .ref (b)), (1, .int (what)), (2, .int (v))]) dX10_ask_38 rfl (by decide) rfl ?_
    refine V_iload_n (i := 3) dX10_ask_39 rfl 0 rfl ?_
    refine V_if_ne (tgt := 50) dX10_ask_40 rfl (fun h40 => ?_) (fun h40 => ?_)
    · have h40 : (0 : Int) ≤ v.toInt ∧ v.toInt ≤ 1000 := bI_ne.mp h40
      have cv := iN_eq (k := v) (by omega)
      have dv := iN_i (k := v) (by omega)
      refine M_at (lv2 := [(3, .int (bI ((0 : Int) ≤ v.toInt ∧ v.toInt ≤ 1000))), (0, .ref (b)), (1, .int (what)), (2, .int (nI (iN v)))]) (st2 := []) ?_ (by rw [← cv]) rfl rfl rfl
      refine V_iload_n (i := 1) dX10_ask_50 rfl 2 rfl ?_
      refine V_if_ne (tgt := 61) dX10_ask_51 rfl (fun q => absurd (i_eq0.mpr h1) q) (fun _ => ?_)
      refine V_aload_n (i := 0) dX10_ask_54 rfl 1 rfl ?_
      refine M_getI (x := nI (v_su (x_A X))) dX10_ask_55 lf_X10_63 rfl hb.1 (hA.su) ?_
      refine V_goto (tgt := 65) dX10_ask_58 rfl ?_
      refine V_istore (lv2 := [(4, .int (nI (v_su (x_A X)))), (3, .int (bI ((0 : Int) ≤ v.toInt ∧ v.toInt ≤ 1000))), (0, .ref (b)), (1, .int (what)), (2, .int (nI (iN v)))]) dX10_ask_65 (by decide) rfl ?_
      refine V_aload_n (i := 0) dX10_ask_67 rfl 2 rfl ?_
      refine V_iload_n (i := 1) dX10_ask_68 rfl 3 rfl ?_
      refine V_if_ne (tgt := 76) dX10_ask_69 rfl (fun q => absurd (i_eq0.mpr h1) q) (fun _ => ?_)
      refine V_iload_n (i := 2) dX10_ask_72 rfl 4 rfl ?_
      refine V_goto (tgt := 80) dX10_ask_73 rfl ?_
      refine M_putI dX10_ask_80 lf_X10_63 rfl hb.1 ⟨rfl, rfl⟩ ?_
      refine V_aload_n (i := 0) dX10_ask_83 rfl 2 rfl ?_
      refine V_iload_n (i := 1) dX10_ask_84 rfl 3 rfl ?_
      refine V_iconst (v := nI 1) dX10_ask_85 rfl ?_
      refine V_icmp_ne (tgt := 93) dX10_ask_86 rfl (fun _ => ?_) (fun q => absurd q (fun z => by have z2 := congrArg Int32.toInt z; rw [nI_toInt (by decide)] at z2; omega))
      refine V_aload_n (i := 0) dX10_ask_93 rfl 2 rfl ?_
      refine M_getI (x := nI (v_lo (x_A X))) dX10_ask_94 lf_X10_67 rfl hb.1 ((up2_k (by omega)).trans (hA.lo)) ?_
      refine M_putI dX10_ask_97 lf_X10_67 rfl hb.1 ⟨rfl, rfl⟩ ?_
      refine V_iload dX10_ask_100 0 rfl ?_
      refine V_iret dX10_ask_102 ⟨rfl, rfl⟩ (Nat.zero_le _) (Nat.zero_le _) ?_
      subst hQ
      have hAn : MC (up2 (up2 iv b 20 (nI (iN v))) b 21 (nI (v_lo (x_A X)))) b (v_setS (x_A X) (iN v)) := mc_setL (V := v_setS (x_A X) (iN v)) (s := v_lo (x_A X)) (mc_setS hA hnc) hnc
      have hBn : MB b iv (up2 (up2 iv b 20 (nI (iN v))) b 21 (nI (v_lo (x_A X)))) := (MB.rf.up (by omega)).up (by omega)
      exact ⟨_, _, _, rfl, rfl, by unfold o_ask; rw [if_pos (by omega)]; exact ⟨rfl, hX.now hk hAn hBn Off.rf, hBn.off, Off.rf⟩⟩
    · have h40 : ¬ ((0 : Int) ≤ v.toInt ∧ v.toInt ≤ 1000) := bI_eq0.mp h40
      refine V_aload_n (i := 0) dX10_ask_43 rfl 1 rfl ?_
      refine V_bipush (v := (-2)) dX10_ask_44 rfl ?_
      refine M_callVq (As := [.int ((-2))]) (st := []) dX10_ask_46 lv_X10_107 ⟨by decide, by decide⟩ ⟨rfl, rfl⟩ rfl (ci := 7) hb.1 rfl rfl (Nat.le_of_ble_eq_true rfl) (q_refuse hs hX hk (j := 0) (by decide)) (fun w46 iv46 lw46 q46 => ?_)
      obtain ⟨rfl, e1, hXr, hOr⟩ := q46
      subst e1
      refine V_iret dX10_ask_49 ⟨rfl, rfl⟩ (Nat.zero_le _) (Nat.zero_le _) ?_
      subst hQ
      exact ⟨_, _, _, rfl, rfl, by unfold o_ask; rw [if_neg (by omega), if_neg (by omega)]; exact ⟨rfl, hXr, hOr, Off.rf⟩⟩
set_option maxRecDepth 20000 in
theorem q_feed {g : Ev} {S : St} {iv : IV} {lw : LW} {b : Nat} (hs : SS S b) {X : Xs} (hX : MX S iv lw b X) (hk : XOK X) {l : Int32} : CQ g mX10_feed [.ref (b), .int (l)] S iv lw (fun w iv2 lw2 => MP S b iv lw (o_feed X l) w iv2 lw2) := by
  refine CT_ofQ rfl (by decide) (Nat.le_of_ble_eq_true rfl) (lv := [(0, .ref (b)), (1, .int (l))]) rfl (fun Q hQ => ?_)
  have hb := hs.1
  have hA := hX.1
  have hv := hk.1
  have hnc := hv.nc
  have hne := hv.ne
  have hnm := hv.nm
  have hn250 := hk.2.2.2.1.1
  refine V_iload_n (i := 1) dX10_feed_0 rfl 1 rfl ?_
  refine V_i2l dX10_feed_1 ?_
  refine V_lconst (v := lN 0) dX10_feed_2 rfl ?_
  refine V_ldc2 (v := lN 255) dX10_feed_3 mw_1321 ?_
  refine M_callSp (As := [.long ((l).toInt64), .long (lN 0), .long (lN 255)]) (st := []) dX10_feed_6 ls_X10_91 ⟨by decide, by decide⟩ ⟨rfl, rfl⟩ rfl (Nat.le_of_ble_eq_true rfl) (r_inK (by decide) (by decide)) ?_
  refine V_if_ne (tgt := 19) dX10_feed_9 rfl (fun h9 => ?_) (fun h9 => ?_)
  · have h9 : (0 : Int) ≤ l.toInt ∧ l.toInt ≤ 255 := bI_ne.mp h9
    refine V_aload_n (i := 0) dX10_feed_19 rfl 0 rfl ?_
    refine M_getI (x := nI (x_n X)) dX10_feed_20 lf_X10_164 rfl hb.1 (hX.2.2.1.1) ?_
    refine V_sipush (v := nI 250) dX10_feed_23 rfl ?_
    refine V_icmp_ne (tgt := 36) dX10_feed_26 rfl (fun h26 => ?_) (fun h26 => ?_)
    · have h26 : ¬ (x_n X) = 250 := fun q => h26 ((nI_eq (by omega) (by omega)).mpr q)
      have cl := iN_eq (k := l) (by omega)
      have dl := iN_i (k := l) (by omega)
      refine M_at (lv2 := [(0, .ref (b)), (1, .int (nI (iN l)))]) (st2 := []) ?_ (by rw [← cl]) rfl rfl rfl
      refine V_aload_n (i := 0) dX10_feed_36 rfl 0 rfl ?_
      refine M_getR dX10_feed_37 lf_X10_31 rfl hb.1 hb.2.2.2.2.2.2.2.1.1 ?_
      refine V_aload_n (i := 0) dX10_feed_40 rfl 0 rfl ?_
      refine V_dup dX10_feed_41 rfl ?_
      refine M_getI (x := nI (x_n X)) dX10_feed_42 lf_X10_164 rfl hb.1 (hX.2.2.1.1) ?_
      refine V_dup_x1 dX10_feed_45 rfl rfl ?_
      refine V_iconst (v := nI 1) dX10_feed_46 rfl ?_
      refine V_iadd dX10_feed_47 ?_
      refine M_top (nI_add _ _) ?_
      refine M_putI dX10_feed_48 lf_X10_164 rfl hb.1 ⟨rfl, rfl⟩ ?_
      refine V_iload_n (i := 1) dX10_feed_51 rfl 1 rfl ?_
      refine M_iastn (j := (x_n X)) dX10_feed_52 hb.2.2.2.2.2.2.2.1.2 (by decide) (by omega) ?_
      refine V_aload_n (i := 0) dX10_feed_53 rfl 0 rfl ?_
      refine M_getI (x := nI ((x_n X) + 1)) dX10_feed_54 lf_X10_164 rfl hb.1 ((up2_ne (by omega)).trans (up2_s)) ?_
      refine V_iret dX10_feed_57 ⟨rfl, rfl⟩ (Nat.zero_le _) (Nat.zero_le _) ?_
      subst hQ
      have hT2 : MT (up2 (up2 iv b 7 (nI (x_n X + 1))) (b + 15) (x_n X) (nI (iN l))) b (x_n X + 1) (fun i => if i = x_n X then iN l else x_f X i) := ⟨(up2_ne (by omega)).trans up2_s, fun i hi => by
        by_cases e : i = x_n X
        · subst e; show _ = nI (if x_n X = x_n X then iN l else x_f X (x_n X)); rw [if_pos rfl]; exact up2_s
        · show _ = nI (if i = x_n X then iN l else x_f X i); rw [if_neg e, up2_k e, up2_ne (by omega)]; exact hX.2.2.1.2 i (by omega)⟩
      have hXn := hX.tape hk hT2 (fun a k h1 h2 => by rw [up2_o (by omega), up2_o (by omega)])
      exact ⟨_, _, _, rfl, rfl, by unfold o_feed; rw [if_neg (by omega), if_pos (by omega)]; exact ⟨rfl, hXn, (Off.rf.up (by omega) (by omega)).up (by omega) (by omega), Off.rf⟩⟩
    · have h26 : (x_n X) = 250 := (nI_eq (by omega) (by omega)).mp h26
      refine V_aload_n (i := 0) dX10_feed_29 rfl 0 rfl ?_
      refine V_bipush (v := (-6)) dX10_feed_30 rfl ?_
      refine M_callVq (As := [.int ((-6))]) (st := []) dX10_feed_32 lv_X10_107 ⟨by decide, by decide⟩ ⟨rfl, rfl⟩ rfl (ci := 7) hb.1 rfl rfl (Nat.le_of_ble_eq_true rfl) (q_refuse hs hX hk (j := 4) (by decide)) (fun w32 iv32 lw32 q32 => ?_)
      obtain ⟨rfl, e1, hXr, hOr⟩ := q32
      subst e1
      refine V_iret dX10_feed_35 ⟨rfl, rfl⟩ (Nat.zero_le _) (Nat.zero_le _) ?_
      subst hQ
      exact ⟨_, _, _, rfl, rfl, by unfold o_feed; rw [if_neg (by omega), if_neg (by omega)]; exact ⟨rfl, hXr, hOr, Off.rf⟩⟩
  · have h9 : ¬ ((0 : Int) ≤ l.toInt ∧ l.toInt ≤ 255) := bI_eq0.mp h9
    refine V_aload_n (i := 0) dX10_feed_12 rfl 0 rfl ?_
    refine V_bipush (v := (-2)) dX10_feed_13 rfl ?_
    refine M_callVq (As := [.int ((-2))]) (st := []) dX10_feed_15 lv_X10_107 ⟨by decide, by decide⟩ ⟨rfl, rfl⟩ rfl (ci := 7) hb.1 rfl rfl (Nat.le_of_ble_eq_true rfl) (q_refuse hs hX hk (j := 0) (by decide)) (fun w15 iv15 lw15 q15 => ?_)
    obtain ⟨rfl, e1, hXr, hOr⟩ := q15
    subst e1
    refine V_iret dX10_feed_18 ⟨rfl, rfl⟩ (Nat.zero_le _) (Nat.zero_le _) ?_
    subst hQ
    exact ⟨_, _, _, rfl, rfl, by unfold o_feed; rw [if_pos (by omega)]; exact ⟨rfl, hXr, hOr, Off.rf⟩⟩
set_option maxRecDepth 20000 in
theorem q_wipe {g : Ev} {S : St} {iv : IV} {lw : LW} {b : Nat} (hs : SS S b) {X : Xs} (hX : MX S iv lw b X) (hk : XOK X) : CQ g mX10_wipe [.ref (b)] S iv lw (fun w iv2 lw2 => MP S b iv lw (o_wipe X) w iv2 lw2) := by
  refine CT_ofQ rfl (by decide) (Nat.le_of_ble_eq_true rfl) (lv := [(0, .ref (b))]) rfl (fun Q hQ => ?_)
  have hb := hs.1
  have hA := hX.1
  have hv := hk.1
  have hnc := hv.nc
  have hne := hv.ne
  have hnm := hv.nm
  refine V_aload_n (i := 0) dX10_wipe_0 rfl 0 rfl ?_
  refine M_getI (x := nI (x_n X)) dX10_wipe_1 lf_X10_164 rfl hb.1 (hX.2.2.1.1) ?_
  refine V_istore_n (lv2 := [(1, .int (nI (x_n X))), (0, .ref (b))]) dX10_wipe_4 rfl (by decide) rfl ?_
  refine V_aload_n (i := 0) dX10_wipe_5 rfl 1 rfl ?_
  refine V_iconst (v := nI 0) dX10_wipe_6 rfl ?_
  refine M_putI dX10_wipe_7 lf_X10_164 rfl hb.1 ⟨rfl, rfl⟩ ?_
  refine V_iload_n (i := 1) dX10_wipe_10 rfl 0 rfl ?_
  refine V_iret dX10_wipe_11 ⟨rfl, rfl⟩ (Nat.zero_le _) (Nat.zero_le _) ?_
  subst hQ
  have hXn := hX.tape hk (n := 0) (f := x_f X) (iv2 := up2 iv b 7 (nI 0)) ⟨up2_s, fun i hi => absurd hi (by omega)⟩ (fun a k h1 h2 => by rw [up2_o (by omega)])
  exact ⟨_, _, _, rfl, rfl, rfl, hXn, Off.rf.up (by omega) (by omega), Off.rf⟩
set_option maxRecDepth 20000 in
theorem q_call {g : Ev} {S : St} {iv : IV} {lw : LW} {b : Nat} (hs : SS S b) {X : Xs} (hX : MX S iv lw b X) (hk : XOK X) {s : Int32} {m : Int32} {u : Int32} {k : Int32} : CQ g mX10_call [.ref (b), .int (s), .int (m), .int (u), .int (k)] S iv lw (fun w iv2 lw2 => MP S b iv lw (o_call X s m u k) w iv2 lw2) := by
  refine CT_ofQ rfl (by decide) (Nat.le_of_ble_eq_true rfl) (lv := [(0, .ref (b)), (1, .int (s)), (2, .int (m)), (3, .int (u)), (4, .int (k))]) rfl (fun Q hQ => ?_)
  have hb := hs.1
  have hA := hX.1
  have hv := hk.1
  have hnc := hv.nc
  have hne := hv.ne
  have hnm := hv.nm
  refine V_iload_n (i := 1) dX10_call_0 rfl 1 rfl ?_
  refine V_i2l dX10_call_1 ?_
  refine V_lconst (v := lN 0) dX10_call_2 rfl ?_
  refine V_ldc2 (v := lN 7) dX10_call_3 mw_1215 ?_
  refine M_callSp (As := [.long ((s).toInt64), .long (lN 0), .long (lN 7)]) (st := []) dX10_call_6 ls_X10_91 ⟨by decide, by decide⟩ ⟨rfl, rfl⟩ rfl (Nat.le_of_ble_eq_true rfl) (r_in8) ?_
  refine V_if_eq (tgt := 49) dX10_call_9 rfl (fun h9 => ?_) (fun h9 => ?_)
  · have h9 : ¬ (inR s 8) := bI_eq0.mp h9
    refine V_aload_n (i := 0) dX10_call_49 rfl 0 rfl ?_
    refine V_bipush (v := (-2)) dX10_call_50 rfl ?_
    refine M_callVq (As := [.int ((-2))]) (st := []) dX10_call_52 lv_X10_107 ⟨by decide, by decide⟩ ⟨rfl, rfl⟩ rfl (ci := 7) hb.1 rfl rfl (Nat.le_of_ble_eq_true rfl) (q_refuse hs hX hk (j := 0) (by decide)) (fun w52 iv52 lw52 q52 => ?_)
    obtain ⟨rfl, e1, hXr, hOr⟩ := q52
    subst e1
    refine V_iret dX10_call_55 ⟨rfl, rfl⟩ (Nat.zero_le _) (Nat.zero_le _) ?_
    subst hQ
    exact ⟨_, _, _, rfl, rfl, by unfold o_call; rw [if_pos (by omega)]; exact ⟨rfl, hXr, hOr, Off.rf⟩⟩
  · have h9 : inR s 8 := bI_ne.mp h9
    refine V_iload_n (i := 2) dX10_call_12 rfl 2 rfl ?_
    refine V_i2l dX10_call_13 ?_
    refine V_lconst (v := lN 1) dX10_call_14 rfl ?_
    refine V_ldc2 (v := lN 8) dX10_call_15 mw_1280 ?_
    refine M_callSp (As := [.long ((m).toInt64), .long (lN 1), .long (lN 8)]) (st := []) dX10_call_18 ls_X10_91 ⟨by decide, by decide⟩ ⟨rfl, rfl⟩ rfl (Nat.le_of_ble_eq_true rfl) (r_inK (by decide) (by decide)) ?_
    refine V_if_eq (tgt := 49) dX10_call_21 rfl (fun h21 => ?_) (fun h21 => ?_)
    · have h21 : ¬ ((1 : Int) ≤ m.toInt ∧ m.toInt ≤ 8) := bI_eq0.mp h21
      refine V_aload_n (i := 0) dX10_call_49 rfl 0 rfl ?_
      refine V_bipush (v := (-2)) dX10_call_50 rfl ?_
      refine M_callVq (As := [.int ((-2))]) (st := []) dX10_call_52 lv_X10_107 ⟨by decide, by decide⟩ ⟨rfl, rfl⟩ rfl (ci := 7) hb.1 rfl rfl (Nat.le_of_ble_eq_true rfl) (q_refuse hs hX hk (j := 0) (by decide)) (fun w52 iv52 lw52 q52 => ?_)
      obtain ⟨rfl, e1, hXr, hOr⟩ := q52
      subst e1
      refine V_iret dX10_call_55 ⟨rfl, rfl⟩ (Nat.zero_le _) (Nat.zero_le _) ?_
      subst hQ
      exact ⟨_, _, _, rfl, rfl, by unfold o_call; rw [if_pos (by omega)]; exact ⟨rfl, hXr, hOr, Off.rf⟩⟩
    · have h21 : (1 : Int) ≤ m.toInt ∧ m.toInt ≤ 8 := bI_ne.mp h21
      refine V_iload_n (i := 3) dX10_call_24 rfl 3 rfl ?_
      refine V_i2l dX10_call_25 ?_
      refine V_lconst (v := lN 1) dX10_call_26 rfl ?_
      refine V_ldc2 (v := lN 99) dX10_call_27 mw_1281 ?_
      refine M_callSp (As := [.long ((u).toInt64), .long (lN 1), .long (lN 99)]) (st := []) dX10_call_30 ls_X10_91 ⟨by decide, by decide⟩ ⟨rfl, rfl⟩ rfl (Nat.le_of_ble_eq_true rfl) (r_inK (by decide) (by decide)) ?_
      refine V_if_eq (tgt := 49) dX10_call_33 rfl (fun h33 => ?_) (fun h33 => ?_)
      · have h33 : ¬ ((1 : Int) ≤ u.toInt ∧ u.toInt ≤ 99) := bI_eq0.mp h33
        refine V_aload_n (i := 0) dX10_call_49 rfl 0 rfl ?_
        refine V_bipush (v := (-2)) dX10_call_50 rfl ?_
        refine M_callVq (As := [.int ((-2))]) (st := []) dX10_call_52 lv_X10_107 ⟨by decide, by decide⟩ ⟨rfl, rfl⟩ rfl (ci := 7) hb.1 rfl rfl (Nat.le_of_ble_eq_true rfl) (q_refuse hs hX hk (j := 0) (by decide)) (fun w52 iv52 lw52 q52 => ?_)
        obtain ⟨rfl, e1, hXr, hOr⟩ := q52
        subst e1
        refine V_iret dX10_call_55 ⟨rfl, rfl⟩ (Nat.zero_le _) (Nat.zero_le _) ?_
        subst hQ
        exact ⟨_, _, _, rfl, rfl, by unfold o_call; rw [if_pos (by omega)]; exact ⟨rfl, hXr, hOr, Off.rf⟩⟩
      · have h33 : (1 : Int) ≤ u.toInt ∧ u.toInt ≤ 99 := bI_ne.mp h33
        refine V_iload dX10_call_36 4 rfl ?_
        refine V_i2l dX10_call_38 ?_
        refine V_lconst (v := lN 0) dX10_call_39 rfl ?_
        refine V_ldc2 (v := lN 99) dX10_call_40 mw_1281 ?_
        refine M_callSp (As := [.long ((k).toInt64), .long (lN 0), .long (lN 99)]) (st := []) dX10_call_43 ls_X10_91 ⟨by decide, by decide⟩ ⟨rfl, rfl⟩ rfl (Nat.le_of_ble_eq_true rfl) (r_inK (by decide) (by decide)) ?_
        refine V_if_ne (tgt := 56) dX10_call_46 rfl (fun h46 => ?_) (fun h46 => ?_)
        · have h46 : (0 : Int) ≤ k.toInt ∧ k.toInt ≤ 99 := bI_ne.mp h46
          refine V_aload_n (i := 0) dX10_call_56 rfl 0 rfl ?_
          refine V_iload_n (i := 1) dX10_call_57 rfl 1 rfl ?_
          refine M_callVq (As := [.int (s)]) (st := []) dX10_call_58 lv_X10_115 ⟨by decide, by decide⟩ ⟨rfl, rfl⟩ rfl (ci := 7) hb.1 rfl rfl (Nat.le_of_ble_eq_true rfl) (r_noRow hs hX hk (s := s)) (fun w58 iv58 lw58 q58 => ?_)
          obtain ⟨e1, rfl, hN0, hN1, hNO⟩ := q58
          subst e1
          refine V_istore (lv2 := [(5, .int (thA (nrW X s))), (0, .ref (b)), (1, .int (s)), (2, .int (m)), (3, .int (u)), (4, .int (k))]) dX10_call_61 (by decide) rfl ?_
          refine V_iload dX10_call_63 0 rfl ?_
          refine V_if_eq (tgt := 71) dX10_call_65 rfl (fun h65 => ?_) (fun h65 => ?_)
          · have hW := thA_0.mp h65
            obtain ⟨hin, hrow⟩ := nr_none hW
            refine M_at ?_ rfl rfl (hN0 hW) rfl
            have hSK := (hk.2.1 (iN s) (in8_i hin)).1
            have cs := iN_eq (k := s) (by omega)
            have cm := iN_eq (k := m) (by omega)
            have cu := iN_eq (k := u) (by omega)
            have ck := iN_eq (k := k) (by omega)
            have ds := iN_i (k := s) (by omega)
            have dm := iN_i (k := m) (by omega)
            have du := iN_i (k := u) (by omega)
            have dk := iN_i (k := k) (by omega)
            refine M_at (lv2 := [(5, .int (thA (nrW X s))), (0, .ref (b)), (1, .int (nI (iN s))), (2, .int (nI (iN m))), (3, .int (nI (iN u))), (4, .int (nI (iN k)))]) (st2 := []) ?_ (by rw [← cs, ← cm, ← cu, ← ck]) rfl rfl rfl
            refine V_aload_n (i := 0) dX10_call_71 rfl 1 rfl ?_
            refine M_getR dX10_call_72 lf_X10_16 rfl hb.1 hb.2.2.2.1.1 ?_
            refine V_iload_n (i := 1) dX10_call_75 rfl 2 rfl ?_
            refine M_ialdn (j := (iN s)) (x := nI (x_T X (iN s)).2.1) dX10_call_76 hb.2.2.2.1.2 (by decide) (by omega) (((hX.2.1 (iN s) (by omega)).2.1 hrow).2.1) ?_
            refine V_iload_n (i := 2) dX10_call_77 rfl 3 rfl ?_
            refine V_icmp_ge (tgt := 88) dX10_call_78 rfl (fun h78 => ?_) (fun h78 => ?_)
            · have h78 : (iN m) ≤ (x_T X (iN s)).2.1 := (nI_leI (by omega) (by omega)).mp h78
              refine V_iconst (v := nI 0) dX10_call_88 rfl ?_
              refine V_istore (lv2 := [(6, .int (nI 0)), (5, .int (thA (nrW X s))), (0, .ref (b)), (1, .int (nI (iN s))), (2, .int (nI (iN m))), (3, .int (nI (iN u))), (4, .int (nI (iN k)))]) dX10_call_89 (by decide) rfl ?_
              have lp91 : ∀ i, i ≤ (iN m) → (∀ q, q < i → ntQ ((x_T X (iN s)).2.2 q)) → VM g mX10_call 91 [(6, .int (nI i)), (0, .ref (b)), (1, .int (nI (iN s))), (2, .int (nI (iN m))), (3, .int (nI (iN u))), (4, .int (nI (iN k)))] [] S iv lw Q := by
                refine up_ind fun i hi ih91 => ?_
                intro hnt
                refine V_iload dX10_call_91 0 rfl ?_
                refine V_iload_n (i := 2) dX10_call_93 rfl 3 rfl ?_
                refine V_icmp_ge (tgt := 129) dX10_call_94 rfl (fun h94 => ?_) (fun h94 => ?_)
                · have h94 : (iN m) ≤ i := (nI_leI (by omega) (by omega)).mp h94
                  have hall : allTo (fun i => decide (ntQ ((x_T X (iN s)).2.2 i))) (iN m) = true := (allTo_iff (iN m)).mpr (fun q hq => decide_eq_true (hnt q (by omega)))
                  refine V_aload_n (i := 0) dX10_call_129 rfl 1 rfl ?_
                  refine M_getI (x := nI (v_nc (x_A X))) dX10_call_130 lf_X10_88 rfl hb.1 (hA.nc) ?_
                  refine V_bipush (v := nI 12) dX10_call_133 rfl ?_
                  refine V_icmp_ne (tgt := 145) dX10_call_135 rfl (fun h135 => ?_) (fun h135 => ?_)
                  · have h135 : ¬ (v_nc (x_A X)) = 12 := fun q => h135 ((nI_eq (by omega) (by omega)).mpr q)
                    refine V_iconst (v := nI 0) dX10_call_145 rfl ?_
                    refine V_istore (lv2 := [(6, .int (nI 0)), (0, .ref (b)), (1, .int (nI (iN s))), (2, .int (nI (iN m))), (3, .int (nI (iN u))), (4, .int (nI (iN k)))]) dX10_call_146 (by decide) rfl ?_
                    have lp148 : ∀ j, j ≤ (iN m) → ∀ iv2 : IV, (∀ q, q < j → iv2 (b + 18 + v_nc (x_A X)) q = nI (heN ((x_T X (iN s)).2.2 q))) → (∀ a, ¬ a = (b + 18 + v_nc (x_A X)) → iv2 a = iv a) → VM g mX10_call 148 [(6, .int (nI j)), (0, .ref (b)), (1, .int (nI (iN s))), (2, .int (nI (iN m))), (3, .int (nI (iN u))), (4, .int (nI (iN k)))] [] S iv2 lw Q := by
                      refine up_ind fun j hj ihw => ?_
                      intro iv2 hrw hO2
                      refine V_iload dX10_call_148 0 rfl ?_
                      refine V_iload_n (i := 2) dX10_call_150 rfl 3 rfl ?_
                      refine V_icmp_ge (tgt := 182) dX10_call_151 rfl (fun h151 => ?_) (fun h151 => ?_)
                      · have h151 : (iN m) ≤ j := (nI_leI (by omega) (by omega)).mp h151
                        refine V_aload_n (i := 0) dX10_call_182 rfl 1 rfl ?_
                        refine V_iload_n (i := 2) dX10_call_183 rfl 3 rfl ?_
                        refine V_iload_n (i := 3) dX10_call_184 rfl 4 rfl ?_
                        refine V_iload dX10_call_185 5 rfl ?_
                        refine M_callVn (As := [.int (nI (iN m)), .int (nI (iN u)), .int (nI (iN k))]) (st := []) dX10_call_187 lv_X10_143 ⟨by decide, by decide⟩ ⟨rfl, rfl⟩ rfl (ci := 7) hb.1 rfl rfl (Nat.le_of_ble_eq_true rfl) (r_addCall hb (q := v_nc (x_A X)) (m := iN m) (u := iN u) (k := iN k) ((congrFun (hO2 b (by omega)) 9).trans hA.nc) (by omega)) (fun iv187 lw187 q187 => ?_)
                        obtain ⟨e1, e2⟩ := q187
                        subst e1
                        subst e2
                        refine V_aload_n (i := 0) dX10_call_190 rfl 1 rfl ?_
                        refine M_getI (x := nI (v_nc (x_A X) + 1)) dX10_call_191 lf_X10_88 rfl hb.1 (up2_s) ?_
                        refine V_iconst (v := nI 1) dX10_call_194 rfl ?_
                        refine V_isub dX10_call_195 ?_
                        refine M_top (x2 := nI (v_nc (x_A X))) (sub1) ?_
                        refine V_iret dX10_call_196 ⟨rfl, rfl⟩ (Nat.zero_le _) (Nat.zero_le _) ?_
                        subst hQ
                        obtain rfl : j = iN m := by omega
                        have hAn : MC (up2 (up2 (up2 (up2 iv2 (b + 30) (v_nc (x_A X)) (nI (iN m))) (b + 31) (v_nc (x_A X)) (nI (iN u))) (b + 32) (v_nc (x_A X)) (nI (iN k))) b 9 (nI (v_nc (x_A X) + 1))) b (nTo (v_addC (x_A X) (iN u) (iN k)) (fun i => heN ((x_T X (iN s)).2.2 i)) (iN m)) := mc_add (iv := iv) (h := fun i => heN ((x_T X (iN s)).2.2 i)) (nTo_add (iN m)) hv (by omega) hA up2_s ((up2_ne (by omega)).trans ((up2_ne (by omega)).trans ((up2_ne (by omega)).trans up2_s))) ((up2_ne (by omega)).trans ((up2_ne (by omega)).trans up2_s)) ((up2_ne (by omega)).trans up2_s) (fun i hi => by rw [up2_ne (by omega), up2_ne (by omega), up2_ne (by omega), up2_ne (by omega)]; exact hrw i hi) (fun a q g1 g2 g3 g4 g5 => by rw [up2_o (by omega), up2_o (by omega), up2_o (by omega), up2_o (by omega), hO2 a g3])
                        have hBn : MB b iv (up2 (up2 (up2 (up2 iv2 (b + 30) (v_nc (x_A X)) (nI (iN m))) (b + 31) (v_nc (x_A X)) (nI (iN u))) (b + 32) (v_nc (x_A X)) (nI (iN k))) b 9 (nI (v_nc (x_A X) + 1))) := (((MB.up (MB.up (MB.up (MB.up (fun a q _ g2 => congrFun (hO2 a (by omega)) q) (by omega)) (by omega)) (by omega)) (by omega))))
                        exact ⟨_, _, _, rfl, rfl, by unfold o_call; rw [if_neg (fun z => z ⟨h9, by omega, by omega, by omega, by omega⟩), if_neg (fun z => z hrow), if_neg (fun z => z ⟨by omega, hall⟩), if_pos (by omega)]; exact ⟨rfl, hX.now hk hAn hBn Off.rf, hBn.off, Off.rf⟩⟩
                      · have h151 : ¬ (iN m) ≤ j := fun q => h151 ((nI_leI (by omega) (by omega)).mpr q)
                        refine V_aload_n (i := 0) dX10_call_154 rfl 1 rfl ?_
                        refine M_getR dX10_call_155 lf_X10_39 rfl hb.1 hb.2.2.2.2.2.2.2.2.2.1.1 ?_
                        refine V_aload_n (i := 0) dX10_call_158 rfl 1 rfl ?_
                        refine M_getI (x := nI (v_nc (x_A X))) dX10_call_159 lf_X10_88 rfl hb.1 ((congrFun (hO2 b (by omega)) 9).trans hA.nc) ?_
                        refine M_aaldn (t := 1) (j := (v_nc (x_A X))) dX10_call_162 (by decide) hb.2.2.2.2.2.2.2.2.2.1.2 (by decide) (by omega) ((hb.2.2.2.2.2.2.2.2.2.2.2.2.2.2.2.2.2.2.2.2.2.2.2 (v_nc (x_A X)) (by omega)).1) ?_
                        refine V_iload dX10_call_163 0 rfl ?_
                        refine V_aload_n (i := 0) dX10_call_165 rfl 1 rfl ?_
                        refine M_getR dX10_call_166 lf_X10_21 rfl hb.1 hb.2.2.2.2.1.1 ?_
                        refine V_iload_n (i := 1) dX10_call_169 rfl 2 rfl ?_
                        refine M_aaldn (t := 2) (j := (iN s)) dX10_call_170 (by decide) hb.2.2.2.2.1.2 (by decide) (by omega) ((hb.2.2.2.2.2.2.2.2.2.2.2.2.2.2.2.2.2.2.2.2.2.2.1 (iN s) (by omega)).1) ?_
                        refine V_iload dX10_call_171 0 rfl ?_
                        refine M_laldn (j := j) (x := (x_T X (iN s)).2.2 j) dX10_call_173 (hb.2.2.2.2.2.2.2.2.2.2.2.2.2.2.2.2.2.2.2.2.2.2.1 (iN s) (by omega)).2 (by decide) (by omega) (((hX.2.1 (iN s) (by omega)).2.1 hrow).2.2 j (by omega)) ?_
                        refine V_l2i dX10_call_174 ?_
                        refine M_top (x2 := nI (heN ((x_T X (iN s)).2.2 j))) (heN_q (Or.inl (hnt j (by omega)))) ?_
                        refine M_iastn (j := j) dX10_call_175 (hb.2.2.2.2.2.2.2.2.2.2.2.2.2.2.2.2.2.2.2.2.2.2.2 (v_nc (x_A X)) (by omega)).2 (by decide) (by omega) ?_
                        refine V_iinc (v := nI (j + 1)) (lv2 := [(6, .int (nI (j + 1))), (0, .ref (b)), (1, .int (nI (iN s))), (2, .int (nI (iN m))), (3, .int (nI (iN u))), (4, .int (nI (iN k)))]) dX10_call_176 0 rfl (nI_inc _) (by decide) rfl ?_
                        refine V_goto (tgt := 148) dX10_call_179 rfl ?_
                        refine V_sub [0, 1, 2, 3, 4, 5] rfl ?_
                        exact M_at (ihw (by omega) _ (rowAdd (f := fun q => nI (heN ((x_T X (iN s)).2.2 q))) hrw rfl rfl) (fun a ha => (up2_a ha).trans (hO2 a ha))) (rfl) rfl (rfl) (rfl)
                    refine V_sub [0, 1, 2, 3, 4, 5] rfl ?_
                    exact M_at (lp148 0 (Nat.zero_le _) iv (fun q hq => absurd hq (by omega)) (fun _ _ => rfl)) (rfl) rfl (rfl) (rfl)
                  · have h135 : (v_nc (x_A X)) = 12 := (nI_eq (by omega) (by omega)).mp h135
                    refine V_aload_n (i := 0) dX10_call_138 rfl 1 rfl ?_
                    refine V_bipush (v := (-6)) dX10_call_139 rfl ?_
                    refine M_callVq (As := [.int ((-6))]) (st := []) dX10_call_141 lv_X10_107 ⟨by decide, by decide⟩ ⟨rfl, rfl⟩ rfl (ci := 7) hb.1 rfl rfl (Nat.le_of_ble_eq_true rfl) (q_refuse hs hX hk (j := 4) (by decide)) (fun w141 iv141 lw141 q141 => ?_)
                    obtain ⟨rfl, e1, hXr, hOr⟩ := q141
                    subst e1
                    refine V_iret dX10_call_144 ⟨rfl, rfl⟩ (Nat.zero_le _) (Nat.zero_le _) ?_
                    subst hQ
                    exact ⟨_, _, _, rfl, rfl, by unfold o_call; rw [if_neg (fun z => z ⟨h9, by omega, by omega, by omega, by omega⟩), if_neg (fun z => z hrow), if_neg (fun z => z ⟨by omega, hall⟩), if_neg (by omega)]; exact ⟨rfl, hXr, hOr, Off.rf⟩⟩
                · have h94 : ¬ (iN m) ≤ i := fun q => h94 ((nI_leI (by omega) (by omega)).mpr q)
                  refine V_aload_n (i := 0) dX10_call_97 rfl 1 rfl ?_
                  refine M_getR dX10_call_98 lf_X10_21 rfl hb.1 hb.2.2.2.2.1.1 ?_
                  refine V_iload_n (i := 1) dX10_call_101 rfl 2 rfl ?_
                  refine M_aaldn (t := 2) (j := (iN s)) dX10_call_102 (by decide) hb.2.2.2.2.1.2 (by decide) (by omega) ((hb.2.2.2.2.2.2.2.2.2.2.2.2.2.2.2.2.2.2.2.2.2.2.1 (iN s) (by omega)).1) ?_
                  refine V_iload dX10_call_103 0 rfl ?_
                  refine M_laldn (j := i) (x := (x_T X (iN s)).2.2 i) dX10_call_105 (hb.2.2.2.2.2.2.2.2.2.2.2.2.2.2.2.2.2.2.2.2.2.2.1 (iN s) (by omega)).2 (by decide) (by omega) (((hX.2.1 (iN s) (by omega)).2.1 hrow).2.2 i (by omega)) ?_
                  refine V_lconst (v := lN 0) dX10_call_106 rfl ?_
                  refine V_ldc2 (v := lN 4) dX10_call_107 mw_1219 ?_
                  refine M_callSp (As := [.long ((x_T X (iN s)).2.2 i), .long (lN 0), .long (lN 4)]) (st := []) dX10_call_110 ls_X10_91 ⟨by decide, by decide⟩ ⟨rfl, rfl⟩ rfl (Nat.le_of_ble_eq_true rfl) (r_inL) ?_
                  refine V_if_ne (tgt := 123) dX10_call_113 rfl (fun h113 => ?_) (fun h113 => ?_)
                  · have h113 : ntQ ((x_T X (iN s)).2.2 i) := bI_ne.mp h113
                    refine V_iinc (v := nI (i + 1)) (lv2 := [(6, .int (nI (i + 1))), (0, .ref (b)), (1, .int (nI (iN s))), (2, .int (nI (iN m))), (3, .int (nI (iN u))), (4, .int (nI (iN k)))]) dX10_call_123 0 rfl (nI_inc _) (by decide) rfl ?_
                    refine V_goto (tgt := 91) dX10_call_126 rfl ?_
                    refine V_sub [0, 1, 2, 3, 4, 5] rfl ?_
                    exact M_at (ih91 (by omega) (fun q hq => if e : q = i then e ▸ h113 else hnt q (by omega))) (rfl) rfl (rfl) (rfl)
                  · have h113 : ¬ (ntQ ((x_T X (iN s)).2.2 i)) := bI_eq0.mp h113
                    refine V_aload_n (i := 0) dX10_call_116 rfl 1 rfl ?_
                    refine V_bipush (v := (-2)) dX10_call_117 rfl ?_
                    refine M_callVq (As := [.int ((-2))]) (st := []) dX10_call_119 lv_X10_107 ⟨by decide, by decide⟩ ⟨rfl, rfl⟩ rfl (ci := 7) hb.1 rfl rfl (Nat.le_of_ble_eq_true rfl) (q_refuse hs hX hk (j := 0) (by decide)) (fun w119 iv119 lw119 q119 => ?_)
                    obtain ⟨rfl, e1, hXr, hOr⟩ := q119
                    subst e1
                    refine V_iret dX10_call_122 ⟨rfl, rfl⟩ (Nat.zero_le _) (Nat.zero_le _) ?_
                    subst hQ
                    exact ⟨_, _, _, rfl, rfl, by unfold o_call; rw [if_neg (fun z => z ⟨h9, by omega, by omega, by omega, by omega⟩), if_neg (fun z => z hrow), if_pos (fun z => h113 (of_decide_eq_true ((allTo_iff (iN m)).mp z.2 i (by omega))))]; exact ⟨rfl, hXr, hOr, Off.rf⟩⟩
              refine V_sub [0, 2, 3, 4, 5, 6] rfl ?_
              exact M_at (lp91 0 (Nat.zero_le _) (fun q hq => absurd hq (by omega))) (rfl) rfl (rfl) (rfl)
            · have h78 : ¬ (iN m) ≤ (x_T X (iN s)).2.1 := fun q => h78 ((nI_leI (by omega) (by omega)).mpr q)
              refine V_aload_n (i := 0) dX10_call_81 rfl 1 rfl ?_
              refine V_bipush (v := (-2)) dX10_call_82 rfl ?_
              refine M_callVq (As := [.int ((-2))]) (st := []) dX10_call_84 lv_X10_107 ⟨by decide, by decide⟩ ⟨rfl, rfl⟩ rfl (ci := 7) hb.1 rfl rfl (Nat.le_of_ble_eq_true rfl) (q_refuse hs hX hk (j := 0) (by decide)) (fun w84 iv84 lw84 q84 => ?_)
              obtain ⟨rfl, e1, hXr, hOr⟩ := q84
              subst e1
              refine V_iret dX10_call_87 ⟨rfl, rfl⟩ (Nat.zero_le _) (Nat.zero_le _) ?_
              subst hQ
              exact ⟨_, _, _, rfl, rfl, by unfold o_call; rw [if_neg (fun z => z ⟨h9, by omega, by omega, by omega, by omega⟩), if_neg (fun z => z hrow), if_pos (fun z => by have := z.1; omega)]; exact ⟨rfl, hXr, hOr, Off.rf⟩⟩
          · obtain ⟨k0, hk0⟩ := Option.ne_none_iff_exists'.mp (fun z => h65 (thA_0.mpr z))
            refine V_iload dX10_call_68 0 rfl ?_
            refine V_iret dX10_call_70 ⟨rfl, rfl⟩ (Nat.zero_le _) (Nat.zero_le _) ?_
            subst hQ
            exact ⟨_, _, _, rfl, rfl, MP.nr hk0 (fun q1 => by unfold o_call; rw [if_pos (fun z => q1 z.1)]) (fun q1 q2 => by unfold o_call; rw [if_neg (fun z => z ⟨h9, by omega, by omega, by omega, by omega⟩), if_pos q2]) (hN1 _ hk0) hNO⟩
        · have h46 : ¬ ((0 : Int) ≤ k.toInt ∧ k.toInt ≤ 99) := bI_eq0.mp h46
          refine V_aload_n (i := 0) dX10_call_49 rfl 0 rfl ?_
          refine V_bipush (v := (-2)) dX10_call_50 rfl ?_
          refine M_callVq (As := [.int ((-2))]) (st := []) dX10_call_52 lv_X10_107 ⟨by decide, by decide⟩ ⟨rfl, rfl⟩ rfl (ci := 7) hb.1 rfl rfl (Nat.le_of_ble_eq_true rfl) (q_refuse hs hX hk (j := 0) (by decide)) (fun w52 iv52 lw52 q52 => ?_)
          obtain ⟨rfl, e1, hXr, hOr⟩ := q52
          subst e1
          refine V_iret dX10_call_55 ⟨rfl, rfl⟩ (Nat.zero_le _) (Nat.zero_le _) ?_
          subst hQ
          exact ⟨_, _, _, rfl, rfl, by unfold o_call; rw [if_pos (by omega)]; exact ⟨rfl, hXr, hOr, Off.rf⟩⟩
set_option maxRecDepth 20000 in
theorem q_callOf {g : Ev} {S : St} {iv : IV} {lw : LW} {b : Nat} (hs : SS S b) {X : Xs} (hX : MX S iv lw b X) (hk : XOK X) {c : Int32} {what : Int32} : CQ g mX10_callOf [.ref (b), .int (c), .int (what)] S iv lw (fun w iv2 lw2 => MP S b iv lw (o_callOf X c what) w iv2 lw2) := by
  refine CT_ofQ rfl (by decide) (Nat.le_of_ble_eq_true rfl) (lv := [(0, .ref (b)), (1, .int (c)), (2, .int (what))]) rfl (fun Q hQ => ?_)
  have hb := hs.1
  have hA := hX.1
  have hv := hk.1
  have hnc := hv.nc
  have hne := hv.ne
  have hnm := hv.nm
  refine V_aload_n (i := 0) dX10_callOf_0 rfl 0 rfl ?_
  refine V_iload_n (i := 1) dX10_callOf_1 rfl 1 rfl ?_
  refine M_callVp (As := [.int (c)]) (st := []) dX10_callOf_2 lv_X10_155 ⟨by decide, by decide⟩ ⟨rfl, rfl⟩ rfl (ci := 7) hb.1 rfl rfl (Nat.le_of_ble_eq_true rfl) (r_isCall hb hA hv) ?_
  refine V_if_ne (tgt := 15) dX10_callOf_5 rfl (fun h5 => ?_) (fun h5 => ?_)
  · have h5 : inR c (v_nc (x_A X)) := bI_ne.mp h5
    have cc := iN_eq (k := c) (by omega)
    have dc := iN_i (k := c) (by omega)
    refine M_at (lv2 := [(0, .ref (b)), (1, .int (nI (iN c))), (2, .int (what))]) (st2 := []) ?_ (by rw [← cc]) rfl rfl rfl
    refine V_iload_n (i := 2) dX10_callOf_15 rfl 2 rfl ?_
    refine V_i2l dX10_callOf_16 ?_
    refine V_ldc2 (v := lN 10) dX10_callOf_17 mw_1394 ?_
    refine V_bipush (v := nI 9) dX10_callOf_20 rfl ?_
    have hs8 := hv.sz (c := iN c) (by omega)
    refine V_aload_n (i := 0) dX10_callOf_22 rfl 0 rfl ?_
    refine M_getR dX10_callOf_23 lf_X10_42 rfl hb.1 hb.2.2.2.2.2.2.2.2.2.2.1.1 ?_
    refine V_iload_n (i := 1) dX10_callOf_26 rfl 1 rfl ?_
    refine M_ialdn (j := (iN c)) (x := nI (v_sz (x_A X) (iN c))) dX10_callOf_27 hb.2.2.2.2.2.2.2.2.2.2.1.2 (by decide) (by omega) (hA.sz (c := (iN c)) (by omega)) ?_
    refine V_iadd dX10_callOf_28 ?_
    refine M_top (nI_add _ _) ?_
    refine V_i2l dX10_callOf_29 ?_
    refine M_callSp (As := [.long ((what).toInt64), .long (lN 10), .long ((nI (9 + (v_sz (x_A X) (iN c)))).toInt64)]) (st := []) dX10_callOf_30 ls_X10_91 ⟨by decide, by decide⟩ ⟨rfl, rfl⟩ rfl (Nat.le_of_ble_eq_true rfl) (r_inM (by decide) (by omega)) ?_
    refine V_if_eq (tgt := 48) dX10_callOf_33 rfl (fun h33 => ?_) (fun h33 => ?_)
    · have h33 : ¬ ((10 : Int) ≤ what.toInt ∧ what.toInt ≤ ((9 + v_sz (x_A X) (iN c) : Nat) : Int)) := bI_eq0.mp h33
      refine V_iload_n (i := 2) dX10_callOf_48 rfl 2 rfl ?_
      by_cases hs49_0 : what.toInt = 0
      · refine V_tabIn (v := 0) (tgt := 76) dX10_callOf_49 (by exact hs49_0) (by decide) rfl rfl ?_
        refine V_aload_n (i := 0) dX10_callOf_76 rfl 0 rfl ?_
        refine M_getR dX10_callOf_77 lf_X10_42 rfl hb.1 hb.2.2.2.2.2.2.2.2.2.2.1.1 ?_
        refine V_iload_n (i := 1) dX10_callOf_80 rfl 1 rfl ?_
        refine M_ialdn (j := (iN c)) (x := nI (v_sz (x_A X) (iN c))) dX10_callOf_81 hb.2.2.2.2.2.2.2.2.2.2.1.2 (by decide) (by omega) (hA.sz (c := (iN c)) (by omega)) ?_
        refine V_iret dX10_callOf_82 ⟨rfl, rfl⟩ (Nat.zero_le _) (Nat.zero_le _) ?_
        subst hQ
        exact ⟨_, _, _, rfl, rfl, by unfold o_callOf; rw [if_neg (fun z => z h5), if_pos (by omega)]; exact MP.same hX⟩
      by_cases hs49_1 : what.toInt = 1
      · refine V_tabIn (v := 1) (tgt := 83) dX10_callOf_49 (by exact hs49_1) (by decide) rfl rfl ?_
        refine V_aload_n (i := 0) dX10_callOf_83 rfl 0 rfl ?_
        refine M_getR dX10_callOf_84 lf_X10_45 rfl hb.1 hb.2.2.2.2.2.2.2.2.2.2.2.1.1 ?_
        refine V_iload_n (i := 1) dX10_callOf_87 rfl 1 rfl ?_
        refine M_ialdn (j := (iN c)) (x := nI (v_us (x_A X) (iN c))) dX10_callOf_88 hb.2.2.2.2.2.2.2.2.2.2.2.1.2 (by decide) (by omega) (hA.us (c := (iN c)) (by omega)) ?_
        refine V_iret dX10_callOf_89 ⟨rfl, rfl⟩ (Nat.zero_le _) (Nat.zero_le _) ?_
        subst hQ
        exact ⟨_, _, _, rfl, rfl, by unfold o_callOf; rw [if_neg (fun z => z h5), if_neg (by omega), if_pos (by omega)]; exact MP.same hX⟩
      by_cases hs49_2 : what.toInt = 2
      · refine V_tabIn (v := 2) (tgt := 90) dX10_callOf_49 (by exact hs49_2) (by decide) rfl rfl ?_
        refine V_aload_n (i := 0) dX10_callOf_90 rfl 0 rfl ?_
        refine M_getR dX10_callOf_91 lf_X10_48 rfl hb.1 hb.2.2.2.2.2.2.2.2.2.2.2.2.1.1 ?_
        refine V_iload_n (i := 1) dX10_callOf_94 rfl 1 rfl ?_
        refine M_ialdn (j := (iN c)) (x := nI (v_co (x_A X) (iN c))) dX10_callOf_95 hb.2.2.2.2.2.2.2.2.2.2.2.2.1.2 (by decide) (by omega) (hA.co (c := (iN c)) (by omega)) ?_
        refine V_iret dX10_callOf_96 ⟨rfl, rfl⟩ (Nat.zero_le _) (Nat.zero_le _) ?_
        subst hQ
        exact ⟨_, _, _, rfl, rfl, by unfold o_callOf; rw [if_neg (fun z => z h5), if_neg (by omega), if_neg (by omega), if_pos (by omega)]; exact MP.same hX⟩
      refine V_tableOut (tgt := 97) dX10_callOf_49 (by omega) rfl ?_
      refine V_aload_n (i := 0) dX10_callOf_97 rfl 0 rfl ?_
      refine V_bipush (v := (-2)) dX10_callOf_98 rfl ?_
      refine M_callVq (As := [.int ((-2))]) (st := []) dX10_callOf_100 lv_X10_107 ⟨by decide, by decide⟩ ⟨rfl, rfl⟩ rfl (ci := 7) hb.1 rfl rfl (Nat.le_of_ble_eq_true rfl) (q_refuse hs hX hk (j := 0) (by decide)) (fun w100 iv100 lw100 q100 => ?_)
      obtain ⟨rfl, e1, hXr, hOr⟩ := q100
      subst e1
      refine V_iret dX10_callOf_103 ⟨rfl, rfl⟩ (Nat.zero_le _) (Nat.zero_le _) ?_
      subst hQ
      exact ⟨_, _, _, rfl, rfl, by unfold o_callOf; rw [if_neg (fun z => z h5), if_neg (by omega), if_neg (by omega), if_neg (by omega), if_neg (by omega)]; exact ⟨rfl, hXr, hOr, Off.rf⟩⟩
    · have h33 : (10 : Int) ≤ what.toInt ∧ what.toInt ≤ ((9 + v_sz (x_A X) (iN c) : Nat) : Int) := bI_ne.mp h33
      have cwhat := iN_eq (k := what) (by omega)
      have dwhat := iN_i (k := what) (by omega)
      refine M_at (lv2 := [(0, .ref (b)), (1, .int (nI (iN c))), (2, .int (nI (iN what)))]) (st2 := []) ?_ (by rw [← cwhat]) rfl rfl rfl
      refine V_aload_n (i := 0) dX10_callOf_36 rfl 0 rfl ?_
      refine M_getR dX10_callOf_37 lf_X10_39 rfl hb.1 hb.2.2.2.2.2.2.2.2.2.1.1 ?_
      refine V_iload_n (i := 1) dX10_callOf_40 rfl 1 rfl ?_
      refine M_aaldn (t := 1) (j := (iN c)) dX10_callOf_41 (by decide) hb.2.2.2.2.2.2.2.2.2.1.2 (by decide) (by omega) ((hb.2.2.2.2.2.2.2.2.2.2.2.2.2.2.2.2.2.2.2.2.2.2.2 (iN c) (by omega)).1) ?_
      refine V_iload_n (i := 2) dX10_callOf_42 rfl 2 rfl ?_
      refine V_bipush (v := nI 10) dX10_callOf_43 rfl ?_
      refine V_isub dX10_callOf_45 ?_
      refine M_top (x2 := nI (iN what - 10)) (nI_sub (by omega)) ?_
      refine M_ialdn (j := (iN what - 10)) (x := nI (v_nt (x_A X) (iN c) (iN what - 10))) dX10_callOf_46 (hb.2.2.2.2.2.2.2.2.2.2.2.2.2.2.2.2.2.2.2.2.2.2.2 (iN c) (by omega)).2 (by decide) (by omega) (hA.nt (c := (iN c)) (i := (iN what - 10)) (by omega) (by omega)) ?_
      refine V_iret dX10_callOf_47 ⟨rfl, rfl⟩ (Nat.zero_le _) (Nat.zero_le _) ?_
      subst hQ
      exact ⟨_, _, _, rfl, rfl, by unfold o_callOf; rw [if_neg (fun z => z h5), if_neg (by omega), if_neg (by omega), if_neg (by omega), if_pos (by omega)]; exact MP.same hX⟩
  · have h5 : ¬ (inR c (v_nc (x_A X))) := bI_eq0.mp h5
    refine V_aload_n (i := 0) dX10_callOf_8 rfl 0 rfl ?_
    refine V_bipush (v := (-2)) dX10_callOf_9 rfl ?_
    refine M_callVq (As := [.int ((-2))]) (st := []) dX10_callOf_11 lv_X10_107 ⟨by decide, by decide⟩ ⟨rfl, rfl⟩ rfl (ci := 7) hb.1 rfl rfl (Nat.le_of_ble_eq_true rfl) (q_refuse hs hX hk (j := 0) (by decide)) (fun w11 iv11 lw11 q11 => ?_)
    obtain ⟨rfl, e1, hXr, hOr⟩ := q11
    subst e1
    refine V_iret dX10_callOf_14 ⟨rfl, rfl⟩ (Nat.zero_le _) (Nat.zero_le _) ?_
    subst hQ
    exact ⟨_, _, _, rfl, rfl, by unfold o_callOf; rw [if_pos h5]; exact ⟨rfl, hXr, hOr, Off.rf⟩⟩
set_option maxRecDepth 20000 in
theorem q_earOf {g : Ev} {S : St} {iv : IV} {lw : LW} {b : Nat} (hs : SS S b) {X : Xs} (hX : MX S iv lw b X) (hk : XOK X) {e : Int32} {what : Int32} : CQ g mX10_earOf [.ref (b), .int (e), .int (what)] S iv lw (fun w iv2 lw2 => MP S b iv lw (o_earOf X e what) w iv2 lw2) := by
  refine CT_ofQ rfl (by decide) (Nat.le_of_ble_eq_true rfl) (lv := [(0, .ref (b)), (1, .int (e)), (2, .int (what))]) rfl (fun Q hQ => ?_)
  have hb := hs.1
  have hA := hX.1
  have hv := hk.1
  have hnc := hv.nc
  have hne := hv.ne
  have hnm := hv.nm
  refine V_aload_n (i := 0) dX10_earOf_0 rfl 0 rfl ?_
  refine V_iload_n (i := 1) dX10_earOf_1 rfl 1 rfl ?_
  refine M_callVp (As := [.int (e)]) (st := []) dX10_earOf_2 lv_X10_122 ⟨by decide, by decide⟩ ⟨rfl, rfl⟩ rfl (ci := 7) hb.1 rfl rfl (Nat.le_of_ble_eq_true rfl) (r_isEar hb hA hv) ?_
  refine V_if_eq (tgt := 18) dX10_earOf_5 rfl (fun h5 => ?_) (fun h5 => ?_)
  · have h5 : ¬ (inR e (v_ne (x_A X))) := bI_eq0.mp h5
    refine V_aload_n (i := 0) dX10_earOf_18 rfl 0 rfl ?_
    refine V_bipush (v := (-2)) dX10_earOf_19 rfl ?_
    refine M_callVq (As := [.int ((-2))]) (st := []) dX10_earOf_21 lv_X10_107 ⟨by decide, by decide⟩ ⟨rfl, rfl⟩ rfl (ci := 7) hb.1 rfl rfl (Nat.le_of_ble_eq_true rfl) (q_refuse hs hX hk (j := 0) (by decide)) (fun w21 iv21 lw21 q21 => ?_)
    obtain ⟨rfl, e1, hXr, hOr⟩ := q21
    subst e1
    refine V_iret dX10_earOf_24 ⟨rfl, rfl⟩ (Nat.zero_le _) (Nat.zero_le _) ?_
    subst hQ
    exact ⟨_, _, _, rfl, rfl, by unfold o_earOf; rw [if_pos (fun z => h5 z.1)]; exact ⟨rfl, hXr, hOr, Off.rf⟩⟩
  · have h5 : inR e (v_ne (x_A X)) := bI_ne.mp h5
    refine V_iload_n (i := 2) dX10_earOf_8 rfl 2 rfl ?_
    refine V_i2l dX10_earOf_9 ?_
    refine V_lconst (v := lN 0) dX10_earOf_10 rfl ?_
    refine V_lconst (v := lN 1) dX10_earOf_11 rfl ?_
    refine M_callSp (As := [.long ((what).toInt64), .long (lN 0), .long (lN 1)]) (st := []) dX10_earOf_12 ls_X10_91 ⟨by decide, by decide⟩ ⟨rfl, rfl⟩ rfl (Nat.le_of_ble_eq_true rfl) (r_inK (by decide) (by decide)) ?_
    refine V_if_ne (tgt := 25) dX10_earOf_15 rfl (fun h15 => ?_) (fun h15 => ?_)
    · have h15 : (0 : Int) ≤ what.toInt ∧ what.toInt ≤ 1 := bI_ne.mp h15
      have ce := iN_eq (k := e) (by omega)
      have de := iN_i (k := e) (by omega)
      refine M_at (lv2 := [(0, .ref (b)), (1, .int (nI (iN e))), (2, .int (what))]) (st2 := []) ?_ (by rw [← ce]) rfl rfl rfl
      refine V_iload_n (i := 2) dX10_earOf_25 rfl 2 rfl ?_
      refine V_if_ne (tgt := 38) dX10_earOf_26 rfl (fun h26 => ?_) (fun h26 => ?_)
      · have h26 : ¬ what.toInt = 0 := fun r => h26 (i_eq0.mpr (by exact r))
        refine V_aload_n (i := 0) dX10_earOf_38 rfl 0 rfl ?_
        refine M_getR dX10_earOf_39 lf_X10_54 rfl hb.1 hb.2.2.2.2.2.2.2.2.2.2.2.2.2.2.1.1 ?_
        refine V_iload_n (i := 1) dX10_earOf_42 rfl 1 rfl ?_
        refine M_ialdn (j := (iN e)) (x := nI (v_by (x_A X) (iN e))) dX10_earOf_43 hb.2.2.2.2.2.2.2.2.2.2.2.2.2.2.1.2 (by decide) (by omega) (hA.by (e := (iN e)) (by omega)) ?_
        refine V_iret dX10_earOf_44 ⟨rfl, rfl⟩ (Nat.zero_le _) (Nat.zero_le _) ?_
        subst hQ
        exact ⟨_, _, _, rfl, rfl, by unfold o_earOf; rw [if_neg (fun z => z ⟨h5, by omega, by omega⟩), if_neg (by omega)]; exact MP.same hX⟩
      · have h26 : what.toInt = 0 := by have q := i_eq0.mp h26; exact q
        refine V_aload_n (i := 0) dX10_earOf_29 rfl 0 rfl ?_
        refine M_getR dX10_earOf_30 lf_X10_51 rfl hb.1 hb.2.2.2.2.2.2.2.2.2.2.2.2.2.1.1 ?_
        refine V_iload_n (i := 1) dX10_earOf_33 rfl 1 rfl ?_
        refine M_ialdn (j := (iN e)) (x := nI (v_kd (x_A X) (iN e))) dX10_earOf_34 hb.2.2.2.2.2.2.2.2.2.2.2.2.2.1.2 (by decide) (by omega) (hA.kd (e := (iN e)) (by omega)) ?_
        refine V_goto (tgt := 44) dX10_earOf_35 rfl ?_
        refine V_iret dX10_earOf_44 ⟨rfl, rfl⟩ (Nat.zero_le _) (Nat.zero_le _) ?_
        subst hQ
        exact ⟨_, _, _, rfl, rfl, by unfold o_earOf; rw [if_neg (fun z => z ⟨h5, by omega, by omega⟩), if_pos (by omega)]; exact MP.same hX⟩
    · have h15 : ¬ ((0 : Int) ≤ what.toInt ∧ what.toInt ≤ 1) := bI_eq0.mp h15
      refine V_aload_n (i := 0) dX10_earOf_18 rfl 0 rfl ?_
      refine V_bipush (v := (-2)) dX10_earOf_19 rfl ?_
      refine M_callVq (As := [.int ((-2))]) (st := []) dX10_earOf_21 lv_X10_107 ⟨by decide, by decide⟩ ⟨rfl, rfl⟩ rfl (ci := 7) hb.1 rfl rfl (Nat.le_of_ble_eq_true rfl) (q_refuse hs hX hk (j := 0) (by decide)) (fun w21 iv21 lw21 q21 => ?_)
      obtain ⟨rfl, e1, hXr, hOr⟩ := q21
      subst e1
      refine V_iret dX10_earOf_24 ⟨rfl, rfl⟩ (Nat.zero_le _) (Nat.zero_le _) ?_
      subst hQ
      exact ⟨_, _, _, rfl, rfl, by unfold o_earOf; rw [if_pos (fun z => absurd z.2 (by omega))]; exact ⟨rfl, hXr, hOr, Off.rf⟩⟩
set_option maxRecDepth 20000 in
theorem q_manOf {g : Ev} {S : St} {iv : IV} {lw : LW} {b : Nat} (hs : SS S b) {X : Xs} (hX : MX S iv lw b X) (hk : XOK X) {e : Int32} {what : Int32} : CQ g mX10_manOf [.ref (b), .int (e), .int (what)] S iv lw (fun w iv2 lw2 => MP S b iv lw (o_manOf X e what) w iv2 lw2) := by
  refine CT_ofQ rfl (by decide) (Nat.le_of_ble_eq_true rfl) (lv := [(0, .ref (b)), (1, .int (e)), (2, .int (what))]) rfl (fun Q hQ => ?_)
  have hb := hs.1
  have hA := hX.1
  have hv := hk.1
  have hnc := hv.nc
  have hne := hv.ne
  have hnm := hv.nm
  refine V_aload_n (i := 0) dX10_manOf_0 rfl 0 rfl ?_
  refine V_iload_n (i := 1) dX10_manOf_1 rfl 1 rfl ?_
  refine M_callVp (As := [.int (e)]) (st := []) dX10_manOf_2 lv_X10_251 ⟨by decide, by decide⟩ ⟨rfl, rfl⟩ rfl (ci := 7) hb.1 rfl rfl (Nat.le_of_ble_eq_true rfl) (r_isMan hb hA hv) ?_
  refine V_if_eq (tgt := 18) dX10_manOf_5 rfl (fun h5 => ?_) (fun h5 => ?_)
  · have h5 : ¬ (inR e (v_nm (x_A X))) := bI_eq0.mp h5
    refine V_aload_n (i := 0) dX10_manOf_18 rfl 0 rfl ?_
    refine V_bipush (v := (-2)) dX10_manOf_19 rfl ?_
    refine M_callVq (As := [.int ((-2))]) (st := []) dX10_manOf_21 lv_X10_107 ⟨by decide, by decide⟩ ⟨rfl, rfl⟩ rfl (ci := 7) hb.1 rfl rfl (Nat.le_of_ble_eq_true rfl) (q_refuse hs hX hk (j := 0) (by decide)) (fun w21 iv21 lw21 q21 => ?_)
    obtain ⟨rfl, e1, hXr, hOr⟩ := q21
    subst e1
    refine V_iret dX10_manOf_24 ⟨rfl, rfl⟩ (Nat.zero_le _) (Nat.zero_le _) ?_
    subst hQ
    exact ⟨_, _, _, rfl, rfl, by unfold o_manOf; rw [if_pos (fun z => h5 z.1)]; exact ⟨rfl, hXr, hOr, Off.rf⟩⟩
  · have h5 : inR e (v_nm (x_A X)) := bI_ne.mp h5
    refine V_iload_n (i := 2) dX10_manOf_8 rfl 2 rfl ?_
    refine V_i2l dX10_manOf_9 ?_
    refine V_lconst (v := lN 0) dX10_manOf_10 rfl ?_
    refine V_lconst (v := lN 1) dX10_manOf_11 rfl ?_
    refine M_callSp (As := [.long ((what).toInt64), .long (lN 0), .long (lN 1)]) (st := []) dX10_manOf_12 ls_X10_91 ⟨by decide, by decide⟩ ⟨rfl, rfl⟩ rfl (Nat.le_of_ble_eq_true rfl) (r_inK (by decide) (by decide)) ?_
    refine V_if_ne (tgt := 25) dX10_manOf_15 rfl (fun h15 => ?_) (fun h15 => ?_)
    · have h15 : (0 : Int) ≤ what.toInt ∧ what.toInt ≤ 1 := bI_ne.mp h15
      have ce := iN_eq (k := e) (by omega)
      have de := iN_i (k := e) (by omega)
      refine M_at (lv2 := [(0, .ref (b)), (1, .int (nI (iN e))), (2, .int (what))]) (st2 := []) ?_ (by rw [← ce]) rfl rfl rfl
      refine V_iload_n (i := 2) dX10_manOf_25 rfl 2 rfl ?_
      refine V_if_ne (tgt := 38) dX10_manOf_26 rfl (fun h26 => ?_) (fun h26 => ?_)
      · have h26 : ¬ what.toInt = 0 := fun r => h26 (i_eq0.mpr (by exact r))
        refine V_aload_n (i := 0) dX10_manOf_38 rfl 0 rfl ?_
        refine M_getR dX10_manOf_39 lf_X10_60 rfl hb.1 hb.2.2.2.2.2.2.2.2.2.2.2.2.2.2.2.2.1.1 ?_
        refine V_iload_n (i := 1) dX10_manOf_42 rfl 1 rfl ?_
        refine M_ialdn (j := (iN e)) (x := nI (v_lk (x_A X) (iN e))) dX10_manOf_43 hb.2.2.2.2.2.2.2.2.2.2.2.2.2.2.2.2.1.2 (by decide) (by omega) (hA.lk (m := (iN e)) (by omega)) ?_
        refine V_iret dX10_manOf_44 ⟨rfl, rfl⟩ (Nat.zero_le _) (Nat.zero_le _) ?_
        subst hQ
        exact ⟨_, _, _, rfl, rfl, by unfold o_manOf; rw [if_neg (fun z => z ⟨h5, by omega, by omega⟩), if_neg (by omega)]; exact MP.same hX⟩
      · have h26 : what.toInt = 0 := by have q := i_eq0.mp h26; exact q
        refine V_aload_n (i := 0) dX10_manOf_29 rfl 0 rfl ?_
        refine M_getR dX10_manOf_30 lf_X10_57 rfl hb.1 hb.2.2.2.2.2.2.2.2.2.2.2.2.2.2.2.1.1 ?_
        refine V_iload_n (i := 1) dX10_manOf_33 rfl 1 rfl ?_
        refine M_ialdn (j := (iN e)) (x := nI (v_eo (x_A X) (iN e))) dX10_manOf_34 hb.2.2.2.2.2.2.2.2.2.2.2.2.2.2.2.1.2 (by decide) (by omega) (hA.eo (m := (iN e)) (by omega)) ?_
        refine V_goto (tgt := 44) dX10_manOf_35 rfl ?_
        refine V_iret dX10_manOf_44 ⟨rfl, rfl⟩ (Nat.zero_le _) (Nat.zero_le _) ?_
        subst hQ
        exact ⟨_, _, _, rfl, rfl, by unfold o_manOf; rw [if_neg (fun z => z ⟨h5, by omega, by omega⟩), if_pos (by omega)]; exact MP.same hX⟩
    · have h15 : ¬ ((0 : Int) ≤ what.toInt ∧ what.toInt ≤ 1) := bI_eq0.mp h15
      refine V_aload_n (i := 0) dX10_manOf_18 rfl 0 rfl ?_
      refine V_bipush (v := (-2)) dX10_manOf_19 rfl ?_
      refine M_callVq (As := [.int ((-2))]) (st := []) dX10_manOf_21 lv_X10_107 ⟨by decide, by decide⟩ ⟨rfl, rfl⟩ rfl (ci := 7) hb.1 rfl rfl (Nat.le_of_ble_eq_true rfl) (q_refuse hs hX hk (j := 0) (by decide)) (fun w21 iv21 lw21 q21 => ?_)
      obtain ⟨rfl, e1, hXr, hOr⟩ := q21
      subst e1
      refine V_iret dX10_manOf_24 ⟨rfl, rfl⟩ (Nat.zero_le _) (Nat.zero_le _) ?_
      subst hQ
      exact ⟨_, _, _, rfl, rfl, by unfold o_manOf; rw [if_pos (fun z => absurd z.2 (by omega))]; exact ⟨rfl, hXr, hOr, Off.rf⟩⟩
set_option maxRecDepth 20000 in
theorem q_heard {g : Ev} {S : St} {iv : IV} {lw : LW} {b : Nat} (hs : SS S b) {X : Xs} (hX : MX S iv lw b X) (hk : XOK X) {c : Int32} {e : Int32} {i : Int32} : CQ g mX10_heard [.ref (b), .int (c), .int (e), .int (i)] S iv lw (fun w iv2 lw2 => MP S b iv lw (o_heard X c e i) w iv2 lw2) := by
  refine CT_ofQ rfl (by decide) (Nat.le_of_ble_eq_true rfl) (lv := [(0, .ref (b)), (1, .int (c)), (2, .int (e)), (3, .int (i))]) rfl (fun Q hQ => ?_)
  have hb := hs.1
  have hA := hX.1
  have hv := hk.1
  have hnc := hv.nc
  have hne := hv.ne
  have hnm := hv.nm
  refine V_aload_n (i := 0) dX10_heard_0 rfl 0 rfl ?_
  refine V_iload_n (i := 1) dX10_heard_1 rfl 1 rfl ?_
  refine M_callVp (As := [.int (c)]) (st := []) dX10_heard_2 lv_X10_155 ⟨by decide, by decide⟩ ⟨rfl, rfl⟩ rfl (ci := 7) hb.1 rfl rfl (Nat.le_of_ble_eq_true rfl) (r_isCall hb hA hv) ?_
  refine V_if_eq (tgt := 34) dX10_heard_5 rfl (fun h5 => ?_) (fun h5 => ?_)
  · have h5 : ¬ (inR c (v_nc (x_A X))) := bI_eq0.mp h5
    refine V_aload_n (i := 0) dX10_heard_34 rfl 0 rfl ?_
    refine V_bipush (v := (-2)) dX10_heard_35 rfl ?_
    refine M_callVq (As := [.int ((-2))]) (st := []) dX10_heard_37 lv_X10_107 ⟨by decide, by decide⟩ ⟨rfl, rfl⟩ rfl (ci := 7) hb.1 rfl rfl (Nat.le_of_ble_eq_true rfl) (q_refuse hs hX hk (j := 0) (by decide)) (fun w37 iv37 lw37 q37 => ?_)
    obtain ⟨rfl, e1, hXr, hOr⟩ := q37
    subst e1
    refine V_iret dX10_heard_40 ⟨rfl, rfl⟩ (Nat.zero_le _) (Nat.zero_le _) ?_
    subst hQ
    exact ⟨_, _, _, rfl, rfl, by unfold o_heard; rw [if_pos (fun z => h5 z.1)]; exact ⟨rfl, hXr, hOr, Off.rf⟩⟩
  · have h5 : inR c (v_nc (x_A X)) := bI_ne.mp h5
    refine V_aload_n (i := 0) dX10_heard_8 rfl 0 rfl ?_
    refine V_iload_n (i := 2) dX10_heard_9 rfl 2 rfl ?_
    refine M_callVp (As := [.int (e)]) (st := []) dX10_heard_10 lv_X10_122 ⟨by decide, by decide⟩ ⟨rfl, rfl⟩ rfl (ci := 7) hb.1 rfl rfl (Nat.le_of_ble_eq_true rfl) (r_isEar hb hA hv) ?_
    refine V_if_eq (tgt := 34) dX10_heard_13 rfl (fun h13 => ?_) (fun h13 => ?_)
    · have h13 : ¬ (inR e (v_ne (x_A X))) := bI_eq0.mp h13
      refine V_aload_n (i := 0) dX10_heard_34 rfl 0 rfl ?_
      refine V_bipush (v := (-2)) dX10_heard_35 rfl ?_
      refine M_callVq (As := [.int ((-2))]) (st := []) dX10_heard_37 lv_X10_107 ⟨by decide, by decide⟩ ⟨rfl, rfl⟩ rfl (ci := 7) hb.1 rfl rfl (Nat.le_of_ble_eq_true rfl) (q_refuse hs hX hk (j := 0) (by decide)) (fun w37 iv37 lw37 q37 => ?_)
      obtain ⟨rfl, e1, hXr, hOr⟩ := q37
      subst e1
      refine V_iret dX10_heard_40 ⟨rfl, rfl⟩ (Nat.zero_le _) (Nat.zero_le _) ?_
      subst hQ
      exact ⟨_, _, _, rfl, rfl, by unfold o_heard; rw [if_pos (fun z => h13 z.2.1)]; exact ⟨rfl, hXr, hOr, Off.rf⟩⟩
    · have h13 : inR e (v_ne (x_A X)) := bI_ne.mp h13
      have cc := iN_eq (k := c) (by omega)
      have dc := iN_i (k := c) (by omega)
      refine M_at (lv2 := [(0, .ref (b)), (1, .int (nI (iN c))), (2, .int (e)), (3, .int (i))]) (st2 := []) ?_ (by rw [← cc]) rfl rfl rfl
      refine V_iload_n (i := 3) dX10_heard_16 rfl 3 rfl ?_
      refine V_i2l dX10_heard_17 ?_
      refine V_lconst (v := lN 0) dX10_heard_18 rfl ?_
      refine V_aload_n (i := 0) dX10_heard_19 rfl 0 rfl ?_
      refine M_getR dX10_heard_20 lf_X10_42 rfl hb.1 hb.2.2.2.2.2.2.2.2.2.2.1.1 ?_
      have hs8 := hv.sz (c := iN c) (by omega)
      refine V_iload_n (i := 1) dX10_heard_23 rfl 1 rfl ?_
      refine M_ialdn (j := (iN c)) (x := nI (v_sz (x_A X) (iN c))) dX10_heard_24 hb.2.2.2.2.2.2.2.2.2.2.1.2 (by decide) (by omega) (hA.sz (c := (iN c)) (by omega)) ?_
      refine V_iconst (v := nI 1) dX10_heard_25 rfl ?_
      refine V_isub dX10_heard_26 ?_
      refine V_i2l dX10_heard_27 ?_
      refine M_callSp (As := [.long ((i).toInt64), .long (lN 0), .long (((nI (v_sz (x_A X) (iN c)) - nI 1)).toInt64)]) (st := []) dX10_heard_28 ls_X10_91 ⟨by decide, by decide⟩ ⟨rfl, rfl⟩ rfl (Nat.le_of_ble_eq_true rfl) (r_inN (by omega)) ?_
      refine V_if_ne (tgt := 41) dX10_heard_31 rfl (fun h31 => ?_) (fun h31 => ?_)
      · have h31 : inR i (v_sz (x_A X) (iN c)) := bI_ne.mp h31
        have ce := iN_eq (k := e) (by omega)
        have ci := iN_eq (k := i) (by omega)
        have de := iN_i (k := e) (by omega)
        have di := iN_i (k := i) (by omega)
        refine M_at (lv2 := [(0, .ref (b)), (1, .int (nI (iN c))), (2, .int (nI (iN e))), (3, .int (nI (iN i)))]) (st2 := []) ?_ (by rw [← ce, ← ci]) rfl rfl rfl
        refine V_aload_n (i := 0) dX10_heard_41 rfl 0 rfl ?_
        refine V_iload_n (i := 1) dX10_heard_42 rfl 1 rfl ?_
        refine V_iload_n (i := 2) dX10_heard_43 rfl 2 rfl ?_
        refine V_iload_n (i := 3) dX10_heard_44 rfl 3 rfl ?_
        refine M_callVp (As := [.int (nI (iN c)), .int (nI (iN e)), .int (nI (iN i))]) (st := []) dX10_heard_45 lv_X10_254 ⟨by decide, by decide⟩ ⟨rfl, rfl⟩ rfl (ci := 7) hb.1 rfl rfl (Nat.le_of_ble_eq_true rfl) (r_hears hb hA hv (c := iN c) (e := iN e) (i := iN i) (by omega) (by omega) (by omega)) ?_
        refine V_iret dX10_heard_48 ⟨rfl, rfl⟩ (Nat.zero_le _) (Nat.zero_le _) ?_
        subst hQ
        exact ⟨_, _, _, rfl, rfl, by unfold o_heard; rw [if_neg (fun z => z ⟨h5, h13, h31⟩)]; exact MP.same hX⟩
      · have h31 : ¬ (inR i (v_sz (x_A X) (iN c))) := bI_eq0.mp h31
        refine V_aload_n (i := 0) dX10_heard_34 rfl 0 rfl ?_
        refine V_bipush (v := (-2)) dX10_heard_35 rfl ?_
        refine M_callVq (As := [.int ((-2))]) (st := []) dX10_heard_37 lv_X10_107 ⟨by decide, by decide⟩ ⟨rfl, rfl⟩ rfl (ci := 7) hb.1 rfl rfl (Nat.le_of_ble_eq_true rfl) (q_refuse hs hX hk (j := 0) (by decide)) (fun w37 iv37 lw37 q37 => ?_)
        obtain ⟨rfl, e1, hXr, hOr⟩ := q37
        subst e1
        refine V_iret dX10_heard_40 ⟨rfl, rfl⟩ (Nat.zero_le _) (Nat.zero_le _) ?_
        subst hQ
        exact ⟨_, _, _, rfl, rfl, by unfold o_heard; rw [if_pos (fun z => h31 z.2.2)]; exact ⟨rfl, hXr, hOr, Off.rf⟩⟩
set_option maxRecDepth 20000 in
theorem r_noNotes {g : Ev} {S : St} {iv : IV} {lw : LW} {b : Nat} (hs : SS S b) {X : Xs} (hX : MX S iv lw b X) (hk : XOK X) {s : Int32} {m : Nat} (hm : m ≤ 40) : CQ g mX10_noNotes [.ref (b), .int (s), .int (nI m)] S iv lw (fun w iv2 lw2 => lw = lw2 ∧ NR S b iv X (nnW X s m) w iv2 lw) := by
  refine CT_ofQ rfl (by decide) (Nat.le_of_ble_eq_true rfl) (lv := [(0, .ref (b)), (1, .int (s)), (2, .int (nI m))]) rfl (fun Q hQ => ?_)
  have hb := hs.1
  have hA := hX.1
  have hv := hk.1
  have hnc := hv.nc
  have hne := hv.ne
  have hnm := hv.nm
  refine V_aload_n (i := 0) dX10_noNotes_0 rfl 0 rfl ?_
  refine V_iload_n (i := 1) dX10_noNotes_1 rfl 1 rfl ?_
  refine M_callVq (As := [.int (s)]) (st := []) dX10_noNotes_2 lv_X10_115 ⟨by decide, by decide⟩ ⟨rfl, rfl⟩ rfl (ci := 7) hb.1 rfl rfl (Nat.le_of_ble_eq_true rfl) (r_noRow hs hX hk (s := s)) (fun w2 iv2 lw2 q2 => ?_)
  obtain ⟨e1, rfl, hN0, hN1, hNO⟩ := q2
  subst e1
  refine V_istore_n (lv2 := [(3, .int (thA (nrW X s))), (0, .ref (b)), (1, .int (s)), (2, .int (nI m))]) dX10_noNotes_5 rfl (by decide) rfl ?_
  refine V_iload_n (i := 3) dX10_noNotes_6 rfl 0 rfl ?_
  refine V_if_eq (tgt := 12) dX10_noNotes_7 rfl (fun h7 => ?_) (fun h7 => ?_)
  · have hW := thA_0.mp h7
    obtain ⟨hin, hrow⟩ := nr_none hW
    refine M_at ?_ rfl rfl (hN0 hW) rfl
    have hSK := (hk.2.1 (iN s) (in8_i hin)).1
    have cs := iN_eq (k := s) (by omega)
    have ds := iN_i (k := s) (by omega)
    refine M_at (lv2 := [(3, .int (thA (nrW X s))), (0, .ref (b)), (1, .int (nI (iN s))), (2, .int (nI m))]) (st2 := []) ?_ (by rw [← cs]) rfl rfl rfl
    refine V_aload_n (i := 0) dX10_noNotes_12 rfl 1 rfl ?_
    refine M_getR dX10_noNotes_13 lf_X10_16 rfl hb.1 hb.2.2.2.1.1 ?_
    refine V_iload_n (i := 1) dX10_noNotes_16 rfl 2 rfl ?_
    refine M_ialdn (j := (iN s)) (x := nI (x_T X (iN s)).2.1) dX10_noNotes_17 hb.2.2.2.1.2 (by decide) (by omega) (((hX.2.1 (iN s) (by omega)).2.1 hrow).2.1) ?_
    refine V_iload_n (i := 2) dX10_noNotes_18 rfl 3 rfl ?_
    refine V_icmp_ge (tgt := 29) dX10_noNotes_19 rfl (fun h19 => ?_) (fun h19 => ?_)
    · have h19 : m ≤ (x_T X (iN s)).2.1 := (nI_leI (by omega) (by omega)).mp h19
      refine V_iconst (v := nI 0) dX10_noNotes_29 rfl ?_
      refine V_istore (lv2 := [(4, .int (nI 0)), (3, .int (thA (nrW X s))), (0, .ref (b)), (1, .int (nI (iN s))), (2, .int (nI m))]) dX10_noNotes_30 (by decide) rfl ?_
      have lp32 : ∀ i, i ≤ m → (∀ q, q < i → heQ ((x_T X (iN s)).2.2 q)) → VM g mX10_noNotes 32 [(4, .int (nI i)), (0, .ref (b)), (1, .int (nI (iN s))), (2, .int (nI m))] [] S iv lw Q := by
        refine up_ind fun i hi ih32 => ?_
        intro hnt
        refine V_iload dX10_noNotes_32 0 rfl ?_
        refine V_iload_n (i := 2) dX10_noNotes_34 rfl 3 rfl ?_
        refine V_icmp_ge (tgt := 86) dX10_noNotes_35 rfl (fun h35 => ?_) (fun h35 => ?_)
        · have h35 : m ≤ i := (nI_leI (by omega) (by omega)).mp h35
          refine V_iconst (v := nI 0) dX10_noNotes_86 rfl ?_
          refine V_iret dX10_noNotes_87 ⟨rfl, rfl⟩ (Nat.zero_le _) (Nat.zero_le _) ?_
          subst hQ
          exact ⟨_, _, _, rfl, rfl, rfl, NR.yes (by rw [nn_n hW, if_neg (fun z => z (by omega)), if_neg (fun z => z (ffO_none (fun q hq => uh_f (hnt q (by omega)))))])⟩
        · have h35 : ¬ m ≤ i := fun q => h35 ((nI_leI (by omega) (by omega)).mpr q)
          refine V_aload_n (i := 0) dX10_noNotes_38 rfl 1 rfl ?_
          refine M_getR dX10_noNotes_39 lf_X10_21 rfl hb.1 hb.2.2.2.2.1.1 ?_
          refine V_iload_n (i := 1) dX10_noNotes_42 rfl 2 rfl ?_
          refine M_aaldn (t := 2) (j := (iN s)) dX10_noNotes_43 (by decide) hb.2.2.2.2.1.2 (by decide) (by omega) ((hb.2.2.2.2.2.2.2.2.2.2.2.2.2.2.2.2.2.2.2.2.2.2.1 (iN s) (by omega)).1) ?_
          refine V_iload dX10_noNotes_44 0 rfl ?_
          refine M_laldn (j := i) (x := (x_T X (iN s)).2.2 i) dX10_noNotes_46 (hb.2.2.2.2.2.2.2.2.2.2.2.2.2.2.2.2.2.2.2.2.2.2.1 (iN s) (by omega)).2 (by decide) (by omega) (((hX.2.1 (iN s) (by omega)).2.1 hrow).2.2 i (by omega)) ?_
          refine V_lconst (v := lN 0) dX10_noNotes_47 rfl ?_
          refine V_ldc2 (v := lN 4) dX10_noNotes_48 mw_1219 ?_
          refine M_callSp (As := [.long ((x_T X (iN s)).2.2 i), .long (lN 0), .long (lN 4)]) (st := []) dX10_noNotes_51 ls_X10_91 ⟨by decide, by decide⟩ ⟨rfl, rfl⟩ rfl (Nat.le_of_ble_eq_true rfl) (r_inL) ?_
          refine V_if_ne (tgt := 80) dX10_noNotes_54 rfl (fun h54 => ?_) (fun h54 => ?_)
          · have h54 : ntQ ((x_T X (iN s)).2.2 i) := bI_ne.mp h54
            refine V_iinc (v := nI (i + 1)) (lv2 := [(4, .int (nI (i + 1))), (0, .ref (b)), (1, .int (nI (iN s))), (2, .int (nI m))]) dX10_noNotes_80 0 rfl (nI_inc _) (by decide) rfl ?_
            refine V_goto (tgt := 32) dX10_noNotes_83 rfl ?_
            refine V_sub [0, 1, 2, 3] rfl ?_
            exact M_at (ih32 (by omega) (fun q hq => if e : q = i then e ▸ Or.inl h54 else hnt q (by omega))) (rfl) rfl (rfl) (rfl)
          · have h54 : ¬ (ntQ ((x_T X (iN s)).2.2 i)) := bI_eq0.mp h54
            refine V_aload_n (i := 0) dX10_noNotes_57 rfl 1 rfl ?_
            refine M_getR dX10_noNotes_58 lf_X10_21 rfl hb.1 hb.2.2.2.2.1.1 ?_
            refine V_iload_n (i := 1) dX10_noNotes_61 rfl 2 rfl ?_
            refine M_aaldn (t := 2) (j := (iN s)) dX10_noNotes_62 (by decide) hb.2.2.2.2.1.2 (by decide) (by omega) ((hb.2.2.2.2.2.2.2.2.2.2.2.2.2.2.2.2.2.2.2.2.2.2.1 (iN s) (by omega)).1) ?_
            refine V_iload dX10_noNotes_63 0 rfl ?_
            refine M_laldn (j := i) (x := (x_T X (iN s)).2.2 i) dX10_noNotes_65 (hb.2.2.2.2.2.2.2.2.2.2.2.2.2.2.2.2.2.2.2.2.2.2.1 (iN s) (by omega)).2 (by decide) (by omega) (((hX.2.1 (iN s) (by omega)).2.1 hrow).2.2 i (by omega)) ?_
            refine V_ldc2 (v := lN 9) dX10_noNotes_66 mw_1290 ?_
            refine V_lcmp dX10_noNotes_69 ?_
            refine V_if_eq (tgt := 80) dX10_noNotes_70 rfl (fun h70 => ?_) (fun h70 => ?_)
            · have h70 : ((x_T X (iN s)).2.2 i).toInt = (9 : Int) := by have q := lg_eq.mp h70; rw [lN_toInt (n := 9) (by omega)] at q; exact q
              have h70 : ((x_T X (iN s)).2.2 i).toInt = 9 := h70
              refine V_iinc (v := nI (i + 1)) (lv2 := [(4, .int (nI (i + 1))), (0, .ref (b)), (1, .int (nI (iN s))), (2, .int (nI m))]) dX10_noNotes_80 0 rfl (nI_inc _) (by decide) rfl ?_
              refine V_goto (tgt := 32) dX10_noNotes_83 rfl ?_
              refine V_sub [0, 1, 2, 3] rfl ?_
              exact M_at (ih32 (by omega) (fun q hq => if e : q = i then e ▸ Or.inr h70 else hnt q (by omega))) (rfl) rfl (rfl) (rfl)
            · have h70 : ¬ ((x_T X (iN s)).2.2 i).toInt = (9 : Int) := fun r => h70 (lg_eq.mpr (by rw [lN_toInt (n := 9) (by omega)]; exact r))
              refine V_aload_n (i := 0) dX10_noNotes_73 rfl 1 rfl ?_
              refine V_bipush (v := (-5)) dX10_noNotes_74 rfl ?_
              refine M_callVq (As := [.int ((-5))]) (st := []) dX10_noNotes_76 lv_X10_107 ⟨by decide, by decide⟩ ⟨rfl, rfl⟩ rfl (ci := 7) hb.1 rfl rfl (Nat.le_of_ble_eq_true rfl) (q_refuse hs hX hk (j := 3) (by decide)) (fun w76 iv76 lw76 q76 => ?_)
              obtain ⟨rfl, e1, hXr, hOr⟩ := q76
              subst e1
              refine V_iret dX10_noNotes_79 ⟨rfl, rfl⟩ (Nat.zero_le _) (Nat.zero_le _) ?_
              subst hQ
              exact ⟨_, _, _, rfl, rfl, rfl, NR.no (j := 3) (by rw [nn_n hW, if_neg (fun z => z (by omega)), if_pos (fun z => by have z2 := ffO_all z i (by omega); rw [uh_t (fun q => q.elim h54 h70)] at z2; cases z2)]) hXr hOr⟩
      refine V_sub [0, 2, 3, 4] rfl ?_
      exact M_at (lp32 0 (Nat.zero_le _) (fun q hq => absurd hq (by omega))) (rfl) rfl (rfl) (rfl)
    · have h19 : ¬ m ≤ (x_T X (iN s)).2.1 := fun q => h19 ((nI_leI (by omega) (by omega)).mpr q)
      refine V_aload_n (i := 0) dX10_noNotes_22 rfl 1 rfl ?_
      refine V_bipush (v := (-2)) dX10_noNotes_23 rfl ?_
      refine M_callVq (As := [.int ((-2))]) (st := []) dX10_noNotes_25 lv_X10_107 ⟨by decide, by decide⟩ ⟨rfl, rfl⟩ rfl (ci := 7) hb.1 rfl rfl (Nat.le_of_ble_eq_true rfl) (q_refuse hs hX hk (j := 0) (by decide)) (fun w25 iv25 lw25 q25 => ?_)
      obtain ⟨rfl, e1, hXr, hOr⟩ := q25
      subst e1
      refine V_iret dX10_noNotes_28 ⟨rfl, rfl⟩ (Nat.zero_le _) (Nat.zero_le _) ?_
      subst hQ
      exact ⟨_, _, _, rfl, rfl, rfl, NR.no (j := 0) (by rw [nn_n hW, if_pos (by omega)]) hXr hOr⟩
  · obtain ⟨k0, hk0⟩ := Option.ne_none_iff_exists'.mp (fun z => h7 (thA_0.mpr z))
    refine V_iload_n (i := 3) dX10_noNotes_10 rfl 0 rfl ?_
    refine V_iret dX10_noNotes_11 ⟨rfl, rfl⟩ (Nat.zero_le _) (Nat.zero_le _) ?_
    subst hQ
    exact ⟨_, _, _, rfl, rfl, rfl, by rw [nn_s hk0, hk0]; exact ⟨rfl, fun z => (by cases z), fun k z => (by cases z; exact hN1 _ hk0), hNO⟩⟩
set_option maxRecDepth 20000 in
theorem r_noHearing {g : Ev} {S : St} {iv : IV} {lw : LW} {b : Nat} (hs : SS S b) {X : Xs} (hX : MX S iv lw b X) (hk : XOK X) {P : Prop} [Decidable P] {r : Int32} (hr : r = bI P) {zo : Int32} {o : Bool} (hz : zo = bI (o = true)) {s m : Int32} : CQ g mX10_noHearing [.ref (b), .int (s), .int (m), .int (zo), .int (r)] S iv lw (fun w iv2 lw2 => w = .int (thA (thW X s m (P))) ∧ (thW X s m (P) = none → MA b iv iv2 ∧ MH iv2 lw2 b (hOf (x_T X (iN s)) (iN m) o) ∧ Off (b + 38) 1 lw lw2) ∧ ∀ k, thW X s m (P) = some k → lw = lw2 ∧ MX S iv2 lw b (x_rf X k) ∧ Off b 42 iv iv2) := by
  refine CT_ofQ rfl (by decide) (Nat.le_of_ble_eq_true rfl) (lv := [(0, .ref (b)), (1, .int (s)), (2, .int (m)), (3, .int (zo)), (4, .int (r))]) rfl (fun Q hQ => ?_)
  have hb := hs.1
  have hA := hX.1
  have hv := hk.1
  have hnc := hv.nc
  have hne := hv.ne
  have hnm := hv.nm
  refine V_iload_n (i := 1) dX10_noHearing_0 rfl 1 rfl ?_
  refine V_i2l dX10_noHearing_1 ?_
  refine V_lconst (v := lN 0) dX10_noHearing_2 rfl ?_
  refine V_ldc2 (v := lN 7) dX10_noHearing_3 mw_1215 ?_
  refine M_callSp (As := [.long ((s).toInt64), .long (lN 0), .long (lN 7)]) (st := []) dX10_noHearing_6 ls_X10_91 ⟨by decide, by decide⟩ ⟨rfl, rfl⟩ rfl (Nat.le_of_ble_eq_true rfl) (r_in8) ?_
  refine V_if_eq (tgt := 29) dX10_noHearing_9 rfl (fun h9 => ?_) (fun h9 => ?_)
  · have h9 : ¬ (inR s 8) := bI_eq0.mp h9
    refine V_aload_n (i := 0) dX10_noHearing_29 rfl 0 rfl ?_
    refine V_bipush (v := (-2)) dX10_noHearing_30 rfl ?_
    refine M_callVq (As := [.int ((-2))]) (st := []) dX10_noHearing_32 lv_X10_107 ⟨by decide, by decide⟩ ⟨rfl, rfl⟩ rfl (ci := 7) hb.1 rfl rfl (Nat.le_of_ble_eq_true rfl) (q_refuse hs hX hk (j := 0) (by decide)) (fun w32 iv32 lw32 q32 => ?_)
    obtain ⟨rfl, e1, hXr, hOr⟩ := q32
    subst e1
    refine V_iret dX10_noHearing_35 ⟨rfl, rfl⟩ (Nat.zero_le _) (Nat.zero_le _) ?_
    subst hQ
    have hW : thW X s m P = some 0 := by unfold thW; rw [if_pos (fun z => h9 z.1)]
    exact ⟨_, _, _, rfl, rfl, by rw [hW]; rfl, fun z => (by rw [hW] at z; cases z), fun k z => by rw [hW] at z; cases z; exact ⟨rfl, hXr, hOr⟩⟩
  · have h9 : inR s 8 := bI_ne.mp h9
    refine V_iload_n (i := 2) dX10_noHearing_12 rfl 2 rfl ?_
    refine V_i2l dX10_noHearing_13 ?_
    refine V_lconst (v := lN 0) dX10_noHearing_14 rfl ?_
    refine V_ldc2 (v := lN 8) dX10_noHearing_15 mw_1280 ?_
    refine M_callSp (As := [.long ((m).toInt64), .long (lN 0), .long (lN 8)]) (st := []) dX10_noHearing_18 ls_X10_91 ⟨by decide, by decide⟩ ⟨rfl, rfl⟩ rfl (Nat.le_of_ble_eq_true rfl) (r_inK (by decide) (by decide)) ?_
    refine V_if_eq (tgt := 29) dX10_noHearing_21 rfl (fun h21 => ?_) (fun h21 => ?_)
    · have h21 : ¬ ((0 : Int) ≤ m.toInt ∧ m.toInt ≤ 8) := bI_eq0.mp h21
      refine V_aload_n (i := 0) dX10_noHearing_29 rfl 0 rfl ?_
      refine V_bipush (v := (-2)) dX10_noHearing_30 rfl ?_
      refine M_callVq (As := [.int ((-2))]) (st := []) dX10_noHearing_32 lv_X10_107 ⟨by decide, by decide⟩ ⟨rfl, rfl⟩ rfl (ci := 7) hb.1 rfl rfl (Nat.le_of_ble_eq_true rfl) (q_refuse hs hX hk (j := 0) (by decide)) (fun w32 iv32 lw32 q32 => ?_)
      obtain ⟨rfl, e1, hXr, hOr⟩ := q32
      subst e1
      refine V_iret dX10_noHearing_35 ⟨rfl, rfl⟩ (Nat.zero_le _) (Nat.zero_le _) ?_
      subst hQ
      have hW : thW X s m P = some 0 := by unfold thW; rw [if_pos (fun z => by have z1 := z.2.1; have z2 := z.2.2.1; omega)]
      exact ⟨_, _, _, rfl, rfl, by rw [hW]; rfl, fun z => (by rw [hW] at z; cases z), fun k z => by rw [hW] at z; cases z; exact ⟨rfl, hXr, hOr⟩⟩
    · have h21 : (0 : Int) ≤ m.toInt ∧ m.toInt ≤ 8 := bI_ne.mp h21
      refine V_iload dX10_noHearing_24 4 rfl ?_
      refine V_if_ne (tgt := 36) dX10_noHearing_26 rfl (fun h26 => ?_) (fun h26 => ?_)
      · have h26 : P := bI_ne.mp (by rw [← hr]; exact h26)
        have hT := th_nn (X := X) (P := P) (s := s) (m := m) ⟨h9, by omega, by omega, h26⟩
        have cm := iN_eq (k := m) (by omega)
        have dm := iN_i (k := m) (by omega)
        refine M_at (lv2 := [(0, .ref (b)), (1, .int (s)), (2, .int (nI (iN m))), (3, .int (zo)), (4, .int (r))]) (st2 := []) ?_ (by rw [← cm]) rfl rfl rfl
        refine V_aload_n (i := 0) dX10_noHearing_36 rfl 0 rfl ?_
        refine V_iload_n (i := 1) dX10_noHearing_37 rfl 1 rfl ?_
        refine V_iload_n (i := 2) dX10_noHearing_38 rfl 2 rfl ?_
        refine M_callVq (As := [.int (s), .int (nI (iN m))]) (st := []) dX10_noHearing_39 lv_X10_268 ⟨by decide, by decide⟩ ⟨rfl, rfl⟩ rfl (ci := 7) hb.1 rfl rfl (Nat.le_of_ble_eq_true rfl) (r_noNotes hs hX hk (s := s) (m := iN m) (by omega)) (fun w39 iv39 lw39 q39 => ?_)
        obtain ⟨e1, rfl, hN0, hN1, hNO⟩ := q39
        subst e1
        refine V_istore (lv2 := [(5, .int (thA (nnW X s (iN m)))), (0, .ref (b)), (1, .int (s)), (2, .int (nI (iN m))), (3, .int (zo)), (4, .int (r))]) dX10_noHearing_42 (by decide) rfl ?_
        refine V_iload dX10_noHearing_44 0 rfl ?_
        refine V_if_eq (tgt := 52) dX10_noHearing_46 rfl (fun h46 => ?_) (fun h46 => ?_)
        · have hW := thA_0.mp h46
          obtain ⟨⟨hin, -⟩, hrow, hsz, hff⟩ := thW_none (hT.trans hW)
          refine M_at ?_ rfl rfl (hN0 hW) rfl
          have hSK := (hk.2.1 (iN s) (in8_i hin)).1
          have hhe := uh_he hff
          have hm2 := iN_i (k := m) (by omega)
          have cs := iN_eq (k := s) (by omega)
          have ds := iN_i (k := s) (by omega)
          refine M_at (lv2 := [(5, .int (thA (nnW X s (iN m)))), (0, .ref (b)), (1, .int (nI (iN s))), (2, .int (nI (iN m))), (3, .int (zo)), (4, .int (r))]) (st2 := []) ?_ (by rw [← cs]) rfl rfl rfl
          refine V_aload_n (i := 0) dX10_noHearing_52 rfl 1 rfl ?_
          refine V_iload_n (i := 2) dX10_noHearing_53 rfl 3 rfl ?_
          refine M_putI dX10_noHearing_54 lf_X10_262 rfl hb.1 ⟨rfl, rfl⟩ ?_
          refine V_aload_n (i := 0) dX10_noHearing_57 rfl 1 rfl ?_
          refine V_iload_n (i := 3) dX10_noHearing_58 rfl 4 rfl ?_
          refine M_putI dX10_noHearing_59 lf_X10_258 rfl hb.1 (zfit hz) ?_
          refine V_iconst (v := nI 0) dX10_noHearing_62 rfl ?_
          refine V_istore (lv2 := [(6, .int (nI 0)), (5, .int (thA (nnW X s (iN m)))), (0, .ref (b)), (1, .int (nI (iN s))), (2, .int (nI (iN m))), (3, .int (zo)), (4, .int (r))]) dX10_noHearing_63 (by decide) rfl ?_
          have lp65 : ∀ i, i ≤ (iN m) → ∀ lw2 : LW, (∀ k, k < i → lw2 (b + 38) k = lN (heN ((x_T X (iN s)).2.2 k))) → Off (b + 38) 1 lw lw2 → VM g mX10_noHearing 65 [(6, .int (nI i)), (0, .ref (b)), (1, .int (nI (iN s))), (2, .int (nI (iN m))), (3, .int (zo))] [] S (up2 (up2 iv b 33 (nI (iN m))) b 34 zo) lw2 Q := by
            refine up_ind fun i hi ih65 => ?_
            intro lw2 hrw hL
            refine V_iload dX10_noHearing_65 0 rfl ?_
            refine V_iload_n (i := 2) dX10_noHearing_67 rfl 3 rfl ?_
            refine V_icmp_ge (tgt := 93) dX10_noHearing_68 rfl (fun h68 => ?_) (fun h68 => ?_)
            · have h68 : (iN m) ≤ i := (nI_leI (by omega) (by omega)).mp h68
              refine V_iconst (v := nI 0) dX10_noHearing_93 rfl ?_
              refine V_iret dX10_noHearing_94 ⟨rfl, rfl⟩ (Nat.zero_le _) (Nat.zero_le _) ?_
              subst hQ
              obtain rfl : i = iN m := by omega
              refine ⟨_, _, _, rfl, rfl, by rw [hT, hW]; rfl, fun _ => ⟨(MA.rf.up (by omega)).up (by omega), ⟨⟨by show iN m ≤ 8; omega, fun k hk => heN_le (hhe k hk)⟩, (up2_k (by decide)).trans up2_s, up2_s.trans hz, hrw⟩, hL⟩, fun k z => by rw [hT, hW] at z; cases z⟩
            · have h68 : ¬ (iN m) ≤ i := fun q => h68 ((nI_leI (by omega) (by omega)).mpr q)
              refine V_aload_n (i := 0) dX10_noHearing_71 rfl 1 rfl ?_
              refine M_getR dX10_noHearing_72 lf_X10_76 rfl hb.1 hb.2.2.2.2.2.2.2.2.2.2.2.2.2.2.2.2.2.2.1.1 ?_
              refine V_iload dX10_noHearing_75 0 rfl ?_
              refine V_aload_n (i := 0) dX10_noHearing_77 rfl 1 rfl ?_
              refine M_getR dX10_noHearing_78 lf_X10_21 rfl hb.1 hb.2.2.2.2.1.1 ?_
              refine V_iload_n (i := 1) dX10_noHearing_81 rfl 2 rfl ?_
              refine M_aaldn (t := 2) (j := (iN s)) dX10_noHearing_82 (by decide) hb.2.2.2.2.1.2 (by decide) (by omega) ((hb.2.2.2.2.2.2.2.2.2.2.2.2.2.2.2.2.2.2.2.2.2.2.1 (iN s) (by omega)).1) ?_
              refine V_iload dX10_noHearing_83 0 rfl ?_
              refine M_laldn (j := i) (x := (x_T X (iN s)).2.2 i) dX10_noHearing_85 (hb.2.2.2.2.2.2.2.2.2.2.2.2.2.2.2.2.2.2.2.2.2.2.1 (iN s) (by omega)).2 (by decide) (by omega) ((congrFun (hL _ (by omega)) _).trans (((hX.2.1 (iN s) (by omega)).2.1 hrow).2.2 i (by omega))) ?_
              refine M_lastn (j := i) dX10_noHearing_86 hb.2.2.2.2.2.2.2.2.2.2.2.2.2.2.2.2.2.2.1.2 (by decide) (by omega) ?_
              refine V_iinc (v := nI (i + 1)) (lv2 := [(6, .int (nI (i + 1))), (0, .ref (b)), (1, .int (nI (iN s))), (2, .int (nI (iN m))), (3, .int (zo))]) dX10_noHearing_87 0 rfl (nI_inc _) (by decide) rfl ?_
              refine V_goto (tgt := 65) dX10_noHearing_90 rfl ?_
              refine V_sub [0, 1, 2, 3, 4] rfl ?_
              exact M_at (ih65 (by omega) _ (rowAddL (f := fun k => lN (heN ((x_T X (iN s)).2.2 k))) hrw (heN_l (hhe i (by omega)))) (hL.up (by omega) (by omega))) (rfl) rfl (rfl) (rfl)
          refine V_sub [0, 2, 3, 4, 5] rfl ?_
          exact M_at (lp65 0 (Nat.zero_le _) lw (fun k hk => absurd hk (by omega)) Off.rf) (rfl) rfl (rfl) (rfl)
        · obtain ⟨k0, hk0⟩ := Option.ne_none_iff_exists'.mp (fun z => h46 (thA_0.mpr z))
          refine V_iload dX10_noHearing_49 0 rfl ?_
          refine V_iret dX10_noHearing_51 ⟨rfl, rfl⟩ (Nat.zero_le _) (Nat.zero_le _) ?_
          subst hQ
          exact ⟨_, _, _, rfl, rfl, by rw [hT], fun z => (by rw [hT, hk0] at z; cases z), fun k z => by rw [hT] at z; exact ⟨rfl, hN1 _ z, hNO⟩⟩
      · have h26 : ¬ P := bI_eq0.mp (by rw [← hr]; exact h26)
        refine V_aload_n (i := 0) dX10_noHearing_29 rfl 0 rfl ?_
        refine V_bipush (v := (-2)) dX10_noHearing_30 rfl ?_
        refine M_callVq (As := [.int ((-2))]) (st := []) dX10_noHearing_32 lv_X10_107 ⟨by decide, by decide⟩ ⟨rfl, rfl⟩ rfl (ci := 7) hb.1 rfl rfl (Nat.le_of_ble_eq_true rfl) (q_refuse hs hX hk (j := 0) (by decide)) (fun w32 iv32 lw32 q32 => ?_)
        obtain ⟨rfl, e1, hXr, hOr⟩ := q32
        subst e1
        refine V_iret dX10_noHearing_35 ⟨rfl, rfl⟩ (Nat.zero_le _) (Nat.zero_le _) ?_
        subst hQ
        have hW : thW X s m P = some 0 := by unfold thW; rw [if_pos (fun z => h26 z.2.2.2)]
        exact ⟨_, _, _, rfl, rfl, by rw [hW]; rfl, fun z => (by rw [hW] at z; cases z), fun k z => by rw [hW] at z; cases z; exact ⟨rfl, hXr, hOr⟩⟩
set_option maxRecDepth 20000 in
theorem q_fits {g : Ev} {S : St} {iv : IV} {lw : LW} {b : Nat} (hs : SS S b) {X : Xs} (hX : MX S iv lw b X) (hk : XOK X) {s m zo : Int32} {o : Bool} (hz : zo = bI (o = true)) {e c : Int32} : CQ g mX10_fits [.ref (b), .int (s), .int (m), .int (zo), .int (e), .int (c)] S iv lw (fun w iv2 lw2 => MP S b iv lw (o_fits X s m o e c) w iv2 lw2) := by
  refine CT_ofQ rfl (by decide) (Nat.le_of_ble_eq_true rfl) (lv := [(0, .ref (b)), (1, .int (s)), (2, .int (m)), (3, .int (zo)), (4, .int (e)), (5, .int (c))]) rfl (fun Q hQ => ?_)
  have hb := hs.1
  have hA := hX.1
  have hv := hk.1
  have hnc := hv.nc
  have hne := hv.ne
  have hnm := hv.nm
  refine V_aload_n (i := 0) dX10_fits_0 rfl 0 rfl ?_
  refine V_iload_n (i := 1) dX10_fits_1 rfl 1 rfl ?_
  refine V_iload_n (i := 2) dX10_fits_2 rfl 2 rfl ?_
  refine V_iload_n (i := 3) dX10_fits_3 rfl 3 rfl ?_
  refine V_aload_n (i := 0) dX10_fits_4 rfl 0 rfl ?_
  refine V_iload dX10_fits_5 4 rfl ?_
  refine M_callVp (As := [.int (e)]) (st := [.int (zo), .int (m), .int (s), .ref (b)]) dX10_fits_7 lv_X10_122 ⟨by decide, by decide⟩ ⟨rfl, rfl⟩ rfl (ci := 7) hb.1 rfl rfl (Nat.le_of_ble_eq_true rfl) (r_isEar hb hA hv) ?_
  refine V_if_eq (tgt := 26) dX10_fits_10 rfl (fun h10 => ?_) (fun h10 => ?_)
  · have h10 : ¬ (inR e (v_ne (x_A X))) := bI_eq0.mp h10
    refine V_iconst (v := nI 0) dX10_fits_26 rfl ?_
    refine M_callVq (As := [.int (s), .int (m), .int (zo), .int (nI 0)]) (st := []) dX10_fits_27 lv_X10_272 ⟨by decide, by decide⟩ ⟨rfl, rfl⟩ rfl (ci := 7) hb.1 rfl rfl (Nat.le_of_ble_eq_true rfl) (r_noHearing hs hX hk (s := s) (m := m) (P := inR e (v_ne (x_A X)) ∧ inR c (v_nc (x_A X))) ((bI_f (fun z => h10 z.1)).symm) (hz)) (fun w27 iv27 lw27 q27 => ?_)
    obtain ⟨rfl, hN0, hN1⟩ := q27
    refine V_istore (lv2 := [(6, .int (thA (thW X s m (inR e (v_ne (x_A X)) ∧ inR c (v_nc (x_A X)))))), (0, .ref (b)), (1, .int (s)), (2, .int (m)), (3, .int (zo)), (4, .int (e)), (5, .int (c))]) dX10_fits_30 (by decide) rfl ?_
    refine V_iload dX10_fits_32 0 rfl ?_
    refine V_if_eq (tgt := 42) dX10_fits_34 rfl (fun h34 => ?_) (fun h34 => ?_)
    · have hW : thW X s m (inR e (v_ne (x_A X)) ∧ inR c (v_nc (x_A X))) = none := thA_0.mp h34
      have hWn := thW_none hW
      obtain ⟨hM, hHh, hL⟩ := hN0 hW
      have hA2 := hA.ma hv hM
      have hPP := hWn.1.2.2.2
      have hm3 := hWn.1.2
      have ce := iN_eq (k := e) (by omega)
      have cc := iN_eq (k := c) (by omega)
      have de := iN_i (k := e) (by omega)
      have dc := iN_i (k := c) (by omega)
      refine M_at (lv2 := [(6, .int (thA (thW X s m (inR e (v_ne (x_A X)) ∧ inR c (v_nc (x_A X)))))), (0, .ref (b)), (1, .int (s)), (2, .int (m)), (3, .int (zo)), (4, .int (nI (iN e))), (5, .int (nI (iN c)))]) (st2 := []) ?_ (by rw [← ce, ← cc]) rfl rfl rfl
      refine V_aload_n (i := 0) dX10_fits_42 rfl 1 rfl ?_
      refine V_iload dX10_fits_43 6 rfl ?_
      refine V_iload dX10_fits_45 5 rfl ?_
      refine M_callVp (As := [.int (nI (iN c)), .int (nI (iN e))]) (st := []) dX10_fits_47 lv_X10_265 ⟨by decide, by decide⟩ ⟨rfl, rfl⟩ rfl (ci := 7) hb.1 rfl rfl (Nat.le_of_ble_eq_true rfl) (r_fitsHearing hb hA2 hv hHh (c := iN c) (e := iN e) (by omega) (by omega)) ?_
      refine V_if_eq (tgt := 57) dX10_fits_50 rfl (fun h50 => ?_) (fun h50 => ?_)
      · have h50 : ¬ (fitB (x_A X) (hrX X s m o) (iN e) (iN c) = true) := bI_eq0.mp h50
        refine V_iconst (v := nI 0) dX10_fits_57 rfl ?_
        refine V_iret dX10_fits_58 ⟨rfl, rfl⟩ (Nat.zero_le _) (Nat.zero_le _) ?_
        subst hQ
        exact ⟨_, _, _, rfl, rfl, by rw [← bI_f h50]; exact MP.thr hW hX hk hM hL⟩
      · have h50 : fitB (x_A X) (hrX X s m o) (iN e) (iN c) = true := bI_ne.mp h50
        refine V_iconst (v := nI 1) dX10_fits_53 rfl ?_
        refine V_goto (tgt := 58) dX10_fits_54 rfl ?_
        refine V_iret dX10_fits_58 ⟨rfl, rfl⟩ (Nat.zero_le _) (Nat.zero_le _) ?_
        subst hQ
        exact ⟨_, _, _, rfl, rfl, by rw [← bI_t h50]; exact MP.thr hW hX hk hM hL⟩
    · obtain ⟨k0, hk0⟩ := Option.ne_none_iff_exists'.mp (fun z => h34 (thA_0.mpr z))
      obtain ⟨rfl, hXr, hOr⟩ := hN1 _ hk0
      refine V_iload dX10_fits_37 0 rfl ?_
      refine V_goto (tgt := 58) dX10_fits_39 rfl ?_
      refine V_iret dX10_fits_58 ⟨rfl, rfl⟩ (Nat.zero_le _) (Nat.zero_le _) ?_
      subst hQ
      exact ⟨_, _, _, rfl, rfl, MP.thk hk0 hXr hOr⟩
  · have h10 : inR e (v_ne (x_A X)) := bI_ne.mp h10
    refine V_aload_n (i := 0) dX10_fits_13 rfl 0 rfl ?_
    refine V_iload dX10_fits_14 5 rfl ?_
    refine M_callVp (As := [.int (c)]) (st := [.int (zo), .int (m), .int (s), .ref (b)]) dX10_fits_16 lv_X10_155 ⟨by decide, by decide⟩ ⟨rfl, rfl⟩ rfl (ci := 7) hb.1 rfl rfl (Nat.le_of_ble_eq_true rfl) (r_isCall hb hA hv) ?_
    refine V_if_eq (tgt := 26) dX10_fits_19 rfl (fun h19 => ?_) (fun h19 => ?_)
    · have h19 : ¬ (inR c (v_nc (x_A X))) := bI_eq0.mp h19
      refine V_iconst (v := nI 0) dX10_fits_26 rfl ?_
      refine M_callVq (As := [.int (s), .int (m), .int (zo), .int (nI 0)]) (st := []) dX10_fits_27 lv_X10_272 ⟨by decide, by decide⟩ ⟨rfl, rfl⟩ rfl (ci := 7) hb.1 rfl rfl (Nat.le_of_ble_eq_true rfl) (r_noHearing hs hX hk (s := s) (m := m) (P := inR e (v_ne (x_A X)) ∧ inR c (v_nc (x_A X))) ((bI_f (fun z => h19 z.2)).symm) (hz)) (fun w27 iv27 lw27 q27 => ?_)
      obtain ⟨rfl, hN0, hN1⟩ := q27
      refine V_istore (lv2 := [(6, .int (thA (thW X s m (inR e (v_ne (x_A X)) ∧ inR c (v_nc (x_A X)))))), (0, .ref (b)), (1, .int (s)), (2, .int (m)), (3, .int (zo)), (4, .int (e)), (5, .int (c))]) dX10_fits_30 (by decide) rfl ?_
      refine V_iload dX10_fits_32 0 rfl ?_
      refine V_if_eq (tgt := 42) dX10_fits_34 rfl (fun h34 => ?_) (fun h34 => ?_)
      · have hW : thW X s m (inR e (v_ne (x_A X)) ∧ inR c (v_nc (x_A X))) = none := thA_0.mp h34
        have hWn := thW_none hW
        obtain ⟨hM, hHh, hL⟩ := hN0 hW
        have hA2 := hA.ma hv hM
        have hPP := hWn.1.2.2.2
        have hm3 := hWn.1.2
        have ce := iN_eq (k := e) (by omega)
        have cc := iN_eq (k := c) (by omega)
        have de := iN_i (k := e) (by omega)
        have dc := iN_i (k := c) (by omega)
        refine M_at (lv2 := [(6, .int (thA (thW X s m (inR e (v_ne (x_A X)) ∧ inR c (v_nc (x_A X)))))), (0, .ref (b)), (1, .int (s)), (2, .int (m)), (3, .int (zo)), (4, .int (nI (iN e))), (5, .int (nI (iN c)))]) (st2 := []) ?_ (by rw [← ce, ← cc]) rfl rfl rfl
        refine V_aload_n (i := 0) dX10_fits_42 rfl 1 rfl ?_
        refine V_iload dX10_fits_43 6 rfl ?_
        refine V_iload dX10_fits_45 5 rfl ?_
        refine M_callVp (As := [.int (nI (iN c)), .int (nI (iN e))]) (st := []) dX10_fits_47 lv_X10_265 ⟨by decide, by decide⟩ ⟨rfl, rfl⟩ rfl (ci := 7) hb.1 rfl rfl (Nat.le_of_ble_eq_true rfl) (r_fitsHearing hb hA2 hv hHh (c := iN c) (e := iN e) (by omega) (by omega)) ?_
        refine V_if_eq (tgt := 57) dX10_fits_50 rfl (fun h50 => ?_) (fun h50 => ?_)
        · have h50 : ¬ (fitB (x_A X) (hrX X s m o) (iN e) (iN c) = true) := bI_eq0.mp h50
          refine V_iconst (v := nI 0) dX10_fits_57 rfl ?_
          refine V_iret dX10_fits_58 ⟨rfl, rfl⟩ (Nat.zero_le _) (Nat.zero_le _) ?_
          subst hQ
          exact ⟨_, _, _, rfl, rfl, by rw [← bI_f h50]; exact MP.thr hW hX hk hM hL⟩
        · have h50 : fitB (x_A X) (hrX X s m o) (iN e) (iN c) = true := bI_ne.mp h50
          refine V_iconst (v := nI 1) dX10_fits_53 rfl ?_
          refine V_goto (tgt := 58) dX10_fits_54 rfl ?_
          refine V_iret dX10_fits_58 ⟨rfl, rfl⟩ (Nat.zero_le _) (Nat.zero_le _) ?_
          subst hQ
          exact ⟨_, _, _, rfl, rfl, by rw [← bI_t h50]; exact MP.thr hW hX hk hM hL⟩
      · obtain ⟨k0, hk0⟩ := Option.ne_none_iff_exists'.mp (fun z => h34 (thA_0.mpr z))
        obtain ⟨rfl, hXr, hOr⟩ := hN1 _ hk0
        refine V_iload dX10_fits_37 0 rfl ?_
        refine V_goto (tgt := 58) dX10_fits_39 rfl ?_
        refine V_iret dX10_fits_58 ⟨rfl, rfl⟩ (Nat.zero_le _) (Nat.zero_le _) ?_
        subst hQ
        exact ⟨_, _, _, rfl, rfl, MP.thk hk0 hXr hOr⟩
    · have h19 : inR c (v_nc (x_A X)) := bI_ne.mp h19
      refine V_iconst (v := nI 1) dX10_fits_22 rfl ?_
      refine V_goto (tgt := 27) dX10_fits_23 rfl ?_
      refine M_callVq (As := [.int (s), .int (m), .int (zo), .int (nI 1)]) (st := []) dX10_fits_27 lv_X10_272 ⟨by decide, by decide⟩ ⟨rfl, rfl⟩ rfl (ci := 7) hb.1 rfl rfl (Nat.le_of_ble_eq_true rfl) (r_noHearing hs hX hk (s := s) (m := m) (P := inR e (v_ne (x_A X)) ∧ inR c (v_nc (x_A X))) ((bI_t ⟨h10, h19⟩).symm) (hz)) (fun w27 iv27 lw27 q27 => ?_)
      obtain ⟨rfl, hN0, hN1⟩ := q27
      refine V_istore (lv2 := [(6, .int (thA (thW X s m (inR e (v_ne (x_A X)) ∧ inR c (v_nc (x_A X)))))), (0, .ref (b)), (1, .int (s)), (2, .int (m)), (3, .int (zo)), (4, .int (e)), (5, .int (c))]) dX10_fits_30 (by decide) rfl ?_
      refine V_iload dX10_fits_32 0 rfl ?_
      refine V_if_eq (tgt := 42) dX10_fits_34 rfl (fun h34 => ?_) (fun h34 => ?_)
      · have hW : thW X s m (inR e (v_ne (x_A X)) ∧ inR c (v_nc (x_A X))) = none := thA_0.mp h34
        have hWn := thW_none hW
        obtain ⟨hM, hHh, hL⟩ := hN0 hW
        have hA2 := hA.ma hv hM
        have hPP := hWn.1.2.2.2
        have hm3 := hWn.1.2
        have ce := iN_eq (k := e) (by omega)
        have cc := iN_eq (k := c) (by omega)
        have de := iN_i (k := e) (by omega)
        have dc := iN_i (k := c) (by omega)
        refine M_at (lv2 := [(6, .int (thA (thW X s m (inR e (v_ne (x_A X)) ∧ inR c (v_nc (x_A X)))))), (0, .ref (b)), (1, .int (s)), (2, .int (m)), (3, .int (zo)), (4, .int (nI (iN e))), (5, .int (nI (iN c)))]) (st2 := []) ?_ (by rw [← ce, ← cc]) rfl rfl rfl
        refine V_aload_n (i := 0) dX10_fits_42 rfl 1 rfl ?_
        refine V_iload dX10_fits_43 6 rfl ?_
        refine V_iload dX10_fits_45 5 rfl ?_
        refine M_callVp (As := [.int (nI (iN c)), .int (nI (iN e))]) (st := []) dX10_fits_47 lv_X10_265 ⟨by decide, by decide⟩ ⟨rfl, rfl⟩ rfl (ci := 7) hb.1 rfl rfl (Nat.le_of_ble_eq_true rfl) (r_fitsHearing hb hA2 hv hHh (c := iN c) (e := iN e) (by omega) (by omega)) ?_
        refine V_if_eq (tgt := 57) dX10_fits_50 rfl (fun h50 => ?_) (fun h50 => ?_)
        · have h50 : ¬ (fitB (x_A X) (hrX X s m o) (iN e) (iN c) = true) := bI_eq0.mp h50
          refine V_iconst (v := nI 0) dX10_fits_57 rfl ?_
          refine V_iret dX10_fits_58 ⟨rfl, rfl⟩ (Nat.zero_le _) (Nat.zero_le _) ?_
          subst hQ
          exact ⟨_, _, _, rfl, rfl, by rw [← bI_f h50]; exact MP.thr hW hX hk hM hL⟩
        · have h50 : fitB (x_A X) (hrX X s m o) (iN e) (iN c) = true := bI_ne.mp h50
          refine V_iconst (v := nI 1) dX10_fits_53 rfl ?_
          refine V_goto (tgt := 58) dX10_fits_54 rfl ?_
          refine V_iret dX10_fits_58 ⟨rfl, rfl⟩ (Nat.zero_le _) (Nat.zero_le _) ?_
          subst hQ
          exact ⟨_, _, _, rfl, rfl, by rw [← bI_t h50]; exact MP.thr hW hX hk hM hL⟩
      · obtain ⟨k0, hk0⟩ := Option.ne_none_iff_exists'.mp (fun z => h34 (thA_0.mpr z))
        obtain ⟨rfl, hXr, hOr⟩ := hN1 _ hk0
        refine V_iload dX10_fits_37 0 rfl ?_
        refine V_goto (tgt := 58) dX10_fits_39 rfl ?_
        refine V_iret dX10_fits_58 ⟨rfl, rfl⟩ (Nat.zero_le _) (Nat.zero_le _) ?_
        subst hQ
        exact ⟨_, _, _, rfl, rfl, MP.thk hk0 hXr hOr⟩
set_option maxRecDepth 20000 in
theorem q_likely {g : Ev} {S : St} {iv : IV} {lw : LW} {b : Nat} (hs : SS S b) {X : Xs} (hX : MX S iv lw b X) (hk : XOK X) {s m zo : Int32} {o : Bool} (hz : zo = bI (o = true)) {e c : Int32} : CQ g mX10_likely [.ref (b), .int (s), .int (m), .int (zo), .int (e), .int (c)] S iv lw (fun w iv2 lw2 => MP S b iv lw (o_likely X s m o e c) w iv2 lw2) := by
  refine CT_ofQ rfl (by decide) (Nat.le_of_ble_eq_true rfl) (lv := [(0, .ref (b)), (1, .int (s)), (2, .int (m)), (3, .int (zo)), (4, .int (e)), (5, .int (c))]) rfl (fun Q hQ => ?_)
  have hb := hs.1
  have hA := hX.1
  have hv := hk.1
  have hnc := hv.nc
  have hne := hv.ne
  have hnm := hv.nm
  refine V_aload_n (i := 0) dX10_likely_0 rfl 0 rfl ?_
  refine V_iload_n (i := 1) dX10_likely_1 rfl 1 rfl ?_
  refine V_iload_n (i := 2) dX10_likely_2 rfl 2 rfl ?_
  refine V_iload_n (i := 3) dX10_likely_3 rfl 3 rfl ?_
  refine V_aload_n (i := 0) dX10_likely_4 rfl 0 rfl ?_
  refine V_iload dX10_likely_5 4 rfl ?_
  refine M_callVp (As := [.int (e)]) (st := [.int (zo), .int (m), .int (s), .ref (b)]) dX10_likely_7 lv_X10_122 ⟨by decide, by decide⟩ ⟨rfl, rfl⟩ rfl (ci := 7) hb.1 rfl rfl (Nat.le_of_ble_eq_true rfl) (r_isEar hb hA hv) ?_
  refine V_if_eq (tgt := 26) dX10_likely_10 rfl (fun h10 => ?_) (fun h10 => ?_)
  · have h10 : ¬ (inR e (v_ne (x_A X))) := bI_eq0.mp h10
    refine V_iconst (v := nI 0) dX10_likely_26 rfl ?_
    refine M_callVq (As := [.int (s), .int (m), .int (zo), .int (nI 0)]) (st := []) dX10_likely_27 lv_X10_272 ⟨by decide, by decide⟩ ⟨rfl, rfl⟩ rfl (ci := 7) hb.1 rfl rfl (Nat.le_of_ble_eq_true rfl) (r_noHearing hs hX hk (s := s) (m := m) (P := inR e (v_ne (x_A X)) ∧ inR c (v_nc (x_A X))) ((bI_f (fun z => h10 z.1)).symm) (hz)) (fun w27 iv27 lw27 q27 => ?_)
    obtain ⟨rfl, hN0, hN1⟩ := q27
    refine V_istore (lv2 := [(6, .int (thA (thW X s m (inR e (v_ne (x_A X)) ∧ inR c (v_nc (x_A X)))))), (0, .ref (b)), (1, .int (s)), (2, .int (m)), (3, .int (zo)), (4, .int (e)), (5, .int (c))]) dX10_likely_30 (by decide) rfl ?_
    refine V_iload dX10_likely_32 0 rfl ?_
    refine V_if_eq (tgt := 42) dX10_likely_34 rfl (fun h34 => ?_) (fun h34 => ?_)
    · have hW : thW X s m (inR e (v_ne (x_A X)) ∧ inR c (v_nc (x_A X))) = none := thA_0.mp h34
      have hWn := thW_none hW
      obtain ⟨hM, hHh, hL⟩ := hN0 hW
      have hA2 := hA.ma hv hM
      have hPP := hWn.1.2.2.2
      have hm3 := hWn.1.2
      have ce := iN_eq (k := e) (by omega)
      have cc := iN_eq (k := c) (by omega)
      have de := iN_i (k := e) (by omega)
      have dc := iN_i (k := c) (by omega)
      refine M_at (lv2 := [(6, .int (thA (thW X s m (inR e (v_ne (x_A X)) ∧ inR c (v_nc (x_A X)))))), (0, .ref (b)), (1, .int (s)), (2, .int (m)), (3, .int (zo)), (4, .int (nI (iN e))), (5, .int (nI (iN c)))]) (st2 := []) ?_ (by rw [← ce, ← cc]) rfl rfl rfl
      refine V_aload_n (i := 0) dX10_likely_42 rfl 1 rfl ?_
      refine V_iload dX10_likely_43 6 rfl ?_
      refine V_iload dX10_likely_45 5 rfl ?_
      refine M_callVp (As := [.int (nI (iN c)), .int (nI (iN e))]) (st := []) dX10_likely_47 lv_X10_276 ⟨by decide, by decide⟩ ⟨rfl, rfl⟩ rfl (ci := 7) hb.1 rfl rfl (Nat.le_of_ble_eq_true rfl) (r_likelyOf hb hA2 hv hHh (c := iN c) (e := iN e) (by omega) (by omega)) ?_
      refine V_iret dX10_likely_50 ⟨rfl, rfl⟩ (Nat.zero_le _) (Nat.zero_le _) ?_
      subst hQ
      exact ⟨_, _, _, rfl, rfl, MP.thr hW hX hk hM hL⟩
    · obtain ⟨k0, hk0⟩ := Option.ne_none_iff_exists'.mp (fun z => h34 (thA_0.mpr z))
      obtain ⟨rfl, hXr, hOr⟩ := hN1 _ hk0
      refine V_iload dX10_likely_37 0 rfl ?_
      refine V_goto (tgt := 50) dX10_likely_39 rfl ?_
      refine V_iret dX10_likely_50 ⟨rfl, rfl⟩ (Nat.zero_le _) (Nat.zero_le _) ?_
      subst hQ
      exact ⟨_, _, _, rfl, rfl, MP.thk hk0 hXr hOr⟩
  · have h10 : inR e (v_ne (x_A X)) := bI_ne.mp h10
    refine V_aload_n (i := 0) dX10_likely_13 rfl 0 rfl ?_
    refine V_iload dX10_likely_14 5 rfl ?_
    refine M_callVp (As := [.int (c)]) (st := [.int (zo), .int (m), .int (s), .ref (b)]) dX10_likely_16 lv_X10_155 ⟨by decide, by decide⟩ ⟨rfl, rfl⟩ rfl (ci := 7) hb.1 rfl rfl (Nat.le_of_ble_eq_true rfl) (r_isCall hb hA hv) ?_
    refine V_if_eq (tgt := 26) dX10_likely_19 rfl (fun h19 => ?_) (fun h19 => ?_)
    · have h19 : ¬ (inR c (v_nc (x_A X))) := bI_eq0.mp h19
      refine V_iconst (v := nI 0) dX10_likely_26 rfl ?_
      refine M_callVq (As := [.int (s), .int (m), .int (zo), .int (nI 0)]) (st := []) dX10_likely_27 lv_X10_272 ⟨by decide, by decide⟩ ⟨rfl, rfl⟩ rfl (ci := 7) hb.1 rfl rfl (Nat.le_of_ble_eq_true rfl) (r_noHearing hs hX hk (s := s) (m := m) (P := inR e (v_ne (x_A X)) ∧ inR c (v_nc (x_A X))) ((bI_f (fun z => h19 z.2)).symm) (hz)) (fun w27 iv27 lw27 q27 => ?_)
      obtain ⟨rfl, hN0, hN1⟩ := q27
      refine V_istore (lv2 := [(6, .int (thA (thW X s m (inR e (v_ne (x_A X)) ∧ inR c (v_nc (x_A X)))))), (0, .ref (b)), (1, .int (s)), (2, .int (m)), (3, .int (zo)), (4, .int (e)), (5, .int (c))]) dX10_likely_30 (by decide) rfl ?_
      refine V_iload dX10_likely_32 0 rfl ?_
      refine V_if_eq (tgt := 42) dX10_likely_34 rfl (fun h34 => ?_) (fun h34 => ?_)
      · have hW : thW X s m (inR e (v_ne (x_A X)) ∧ inR c (v_nc (x_A X))) = none := thA_0.mp h34
        have hWn := thW_none hW
        obtain ⟨hM, hHh, hL⟩ := hN0 hW
        have hA2 := hA.ma hv hM
        have hPP := hWn.1.2.2.2
        have hm3 := hWn.1.2
        have ce := iN_eq (k := e) (by omega)
        have cc := iN_eq (k := c) (by omega)
        have de := iN_i (k := e) (by omega)
        have dc := iN_i (k := c) (by omega)
        refine M_at (lv2 := [(6, .int (thA (thW X s m (inR e (v_ne (x_A X)) ∧ inR c (v_nc (x_A X)))))), (0, .ref (b)), (1, .int (s)), (2, .int (m)), (3, .int (zo)), (4, .int (nI (iN e))), (5, .int (nI (iN c)))]) (st2 := []) ?_ (by rw [← ce, ← cc]) rfl rfl rfl
        refine V_aload_n (i := 0) dX10_likely_42 rfl 1 rfl ?_
        refine V_iload dX10_likely_43 6 rfl ?_
        refine V_iload dX10_likely_45 5 rfl ?_
        refine M_callVp (As := [.int (nI (iN c)), .int (nI (iN e))]) (st := []) dX10_likely_47 lv_X10_276 ⟨by decide, by decide⟩ ⟨rfl, rfl⟩ rfl (ci := 7) hb.1 rfl rfl (Nat.le_of_ble_eq_true rfl) (r_likelyOf hb hA2 hv hHh (c := iN c) (e := iN e) (by omega) (by omega)) ?_
        refine V_iret dX10_likely_50 ⟨rfl, rfl⟩ (Nat.zero_le _) (Nat.zero_le _) ?_
        subst hQ
        exact ⟨_, _, _, rfl, rfl, MP.thr hW hX hk hM hL⟩
      · obtain ⟨k0, hk0⟩ := Option.ne_none_iff_exists'.mp (fun z => h34 (thA_0.mpr z))
        obtain ⟨rfl, hXr, hOr⟩ := hN1 _ hk0
        refine V_iload dX10_likely_37 0 rfl ?_
        refine V_goto (tgt := 50) dX10_likely_39 rfl ?_
        refine V_iret dX10_likely_50 ⟨rfl, rfl⟩ (Nat.zero_le _) (Nat.zero_le _) ?_
        subst hQ
        exact ⟨_, _, _, rfl, rfl, MP.thk hk0 hXr hOr⟩
    · have h19 : inR c (v_nc (x_A X)) := bI_ne.mp h19
      refine V_iconst (v := nI 1) dX10_likely_22 rfl ?_
      refine V_goto (tgt := 27) dX10_likely_23 rfl ?_
      refine M_callVq (As := [.int (s), .int (m), .int (zo), .int (nI 1)]) (st := []) dX10_likely_27 lv_X10_272 ⟨by decide, by decide⟩ ⟨rfl, rfl⟩ rfl (ci := 7) hb.1 rfl rfl (Nat.le_of_ble_eq_true rfl) (r_noHearing hs hX hk (s := s) (m := m) (P := inR e (v_ne (x_A X)) ∧ inR c (v_nc (x_A X))) ((bI_t ⟨h10, h19⟩).symm) (hz)) (fun w27 iv27 lw27 q27 => ?_)
      obtain ⟨rfl, hN0, hN1⟩ := q27
      refine V_istore (lv2 := [(6, .int (thA (thW X s m (inR e (v_ne (x_A X)) ∧ inR c (v_nc (x_A X)))))), (0, .ref (b)), (1, .int (s)), (2, .int (m)), (3, .int (zo)), (4, .int (e)), (5, .int (c))]) dX10_likely_30 (by decide) rfl ?_
      refine V_iload dX10_likely_32 0 rfl ?_
      refine V_if_eq (tgt := 42) dX10_likely_34 rfl (fun h34 => ?_) (fun h34 => ?_)
      · have hW : thW X s m (inR e (v_ne (x_A X)) ∧ inR c (v_nc (x_A X))) = none := thA_0.mp h34
        have hWn := thW_none hW
        obtain ⟨hM, hHh, hL⟩ := hN0 hW
        have hA2 := hA.ma hv hM
        have hPP := hWn.1.2.2.2
        have hm3 := hWn.1.2
        have ce := iN_eq (k := e) (by omega)
        have cc := iN_eq (k := c) (by omega)
        have de := iN_i (k := e) (by omega)
        have dc := iN_i (k := c) (by omega)
        refine M_at (lv2 := [(6, .int (thA (thW X s m (inR e (v_ne (x_A X)) ∧ inR c (v_nc (x_A X)))))), (0, .ref (b)), (1, .int (s)), (2, .int (m)), (3, .int (zo)), (4, .int (nI (iN e))), (5, .int (nI (iN c)))]) (st2 := []) ?_ (by rw [← ce, ← cc]) rfl rfl rfl
        refine V_aload_n (i := 0) dX10_likely_42 rfl 1 rfl ?_
        refine V_iload dX10_likely_43 6 rfl ?_
        refine V_iload dX10_likely_45 5 rfl ?_
        refine M_callVp (As := [.int (nI (iN c)), .int (nI (iN e))]) (st := []) dX10_likely_47 lv_X10_276 ⟨by decide, by decide⟩ ⟨rfl, rfl⟩ rfl (ci := 7) hb.1 rfl rfl (Nat.le_of_ble_eq_true rfl) (r_likelyOf hb hA2 hv hHh (c := iN c) (e := iN e) (by omega) (by omega)) ?_
        refine V_iret dX10_likely_50 ⟨rfl, rfl⟩ (Nat.zero_le _) (Nat.zero_le _) ?_
        subst hQ
        exact ⟨_, _, _, rfl, rfl, MP.thr hW hX hk hM hL⟩
      · obtain ⟨k0, hk0⟩ := Option.ne_none_iff_exists'.mp (fun z => h34 (thA_0.mpr z))
        obtain ⟨rfl, hXr, hOr⟩ := hN1 _ hk0
        refine V_iload dX10_likely_37 0 rfl ?_
        refine V_goto (tgt := 50) dX10_likely_39 rfl ?_
        refine V_iret dX10_likely_50 ⟨rfl, rfl⟩ (Nat.zero_le _) (Nat.zero_le _) ?_
        subst hQ
        exact ⟨_, _, _, rfl, rfl, MP.thk hk0 hXr hOr⟩
set_option maxRecDepth 20000 in
theorem q_guess {g : Ev} {S : St} {iv : IV} {lw : LW} {b : Nat} (hs : SS S b) {X : Xs} (hX : MX S iv lw b X) (hk : XOK X) {s m zo : Int32} {o : Bool} (hz : zo = bI (o = true)) {e : Int32} : CQ g mX10_guess [.ref (b), .int (s), .int (m), .int (zo), .int (e)] S iv lw (fun w iv2 lw2 => MP S b iv lw (o_guess X s m o e) w iv2 lw2) := by
  refine CT_ofQ rfl (by decide) (Nat.le_of_ble_eq_true rfl) (lv := [(0, .ref (b)), (1, .int (s)), (2, .int (m)), (3, .int (zo)), (4, .int (e))]) rfl (fun Q hQ => ?_)
  have hb := hs.1
  have hA := hX.1
  have hv := hk.1
  have hnc := hv.nc
  have hne := hv.ne
  have hnm := hv.nm
  refine V_aload_n (i := 0) dX10_guess_0 rfl 0 rfl ?_
  refine V_iload_n (i := 1) dX10_guess_1 rfl 1 rfl ?_
  refine V_iload_n (i := 2) dX10_guess_2 rfl 2 rfl ?_
  refine V_iload_n (i := 3) dX10_guess_3 rfl 3 rfl ?_
  refine V_aload_n (i := 0) dX10_guess_4 rfl 0 rfl ?_
  refine V_iload dX10_guess_5 4 rfl ?_
  refine M_callVp (As := [.int (e)]) (st := [.int (zo), .int (m), .int (s), .ref (b)]) dX10_guess_7 lv_X10_122 ⟨by decide, by decide⟩ ⟨rfl, rfl⟩ rfl (ci := 7) hb.1 rfl rfl (Nat.le_of_ble_eq_true rfl) (r_isEar hb hA hv) ?_
  refine M_callVq (As := [.int (s), .int (m), .int (zo), .int (bI (inR e (v_ne (x_A X))))]) (st := []) dX10_guess_10 lv_X10_272 ⟨by decide, by decide⟩ ⟨rfl, rfl⟩ rfl (ci := 7) hb.1 rfl rfl (Nat.le_of_ble_eq_true rfl) (r_noHearing hs hX hk (s := s) (m := m) (P := inR e (v_ne (x_A X))) (rfl) (hz)) (fun w10 iv10 lw10 q10 => ?_)
  obtain ⟨rfl, hN0, hN1⟩ := q10
  refine V_istore (lv2 := [(5, .int (thA (thW X s m (inR e (v_ne (x_A X)))))), (0, .ref (b)), (1, .int (s)), (2, .int (m)), (3, .int (zo)), (4, .int (e))]) dX10_guess_13 (by decide) rfl ?_
  refine V_iload dX10_guess_15 0 rfl ?_
  refine V_if_eq (tgt := 25) dX10_guess_17 rfl (fun h17 => ?_) (fun h17 => ?_)
  · have hW : thW X s m (inR e (v_ne (x_A X))) = none := thA_0.mp h17
    have hWn := thW_none hW
    obtain ⟨hM, hHh, hL⟩ := hN0 hW
    have hA2 := hA.ma hv hM
    have hPP := hWn.1.2.2.2
    have hm3 := hWn.1.2
    have ce := iN_eq (k := e) (by omega)
    have de := iN_i (k := e) (by omega)
    refine M_at (lv2 := [(5, .int (thA (thW X s m (inR e (v_ne (x_A X)))))), (0, .ref (b)), (1, .int (s)), (2, .int (m)), (3, .int (zo)), (4, .int (nI (iN e)))]) (st2 := []) ?_ (by rw [← ce]) rfl rfl rfl
    refine V_aload_n (i := 0) dX10_guess_25 rfl 1 rfl ?_
    refine V_iload dX10_guess_26 5 rfl ?_
    refine M_callVp (As := [.int (nI (iN e))]) (st := []) dX10_guess_28 lv_X10_279 ⟨by decide, by decide⟩ ⟨rfl, rfl⟩ rfl (ci := 7) hb.1 rfl rfl (Nat.le_of_ble_eq_true rfl) (r_guessOf hb hA2 hv hHh (e := iN e) (by omega)) ?_
    refine V_iret dX10_guess_31 ⟨rfl, rfl⟩ (Nat.zero_le _) (Nat.zero_le _) ?_
    subst hQ
    exact ⟨_, _, _, rfl, rfl, MP.thr hW hX hk hM hL⟩
  · obtain ⟨k0, hk0⟩ := Option.ne_none_iff_exists'.mp (fun z => h17 (thA_0.mpr z))
    obtain ⟨rfl, hXr, hOr⟩ := hN1 _ hk0
    refine V_iload dX10_guess_20 0 rfl ?_
    refine V_goto (tgt := 31) dX10_guess_22 rfl ?_
    refine V_iret dX10_guess_31 ⟨rfl, rfl⟩ (Nat.zero_le _) (Nat.zero_le _) ?_
    subst hQ
    exact ⟨_, _, _, rfl, rfl, MP.thk hk0 hXr hOr⟩
