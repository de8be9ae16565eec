/-! the reference: camp, sureFor -/
theorem MB.both {b a k : Nat} {iv iv2 : IV} {v : Int32} (h : MB b iv iv2) : MB b (up2 iv a k v) (up2 iv2 a k v) := fun q j p1 p2 => by
  by_cases e : q = a ∧ j = k
  · obtain ⟨rfl, rfl⟩ := e; rw [up2_s, up2_s]
  · rw [up2_o e, up2_o e]; exact h q j p1 p2
theorem XOK.tape0 {X : Xs} (h : XOK X) : XOK (x_sP X 0 (x_f X)) := ⟨h.1, h.2.1, h.2.2.1, ⟨Nat.zero_le _, fun i hi => absurd hi (Nat.not_lt_zero _)⟩, h.2.2.2.2⟩
theorem gsTo_setS {V : Cv} {H : Hv} {e s : Nat} : ∀ n, gsTo (v_setS V s) H e n = gsTo V H e n
  | 0 => rfl
  | n + 1 => by
    have ih := gsTo_setS (V := V) (H := H) (e := e) (s := s) n
    unfold gsTo
    rw [ih]
    rfl
theorem gV_setS {V : Cv} {c s : Nat} : gV (v_setS V s) c = gV V c := funext fun m => by
  unfold gV
  rw [gsTo_setS]
  rfl
theorem lV_setS {V : Cv} {c s : Nat} : lV (v_setS V s) c = lV V c := funext fun m => by
  unfold lV
  rw [gV_setS]
  rfl
noncomputable def suN (V : Cv) (c i : Nat) : Nat := cntTo (fun m => decide (ddF (gV V c) (lV V c) (v_lk V) (10 * i) (v_nm V) m = some c)) (v_nm V)
theorem su_eq {V : Cv} {c i : Nat} : cntTo (fun m => decide (dC (v_setS V (10 * i)) c m = some c)) (v_nm (v_setS V (10 * i))) = suN V c i := by
  unfold dC suN
  rw [gV_setS, lV_setS]
  rfl
noncomputable def suP (V : Cv) (c i : Nat) : Bool := decide (suN V c i = v_nm V)
theorem osf {X : Xs} {c : Int32} (h : inR c (v_nc (x_A X))) : o_sureFor X c = (oI ((ffO (suP (x_A X) (iN c)) 101).map (10 * ·)), X) := by
  unfold o_sureFor
  rw [if_pos h]
  have e : suP (x_A X) (iN c) = fun i => decide (cntTo (fun m => decide (ddF (gV (x_A X) (iN c)) (lV (x_A X) (iN c)) (v_lk (x_A X)) (10 * i) (v_nm (x_A X)) m = some (iN c))) (v_nm (x_A X)) = v_nm (x_A X)) := by
    funext i
    unfold suP suN
    rfl
  rw [e]
theorem suP_t {V : Cv} {c i : Nat} (h : suN V c i = v_nm V) : suP V c i = true := decide_eq_true h
theorem suP_f {V : Cv} {c i : Nat} (h : ¬ suN V c i = v_nm V) : suP V c i = false := decide_eq_false h
set_option maxRecDepth 20000 in
theorem cm_bad {g : Ev} {S : St} {iv : IV} {lw : LW} {b q : Nat} (hs : SS S b) {X : Xs} (hX : MX S iv lw b X) (hk : XOK X) (hq : IsMod S q) (hd : b + 42 ≤ q) (hC : MC iv q (x_A X)) {k : Nat} (hR : rdX X = .error k) {Q : Option Value → Dt → Prop} (hQ : ∀ w iv2 lw2, MP S b iv lw (o_camp X) w iv2 lw2 → Q (some w) (S.1, S.2, iv2, lw2)) : VN g mX10_camp 4 [(0, .ref (b))] [.ref (q)] S iv lw Q := by
  have hb := hs.1
  have hX0 : MX S (up2 iv b 7 (nI 0)) lw b (x_sP X 0 (x_f X)) := hX.tape hk ⟨up2_s, fun i hi => absurd hi (by omega)⟩ (fun a k h1 h2 => by rw [up2_o (by omega)])
  have hkn := hk.tape0
  refine V_astore_n (lv2 := [(1, .ref (q)), (0, .ref (b))]) dX10_camp_4 rfl (by decide) rfl ?_
  refine V_aload_n (i := 0) dX10_camp_5 rfl 1 rfl ?_
  refine W_callVq (As := []) (st := []) dX10_camp_6 lv_X10_246 ⟨by decide, by decide⟩ ⟨rfl, rfl⟩ ⟨by decide, by decide⟩ rfl (ci := 7) hb.1 rfl rfl (Nat.le_of_ble_eq_true rfl) (r_readAll hs.1 hX.2.2.1 hk.2.2.2.1 hX.1 hk.1) (fun w6 iv6 lw6 q6 => ?_)
  obtain ⟨e1, rfl, hok6, her6, hB6⟩ := q6
  subst e1
  have hBt := hB6.both (a := b) (k := 7) (v := nI 0)
  have hOt : Off b 42 iv (up2 iv6 b 7 (nI 0)) := hB6.off.up (by omega) (by omega)
  refine V_istore_n (lv2 := [(2, .int (bI (okG (rdX X) = true))), (1, .ref (q)), (0, .ref (b))]) dX10_camp_9 rfl (by decide) rfl ?_
  refine V_aload_n (i := 0) dX10_camp_10 rfl 2 rfl ?_
  refine V_iconst (v := nI 0) dX10_camp_11 rfl ?_
  refine W_putI dX10_camp_12 lf_X10_164 rfl hb.1 ⟨rfl, rfl⟩ ?_
  refine V_iload_n (i := 2) dX10_camp_15 rfl 0 rfl ?_
  refine V_if_ne (tgt := 39) dX10_camp_16 rfl (fun h16 => ?_) (fun h16 => ?_)
  · have h16 : okG (rdX X) = true := bI_ne.mp h16
    rw [hR] at h16; cases h16
  · have h16 : ¬ (okG (rdX X) = true) := bI_eq0.mp h16
    refine V_aload_n (i := 0) dX10_camp_19 rfl 2 rfl ?_
    refine V_aload_n (i := 1) dX10_camp_20 rfl 1 rfl ?_
    refine W_callVn (As := [.ref (q)]) (st := []) dX10_camp_21 lv_X10_238 ⟨by decide, by decide⟩ ⟨rfl, rfl⟩ ⟨by decide, by decide⟩ rfl (ci := 7) hb.1 rfl rfl (Nat.le_of_ble_eq_true rfl) (r_takeFrom hs.1 hq (Or.inl hd) (V := x_A X) (hC.fr hk.1 (fun a k ha => congrFun (hOt a (by omega)) k)) hk.1) (fun iv21 lw21 q21 => ?_)
    obtain ⟨e1, hC21, hB21⟩ := q21
    subst e1
    have hXn : MX S iv21 lw b (x_sP X 0 (x_f X)) := hX0.now hkn hC21 (hBt.tr hB21.mb) Off.rf
    have hOn : Off b 42 iv iv21 := hOt.tr hB21.mb.off
    refine V_aload_n (i := 0) dX10_camp_24 rfl 2 rfl ?_
    refine V_bipush (v := (-2)) dX10_camp_25 rfl ?_
    refine W_callVq (As := [.int ((-2))]) (st := []) dX10_camp_27 lv_X10_107 ⟨by decide, by decide⟩ ⟨rfl, rfl⟩ ⟨by decide, by decide⟩ rfl (ci := 7) hb.1 rfl rfl (Nat.le_of_ble_eq_true rfl) (r_refuse_0 hs.1) (fun w27 iv27 lw27 q27 => ?_)
    obtain ⟨rfl, e1, e2⟩ := q27
    subst e1
    subst e2
    refine V_pop dX10_camp_30 rfl ?_
    refine V_bipush (v := (-20)) dX10_camp_31 rfl ?_
    refine V_aload_n (i := 0) dX10_camp_33 rfl 2 rfl ?_
    refine W_getI (x := nI k) dX10_camp_34 lf_X10_186 rfl hb.1 ((up2_ne (by omega)).trans ((hB21 b 29 (by omega) (by omega)).trans ((up2_k (by decide)).trans (her6 k hR)))) ?_
    refine V_isub dX10_camp_37 ?_
    refine V_iret dX10_camp_38 ⟨rfl, rfl⟩ (by decide) (by decide) ?_
    exact hQ _ _ _ (by unfold o_camp; rw [hR]; exact ⟨rfl, hXn.rf hkn (by decide), hOn.up (by omega) (by omega), Off.rf⟩)
set_option maxRecDepth 20000 in
theorem cm_ok {g : Ev} {S : St} {iv : IV} {lw : LW} {b q : Nat} (hs : SS S b) {X : Xs} (hX : MX S iv lw b X) (hk : XOK X) (hq : IsMod S q) (hd : b + 42 ≤ q) (hC : MC iv q (x_A X)) {z0 : Nat × Cv} (hR : rdX X = .ok z0) {Q : Option Value → Dt → Prop} (hQ : ∀ w iv2 lw2, MP S b iv lw (o_camp X) w iv2 lw2 → Q (some w) (S.1, S.2, iv2, lw2)) : VN g mX10_camp 4 [(0, .ref (b))] [.ref (q)] S iv lw Q := by
  have hb := hs.1
  have hX0 : MX S (up2 iv b 7 (nI 0)) lw b (x_sP X 0 (x_f X)) := hX.tape hk ⟨up2_s, fun i hi => absurd hi (by omega)⟩ (fun a k h1 h2 => by rw [up2_o (by omega)])
  have hkn := hk.tape0
  refine V_astore_n (lv2 := [(1, .ref (q)), (0, .ref (b))]) dX10_camp_4 rfl (by decide) rfl ?_
  refine V_aload_n (i := 0) dX10_camp_5 rfl 1 rfl ?_
  refine W_callVq (As := []) (st := []) dX10_camp_6 lv_X10_246 ⟨by decide, by decide⟩ ⟨rfl, rfl⟩ ⟨by decide, by decide⟩ rfl (ci := 7) hb.1 rfl rfl (Nat.le_of_ble_eq_true rfl) (r_readAll hs.1 hX.2.2.1 hk.2.2.2.1 hX.1 hk.1) (fun w6 iv6 lw6 q6 => ?_)
  obtain ⟨e1, rfl, hok6, her6, hB6⟩ := q6
  subst e1
  have hBt := hB6.both (a := b) (k := 7) (v := nI 0)
  have hOt : Off b 42 iv (up2 iv6 b 7 (nI 0)) := hB6.off.up (by omega) (by omega)
  refine V_istore_n (lv2 := [(2, .int (bI (okG (rdX X) = true))), (1, .ref (q)), (0, .ref (b))]) dX10_camp_9 rfl (by decide) rfl ?_
  refine V_aload_n (i := 0) dX10_camp_10 rfl 2 rfl ?_
  refine V_iconst (v := nI 0) dX10_camp_11 rfl ?_
  refine W_putI dX10_camp_12 lf_X10_164 rfl hb.1 ⟨rfl, rfl⟩ ?_
  refine V_iload_n (i := 2) dX10_camp_15 rfl 0 rfl ?_
  refine V_if_ne (tgt := 39) dX10_camp_16 rfl (fun h16 => ?_) (fun h16 => ?_)
  · have h16 : okG (rdX X) = true := bI_ne.mp h16
    refine V_aload_n (i := 0) dX10_camp_39 rfl 2 rfl ?_
    refine W_getI (x := nI z0.1) dX10_camp_40 lf_X10_227 rfl hb.1 ((up2_k (by decide)).trans (hok6 z0 hR).2.1) ?_
    refine V_iret dX10_camp_43 ⟨rfl, rfl⟩ (by decide) (by decide) ?_
    have hXn : MX S (up2 iv6 b 7 (nI 0)) lw b (x_sA (x_sP X 0 (x_f X)) z0.2) := hX0.now hkn ((hok6 z0 hR).1.fr (hok6 z0 hR).2.2 (fun a k ha => up2_o (by omega))) hBt Off.rf
    exact hQ _ _ _ (by unfold o_camp; rw [hR]; exact ⟨rfl, hXn, hOt, Off.rf⟩)
  · have h16 : ¬ (okG (rdX X) = true) := bI_eq0.mp h16
    exact absurd (by rw [hR]) h16
theorem q_camp {g : Ev} {S : St} {iv : IV} {lw : LW} {b : Nat} (hs : SS S b) {X : Xs} (hX : MX S iv lw b X) (hk : XOK X) (hN : S.1.1 ≤ 80000) : CT g mX10_camp [.ref b] (S.1, S.2, iv, lw) (NQ S b iv lw (o_camp X)) := by
  refine CT_ofQ rfl (by decide) (Nat.le_of_ble_eq_true rfl) (lv := [(0, .ref b)]) rfl (fun Q hQ => ?_)
  have hfr := hs.1.lt
  refine V_aload_n (i := 0) dX10_camp_0 rfl 0 rfl ?_
  refine V_callV (As := []) (st := []) (k2 := 42) (n2 := 902) dX10_camp_1 lv_X10_242 ⟨by decide, by decide⟩ rfl (hs.1.1.rcv (iv := iv) (lw := lw) rfl (ci := 7) rfl rfl) (Nat.le_of_ble_eq_true rfl) (Nat.le_of_ble_eq_true rfl) (Nat.le_of_ble_eq_true rfl) (Nat.le_of_ble_eq_true rfl) (Nat.le_of_ble_eq_true rfl) (q_freshM hs hX hk hN) (fun v D q1 => ?_)
  obtain ⟨S2, iv2, lw2, q, rfl, rfl, g1, g2, g3, g4, g5, g6⟩ := q1
  obtain ⟨hqM, hqd⟩ := g2.2.2.1 q g4
  have fin : ∀ w iv3 lw3, MP S2 b iv2 lw2 (o_camp X) w iv3 lw3 → Q (some w) (S2.1, S2.2, iv3, lw3) := fun w iv3 lw3 ⟨p1, p2, p3, p4⟩ => by
    subst hQ
    exact ⟨S2, iv3, lw3, congrArg some p1, rfl, g1, g2, p2, fun a ha => ⟨(p3 a (Or.inl ha)).trans (g6 a (by omega)).1, (p4 a (Or.inl ha)).trans (g6 a (by omega)).2⟩⟩
  cases hR : rdX X with
  | error k => exact cm_bad g2 g3 hk hqM hqd g5 hR fin
  | ok z0 => exact cm_ok g2 g3 hk hqM hqd g5 hR fin
set_option maxRecDepth 20000 in
theorem su_tail {g : Ev} {S : St} {iv : IV} {lw : LW} {b q : Nat} (hb : IsMod S b) {V : Cv} (hV : MC iv b V) (hv : VOK V) (hq : IsMod S q) (hd : b + 42 ≤ q) (hC : MC iv q V) {c : Nat} (hc : c < v_nc V) {Q : Option Value → Dt → Prop} (hQ : ∀ iv2 lw2, Off q 42 iv iv2 → Off q 42 lw lw2 → Q (some (.int (oI ((ffO (suP V c) 101).map (10 * ·))))) (S.1, S.2, iv2, lw2)) : VN g mX10_sureFor 19 [(0, .ref (b)), (1, .int (nI c))] [.ref (q)] S iv lw Q := by
  refine V_astore_n (lv2 := [(2, .ref (q)), (0, .ref (b)), (1, .int (nI c))]) dX10_sureFor_19 rfl (by decide) rfl ?_
  refine V_iconst (v := nI 0) dX10_sureFor_20 rfl ?_
  refine V_istore_n (lv2 := [(3, .int (nI 0)), (2, .ref (q)), (0, .ref (b)), (1, .int (nI c))]) dX10_sureFor_21 rfl (by decide) rfl ?_
  have lp22 : ∀ j, j ≤ 101 → ∀ (iv2 : IV) (lw2 : LW) (s2 : Nat), MC iv2 q (v_setS V s2) → Off q 42 iv iv2 → Off q 42 lw lw2 → (∀ i, i < j → suP V c i = false) → VN g mX10_sureFor 22 [(3, .int (nI (10 * j))), (0, .ref (b)), (1, .int (nI c)), (2, .ref (q))] [] S iv2 lw2 Q := by
    refine up_ind fun j hj ih22 => ?_
    intro iv2 lw2 s2 hC2 hO2 hL2 hal
    refine V_iload_n (i := 3) dX10_sureFor_22 rfl 0 rfl ?_
    refine V_sipush (v := nI 1000) dX10_sureFor_23 rfl ?_
    refine V_icmp_gt (tgt := 54) dX10_sureFor_26 rfl (fun h26 => ?_) (fun h26 => ?_)
    · have h26 : 1000 < (10 * j) := (nI_ltI (by omega) (by omega)).mp h26
      refine V_iconst (v := (-1)) dX10_sureFor_54 rfl ?_
      refine V_iret dX10_sureFor_55 ⟨rfl, rfl⟩ (by decide) (by decide) ?_
      have h9 := hQ iv2 lw2 hO2 hL2
      rw [ffO_none (fun k hk => hal k (by omega))] at h9
      exact h9
    · have h26 : ¬ 1000 < (10 * j) := fun q => h26 ((nI_ltI (by omega) (by omega)).mpr q)
      refine V_aload_n (i := 2) dX10_sureFor_29 rfl 3 rfl ?_
      refine V_iload_n (i := 3) dX10_sureFor_30 rfl 0 rfl ?_
      refine W_putI dX10_sureFor_31 lf_X10_63 rfl hq.1 ⟨rfl, rfl⟩ ?_
      refine V_aload_n (i := 2) dX10_sureFor_34 rfl 3 rfl ?_
      refine V_iload_n (i := 1) dX10_sureFor_35 rfl 2 rfl ?_
      have hV36 : MC (up2 iv2 q 20 (nI (10 * j))) q (v_setS V (10 * j)) := mc_setS (V := v_setS V s2) (s := 10 * j) hC2 hv.nc
      have hv36 := vok_setS (s := 10 * j) hv (by omega)
      refine W_callVq (As := [.int (nI c)]) (st := []) dX10_sureFor_36 lv_X10_326 ⟨by decide, by decide⟩ ⟨rfl, rfl⟩ ⟨by decide, by decide⟩ rfl (ci := 7) hq.1 rfl rfl (Nat.le_of_ble_eq_true rfl) (r_rightOf hq hV36 hv36 (c := c) hc) (fun w36 iv36 lw36 q36 => ?_)
      obtain ⟨rfl, hM36, hL36⟩ := q36
      have hC36 := hV36.ma hv36 hM36
      have hO36 : Off q 42 iv iv36 := (hO2.up (by omega) (by omega)).tr hM36.off
      have hL36b : Off q 42 lw lw36 := hL2.tr (hL36.wide (by omega) (by omega))
      rw [su_eq]
      refine V_aload_n (i := 0) dX10_sureFor_39 rfl 1 rfl ?_
      refine W_getI (x := nI (v_nm V)) dX10_sureFor_40 lf_X10_98 rfl hb.1 ((congrFun (hO36 b (by omega)) _).trans hV.nm) ?_
      have hnm := hv.nm
      have hcl : suN V c j ≤ v_nm V := cntTo_le _ _
      refine V_icmp_ne (tgt := 48) dX10_sureFor_43 rfl (fun h43 => ?_) (fun h43 => ?_)
      · have h43 : ¬ (suN V c j) = (v_nm V) := fun q => h43 ((nI_eq (by omega) (by omega)).mpr q)
        refine V_iinc (v := nI (10 * (j + 1))) (lv2 := [(3, .int (nI (10 * (j + 1)))), (0, .ref (b)), (1, .int (nI c)), (2, .ref (q))]) dX10_sureFor_48 0 rfl ((nI_add (10 * j) 10).trans (by congr 1)) (by decide) rfl ?_
        refine V_goto (tgt := 22) dX10_sureFor_51 rfl ?_
        refine V_sub [0, 1, 2, 3] rfl ?_
        exact W_at (ih22 (by omega) iv36 lw36 (10 * j) hC36 hO36 hL36b (fun k hk => (Nat.lt_or_ge k j).elim (hal k) (fun z => by have e9 : k = j := (by omega); rw [e9]; exact suP_f h43))) (rfl) rfl (rfl) (rfl)
      · have h43 : (suN V c j) = (v_nm V) := (nI_eq (by omega) (by omega)).mp h43
        refine V_iload_n (i := 3) dX10_sureFor_46 rfl 0 rfl ?_
        refine V_iret dX10_sureFor_47 ⟨rfl, rfl⟩ (by decide) (by decide) ?_
        have h9 := hQ iv36 lw36 hO36 hL36b
        rw [ffO_at (show j < 101 by omega) hal (suP_t h43)] at h9
        exact h9
  refine V_sub [0, 2, 3, 1] rfl ?_
  exact W_at (lp22 0 (Nat.zero_le _) iv lw (v_su V) hC Off.rf Off.rf (fun i hi => absurd hi (by omega))) (rfl) rfl (rfl) (rfl)
set_option maxRecDepth 20000 in
theorem q_sureFor {g : Ev} {S : St} {iv : IV} {lw : LW} {b : Nat} (hs : SS S b) {X : Xs} (hX : MX S iv lw b X) (hk : XOK X) {c : Int32} (hN : S.1.1 ≤ 80000) : CT g mX10_sureFor [.ref b, .int c] (S.1, S.2, iv, lw) (NQ S b iv lw (o_sureFor X c)) := by
  refine CT_ofQ rfl (by decide) (Nat.le_of_ble_eq_true rfl) (lv := [(0, .ref (b)), (1, .int (c))]) rfl (fun Q hQ => ?_)
  have hb := hs.1
  have hA := hX.1
  have hv := hk.1
  have hnc := hv.nc
  have hne := hv.ne
  have hnm := hv.nm
  refine V_aload_n (i := 0) dX10_sureFor_0 rfl 0 rfl ?_
  refine V_iload_n (i := 1) dX10_sureFor_1 rfl 1 rfl ?_
  refine M_callVp (As := [.int (c)]) (st := []) dX10_sureFor_2 lv_X10_155 ⟨by decide, by decide⟩ ⟨rfl, rfl⟩ rfl (ci := 7) hb.1 rfl rfl (Nat.le_of_ble_eq_true rfl) (r_isCall hb hA hv) ?_
  refine V_if_ne (tgt := 15) dX10_sureFor_5 rfl (fun h5 => ?_) (fun h5 => ?_)
  · have h5 : inR c (v_nc (x_A X)) := bI_ne.mp h5
    obtain ⟨c0, hc0, rfl⟩ : ∃ c0, c0 < v_nc (x_A X) ∧ c = nI c0 := ⟨iN c, (by have h9 := h5; unfold inR at h9; have := iN_i (k := c) (by omega); omega), iN_eq (by have h9 := h5; unfold inR at h9; omega)⟩
    refine V_aload_n (i := 0) dX10_sureFor_15 rfl 0 rfl ?_
    refine V_callV (As := []) (st := []) (k2 := 42) (n2 := 902) dX10_sureFor_16 lv_X10_242 ⟨by decide, by decide⟩ rfl (hs.1.1.rcv (iv := iv) (lw := lw) rfl (ci := 7) rfl rfl) (Nat.le_of_ble_eq_true rfl) (Nat.le_of_ble_eq_true rfl) (Nat.le_of_ble_eq_true rfl) (Nat.le_of_ble_eq_true rfl) (Nat.le_of_ble_eq_true rfl) (q_freshM hs hX hk hN) (fun v D q1 => ?_)
    obtain ⟨S2, iv2, lw2, q, rfl, rfl, g1, g2, g3, g4, g5, g6⟩ := q1
    obtain ⟨hqM, hqd⟩ := g2.2.2.1 q g4
    refine su_tail g2.1 g3.1 hk.1 hqM hqd g5 hc0 (fun iv3 lw3 hO3 hL3 => ?_)
    subst hQ
    have hin : iN (nI c0) = c0 := iN_nI (by omega)
    refine ⟨S2, iv3, lw3, ?_, rfl, g1, g2, ?_, fun a ha => ⟨(hO3 a (by omega)).trans (g6 a (by omega)).1, (hL3 a (by omega)).trans (g6 a (by omega)).2⟩⟩
    · rw [osf h5, hin]
    · rw [osf h5]
      exact g3.grow hk rfl (fun a ha => ⟨hO3 a (by omega), hL3 a (by omega)⟩) (fun q2 hq2 a h1 h2 => hO3 a (by have := g2.2.2.2 q2 q hq2 g4; omega))
  · have h5 : ¬ (inR c (v_nc (x_A X))) := bI_eq0.mp h5
    refine V_aload_n (i := 0) dX10_sureFor_8 rfl 0 rfl ?_
    refine V_bipush (v := (-2)) dX10_sureFor_9 rfl ?_
    refine M_callVq (As := [.int ((-2))]) (st := []) dX10_sureFor_11 lv_X10_107 ⟨by decide, by decide⟩ ⟨rfl, rfl⟩ rfl (ci := 7) hb.1 rfl rfl (Nat.le_of_ble_eq_true rfl) (q_refuse hs hX hk (j := 0) (by decide)) (fun w11 iv11 lw11 q11 => ?_)
    obtain ⟨rfl, e1, hXr, hOr⟩ := q11
    subst e1
    refine V_iret dX10_sureFor_14 ⟨rfl, rfl⟩ (Nat.zero_le _) (Nat.zero_le _) ?_
    subst hQ
    exact (by unfold o_sureFor; rw [if_neg h5]; exact ⟨S, _, _, rfl, rfl, MG.rf, hs, hXr, fun a ha => ⟨hOr a (Or.inl ha), rfl⟩⟩)
