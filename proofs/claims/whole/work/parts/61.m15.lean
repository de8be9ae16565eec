/-! the law: one step, the loop, the beginning -/
set_option maxRecDepth 20000 in
theorem L_body {g : Ev} {S : St} {iv : IV} {lw : LW} {X : Xs} {i : Nat} {Q : Option Value → Dt → Prop} (hR : LR S iv lw X i) (hi : i < 512) (hL : 6 * i + 6 ≤ g.2.2.2.2.2.1 ∧ g.2.2.2.2.2.1 ≤ 3072) (hQ : ∀ S3 iv3 lw3 X3, LR S3 iv3 lw3 X3 (i + 1) → VB g 2008 [] S3 iv3 lw3 i Q) : VA g 27 [] S iv lw i Q := by
  refine V_aload_n (i := 0) dL_law_27 rfl 1 rfl ?_
  refine V_iload_n (i := 3) dL_law_28 rfl 0 rfl ?_
  refine V_scr dL_law_29 (vp_in_nI (by omega) (by omega)) ?_
  refine V_bipush (v := nI 63) dL_law_30 rfl ?_
  refine V_iand dL_law_32 ?_
  generalize (g.2.2.2.2.2.2 (nI (6 * i)).toNatClampNeg &&& nI 63) = t
  by_cases h0 : t.toInt = 0
  · exact V_tabIn (v := 0) (tgt := 260) dL_law_33 h0 (by decide) rfl rfl (seg_row hR hi hL hQ)
  by_cases h1 : t.toInt = 1
  · exact V_tabIn (v := 1) (tgt := 303) dL_law_33 h1 (by decide) rfl rfl (seg_set hR hi hL hQ)
  by_cases h2 : t.toInt = 2
  · exact V_tabIn (v := 2) (tgt := 376) dL_law_33 h2 (by decide) rfl rfl (seg_copy hR hi hL hQ)
  by_cases h3 : t.toInt = 3
  · exact V_tabIn (v := 3) (tgt := 439) dL_law_33 h3 (by decide) rfl rfl (seg_element hR hi hL hQ)
  by_cases h4 : t.toInt = 4
  · exact V_tabIn (v := 4) (tgt := 473) dL_law_33 h4 (by decide) rfl rfl (seg_holds hR hi hL hQ)
  by_cases h5 : t.toInt = 5
  · exact V_tabIn (v := 5) (tgt := 496) dL_law_33 h5 (by decide) rfl rfl (seg_show hR hi hL hQ)
  by_cases h6 : t.toInt = 6
  · exact V_tabIn (v := 6) (tgt := 529) dL_law_33 h6 (by decide) rfl rfl (seg_says hR hi hL hQ)
  by_cases h7 : t.toInt = 7
  · exact V_tabIn (v := 7) (tgt := 562) dL_law_33 h7 (by decide) rfl rfl (seg_call hR hi hL hQ)
  by_cases h8 : t.toInt = 8
  · exact V_tabIn (v := 8) (tgt := 615) dL_law_33 h8 (by decide) rfl rfl (seg_ear hR hi hL hQ)
  by_cases h9 : t.toInt = 9
  · exact V_tabIn (v := 9) (tgt := 648) dL_law_33 h9 (by decide) rfl rfl (seg_man hR hi hL hQ)
  by_cases h10 : t.toInt = 10
  · exact V_tabIn (v := 10) (tgt := 681) dL_law_33 h10 (by decide) rfl rfl (seg_tell hR hi hL hQ)
  by_cases h11 : t.toInt = 11
  · exact V_tabIn (v := 11) (tgt := 724) dL_law_33 h11 (by decide) rfl rfl (seg_ask hR hi hL hQ)
  by_cases h12 : t.toInt = 12
  · exact V_tabIn (v := 12) (tgt := 757) dL_law_33 h12 (by decide) rfl rfl (seg_feed hR hi hL hQ)
  by_cases h13 : t.toInt = 13
  · exact V_tabIn (v := 13) (tgt := 780) dL_law_33 h13 (by decide) rfl rfl (seg_wipe hR hi hL hQ)
  by_cases h14 : t.toInt = 14
  · exact V_tabIn (v := 14) (tgt := 793) dL_law_33 h14 (by decide) rfl rfl (seg_camp hR hi hL hQ)
  by_cases h15 : t.toInt = 15
  · exact V_tabIn (v := 15) (tgt := 806) dL_law_33 h15 (by decide) rfl rfl (seg_callOf hR hi hL hQ)
  by_cases h16 : t.toInt = 16
  · exact V_tabIn (v := 16) (tgt := 839) dL_law_33 h16 (by decide) rfl rfl (seg_earOf hR hi hL hQ)
  by_cases h17 : t.toInt = 17
  · exact V_tabIn (v := 17) (tgt := 872) dL_law_33 h17 (by decide) rfl rfl (seg_manOf hR hi hL hQ)
  by_cases h18 : t.toInt = 18
  · exact V_tabIn (v := 18) (tgt := 905) dL_law_33 h18 (by decide) rfl rfl (seg_heard hR hi hL hQ)
  by_cases h19 : t.toInt = 19
  · exact V_tabIn (v := 19) (tgt := 948) dL_law_33 h19 (by decide) rfl rfl (seg_fits hR hi hL hQ)
  by_cases h20 : t.toInt = 20
  · exact V_tabIn (v := 20) (tgt := 1027) dL_law_33 h20 (by decide) rfl rfl (seg_likely hR hi hL hQ)
  by_cases h21 : t.toInt = 21
  · exact V_tabIn (v := 21) (tgt := 1106) dL_law_33 h21 (by decide) rfl rfl (seg_guess hR hi hL hQ)
  by_cases h22 : t.toInt = 22
  · exact V_tabIn (v := 22) (tgt := 1175) dL_law_33 h22 (by decide) rfl rfl (seg_apart hR hi hL hQ)
  by_cases h23 : t.toInt = 23
  · exact V_tabIn (v := 23) (tgt := 1208) dL_law_33 h23 (by decide) rfl rfl (seg_known hR hi hL hQ)
  by_cases h24 : t.toInt = 24
  · exact V_tabIn (v := 24) (tgt := 1241) dL_law_33 h24 (by decide) rfl rfl (seg_earFor hR hi hL hQ)
  by_cases h25 : t.toInt = 25
  · exact V_tabIn (v := 25) (tgt := 1264) dL_law_33 h25 (by decide) rfl rfl (seg_mean hR hi hL hQ)
  by_cases h26 : t.toInt = 26
  · exact V_tabIn (v := 26) (tgt := 1287) dL_law_33 h26 (by decide) rfl rfl (seg_worst hR hi hL hQ)
  by_cases h27 : t.toInt = 27
  · exact V_tabIn (v := 27) (tgt := 1310) dL_law_33 h27 (by decide) rfl rfl (seg_next hR hi hL hQ)
  by_cases h28 : t.toInt = 28
  · exact V_tabIn (v := 28) (tgt := 1353) dL_law_33 h28 (by decide) rfl rfl (seg_alikeFirst hR hi hL hQ)
  by_cases h29 : t.toInt = 29
  · exact V_tabIn (v := 29) (tgt := 1386) dL_law_33 h29 (by decide) rfl rfl (seg_notes hR hi hL hQ)
  by_cases h30 : t.toInt = 30
  · exact V_tabIn (v := 30) (tgt := 1409) dL_law_33 h30 (by decide) rfl rfl (seg_twins hR hi hL hQ)
  by_cases h31 : t.toInt = 31
  · exact V_tabIn (v := 31) (tgt := 1422) dL_law_33 h31 (by decide) rfl rfl (seg_change hR hi hL hQ)
  by_cases h32 : t.toInt = 32
  · exact V_tabIn (v := 32) (tgt := 1455) dL_law_33 h32 (by decide) rfl rfl (seg_alike hR hi hL hQ)
  by_cases h33 : t.toInt = 33
  · exact V_tabIn (v := 33) (tgt := 1478) dL_law_33 h33 (by decide) rfl rfl (seg_mixed hR hi hL hQ)
  by_cases h34 : t.toInt = 34
  · exact V_tabIn (v := 34) (tgt := 1511) dL_law_33 h34 (by decide) rfl rfl (seg_fresh hR hi hL hQ)
  by_cases h35 : t.toInt = 35
  · exact V_tabIn (v := 35) (tgt := 1544) dL_law_33 h35 (by decide) rfl rfl (seg_keep hR hi hL hQ)
  by_cases h36 : t.toInt = 36
  · exact V_tabIn (v := 36) (tgt := 1567) dL_law_33 h36 (by decide) rfl rfl (seg_does hR hi hL hQ)
  by_cases h37 : t.toInt = 37
  · exact V_tabIn (v := 37) (tgt := 1600) dL_law_33 h37 (by decide) rfl rfl (seg_right hR hi hL hQ)
  by_cases h38 : t.toInt = 38
  · exact V_tabIn (v := 38) (tgt := 1623) dL_law_33 h38 (by decide) rfl rfl (seg_leads hR hi hL hQ)
  by_cases h39 : t.toInt = 39
  · exact V_tabIn (v := 39) (tgt := 1646) dL_law_33 h39 (by decide) rfl rfl (seg_follows hR hi hL hQ)
  by_cases h40 : t.toInt = 40
  · exact V_tabIn (v := 40) (tgt := 1669) dL_law_33 h40 (by decide) rfl rfl (seg_sureFor hR hi hL hQ)
  by_cases h41 : t.toInt = 41
  · exact V_tabIn (v := 41) (tgt := 1692) dL_law_33 h41 (by decide) rfl rfl (seg_risk hR hi hL hQ)
  by_cases h42 : t.toInt = 42
  · exact V_tabIn (v := 42) (tgt := 1725) dL_law_33 h42 (by decide) rfl rfl (seg_learn hR hi hL hQ)
  by_cases h43 : t.toInt = 43
  · exact V_tabIn (v := 43) (tgt := 1748) dL_law_33 h43 (by decide) rfl rfl (seg_nearest hR hi hL hQ)
  by_cases h44 : t.toInt = 44
  · exact V_tabIn (v := 44) (tgt := 1791) dL_law_33 h44 (by decide) rfl rfl (seg_judge hR hi hL hQ)
  by_cases h45 : t.toInt = 45
  · exact V_tabIn (v := 45) (tgt := 1824) dL_law_33 h45 (by decide) rfl rfl (seg_when hR hi hL hQ)
  by_cases h46 : t.toInt = 46
  · exact V_tabIn (v := 46) (tgt := 1867) dL_law_33 h46 (by decide) rfl rfl (seg_sound hR hi hL hQ)
  by_cases h47 : t.toInt = 47
  · exact V_tabIn (v := 47) (tgt := 1900) dL_law_33 h47 (by decide) rfl rfl (seg_days hR hi hL hQ)
  by_cases h48 : t.toInt = 48
  · exact V_tabIn (v := 48) (tgt := 1923) dL_law_33 h48 (by decide) rfl rfl (seg_drop hR hi hL hQ)
  by_cases h49 : t.toInt = 49
  · exact V_tabIn (v := 49) (tgt := 1936) dL_law_33 h49 (by decide) rfl rfl (seg_seed hR hi hL hQ)
  by_cases h50 : t.toInt = 50
  · exact V_tabIn (v := 50) (tgt := 1959) dL_law_33 h50 (by decide) rfl rfl (seg_image hR hi hL hQ)
  by_cases h51 : t.toInt = 51
  · exact V_tabIn (v := 51) (tgt := 1972) dL_law_33 h51 (by decide) rfl rfl (seg_back hR hi hL hQ)
  by_cases h52 : t.toInt = 52
  · exact V_tabIn (v := 52) (tgt := 1985) dL_law_33 h52 (by decide) rfl rfl (seg_status hR hi hL hQ)
  refine V_tableOut (tgt := 2008) dL_law_33 (by omega) rfl ?_
  exact V.mono (by omega) (by omega) (hQ _ _ _ _ hR.up)
theorem V_law1 {g : Ev} {lv : List (Nat × Value)} {D : Dt} {k n : Nat} {Q : Option Value → Dt → Prop} (hk : k ≤ 600000) (hn : n ≤ 7302249) : V g mL_law 2015 lv [.int 1] D k n Q := by
  intro p l e s m args below meth c H locs ls C L hR hS
  obtain ⟨ha, hz⟩ := C.2.2.2.2.2.2.2.2.2 rfl
  subst ha
  exact va_forget (fun q hq => by rw [hz]; exact hS.2.2 q hq) (W.widen hk hn (lw_ret C.1 C.2.1 C.2.2.1 C.2.2.2.2.2.2.1 dL_law_2015))
theorem L_loop {g : Ev} {Q : Option Value → Dt → Prop} (hL : g.2.2.2.2.2.1 ≤ 3072) : ∀ i, i ≤ 512 → ∀ S iv lw X, LR S iv lw X i → VA g 18 [] S iv lw i Q := by
  refine up_ind fun i hi ih S iv lw X hR => ?_
  refine V_iload_n (i := 3) dL_law_18 rfl 0 rfl ?_
  refine V_aload_n (i := 0) dL_law_19 rfl 1 rfl ?_
  refine V_scrlen dL_law_20 ?_
  refine V_bipush (v := nI 6) dL_law_21 rfl ?_
  refine V_isub dL_law_23 ?_
  refine V_icmp_gt (tgt := 2014) dL_law_24 rfl (fun h => ?_) (fun h => ?_)
  · refine V_iconst (v := 1) dL_law_2014 rfl ?_
    exact V_law1 (by omega) (by omega)
  · have h2 : ¬ (nI g.2.2.2.2.2.1 - nI 6).toInt < (nI (6 * i)).toInt := fun z => h (Int32.lt_iff_toInt_lt.mpr z)
    rw [nI_toInt (by omega), pk_sub_toInt (by omega) (by omega)] at h2
    have h3 : 6 * i + 6 ≤ g.2.2.2.2.2.1 := by omega
    refine L_body hR (by omega) ⟨h3, hL⟩ (fun S3 iv3 lw3 X3 hR3 => ?_)
    refine V_iinc (v := nI (6 * (i + 1))) (lv2 := [(3, .int (nI (6 * (i + 1)))), (0, .ref (100000 + 0)), (1, .ref 0), (2, .ref 57)]) dL_law_2008 0 rfl ((nI_add (6 * i) 6).trans (by congr 1)) (by decide) rfl ?_
    refine V_goto (tgt := 18) dL_law_2011 rfl ?_
    exact ih (by omega) S3 iv3 lw3 X3 hR3
/-! what is there when both are new -/
def xE : Dt := d_new xD50 (0, 7)
def xF : Dt := iD (inX10 xE 57) 57 58 lsX10
abbrev SF : St := (xF.1, xF.2.1)
theorem xE_n : xE.1.1 = 58 := by show xD50.1.1 + 1 = 58; rw [xL_n]
theorem xE_k : xE.1.2 57 = (0, 7) := by
  show (if 57 = xD50.1.1 then (0, 7) else xD50.1.2 57) = (0, 7)
  exact if_pos xL_n.symm
theorem xE_z : xE.2.1 57 = fun _ => none := by
  show (if 57 = xD50.1.1 then (fun _ => none) else xD50.2.1 57) = fun _ => none
  exact if_pos xL_n.symm
theorem xE_i : xE.2.2.1 57 = fun _ => 0 := by
  show (if 57 = xD50.1.1 then (fun _ => 0) else xD50.2.2.1 57) = fun _ => 0
  exact if_pos xL_n.symm
theorem xF_new {a : Nat} (h1 : 58 ≤ a) (h2 : a < 99) : xF.2.2.1 a = fun _ => 0 := if_pos (show 58 ≤ a ∧ a < 58 + lsX10.length from ⟨h1, by rw [show lsX10.length = 41 from rfl]; omega⟩)
theorem xF_57 (k : Nat) : xF.2.2.1 57 k = up2 (up2 (up2 xE.2.2.1 57 20 (nI 600)) 57 21 (nI 20)) 57 22 (nI 1) 57 k := congrFun (iD_io (show 57 < 58 by decide)) k
theorem xF_0 {k : Nat} (h0 : ¬ k = 20) (h1 : ¬ k = 21) (h2 : ¬ k = 22) : xF.2.2.1 57 k = 0 := by
  rw [xF_57, up2_k h2, up2_k h1, up2_k h0, xE_i]
theorem xF_old {a : Nat} (h : a < 57) : xF.1.2 a = xD50.1.2 a ∧ xF.2.1 a = xD50.2.1 a ∧ xF.2.2.1 a = xD50.2.2.1 a ∧ xF.2.2.2 a = xD50.2.2.2 a := by
  have hn := xL_n
  refine ⟨?_, ?_, ?_, ?_⟩
  · exact (iD_ko (b := 57) (show a < 58 by omega)).trans (if_neg (show ¬ a = xD50.1.1 by omega))
  · exact (iD_ro (show a < 58 by omega) (show ¬ a = 57 by omega)).trans (if_neg (show ¬ a = xD50.1.1 by omega))
  · refine (iD_io (b := 57) (show a < 58 by omega)).trans ?_
    show up2 (up2 (up2 xE.2.2.1 57 20 (nI 600)) 57 21 (nI 20)) 57 22 (nI 1) a = _
    rw [up2_a (by omega), up2_a (by omega), up2_a (by omega)]
    exact if_neg (show ¬ a = xD50.1.1 by omega)
  · exact (iD_lo (b := 57) (show a < 58 by omega)).trans (if_neg (show ¬ a = xD50.1.1 by omega))
theorem xF_mg : MG SL SF 57 := by
  have hn : SL.1.1 = 57 := xL_n
  have hm : SF.1.1 = 99 := rfl
  exact ⟨by omega, fun a ha => (xF_old (by omega)).1, fun a k ha hk => congrFun (xF_old (by omega)).2.1 k⟩
theorem xF_mod : IsMod SF 57 := m_new (D := xE) (b := 57) xE_n xE_k xE_z
theorem xF_no {k : Nat} (h : rfO lsX10 k = none) : SF.2 57 k = none := (iD_rn h).trans (congrFun xE_z k)
theorem xF_LR : LR SF xF.2.2.1 xF.2.2.2 X00 0 := by
  refine ⟨xL_is.mg xF_mg, xL_cx.fr57 (fun a ha => ⟨(xF_old ha).2.2.1, (xF_old ha).2.2.2⟩), ⟨xF_mod, fun q hq => ?_, fun q hq => ?_, fun q t hq => ?_⟩, ⟨⟨⟨?_, ?_, ?_, ?_, ?_, ?_⟩, fun c hc => absurd hc (Nat.not_lt_zero _), fun c hc => absurd hc (Nat.not_lt_zero _), fun c hc => absurd hc (Nat.not_lt_zero _), fun c hc => absurd hc (Nat.not_lt_zero _)⟩, fun s hs => ?_, ⟨?_, fun i hi => absurd hi (Nat.not_lt_zero _)⟩, fun j hj => ?_, ⟨fun _ => xF_no rfl, fun V hV => by cases hV⟩⟩, Nat.le_refl _⟩
  · rw [xF_no rfl] at hq; cases hq
  · rw [xF_no rfl] at hq; cases hq
  · rw [xF_no rfl] at hq; cases hq
  · exact xF_0 (by decide) (by decide) (by decide)
  · exact xF_0 (by decide) (by decide) (by decide)
  · exact xF_0 (by decide) (by decide) (by decide)
  · rw [xF_57, up2_k (by decide), up2_k (by decide)]; exact up2_s
  · rw [xF_57, up2_k (by decide)]; exact up2_s
  · rw [xF_57]; exact up2_s
  · exact ms_no (k := 0) (f := fun _ => lN 0) (congrFun (xF_new (by decide) (by decide)) s)
  · exact xF_0 (by decide) (by decide) (by decide)
  · exact congrFun (xF_new (by decide) (by decide)) (j + 2)
set_option maxRecDepth 20000 in
theorem L_start {g : Ev} {Q : Option Value → Dt → Prop} (hL : g.2.2.2.2.2.1 ≤ 3072) : V g mL_law 0 [(0, .ref (100000 + 0))] [] Dz 0 0 Q := by
  refine V_new dL_law_0 ln_L_7 (by decide) (Nat.le_of_ble_eq_true rfl) (Nat.le_of_ble_eq_true rfl) ?_
  refine V_eq (st' := [.ref 0]) (D' := xD0) rfl rfl rfl ?_
  refine V_dup dL_law_3 rfl ?_
  refine V_callI (As := []) (st := [.ref 0]) (k2 := 60) (n2 := 1000) dL_law_4 li_L_9 ⟨by decide, by decide⟩ rfl (Nat.le_of_ble_eq_true rfl) (Nat.le_of_ble_eq_true rfl) (Nat.le_of_ble_eq_true rfl) (Nat.le_of_ble_eq_true rfl) (Nat.le_of_ble_eq_true rfl) c_X9 (fun v D2 q => ?_)
  obtain ⟨rfl, rfl⟩ := q
  refine V_astore_n (lv2 := [(1, .ref 0), (0, .ref (100000 + 0))]) dL_law_7 rfl (by decide) rfl ?_
  refine V_new dL_law_8 ln_L_10 (by rw [xL_n]; decide) (Nat.le_of_ble_eq_true rfl) (Nat.le_of_ble_eq_true rfl) ?_
  refine V_eq (st' := [.ref 57]) (D' := xE) rfl (by rw [xL_n]) rfl ?_
  refine V_dup dL_law_11 rfl ?_
  refine V_callI (As := []) (st := [.ref 57]) (k2 := 200 + 42 * 0) (n2 := 3000 + 902 * 0) dL_law_12 li_L_12 ⟨by decide, by decide⟩ rfl (Nat.le_of_ble_eq_true rfl) (Nat.le_of_ble_eq_true rfl) (Nat.le_of_ble_eq_true rfl) (Nat.le_of_ble_eq_true rfl) (Nat.le_of_ble_eq_true rfl) (c_X10 (n := 58) xE_n (by decide) xE_k (by decide)) (fun v D2 q => ?_)
  obtain ⟨rfl, rfl⟩ := q
  refine V_astore_n (lv2 := [(2, .ref 57), (1, .ref 0), (0, .ref (100000 + 0))]) dL_law_15 rfl (by decide) rfl ?_
  refine V_iconst (v := nI 0) dL_law_16 rfl ?_
  refine V_istore_n (lv2 := [(3, .int (nI 0)), (2, .ref 57), (1, .ref 0), (0, .ref (100000 + 0))]) dL_law_17 rfl (by decide) rfl ?_
  refine V_sub [0, 3, 2, 1] rfl ?_
  exact V_eq (D' := (SF.1, SF.2, xF.2.2.1, xF.2.2.2)) rfl rfl rfl (L_loop hL 0 (by decide) SF xF.2.2.1 xF.2.2.2 X00 xF_LR)
