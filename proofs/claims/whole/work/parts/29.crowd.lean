/-! Crowd -/
set_option maxRecDepth 20000 in
theorem t_hearAll {g : Ev} {S : St} {iv : IV} {lw : LW} {w : Nat} (hw : IsCrowd S w) {b : Nat} (hb : IsCamp S b) {V : Cv} (hV : XC iv b V) {q : Nat} (hq : IsHear S q) (hd : b + 8 < q) (hd2 : q + 1 < w) {c : Nat} (hc : c < v_nc V) : CN g mX1_hearAll [.ref (w), .ref (b), .ref (q), .int (nI c)] S iv lw (fun iv2 lw2 => lw = lw2 ∧ XG iv2 w (gV V c) (lV V c) (v_nm V) ∧ Of2 q 2 w 5 iv iv2) := by
  refine CT_ofQ rfl (by decide) (Nat.le_of_ble_eq_true rfl) (lv := [(0, .ref (w)), (1, .ref (b)), (2, .ref (q)), (3, .int (nI c))]) rfl (fun Q hQ => ?_)
  have hnm := hV.ok.nm
  refine V_aload_n (i := 0) dX1_hearAll_0 rfl 0 rfl ?_
  refine V_iconst (v := nI 0) dX1_hearAll_1 rfl ?_
  refine V_aload_n (i := 1) dX1_hearAll_2 rfl 1 rfl ?_
  refine M_getI (x := nI (v_nm V)) dX1_hearAll_3 lf_X1_41 rfl hb.1 (hV.nm) ?_
  refine V_bipush (v := nI 8) dX1_hearAll_6 rfl ?_
  refine M_callSp (As := [.int (nI (v_nm V)), .int (nI 8)]) (st := [.int (nI 0), .ref (w)]) dX1_hearAll_8 ls_X1_42 ⟨by decide, by decide⟩ ⟨rfl, rfl⟩ rfl (Nat.le_of_ble_eq_true rfl) (t_min (by omega) (by omega)) ?_
  refine M_callSp (As := [.int (nI 0), .int (nI (min (v_nm V) 8))]) (st := [.ref (w)]) dX1_hearAll_11 ls_X1_48 ⟨by decide, by decide⟩ ⟨rfl, rfl⟩ rfl (Nat.le_of_ble_eq_true rfl) (t_max (by omega) (by omega)) ?_
  refine M_top (x2 := nI (v_nm V)) (by congr 1; omega) ?_
  refine M_putI dX1_hearAll_14 lf_X1_26 rfl hw.1 ⟨rfl, rfl⟩ ?_
  refine V_iconst (v := nI 0) dX1_hearAll_17 rfl ?_
  refine V_istore (lv2 := [(4, .int (nI 0)), (0, .ref (w)), (1, .ref (b)), (2, .ref (q)), (3, .int (nI c))]) dX1_hearAll_18 (by decide) rfl ?_
  have lp20 : ∀ j, j ≤ (v_nm V) → ∀ iv2 : IV, Of2 q 2 w 5 iv iv2 → iv2 w 4 = nI (v_nm V) → (∀ m, m < j → iv2 (w + 1) m = oI (gV V c m) ∧ iv2 (w + 2) m = nI (lV V c m)) → VM g mX1_hearAll 20 [(4, .int (nI j)), (0, .ref (w)), (1, .ref (b)), (2, .ref (q)), (3, .int (nI c))] [] S iv2 lw Q := by
    refine up_ind fun j hj ih20 => ?_
    intro iv2 hO h4 hr
    have hV2 : XC iv2 b V := hV.of (fun a h1 h2 => hO a (by omega) (by omega))
    refine V_iload dX1_hearAll_20 0 rfl ?_
    refine V_aload_n (i := 0) dX1_hearAll_22 rfl 1 rfl ?_
    refine M_getI (x := nI (v_nm V)) dX1_hearAll_23 lf_X1_26 rfl hw.1 (h4) ?_
    refine V_icmp_ge (tgt := 93) dX1_hearAll_26 rfl (fun h26 => ?_) (fun h26 => ?_)
    · have h26 : (v_nm V) ≤ j := (nI_leI (by omega) (by omega)).mp h26
      refine V_vret dX1_hearAll_93 ⟨rfl, rfl⟩ (Nat.zero_le _) (Nat.zero_le _) ?_
      subst hQ
      obtain rfl : j = v_nm V := by omega
      exact ⟨_, _, rfl, rfl, rfl, ⟨⟨hnm, fun m hm => ⟨gV_lt hV.ok, lV_le hV.ok⟩⟩, h4, hr⟩, hO⟩
    · have h26 : ¬ (v_nm V) ≤ j := fun q => h26 ((nI_leI (by omega) (by omega)).mpr q)
      have he := hV.ok.eo (m := j) (by omega)
      refine V_aload_n (i := 1) dX1_hearAll_29 rfl 2 rfl ?_
      refine V_iload dX1_hearAll_30 0 rfl ?_
      refine M_callVp (As := [.int (nI j)]) (st := []) dX1_hearAll_32 lv_X1_51 ⟨by decide, by decide⟩ ⟨rfl, rfl⟩ rfl (ci := 0) hb.1 rfl rfl (Nat.le_of_ble_eq_true rfl) (t_X0_earOfMan hb hV2 (m := j) (by omega)) ?_
      refine V_istore (lv2 := [(5, .int (nI (v_eo V j))), (4, .int (nI j)), (0, .ref (w)), (1, .ref (b)), (2, .ref (q)), (3, .int (nI c))]) dX1_hearAll_35 (by decide) rfl ?_
      refine V_aload_n (i := 2) dX1_hearAll_37 rfl 4 rfl ?_
      refine V_aload_n (i := 1) dX1_hearAll_38 rfl 3 rfl ?_
      refine V_iload_n (i := 3) dX1_hearAll_39 rfl 5 rfl ?_
      refine V_iload dX1_hearAll_40 0 rfl ?_
      refine M_callVn (As := [.ref (b), .int (nI c), .int (nI (v_eo V j))]) (st := []) dX1_hearAll_42 lv_X1_55 ⟨by decide, by decide⟩ ⟨rfl, rfl⟩ rfl (ci := 2) hq.1 rfl rfl (Nat.le_of_ble_eq_true rfl) (t_takeCall hq hb hV2 hd hc he) (fun iv42 lw42 q42 => ?_)
      obtain ⟨e1, hX42, hO42⟩ := q42
      subst e1
      have hV3 := hV2.off hO42 hd
      have hV4 : XC (up2 iv42 (w + 1) j (oI (gV V c j))) b V := hV3.of (fun a h1 h2 => up2_a (by omega))
      have hX4 : XH (up2 iv42 (w + 1) j (oI (gV V c j))) q (hearOf V c (v_eo V j) (v_sz V c) true) := hX42.of (up2_a (by omega)) (up2_a (by omega))
      refine V_aload_n (i := 0) dX1_hearAll_45 rfl 2 rfl ?_
      refine M_getR dX1_hearAll_46 lf_X1_11 rfl hw.1 hw.2.1.1 ?_
      refine V_iload dX1_hearAll_49 1 rfl ?_
      refine V_aload_n (i := 1) dX1_hearAll_51 rfl 3 rfl ?_
      refine V_aload_n (i := 2) dX1_hearAll_52 rfl 4 rfl ?_
      refine V_iload dX1_hearAll_53 0 rfl ?_
      refine M_callSp (As := [.ref (b), .ref (q), .int (nI (v_eo V j))]) (st := [.int (nI j), .ref (w + 1)]) dX1_hearAll_55 ls_X1_61 ⟨by decide, by decide⟩ ⟨rfl, rfl⟩ rfl (Nat.le_of_ble_eq_true rfl) (t_guessOf hb hV3 hq hX42 he) ?_
      refine M_iastn (j := j) dX1_hearAll_58 hw.2.1.2 (by decide) (by omega) ?_
      refine V_aload_n (i := 0) dX1_hearAll_59 rfl 2 rfl ?_
      refine M_getR dX1_hearAll_60 lf_X1_17 rfl hw.1 hw.2.2.1.1 ?_
      refine V_iload dX1_hearAll_63 1 rfl ?_
      refine V_aload_n (i := 1) dX1_hearAll_65 rfl 3 rfl ?_
      refine V_aload_n (i := 0) dX1_hearAll_66 rfl 2 rfl ?_
      refine M_getR dX1_hearAll_67 lf_X1_11 rfl hw.1 hw.2.1.1 ?_
      refine V_iload dX1_hearAll_70 1 rfl ?_
      refine M_ialdn (j := j) (x := oI (gV V c j)) dX1_hearAll_72 hw.2.1.2 (by decide) (by omega) (up2_s) ?_
      refine M_callVp (As := [.int (oI (gV V c j))]) (st := [.int (nI j), .ref (w + 2)]) dX1_hearAll_73 lv_X1_67 ⟨by decide, by decide⟩ ⟨rfl, rfl⟩ rfl (ci := 0) hb.1 rfl rfl (Nat.le_of_ble_eq_true rfl) (t_useOf_o hb hV4 (o := gV V c j) (fun k hk => gsTo_lt _ hk)) ?_
      refine V_aload_n (i := 1) dX1_hearAll_76 rfl 3 rfl ?_
      refine V_aload_n (i := 2) dX1_hearAll_77 rfl 4 rfl ?_
      refine V_iload dX1_hearAll_78 0 rfl ?_
      refine M_callSp (As := [.ref (b), .ref (q), .int (nI (v_eo V j))]) (st := [.int (nI (usO V (gV V c j))), .int (nI j), .ref (w + 2)]) dX1_hearAll_80 ls_X1_70 ⟨by decide, by decide⟩ ⟨rfl, rfl⟩ rfl (Nat.le_of_ble_eq_true rfl) (t_usesThatFit hb hV4 hq hX4 he) ?_
      have hu1 : usO V (gV V c j) ≤ 99 := usO_le hV.ok (Nat.le_refl _)
      have hu2 : usF V (hearOf V c (v_eo V j) (v_sz V c) true) (v_eo V j) ≤ 1188 := usF_le hV.ok _ (Nat.le_refl _)
      refine M_callSp (As := [.int (nI (usO V (gV V c j))), .int (nI (usF V (hearOf V c (v_eo V j) (v_sz V c) true) (v_eo V j)))]) (st := [.int (nI j), .ref (w + 2)]) dX1_hearAll_83 ls_X1_73 ⟨by decide, by decide⟩ ⟨rfl, rfl⟩ rfl (Nat.le_of_ble_eq_true rfl) (t_perThousand (by omega) (by omega)) ?_
      refine M_iastn (j := j) dX1_hearAll_86 hw.2.2.1.2 (by decide) (by omega) ?_
      refine V_iinc (v := nI (j + 1)) (lv2 := [(4, .int (nI (j + 1))), (5, .int (nI (v_eo V j))), (0, .ref (w)), (1, .ref (b)), (2, .ref (q)), (3, .int (nI c))]) dX1_hearAll_87 1 rfl (nI_inc _) (by decide) rfl ?_
      refine V_goto (tgt := 20) dX1_hearAll_90 rfl ?_
      refine V_sub [0, 2, 3, 4, 5] rfl ?_
      exact M_at (ih20 (by omega) (up2 (up2 iv42 (w + 1) j (oI (gV V c j))) (w + 2) j (nI (lV V c j))) (fun a h1 h2 => by rw [up2_a (by omega), up2_a (by omega), hO42 a (by omega)]; exact hO a h1 h2) (by rw [up2_ne (by omega), up2_ne (by omega), hO42 w (by omega)]; exact h4) (fun m hm => ⟨(up2_ne (by omega)).trans (rowAdd (f := fun m => oI (gV V c m)) (fun i hi => (hr i hi).1) (hO42 (w + 1) (by omega)) rfl m hm), rowAdd (f := fun m => nI (lV V c m)) (fun i hi => (hr i hi).2) ((up2_a (by omega)).trans (hO42 (w + 2) (by omega))) rfl m hm⟩)) (rfl) rfl (rfl) (rfl)
  refine V_sub [0, 1, 2, 3, 4] rfl ?_
  exact M_at (lp20 0 (Nat.zero_le _) (up2 iv w 4 (nI (v_nm V))) (fun a h1 h2 => up2_a (by omega)) up2_s (fun m hm => absurd hm (by omega))) (rfl) rfl (rfl) (rfl)
set_option maxRecDepth 20000 in
theorem t_mostDone {g : Ev} {S : St} {iv : IV} {lw : LW} {w : Nat} (hw : IsCrowd S w) {t : Nat → Nat} (hT : XT iv w t) : CP g mX1_mostDone [.ref (w)] S iv lw (.int (oI (mdAll t))) := by
  refine CT_ofQ rfl (by decide) (Nat.le_of_ble_eq_true rfl) (lv := [(0, .ref (w))]) rfl (fun Q hQ => ?_)
  refine V_iconst (v := (-1)) dX1_mostDone_0 rfl ?_
  refine V_istore_n (lv2 := [(1, .int ((-1))), (0, .ref (w))]) dX1_mostDone_1 rfl (by decide) rfl ?_
  refine V_iconst (v := nI 0) dX1_mostDone_2 rfl ?_
  refine V_istore_n (lv2 := [(2, .int (nI 0)), (1, .int ((-1))), (0, .ref (w))]) dX1_mostDone_3 rfl (by decide) rfl ?_
  refine V_iconst (v := nI 0) dX1_mostDone_4 rfl ?_
  refine V_istore_n (lv2 := [(3, .int (nI 0)), (2, .int (nI 0)), (1, .int ((-1))), (0, .ref (w))]) dX1_mostDone_5 rfl (by decide) rfl ?_
  have lp6 : ∀ j, j ≤ 12 → VM g mX1_mostDone 6 [(1, .int (oI (mdTo t j))), (2, .int (nI (valO t (mdTo t j)))), (3, .int (nI j)), (0, .ref (w))] [] S iv lw Q := by
    refine up_ind fun j hj ih6 => ?_
    refine V_iload_n (i := 3) dX1_mostDone_6 rfl 2 rfl ?_
    refine V_aload_n (i := 0) dX1_mostDone_7 rfl 3 rfl ?_
    refine M_getR dX1_mostDone_8 lf_X1_23 rfl hw.1 hw.2.2.2.2.1 ?_
    refine M_alen (t := 0) dX1_mostDone_11 (by decide) hw.2.2.2.2.2 ?_
    refine V_icmp_ge (tgt := 40) dX1_mostDone_12 rfl (fun h12 => ?_) (fun h12 => ?_)
    · have h12 : 12 ≤ j := (nI_leI (by omega) (by omega)).mp h12
      refine V_iload_n (i := 1) dX1_mostDone_40 rfl 0 rfl ?_
      refine V_iret dX1_mostDone_41 ⟨rfl, rfl⟩ (Nat.zero_le _) (Nat.zero_le _) ?_
      subst hQ
      exact ⟨by rw [mdAll_eq, show j = 12 by omega], rfl⟩
    · have h12 : ¬ 12 ≤ j := fun q => h12 ((nI_leI (by omega) (by omega)).mpr q)
      refine V_aload_n (i := 0) dX1_mostDone_15 rfl 3 rfl ?_
      refine M_getR dX1_mostDone_16 lf_X1_23 rfl hw.1 hw.2.2.2.2.1 ?_
      refine V_iload_n (i := 3) dX1_mostDone_19 rfl 2 rfl ?_
      refine M_ialdn (j := j) (x := nI (t j)) dX1_mostDone_20 hw.2.2.2.2.2 (by decide) (by omega) ((hT _ (by omega)).2) ?_
      refine V_iload_n (i := 2) dX1_mostDone_21 rfl 1 rfl ?_
      have ht1 := (hT j (by omega)).1
      have ht2 := md_val (t := t) (M := 8) (fun c hc => (hT c hc).1) j (by omega)
      refine V_icmp_le (tgt := 34) dX1_mostDone_22 rfl (fun h22 => ?_) (fun h22 => ?_)
      · have h22 : (t j) ≤ (valO t (mdTo t j)) := (nI_leI (by omega) (by omega)).mp h22
        refine V_iinc (v := nI (j + 1)) (lv2 := [(3, .int (nI (j + 1))), (1, .int (oI (mdTo t j))), (2, .int (nI (valO t (mdTo t j)))), (0, .ref (w))]) dX1_mostDone_34 2 rfl (nI_inc _) (by decide) rfl ?_
        refine V_goto (tgt := 6) dX1_mostDone_37 rfl ?_
        refine V_sub [1, 2, 0, 3] rfl ?_
        exact M_at (ih6 (by omega)) (by rw [show mdTo t (j + 1) = _ from if_neg (Nat.not_lt.mpr h22)]; rfl) rfl (rfl) (rfl)
      · have h22 : ¬ (t j) ≤ (valO t (mdTo t j)) := fun q => h22 ((nI_leI (by omega) (by omega)).mpr q)
        refine V_iload_n (i := 3) dX1_mostDone_25 rfl 2 rfl ?_
        refine V_istore_n (lv2 := [(1, .int (nI j)), (2, .int (nI (valO t (mdTo t j)))), (3, .int (nI j)), (0, .ref (w))]) dX1_mostDone_26 rfl (by decide) rfl ?_
        refine V_aload_n (i := 0) dX1_mostDone_27 rfl 3 rfl ?_
        refine M_getR dX1_mostDone_28 lf_X1_23 rfl hw.1 hw.2.2.2.2.1 ?_
        refine V_iload_n (i := 3) dX1_mostDone_31 rfl 2 rfl ?_
        refine M_ialdn (j := j) (x := nI (t j)) dX1_mostDone_32 hw.2.2.2.2.2 (by decide) (by omega) ((hT _ (by omega)).2) ?_
        refine V_istore_n (lv2 := [(2, .int (nI (t j))), (1, .int (nI j)), (3, .int (nI j)), (0, .ref (w))]) dX1_mostDone_33 rfl (by decide) rfl ?_
        refine V_iinc (v := nI (j + 1)) (lv2 := [(3, .int (nI (j + 1))), (2, .int (nI (t j))), (1, .int (nI j)), (0, .ref (w))]) dX1_mostDone_34 2 rfl (nI_inc _) (by decide) rfl ?_
        refine V_goto (tgt := 6) dX1_mostDone_37 rfl ?_
        refine V_sub [2, 1, 0, 3] rfl ?_
        exact M_at (ih6 (by omega)) (by rw [show mdTo t (j + 1) = _ from if_pos (Nat.lt_of_not_le h22)]; rfl) rfl (rfl) (rfl)
  refine V_sub [2, 1, 0, 3] rfl ?_
  exact M_at (lp6 0 (Nat.zero_le _)) (rfl) rfl (rfl) (rfl)
set_option maxRecDepth 20000 in
theorem t_countDeed_some {g : Ev} {S : St} {iv : IV} {lw : LW} {w : Nat} (hw : IsCrowd S w) {t : Nat → Nat} (hT : ∀ c, c < 12 → iv (w + 4) c = nI (t c)) {c : Nat} (hc : c < 12) : CN g mX1_countDeed [.ref (w), .int (nI c)] S iv lw (fun iv2 lw2 => iv2 = up2 iv (w + 4) c (nI (t c + 1)) ∧ lw = lw2) := by
  refine CT_ofQ rfl (by decide) (Nat.le_of_ble_eq_true rfl) (lv := [(0, .ref (w)), (1, .int (nI c))]) rfl (fun Q hQ => ?_)
  refine V_iload_n (i := 1) dX1_countDeed_0 rfl 1 rfl ?_
  refine V_if_lt (tgt := 23) dX1_countDeed_1 rfl (fun q => absurd q (nI_pos (by omega))) (fun _ => ?_)
  refine V_iload_n (i := 1) dX1_countDeed_4 rfl 1 rfl ?_
  refine V_aload_n (i := 0) dX1_countDeed_5 rfl 0 rfl ?_
  refine M_getR dX1_countDeed_6 lf_X1_23 rfl hw.1 hw.2.2.2.2.1 ?_
  refine M_alen (t := 0) dX1_countDeed_9 (by decide) hw.2.2.2.2.2 ?_
  refine V_icmp_ge (tgt := 23) dX1_countDeed_10 rfl (fun q => absurd q (by show ¬ nI c ≥ nI 12; exact fun z => absurd ((nI_leI (by omega) (by omega)).mp z) (by omega))) (fun _ => ?_)
  refine V_aload_n (i := 0) dX1_countDeed_13 rfl 0 rfl ?_
  refine M_getR dX1_countDeed_14 lf_X1_23 rfl hw.1 hw.2.2.2.2.1 ?_
  refine V_iload_n (i := 1) dX1_countDeed_17 rfl 1 rfl ?_
  refine V_dup2_11 dX1_countDeed_18 rfl rfl ?_
  refine M_ialdn (j := c) (x := nI (t c)) dX1_countDeed_19 hw.2.2.2.2.2 (by decide) (by omega) (hT _ (by omega)) ?_
  refine V_iconst (v := nI 1) dX1_countDeed_20 rfl ?_
  refine V_iadd dX1_countDeed_21 ?_
  refine M_top (nI_add _ _) ?_
  refine M_iastn (j := c) dX1_countDeed_22 hw.2.2.2.2.2 (by decide) (by omega) ?_
  refine V_vret dX1_countDeed_23 ⟨rfl, rfl⟩ (Nat.zero_le _) (Nat.zero_le _) ?_
  subst hQ
  exact ⟨_, _, rfl, rfl, rfl, rfl⟩
set_option maxRecDepth 20000 in
theorem t_countDeed_none {g : Ev} {S : St} {iv : IV} {lw : LW} {w : Nat} (hw : IsCrowd S w) : CN g mX1_countDeed [.ref (w), .int ((-1))] S iv lw (fun iv2 lw2 => iv2 = iv ∧ lw = lw2) := by
  refine CT_ofQ rfl (by decide) (Nat.le_of_ble_eq_true rfl) (lv := [(0, .ref (w)), (1, .int ((-1)))]) rfl (fun Q hQ => ?_)
  refine V_iload_n (i := 1) dX1_countDeed_0 rfl 1 rfl ?_
  refine V_if_lt (tgt := 23) dX1_countDeed_1 rfl (fun _ => ?_) (fun q => absurd (by decide) q)
  refine V_vret dX1_countDeed_23 ⟨rfl, rfl⟩ (Nat.zero_le _) (Nat.zero_le _) ?_
  subst hQ
  exact ⟨_, _, rfl, rfl, rfl, rfl⟩
theorem t_countDeed {g : Ev} {S : St} {iv : IV} {lw : LW} {w : Nat} (hw : IsCrowd S w) {t : Nat → Nat} (hT : ∀ c, c < 12 → iv (w + 4) c = nI (t c)) {o : Option Nat} (ho : ∀ k, o = some k → k < 12) : CN g mX1_countDeed [.ref w, .int (oI o)] S iv lw (fun iv2 lw2 => lw = lw2 ∧ Off (w + 4) 1 iv iv2 ∧ ∀ c, c < 12 → iv2 (w + 4) c = nI (t c + if o = some c then 1 else 0)) := by
  cases o with
  | none =>
    refine CN.mono (t_countDeed_none hw) fun iv2 lw2 h => ?_
    obtain ⟨rfl, rfl⟩ := h
    exact ⟨rfl, Off.rf, fun c hc => by rw [if_neg (by simp)]; exact hT c hc⟩
  | some k =>
    refine CN.mono (t_countDeed_some hw hT (ho k rfl)) fun iv2 lw2 h => ?_
    obtain ⟨rfl, rfl⟩ := h
    refine ⟨rfl, Off.rf.up (by omega) (by omega), fun c hc => ?_⟩
    by_cases e : c = k
    · subst e; rw [up2_s, if_pos rfl]
    · rw [up2_k e, if_neg (fun z => e (by cases z; rfl))]; exact hT c hc
set_option maxRecDepth 20000 in
theorem t_doAll {g : Ev} {S : St} {iv : IV} {lw : LW} {w : Nat} (hw : IsCrowd S w) {g0 : Nat → Option Nat} {l0 : Nat → Nat} {nm : Nat} (hG : XG iv w g0 l0 nm) {b : Nat} (hb : IsCamp S b) {V : Cv} (hV : XC iv b V) (hd : b + 8 < w) (hnm : nm = v_nm V) {s : Nat} (hs : s ≤ 1000) : CN g mX1_doAll [.ref (w), .ref (b), .int (nI s)] S iv lw (fun iv2 lw2 => lw = lw2 ∧ XG iv2 w g0 l0 nm ∧ XD iv2 w (ddF g0 l0 (v_lk V) s nm) nm ∧ Off w 5 iv iv2) := by
  refine CT_ofQ rfl (by decide) (Nat.le_of_ble_eq_true rfl) (lv := [(0, .ref (w)), (1, .ref (b)), (2, .int (nI s))]) rfl (fun Q hQ => ?_)
  have hnm8 := hG.1.1
  refine V_aload_n (i := 0) dX1_doAll_0 rfl 0 rfl ?_
  refine M_getR dX1_doAll_1 lf_X1_23 rfl hw.1 hw.2.2.2.2.1 ?_
  refine V_iconst (v := nI 0) dX1_doAll_4 rfl ?_
  refine M_callSn (As := [.ref (w + 4), .int (nI 0)]) (st := []) dX1_doAll_5 ls_X1_76 ⟨by decide, by decide⟩ ⟨rfl, rfl⟩ rfl (Nat.le_of_ble_eq_true rfl) (t_fillI hw.2.2.2.2.2 (v := nI 0)) (fun iv5 lw5 q5 => ?_)
  obtain ⟨e2, rfl⟩ := q5
  refine V_iconst (v := nI 0) dX1_doAll_8 rfl ?_
  refine V_istore_n (lv2 := [(3, .int (nI 0)), (0, .ref (w)), (1, .ref (b)), (2, .int (nI s))]) dX1_doAll_9 rfl (by decide) rfl ?_
  have lp10 : ∀ j, j ≤ nm → ∀ iv2 : IV, Off w 5 iv iv2 → XG iv2 w g0 l0 nm → XD iv2 w (ddF g0 l0 (v_lk V) s j) j → (∀ c, c < 12 → iv2 (w + 4) c = nI ((fun c => cntTo (fun k => decide ((ddF g0 l0 (v_lk V) s j) k = some c)) j) c)) → VM g mX1_doAll 10 [(3, .int (nI j)), (0, .ref (w)), (1, .ref (b)), (2, .int (nI s))] [] S iv2 lw Q := by
    refine up_ind fun j hj ih10 => ?_
    intro iv2 hO hG2 hD hT2
    have hV2 : XC iv2 b V := hV.of (fun a h1 h2 => hO a (by omega))
    refine V_iload_n (i := 3) dX1_doAll_10 rfl 0 rfl ?_
    refine V_aload_n (i := 0) dX1_doAll_11 rfl 1 rfl ?_
    refine M_getI (x := nI nm) dX1_doAll_12 lf_X1_26 rfl hw.1 (hG2.2.1) ?_
    refine V_icmp_ge (tgt := 85) dX1_doAll_15 rfl (fun h15 => ?_) (fun h15 => ?_)
    · have h15 : nm ≤ j := (nI_leI (by omega) (by omega)).mp h15
      refine V_vret dX1_doAll_85 ⟨rfl, rfl⟩ (Nat.zero_le _) (Nat.zero_le _) ?_
      subst hQ
      obtain rfl : j = nm := by omega
      exact ⟨_, _, rfl, rfl, rfl, hG2, hD, hO⟩
    · have h15 : ¬ nm ≤ j := fun q => h15 ((nI_leI (by omega) (by omega)).mpr q)
      refine V_aload_n (i := 0) dX1_doAll_18 rfl 1 rfl ?_
      refine M_getR dX1_doAll_19 lf_X1_20 rfl hw.1 hw.2.2.2.1.1 ?_
      refine V_iload_n (i := 3) dX1_doAll_22 rfl 0 rfl ?_
      refine V_aload_n (i := 0) dX1_doAll_23 rfl 1 rfl ?_
      refine M_getR dX1_doAll_24 lf_X1_11 rfl hw.1 hw.2.1.1 ?_
      refine V_iload_n (i := 3) dX1_doAll_27 rfl 0 rfl ?_
      refine M_ialdn (j := j) (x := oI (g0 j)) dX1_doAll_28 hw.2.1.2 (by decide) (by omega) ((hG2.2.2 _ (by omega)).1) ?_
      refine M_iastn (j := j) dX1_doAll_29 hw.2.2.2.1.2 (by decide) (by omega) ?_
      refine V_aload_n (i := 0) dX1_doAll_30 rfl 1 rfl ?_
      refine M_getR dX1_doAll_31 lf_X1_17 rfl hw.1 hw.2.2.1.1 ?_
      refine V_iload_n (i := 3) dX1_doAll_34 rfl 0 rfl ?_
      refine M_ialdn (j := j) (x := nI (l0 j)) dX1_doAll_35 hw.2.2.1.2 (by decide) (by omega) ((up2_ne (by omega)).trans ((hG2.2.2 _ (by omega)).2)) ?_
      refine V_iload_n (i := 2) dX1_doAll_36 rfl 3 rfl ?_
      have hl0 := (hG.1.2 j (by omega)).2
      have hg0 := (hG.1.2 j (by omega)).1
      have hlk := hV.ok.lk (m := j) (by omega)
      refine V_icmp_ge (tgt := 69) dX1_doAll_37 rfl (fun h37 => ?_) (fun h37 => ?_)
      · have h37 : s ≤ (l0 j) := (nI_leI (by omega) (by omega)).mp h37
        refine V_aload_n (i := 0) dX1_doAll_69 rfl 1 rfl ?_
        refine V_aload_n (i := 0) dX1_doAll_70 rfl 1 rfl ?_
        refine M_getR dX1_doAll_71 lf_X1_20 rfl hw.1 hw.2.2.2.1.1 ?_
        refine V_iload_n (i := 3) dX1_doAll_74 rfl 0 rfl ?_
        refine M_ialdn (j := j) (x := oI (g0 j)) dX1_doAll_75 hw.2.2.2.1.2 (by decide) (by omega) (up2_s) ?_
        have hdn : (deedN g0 l0 (v_lk V) s (ddF g0 l0 (v_lk V) s j) j) = g0 j := by unfold deedN; exact if_neg (fun z => absurd z.1 (by omega))
        have hdl : ∀ k, (deedN g0 l0 (v_lk V) s (ddF g0 l0 (v_lk V) s j) j) = some k → k < 12 := deedN_lt hg0
        refine M_callVn (As := [.int (oI (g0 j))]) (st := []) dX1_doAll_76 lv_X1_89 ⟨by decide, by decide⟩ ⟨rfl, rfl⟩ rfl (ci := 1) hw.1 rfl rfl (Nat.le_of_ble_eq_true rfl) (t_countDeed hw (t := (fun c => cntTo (fun k => decide ((ddF g0 l0 (v_lk V) s j) k = some c)) j)) (o := g0 j) (fun c hc => by rw [up2_ne (by omega)]; exact hT2 c hc) (by rw [← hdn]; exact hdl)) (fun iv76 lw76 q76 => ?_)
        obtain ⟨e1, hO76, hT76⟩ := q76
        subst e1
        have hup : ∀ a, a ≠ w + 3 → a ≠ w + 4 → iv76 a = iv2 a := fun a h1 h2 => by rw [hO76 a (by omega)]; exact up2_a h1
        have hOa : Off w 5 iv iv76 := fun a ha => (hup a (by omega) (by omega)).trans (hO a ha)
        have hGa : XG iv76 w g0 l0 nm := hG2.of (hup w (by omega) (by omega)) (hup (w + 1) (by omega) (by omega)) (hup (w + 2) (by omega) (by omega))
        have hDa : XD iv76 w (ddF g0 l0 (v_lk V) s (j + 1)) (j + 1) := fun m hm => by
          show (∀ k, (if m = j then (deedN g0 l0 (v_lk V) s (ddF g0 l0 (v_lk V) s j) j) else (ddF g0 l0 (v_lk V) s j) m) = some k → k < 12) ∧ iv76 (w + 3) m = oI (if m = j then (deedN g0 l0 (v_lk V) s (ddF g0 l0 (v_lk V) s j) j) else (ddF g0 l0 (v_lk V) s j) m)
          by_cases e9 : m = j
          · subst e9
            rw [if_pos rfl]
            exact ⟨hdl, by rw [hO76 (w + 3) (by omega), up2_s, hdn]⟩
          · rw [if_neg e9]
            exact ⟨(hD m (by omega)).1, by rw [hO76 (w + 3) (by omega), up2_k e9]; exact (hD m (by omega)).2⟩
        have hTa : ∀ c, c < 12 → iv76 (w + 4) c = nI (cntTo (fun k => decide (ddF g0 l0 (v_lk V) s (j + 1) k = some c)) (j + 1)) := fun c hc => by
          rw [hT76 c hc, ← hdn]
          show nI (cntTo (fun k => decide ((ddF g0 l0 (v_lk V) s j) k = some c)) j + _) = nI (sumTo (fun i => if decide (ddF g0 l0 (v_lk V) s (j + 1) i = some c) = true then 1 else 0) j + (if decide (ddF g0 l0 (v_lk V) s (j + 1) j = some c) = true then 1 else 0))
          have e8 : ∀ i, i < j → (if decide (ddF g0 l0 (v_lk V) s (j + 1) i = some c) = true then 1 else 0) = (if decide ((ddF g0 l0 (v_lk V) s j) i = some c) = true then 1 else 0) := fun i hi => by rw [show ddF g0 l0 (v_lk V) s (j + 1) i = (ddF g0 l0 (v_lk V) s j) i from if_neg (by omega)]
          rw [sumTo_congr j e8, show ddF g0 l0 (v_lk V) s (j + 1) j = (deedN g0 l0 (v_lk V) s (ddF g0 l0 (v_lk V) s j) j) from if_pos rfl]
          unfold cntTo
          simp only [decide_eq_true_eq]
        refine V_iinc (v := nI (j + 1)) (lv2 := [(3, .int (nI (j + 1))), (0, .ref (w)), (1, .ref (b)), (2, .int (nI s))]) dX1_doAll_79 0 rfl (nI_inc _) (by decide) rfl ?_
        refine V_goto (tgt := 10) dX1_doAll_82 rfl ?_
        refine V_sub [0, 1, 2, 3] rfl ?_
        exact M_at (ih10 (by omega) iv76 hOa hGa hDa hTa) (rfl) rfl (rfl) (rfl)
      · have h37 : ¬ s ≤ (l0 j) := fun q => h37 ((nI_leI (by omega) (by omega)).mpr q)
        refine V_aload_n (i := 1) dX1_doAll_40 rfl 2 rfl ?_
        refine V_iload_n (i := 3) dX1_doAll_41 rfl 0 rfl ?_
        refine M_callVp (As := [.int (nI j)]) (st := []) dX1_doAll_42 lv_X1_82 ⟨by decide, by decide⟩ ⟨rfl, rfl⟩ rfl (ci := 0) hb.1 rfl rfl (Nat.le_of_ble_eq_true rfl) (t_X0_lookOf hb (hV2.of (fun a h1 h2 => up2_a (by omega))) (m := j) (by omega)) ?_
        refine V_iconst (v := nI 1) dX1_doAll_45 rfl ?_
        refine V_icmp_ne (tgt := 69) dX1_doAll_46 rfl (fun h46 => ?_) (fun h46 => ?_)
        · have h46 : ¬ (v_lk V j) = 1 := fun q => h46 ((nI_eq (by omega) (by omega)).mpr q)
          refine V_aload_n (i := 0) dX1_doAll_69 rfl 1 rfl ?_
          refine V_aload_n (i := 0) dX1_doAll_70 rfl 1 rfl ?_
          refine M_getR dX1_doAll_71 lf_X1_20 rfl hw.1 hw.2.2.2.1.1 ?_
          refine V_iload_n (i := 3) dX1_doAll_74 rfl 0 rfl ?_
          refine M_ialdn (j := j) (x := oI (g0 j)) dX1_doAll_75 hw.2.2.2.1.2 (by decide) (by omega) (up2_s) ?_
          have hdn : (deedN g0 l0 (v_lk V) s (ddF g0 l0 (v_lk V) s j) j) = g0 j := by unfold deedN; exact if_neg (fun z => absurd z.2.1 (by omega))
          have hdl : ∀ k, (deedN g0 l0 (v_lk V) s (ddF g0 l0 (v_lk V) s j) j) = some k → k < 12 := deedN_lt hg0
          refine M_callVn (As := [.int (oI (g0 j))]) (st := []) dX1_doAll_76 lv_X1_89 ⟨by decide, by decide⟩ ⟨rfl, rfl⟩ rfl (ci := 1) hw.1 rfl rfl (Nat.le_of_ble_eq_true rfl) (t_countDeed hw (t := (fun c => cntTo (fun k => decide ((ddF g0 l0 (v_lk V) s j) k = some c)) j)) (o := g0 j) (fun c hc => by rw [up2_ne (by omega)]; exact hT2 c hc) (by rw [← hdn]; exact hdl)) (fun iv76 lw76 q76 => ?_)
          obtain ⟨e1, hO76, hT76⟩ := q76
          subst e1
          have hup : ∀ a, a ≠ w + 3 → a ≠ w + 4 → iv76 a = iv2 a := fun a h1 h2 => by rw [hO76 a (by omega)]; exact up2_a h1
          have hOa : Off w 5 iv iv76 := fun a ha => (hup a (by omega) (by omega)).trans (hO a ha)
          have hGa : XG iv76 w g0 l0 nm := hG2.of (hup w (by omega) (by omega)) (hup (w + 1) (by omega) (by omega)) (hup (w + 2) (by omega) (by omega))
          have hDa : XD iv76 w (ddF g0 l0 (v_lk V) s (j + 1)) (j + 1) := fun m hm => by
            show (∀ k, (if m = j then (deedN g0 l0 (v_lk V) s (ddF g0 l0 (v_lk V) s j) j) else (ddF g0 l0 (v_lk V) s j) m) = some k → k < 12) ∧ iv76 (w + 3) m = oI (if m = j then (deedN g0 l0 (v_lk V) s (ddF g0 l0 (v_lk V) s j) j) else (ddF g0 l0 (v_lk V) s j) m)
            by_cases e9 : m = j
            · subst e9
              rw [if_pos rfl]
              exact ⟨hdl, by rw [hO76 (w + 3) (by omega), up2_s, hdn]⟩
            · rw [if_neg e9]
              exact ⟨(hD m (by omega)).1, by rw [hO76 (w + 3) (by omega), up2_k e9]; exact (hD m (by omega)).2⟩
          have hTa : ∀ c, c < 12 → iv76 (w + 4) c = nI (cntTo (fun k => decide (ddF g0 l0 (v_lk V) s (j + 1) k = some c)) (j + 1)) := fun c hc => by
            rw [hT76 c hc, ← hdn]
            show nI (cntTo (fun k => decide ((ddF g0 l0 (v_lk V) s j) k = some c)) j + _) = nI (sumTo (fun i => if decide (ddF g0 l0 (v_lk V) s (j + 1) i = some c) = true then 1 else 0) j + (if decide (ddF g0 l0 (v_lk V) s (j + 1) j = some c) = true then 1 else 0))
            have e8 : ∀ i, i < j → (if decide (ddF g0 l0 (v_lk V) s (j + 1) i = some c) = true then 1 else 0) = (if decide ((ddF g0 l0 (v_lk V) s j) i = some c) = true then 1 else 0) := fun i hi => by rw [show ddF g0 l0 (v_lk V) s (j + 1) i = (ddF g0 l0 (v_lk V) s j) i from if_neg (by omega)]
            rw [sumTo_congr j e8, show ddF g0 l0 (v_lk V) s (j + 1) j = (deedN g0 l0 (v_lk V) s (ddF g0 l0 (v_lk V) s j) j) from if_pos rfl]
            unfold cntTo
            simp only [decide_eq_true_eq]
          refine V_iinc (v := nI (j + 1)) (lv2 := [(3, .int (nI (j + 1))), (0, .ref (w)), (1, .ref (b)), (2, .int (nI s))]) dX1_doAll_79 0 rfl (nI_inc _) (by decide) rfl ?_
          refine V_goto (tgt := 10) dX1_doAll_82 rfl ?_
          refine V_sub [0, 1, 2, 3] rfl ?_
          exact M_at (ih10 (by omega) iv76 hOa hGa hDa hTa) (rfl) rfl (rfl) (rfl)
        · have h46 : (v_lk V j) = 1 := (nI_eq (by omega) (by omega)).mp h46
          refine V_aload_n (i := 0) dX1_doAll_49 rfl 1 rfl ?_
          refine M_callVp (As := []) (st := []) dX1_doAll_50 lv_X1_85 ⟨by decide, by decide⟩ ⟨rfl, rfl⟩ rfl (ci := 1) hw.1 rfl rfl (Nat.le_of_ble_eq_true rfl) (t_mostDone hw (t := (fun c => cntTo (fun k => decide ((ddF g0 l0 (v_lk V) s j) k = some c)) j)) (fun c hc => ⟨Nat.le_trans (cntTo_le _ _) (by omega), (up2_ne (by omega)).trans (hT2 c hc)⟩)) ?_
          refine V_istore (lv2 := [(4, .int (oI (mdAll (fun c => cntTo (fun k => decide ((ddF g0 l0 (v_lk V) s j) k = some c)) j)))), (3, .int (nI j)), (0, .ref (w)), (1, .ref (b)), (2, .int (nI s))]) dX1_doAll_53 (by decide) rfl ?_
          refine V_iload dX1_doAll_55 0 rfl ?_
          refine V_iconst (v := (-1)) dX1_doAll_57 rfl ?_
          refine V_icmp_eq (tgt := 69) dX1_doAll_58 rfl (fun h58 => ?_) (fun h58 => ?_)
          · have h58 := (oI_m1 mdAll_lt (by omega)).mp h58
            refine V_aload_n (i := 0) dX1_doAll_69 rfl 2 rfl ?_
            refine V_aload_n (i := 0) dX1_doAll_70 rfl 2 rfl ?_
            refine M_getR dX1_doAll_71 lf_X1_20 rfl hw.1 hw.2.2.2.1.1 ?_
            refine V_iload_n (i := 3) dX1_doAll_74 rfl 1 rfl ?_
            refine M_ialdn (j := j) (x := oI (g0 j)) dX1_doAll_75 hw.2.2.2.1.2 (by decide) (by omega) (up2_s) ?_
            have hdn : (deedN g0 l0 (v_lk V) s (ddF g0 l0 (v_lk V) s j) j) = g0 j := by unfold deedN; exact if_neg (fun z => z.2.2 h58)
            have hdl : ∀ k, (deedN g0 l0 (v_lk V) s (ddF g0 l0 (v_lk V) s j) j) = some k → k < 12 := deedN_lt hg0
            refine M_callVn (As := [.int (oI (g0 j))]) (st := []) dX1_doAll_76 lv_X1_89 ⟨by decide, by decide⟩ ⟨rfl, rfl⟩ rfl (ci := 1) hw.1 rfl rfl (Nat.le_of_ble_eq_true rfl) (t_countDeed hw (t := (fun c => cntTo (fun k => decide ((ddF g0 l0 (v_lk V) s j) k = some c)) j)) (o := g0 j) (fun c hc => by rw [up2_ne (by omega)]; exact hT2 c hc) (by rw [← hdn]; exact hdl)) (fun iv76 lw76 q76 => ?_)
            obtain ⟨e1, hO76, hT76⟩ := q76
            subst e1
            have hup : ∀ a, a ≠ w + 3 → a ≠ w + 4 → iv76 a = iv2 a := fun a h1 h2 => by rw [hO76 a (by omega)]; exact up2_a h1
            have hOa : Off w 5 iv iv76 := fun a ha => (hup a (by omega) (by omega)).trans (hO a ha)
            have hGa : XG iv76 w g0 l0 nm := hG2.of (hup w (by omega) (by omega)) (hup (w + 1) (by omega) (by omega)) (hup (w + 2) (by omega) (by omega))
            have hDa : XD iv76 w (ddF g0 l0 (v_lk V) s (j + 1)) (j + 1) := fun m hm => by
              show (∀ k, (if m = j then (deedN g0 l0 (v_lk V) s (ddF g0 l0 (v_lk V) s j) j) else (ddF g0 l0 (v_lk V) s j) m) = some k → k < 12) ∧ iv76 (w + 3) m = oI (if m = j then (deedN g0 l0 (v_lk V) s (ddF g0 l0 (v_lk V) s j) j) else (ddF g0 l0 (v_lk V) s j) m)
              by_cases e9 : m = j
              · subst e9
                rw [if_pos rfl]
                exact ⟨hdl, by rw [hO76 (w + 3) (by omega), up2_s, hdn]⟩
              · rw [if_neg e9]
                exact ⟨(hD m (by omega)).1, by rw [hO76 (w + 3) (by omega), up2_k e9]; exact (hD m (by omega)).2⟩
            have hTa : ∀ c, c < 12 → iv76 (w + 4) c = nI (cntTo (fun k => decide (ddF g0 l0 (v_lk V) s (j + 1) k = some c)) (j + 1)) := fun c hc => by
              rw [hT76 c hc, ← hdn]
              show nI (cntTo (fun k => decide ((ddF g0 l0 (v_lk V) s j) k = some c)) j + _) = nI (sumTo (fun i => if decide (ddF g0 l0 (v_lk V) s (j + 1) i = some c) = true then 1 else 0) j + (if decide (ddF g0 l0 (v_lk V) s (j + 1) j = some c) = true then 1 else 0))
              have e8 : ∀ i, i < j → (if decide (ddF g0 l0 (v_lk V) s (j + 1) i = some c) = true then 1 else 0) = (if decide ((ddF g0 l0 (v_lk V) s j) i = some c) = true then 1 else 0) := fun i hi => by rw [show ddF g0 l0 (v_lk V) s (j + 1) i = (ddF g0 l0 (v_lk V) s j) i from if_neg (by omega)]
              rw [sumTo_congr j e8, show ddF g0 l0 (v_lk V) s (j + 1) j = (deedN g0 l0 (v_lk V) s (ddF g0 l0 (v_lk V) s j) j) from if_pos rfl]
              unfold cntTo
              simp only [decide_eq_true_eq]
            refine V_iinc (v := nI (j + 1)) (lv2 := [(3, .int (nI (j + 1))), (4, .int (oI (mdAll (fun c => cntTo (fun k => decide ((ddF g0 l0 (v_lk V) s j) k = some c)) j)))), (0, .ref (w)), (1, .ref (b)), (2, .int (nI s))]) dX1_doAll_79 1 rfl (nI_inc _) (by decide) rfl ?_
            refine V_goto (tgt := 10) dX1_doAll_82 rfl ?_
            refine V_sub [0, 2, 3, 4] rfl ?_
            exact M_at (ih10 (by omega) iv76 hOa hGa hDa hTa) (rfl) rfl (rfl) (rfl)
          · have h58 : ¬ mdAll (fun c => cntTo (fun k => decide ((ddF g0 l0 (v_lk V) s j) k = some c)) j) = none := fun z => h58 ((oI_m1 mdAll_lt (by omega)).mpr z)
            refine V_aload_n (i := 0) dX1_doAll_61 rfl 2 rfl ?_
            refine M_getR dX1_doAll_62 lf_X1_20 rfl hw.1 hw.2.2.2.1.1 ?_
            refine V_iload_n (i := 3) dX1_doAll_65 rfl 1 rfl ?_
            refine V_iload dX1_doAll_66 0 rfl ?_
            refine M_iastn (j := j) dX1_doAll_68 hw.2.2.2.1.2 (by decide) (by omega) ?_
            refine V_aload_n (i := 0) dX1_doAll_69 rfl 2 rfl ?_
            refine V_aload_n (i := 0) dX1_doAll_70 rfl 2 rfl ?_
            refine M_getR dX1_doAll_71 lf_X1_20 rfl hw.1 hw.2.2.2.1.1 ?_
            refine V_iload_n (i := 3) dX1_doAll_74 rfl 1 rfl ?_
            refine M_ialdn (j := j) (x := oI (mdAll (fun c => cntTo (fun k => decide ((ddF g0 l0 (v_lk V) s j) k = some c)) j))) dX1_doAll_75 hw.2.2.2.1.2 (by decide) (by omega) (up2_s) ?_
            have hdn : (deedN g0 l0 (v_lk V) s (ddF g0 l0 (v_lk V) s j) j) = mdAll (fun c => cntTo (fun k => decide ((ddF g0 l0 (v_lk V) s j) k = some c)) j) := by unfold deedN; exact if_pos ⟨Nat.lt_of_not_le h37, h46, h58⟩
            have hdl : ∀ k, (deedN g0 l0 (v_lk V) s (ddF g0 l0 (v_lk V) s j) j) = some k → k < 12 := deedN_lt hg0
            refine M_callVn (As := [.int (oI (mdAll (fun c => cntTo (fun k => decide ((ddF g0 l0 (v_lk V) s j) k = some c)) j)))]) (st := []) dX1_doAll_76 lv_X1_89 ⟨by decide, by decide⟩ ⟨rfl, rfl⟩ rfl (ci := 1) hw.1 rfl rfl (Nat.le_of_ble_eq_true rfl) (t_countDeed hw (t := (fun c => cntTo (fun k => decide ((ddF g0 l0 (v_lk V) s j) k = some c)) j)) (o := mdAll (fun c => cntTo (fun k => decide ((ddF g0 l0 (v_lk V) s j) k = some c)) j)) (fun c hc => by rw [up2_ne (by omega), up2_ne (by omega)]; exact hT2 c hc) (by rw [← hdn]; exact hdl)) (fun iv76 lw76 q76 => ?_)
            obtain ⟨e1, hO76, hT76⟩ := q76
            subst e1
            have hup : ∀ a, a ≠ w + 3 → a ≠ w + 4 → iv76 a = iv2 a := fun a h1 h2 => by rw [hO76 a (by omega), up2_a h1]; exact up2_a h1
            have hOa : Off w 5 iv iv76 := fun a ha => (hup a (by omega) (by omega)).trans (hO a ha)
            have hGa : XG iv76 w g0 l0 nm := hG2.of (hup w (by omega) (by omega)) (hup (w + 1) (by omega) (by omega)) (hup (w + 2) (by omega) (by omega))
            have hDa : XD iv76 w (ddF g0 l0 (v_lk V) s (j + 1)) (j + 1) := fun m hm => by
              show (∀ k, (if m = j then (deedN g0 l0 (v_lk V) s (ddF g0 l0 (v_lk V) s j) j) else (ddF g0 l0 (v_lk V) s j) m) = some k → k < 12) ∧ iv76 (w + 3) m = oI (if m = j then (deedN g0 l0 (v_lk V) s (ddF g0 l0 (v_lk V) s j) j) else (ddF g0 l0 (v_lk V) s j) m)
              by_cases e9 : m = j
              · subst e9
                rw [if_pos rfl]
                exact ⟨hdl, by rw [hO76 (w + 3) (by omega), up2_s, hdn]⟩
              · rw [if_neg e9]
                exact ⟨(hD m (by omega)).1, by rw [hO76 (w + 3) (by omega), up2_k e9, up2_k e9]; exact (hD m (by omega)).2⟩
            have hTa : ∀ c, c < 12 → iv76 (w + 4) c = nI (cntTo (fun k => decide (ddF g0 l0 (v_lk V) s (j + 1) k = some c)) (j + 1)) := fun c hc => by
              rw [hT76 c hc, ← hdn]
              show nI (cntTo (fun k => decide ((ddF g0 l0 (v_lk V) s j) k = some c)) j + _) = nI (sumTo (fun i => if decide (ddF g0 l0 (v_lk V) s (j + 1) i = some c) = true then 1 else 0) j + (if decide (ddF g0 l0 (v_lk V) s (j + 1) j = some c) = true then 1 else 0))
              have e8 : ∀ i, i < j → (if decide (ddF g0 l0 (v_lk V) s (j + 1) i = some c) = true then 1 else 0) = (if decide ((ddF g0 l0 (v_lk V) s j) i = some c) = true then 1 else 0) := fun i hi => by rw [show ddF g0 l0 (v_lk V) s (j + 1) i = (ddF g0 l0 (v_lk V) s j) i from if_neg (by omega)]
              rw [sumTo_congr j e8, show ddF g0 l0 (v_lk V) s (j + 1) j = (deedN g0 l0 (v_lk V) s (ddF g0 l0 (v_lk V) s j) j) from if_pos rfl]
              unfold cntTo
              simp only [decide_eq_true_eq]
            refine V_iinc (v := nI (j + 1)) (lv2 := [(3, .int (nI (j + 1))), (4, .int (oI (mdAll (fun c => cntTo (fun k => decide ((ddF g0 l0 (v_lk V) s j) k = some c)) j)))), (0, .ref (w)), (1, .ref (b)), (2, .int (nI s))]) dX1_doAll_79 1 rfl (nI_inc _) (by decide) rfl ?_
            refine V_goto (tgt := 10) dX1_doAll_82 rfl ?_
            refine V_sub [0, 2, 3, 4] rfl ?_
            exact M_at (ih10 (by omega) iv76 hOa hGa hDa hTa) (rfl) rfl (rfl) (rfl)
  refine V_sub [0, 1, 2, 3] rfl ?_
  exact M_at (lp10 0 (Nat.zero_le _) iv5 (by subst e2; exact wrTo_off Off.rf (by omega) (by omega) _) (by subst e2; exact hG.of (wrTo_n (by omega) _) (wrTo_n (by omega) _) (wrTo_n (by omega) _)) (fun m hm => absurd hm (by omega)) (fun c hc => by subst e2; exact wrTo_in _ hc)) (rfl) rfl (rfl) (rfl)
set_option maxRecDepth 20000 in
theorem t_deedOf {g : Ev} {S : St} {iv : IV} {lw : LW} {w : Nat} (hw : IsCrowd S w) {g0 : Nat → Option Nat} {l0 : Nat → Nat} {nm : Nat} (hG : XG iv w g0 l0 nm) {d : Nat → Option Nat} (hD : XD iv w d nm) {m : Nat} (hm : m < nm) : CP g mX1_deedOf [.ref (w), .int (nI m)] S iv lw (.int (oI (d m))) := by
  refine CT_ofQ rfl (by decide) (Nat.le_of_ble_eq_true rfl) (lv := [(0, .ref (w)), (1, .int (nI m))]) rfl (fun Q hQ => ?_)
  have hnm8 := hG.1.1
  refine V_iload_n (i := 1) dX1_deedOf_0 rfl 1 rfl ?_
  refine V_if_lt (tgt := 30) dX1_deedOf_1 rfl (fun q => absurd q (nI_pos (by omega))) (fun _ => ?_)
  refine V_iload_n (i := 1) dX1_deedOf_4 rfl 1 rfl ?_
  refine V_aload_n (i := 0) dX1_deedOf_5 rfl 0 rfl ?_
  refine M_getI (x := nI nm) dX1_deedOf_6 lf_X1_26 rfl hw.1 (hG.2.1) ?_
  refine V_icmp_ge (tgt := 30) dX1_deedOf_9 rfl (fun h9 => ?_) (fun h9 => ?_)
  · have h9 : nm ≤ m := (nI_leI (by omega) (by omega)).mp h9
    exact absurd h9 (by omega)
  · have h9 : ¬ nm ≤ m := fun q => h9 ((nI_leI (by omega) (by omega)).mpr q)
    refine V_iload_n (i := 1) dX1_deedOf_12 rfl 1 rfl ?_
    refine V_aload_n (i := 0) dX1_deedOf_13 rfl 0 rfl ?_
    refine M_getR dX1_deedOf_14 lf_X1_20 rfl hw.1 hw.2.2.2.1.1 ?_
    refine M_alen (t := 0) dX1_deedOf_17 (by decide) hw.2.2.2.1.2 ?_
    refine V_icmp_ge (tgt := 30) dX1_deedOf_18 rfl (fun q => absurd q (fun z => absurd ((nI_leI (by omega) (by omega)).mp z) (by omega))) (fun _ => ?_)
    refine V_aload_n (i := 0) dX1_deedOf_21 rfl 0 rfl ?_
    refine M_getR dX1_deedOf_22 lf_X1_20 rfl hw.1 hw.2.2.2.1.1 ?_
    refine V_iload_n (i := 1) dX1_deedOf_25 rfl 1 rfl ?_
    refine M_ialdn (j := m) (x := oI (d m)) dX1_deedOf_26 hw.2.2.2.1.2 (by decide) (by omega) ((hD _ (by omega)).2) ?_
    refine V_goto (tgt := 31) dX1_deedOf_27 rfl ?_
    refine V_iret dX1_deedOf_31 ⟨rfl, rfl⟩ (Nat.zero_le _) (Nat.zero_le _) ?_
    subst hQ
    exact ⟨rfl, rfl⟩
set_option maxRecDepth 20000 in
theorem t_countDoing {g : Ev} {S : St} {iv : IV} {lw : LW} {w : Nat} (hw : IsCrowd S w) {g0 : Nat → Option Nat} {l0 : Nat → Nat} {nm : Nat} (hG : XG iv w g0 l0 nm) {d : Nat → Option Nat} (hD : XD iv w d nm) {c : Nat} (hc : c < 12) : CP g mX1_countDoing [.ref (w), .int (nI c)] S iv lw (.int (nI (cntTo (fun m => decide (d m = some c)) nm))) := by
  refine CT_ofQ rfl (by decide) (Nat.le_of_ble_eq_true rfl) (lv := [(0, .ref (w)), (1, .int (nI c))]) rfl (fun Q hQ => ?_)
  have hnm8 := hG.1.1
  refine V_iconst (v := nI 0) dX1_countDoing_0 rfl ?_
  refine V_istore_n (lv2 := [(2, .int (nI 0)), (0, .ref (w)), (1, .int (nI c))]) dX1_countDoing_1 rfl (by decide) rfl ?_
  refine V_iconst (v := nI 0) dX1_countDoing_2 rfl ?_
  refine V_istore_n (lv2 := [(3, .int (nI 0)), (2, .int (nI 0)), (0, .ref (w)), (1, .int (nI c))]) dX1_countDoing_3 rfl (by decide) rfl ?_
  have lp4 : ∀ j, j ≤ nm → VM g mX1_countDoing 4 [(2, .int (nI (cntTo (fun m => decide (d m = some c)) j))), (3, .int (nI j)), (0, .ref (w)), (1, .int (nI c))] [] S iv lw Q := by
    refine up_ind fun j hj ih4 => ?_
    refine V_iload_n (i := 3) dX1_countDoing_4 rfl 1 rfl ?_
    refine V_aload_n (i := 0) dX1_countDoing_5 rfl 2 rfl ?_
    refine M_getI (x := nI nm) dX1_countDoing_6 lf_X1_26 rfl hw.1 (hG.2.1) ?_
    refine V_icmp_ge (tgt := 30) dX1_countDoing_9 rfl (fun h9 => ?_) (fun h9 => ?_)
    · have h9 : nm ≤ j := (nI_leI (by omega) (by omega)).mp h9
      refine V_iload_n (i := 2) dX1_countDoing_30 rfl 0 rfl ?_
      refine V_iret dX1_countDoing_31 ⟨rfl, rfl⟩ (Nat.zero_le _) (Nat.zero_le _) ?_
      subst hQ
      exact ⟨by rw [show j = nm by omega], rfl⟩
    · have h9 : ¬ nm ≤ j := fun q => h9 ((nI_leI (by omega) (by omega)).mpr q)
      refine V_aload_n (i := 0) dX1_countDoing_12 rfl 2 rfl ?_
      refine V_iload_n (i := 3) dX1_countDoing_13 rfl 1 rfl ?_
      refine M_callVp (As := [.int (nI j)]) (st := []) dX1_countDoing_14 lv_X1_93 ⟨by decide, by decide⟩ ⟨rfl, rfl⟩ rfl (ci := 1) hw.1 rfl rfl (Nat.le_of_ble_eq_true rfl) (t_deedOf hw hG hD (m := j) (by omega)) ?_
      refine V_iload_n (i := 1) dX1_countDoing_17 rfl 3 rfl ?_
      refine V_icmp_ne (tgt := 24) dX1_countDoing_18 rfl (fun h18 => ?_) (fun h18 => ?_)
      · have h18 : ¬ d j = some c := fun z => h18 (by rw [z]; rfl)
        refine V_iinc (v := nI (j + 1)) (lv2 := [(3, .int (nI (j + 1))), (2, .int (nI (cntTo (fun m => decide (d m = some c)) j))), (0, .ref (w)), (1, .int (nI c))]) dX1_countDoing_24 1 rfl (nI_inc _) (by decide) rfl ?_
        refine V_goto (tgt := 4) dX1_countDoing_27 rfl ?_
        refine V_sub [1, 0, 2, 3] rfl ?_
        exact M_at (ih4 (by omega)) (by rw [cntTo_f (decide_eq_false h18)]; rfl) rfl (rfl) (rfl)
      · have h18 : d j = some c := (oI_eq (hD j (by omega)).1 (by omega) hc).mp h18.symm
        refine V_iinc (v := nI ((cntTo (fun m => decide (d m = some c)) j) + 1)) (lv2 := [(2, .int (nI ((cntTo (fun m => decide (d m = some c)) j) + 1))), (3, .int (nI j)), (0, .ref (w)), (1, .int (nI c))]) dX1_countDoing_21 0 rfl (nI_inc _) (by decide) rfl ?_
        refine V_iinc (v := nI (j + 1)) (lv2 := [(3, .int (nI (j + 1))), (2, .int (nI ((cntTo (fun m => decide (d m = some c)) j) + 1))), (0, .ref (w)), (1, .int (nI c))]) dX1_countDoing_24 1 rfl (nI_inc _) (by decide) rfl ?_
        refine V_goto (tgt := 4) dX1_countDoing_27 rfl ?_
        refine V_sub [1, 0, 2, 3] rfl ?_
        exact M_at (ih4 (by omega)) (by rw [cntTo_t (decide_eq_true h18)]; rfl) rfl (rfl) (rfl)
  refine V_sub [1, 0, 2, 3] rfl ?_
  exact M_at (lp4 0 (Nat.zero_le _)) (rfl) rfl (rfl) (rfl)
set_option maxRecDepth 20000 in
theorem t_firstNotDoing {g : Ev} {S : St} {iv : IV} {lw : LW} {w : Nat} (hw : IsCrowd S w) {g0 : Nat → Option Nat} {l0 : Nat → Nat} {nm : Nat} (hG : XG iv w g0 l0 nm) {d : Nat → Option Nat} (hD : XD iv w d nm) {c : Nat} (hc : c < 12) : CP g mX1_firstNotDoing [.ref (w), .int (nI c)] S iv lw (.int (oI (ffO (fun m => !decide (d m = none) && !decide (d m = some c)) nm))) := by
  refine CT_ofQ rfl (by decide) (Nat.le_of_ble_eq_true rfl) (lv := [(0, .ref (w)), (1, .int (nI c))]) rfl (fun Q hQ => ?_)
  have hnm8 := hG.1.1
  refine V_iconst (v := nI 0) dX1_firstNotDoing_0 rfl ?_
  refine V_istore_n (lv2 := [(2, .int (nI 0)), (0, .ref (w)), (1, .int (nI c))]) dX1_firstNotDoing_1 rfl (by decide) rfl ?_
  have lp2 : ∀ j, j ≤ nm → (∀ k, k < j → (fun m => !decide (d m = none) && !decide (d m = some c)) k = false) → VM g mX1_firstNotDoing 2 [(2, .int (nI j)), (0, .ref (w)), (1, .int (nI c))] [] S iv lw Q := by
    refine up_ind fun j hj ih2 => ?_
    intro hal
    refine V_iload_n (i := 2) dX1_firstNotDoing_2 rfl 0 rfl ?_
    refine V_aload_n (i := 0) dX1_firstNotDoing_3 rfl 1 rfl ?_
    refine M_getI (x := nI nm) dX1_firstNotDoing_4 lf_X1_26 rfl hw.1 (hG.2.1) ?_
    refine V_icmp_ge (tgt := 36) dX1_firstNotDoing_7 rfl (fun h7 => ?_) (fun h7 => ?_)
    · have h7 : nm ≤ j := (nI_leI (by omega) (by omega)).mp h7
      refine V_iconst (v := (-1)) dX1_firstNotDoing_36 rfl ?_
      refine V_iret dX1_firstNotDoing_37 ⟨rfl, rfl⟩ (Nat.zero_le _) (Nat.zero_le _) ?_
      subst hQ
      exact ⟨by rw [ffO_none (fun k hk => hal k (by omega))]; rfl, rfl⟩
    · have h7 : ¬ nm ≤ j := fun q => h7 ((nI_leI (by omega) (by omega)).mpr q)
      refine V_aload_n (i := 0) dX1_firstNotDoing_10 rfl 1 rfl ?_
      refine V_iload_n (i := 2) dX1_firstNotDoing_11 rfl 0 rfl ?_
      refine M_callVp (As := [.int (nI j)]) (st := []) dX1_firstNotDoing_12 lv_X1_93 ⟨by decide, by decide⟩ ⟨rfl, rfl⟩ rfl (ci := 1) hw.1 rfl rfl (Nat.le_of_ble_eq_true rfl) (t_deedOf hw hG hD (m := j) (by omega)) ?_
      refine V_iconst (v := (-1)) dX1_firstNotDoing_15 rfl ?_
      refine V_icmp_eq (tgt := 30) dX1_firstNotDoing_16 rfl (fun h16 => ?_) (fun h16 => ?_)
      · have h16 := (oI_m1 (hD j (by omega)).1 (by omega)).mp h16
        refine V_iinc (v := nI (j + 1)) (lv2 := [(2, .int (nI (j + 1))), (0, .ref (w)), (1, .int (nI c))]) dX1_firstNotDoing_30 0 rfl (nI_inc _) (by decide) rfl ?_
        refine V_goto (tgt := 2) dX1_firstNotDoing_33 rfl ?_
        refine V_sub [0, 1, 2] rfl ?_
        exact M_at (ih2 (by omega) (fun k hk => (Nat.lt_or_ge k j).elim (hal k) (fun z => by have e9 : k = j := (by omega); rw [e9]; simp [h16]))) (rfl) rfl (rfl) (rfl)
      · have h16 : ¬ d j = none := fun z => h16 ((oI_m1 (hD j (by omega)).1 (by omega)).mpr z)
        refine V_aload_n (i := 0) dX1_firstNotDoing_19 rfl 1 rfl ?_
        refine V_iload_n (i := 2) dX1_firstNotDoing_20 rfl 0 rfl ?_
        refine M_callVp (As := [.int (nI j)]) (st := []) dX1_firstNotDoing_21 lv_X1_93 ⟨by decide, by decide⟩ ⟨rfl, rfl⟩ rfl (ci := 1) hw.1 rfl rfl (Nat.le_of_ble_eq_true rfl) (t_deedOf hw hG hD (m := j) (by omega)) ?_
        refine V_iload_n (i := 1) dX1_firstNotDoing_24 rfl 2 rfl ?_
        refine V_icmp_eq (tgt := 30) dX1_firstNotDoing_25 rfl (fun h25 => ?_) (fun h25 => ?_)
        · have h25 : d j = some c := (oI_eq (hD j (by omega)).1 (by omega) hc).mp h25.symm
          refine V_iinc (v := nI (j + 1)) (lv2 := [(2, .int (nI (j + 1))), (0, .ref (w)), (1, .int (nI c))]) dX1_firstNotDoing_30 0 rfl (nI_inc _) (by decide) rfl ?_
          refine V_goto (tgt := 2) dX1_firstNotDoing_33 rfl ?_
          refine V_sub [0, 1, 2] rfl ?_
          exact M_at (ih2 (by omega) (fun k hk => (Nat.lt_or_ge k j).elim (hal k) (fun z => by have e9 : k = j := (by omega); rw [e9]; simp [h25]))) (rfl) rfl (rfl) (rfl)
        · have h25 : ¬ d j = some c := fun z => h25 (by rw [z]; rfl)
          refine V_iload_n (i := 2) dX1_firstNotDoing_28 rfl 0 rfl ?_
          refine V_iret dX1_firstNotDoing_29 ⟨rfl, rfl⟩ (Nat.zero_le _) (Nat.zero_le _) ?_
          subst hQ
          exact ⟨by rw [ffO_at (by omega) hal (by simp [h16, h25])]; rfl, rfl⟩
  refine V_sub [0, 1, 2] rfl ?_
  exact M_at (lp2 0 (Nat.zero_le _) (fun k hk => absurd hk (by omega))) (rfl) rfl (rfl) (rfl)
set_option maxRecDepth 20000 in
theorem t_notByGuess {g : Ev} {S : St} {iv : IV} {lw : LW} {w : Nat} (hw : IsCrowd S w) {g0 : Nat → Option Nat} {l0 : Nat → Nat} {nm : Nat} (hG : XG iv w g0 l0 nm) {d : Nat → Option Nat} (hD : XD iv w d nm) : CP g mX1_notByGuess [.ref (w)] S iv lw (.int (nI (btTo (fun m => !decide (d m = g0 m)) nm))) := by
  refine CT_ofQ rfl (by decide) (Nat.le_of_ble_eq_true rfl) (lv := [(0, .ref (w))]) rfl (fun Q hQ => ?_)
  have hnm8 := hG.1.1
  refine V_iconst (v := nI 0) dX1_notByGuess_0 rfl ?_
  refine V_istore_n (lv2 := [(1, .int (nI 0)), (0, .ref (w))]) dX1_notByGuess_1 rfl (by decide) rfl ?_
  refine V_iconst (v := nI 0) dX1_notByGuess_2 rfl ?_
  refine V_istore_n (lv2 := [(2, .int (nI 0)), (1, .int (nI 0)), (0, .ref (w))]) dX1_notByGuess_3 rfl (by decide) rfl ?_
  have lp4 : ∀ j, j ≤ nm → VM g mX1_notByGuess 4 [(1, .int (nI (btTo (fun m => !decide (d m = g0 m)) j))), (2, .int (nI j)), (0, .ref (w))] [] S iv lw Q := by
    refine up_ind fun j hj ih4 => ?_
    refine V_iload_n (i := 2) dX1_notByGuess_4 rfl 1 rfl ?_
    refine V_aload_n (i := 0) dX1_notByGuess_5 rfl 2 rfl ?_
    refine M_getI (x := nI nm) dX1_notByGuess_6 lf_X1_26 rfl hw.1 (hG.2.1) ?_
    refine V_icmp_ge (tgt := 39) dX1_notByGuess_9 rfl (fun h9 => ?_) (fun h9 => ?_)
    · have h9 : nm ≤ j := (nI_leI (by omega) (by omega)).mp h9
      refine V_iload_n (i := 1) dX1_notByGuess_39 rfl 0 rfl ?_
      refine V_iret dX1_notByGuess_40 ⟨rfl, rfl⟩ (Nat.zero_le _) (Nat.zero_le _) ?_
      subst hQ
      exact ⟨by rw [show j = nm by omega], rfl⟩
    · have h9 : ¬ nm ≤ j := fun q => h9 ((nI_leI (by omega) (by omega)).mpr q)
      refine V_aload_n (i := 0) dX1_notByGuess_12 rfl 2 rfl ?_
      refine M_getR dX1_notByGuess_13 lf_X1_20 rfl hw.1 hw.2.2.2.1.1 ?_
      refine V_iload_n (i := 2) dX1_notByGuess_16 rfl 1 rfl ?_
      refine M_ialdn (j := j) (x := oI (d j)) dX1_notByGuess_17 hw.2.2.2.1.2 (by decide) (by omega) ((hD _ (by omega)).2) ?_
      refine V_aload_n (i := 0) dX1_notByGuess_18 rfl 2 rfl ?_
      refine M_getR dX1_notByGuess_19 lf_X1_11 rfl hw.1 hw.2.1.1 ?_
      refine V_iload_n (i := 2) dX1_notByGuess_22 rfl 1 rfl ?_
      refine M_ialdn (j := j) (x := oI (g0 j)) dX1_notByGuess_23 hw.2.1.2 (by decide) (by omega) ((hG.2.2 _ (by omega)).1) ?_
      refine V_icmp_eq (tgt := 33) dX1_notByGuess_24 rfl (fun h24 => ?_) (fun h24 => ?_)
      · have h24 := (oI_inj (hD j (by omega)).1 (hG.1.2 j (by omega)).1).mp h24
        refine V_iinc (v := nI (j + 1)) (lv2 := [(2, .int (nI (j + 1))), (1, .int (nI (btTo (fun m => !decide (d m = g0 m)) j))), (0, .ref (w))]) dX1_notByGuess_33 1 rfl (nI_inc _) (by decide) rfl ?_
        refine V_goto (tgt := 4) dX1_notByGuess_36 rfl ?_
        refine V_sub [1, 0, 2] rfl ?_
        exact M_at (ih4 (by omega)) (by rw [show btTo (fun m => !decide (d m = g0 m)) (j + 1) = _ from if_neg (by simp [h24])]; rfl) rfl (rfl) (rfl)
      · have h24 : ¬ d j = g0 j := fun z => h24 (by rw [z])
        refine V_iload_n (i := 1) dX1_notByGuess_27 rfl 0 rfl ?_
        refine V_iconst (v := nI 1) dX1_notByGuess_28 rfl ?_
        refine V_iload_n (i := 2) dX1_notByGuess_29 rfl 1 rfl ?_
        refine V_ishl dX1_notByGuess_30 ?_
        refine M_top (x2 := nI (2 ^ j)) ((nI_shl (by omega) _).trans (by rw [Nat.one_mul])) ?_
        refine V_ior dX1_notByGuess_31 ?_
        refine M_top (x2 := nI (btTo (fun m => !decide (d m = g0 m)) j ||| 2 ^ j)) (nI_or _ _) ?_
        refine V_istore_n (lv2 := [(1, .int (nI (btTo (fun m => !decide (d m = g0 m)) j ||| 2 ^ j))), (2, .int (nI j)), (0, .ref (w))]) dX1_notByGuess_32 rfl (by decide) rfl ?_
        refine V_iinc (v := nI (j + 1)) (lv2 := [(2, .int (nI (j + 1))), (1, .int (nI (btTo (fun m => !decide (d m = g0 m)) j ||| 2 ^ j))), (0, .ref (w))]) dX1_notByGuess_33 1 rfl (nI_inc _) (by decide) rfl ?_
        refine V_goto (tgt := 4) dX1_notByGuess_36 rfl ?_
        refine V_sub [1, 0, 2] rfl ?_
        exact M_at (ih4 (by omega)) (by rw [show btTo (fun m => !decide (d m = g0 m)) (j + 1) = _ from if_pos (by simp [h24])]; rfl) rfl (rfl) (rfl)
  refine V_sub [1, 0, 2] rfl ?_
  exact M_at (lp4 0 (Nat.zero_le _)) (rfl) rfl (rfl) (rfl)
set_option maxRecDepth 20000 in
theorem t_hearAndDo {g : Ev} {S : St} {iv : IV} {lw : LW} {w : Nat} (hw : IsCrowd S w) {b : Nat} (hb : IsCamp S b) {V : Cv} (hV : XC iv b V) {q : Nat} (hq : IsHear S q) (hd : b + 8 < q) (hd2 : q + 1 < w) {c : Nat} (hc : c < v_nc V) : CN g mX1_hearAndDo [.ref (w), .ref (b), .ref (q), .int (nI c)] S iv lw (fun iv2 lw2 => lw = lw2 ∧ XG iv2 w (gV V c) (lV V c) (v_nm V) ∧ XD iv2 w (ddF (gV V c) (lV V c) (v_lk V) (v_su V) (v_nm V)) (v_nm V) ∧ Of2 q 2 w 5 iv iv2) := by
  refine CT_ofQ rfl (by decide) (Nat.le_of_ble_eq_true rfl) (lv := [(0, .ref (w)), (1, .ref (b)), (2, .ref (q)), (3, .int (nI c))]) rfl (fun Q hQ => ?_)
  have hsu := hV.ok.su
  refine V_aload_n (i := 0) dX1_hearAndDo_0 rfl 0 rfl ?_
  refine V_aload_n (i := 1) dX1_hearAndDo_1 rfl 1 rfl ?_
  refine V_aload_n (i := 2) dX1_hearAndDo_2 rfl 2 rfl ?_
  refine V_iload_n (i := 3) dX1_hearAndDo_3 rfl 3 rfl ?_
  refine M_callVn (As := [.ref (b), .ref (q), .int (nI c)]) (st := []) dX1_hearAndDo_4 lv_X1_30 ⟨by decide, by decide⟩ ⟨rfl, rfl⟩ rfl (ci := 1) hw.1 rfl rfl (Nat.le_of_ble_eq_true rfl) (t_hearAll hw hb hV hq hd hd2 hc) (fun iv4 lw4 q4 => ?_)
  obtain ⟨e1, hG4, hO4⟩ := q4
  subst e1
  have hV4 : XC iv4 b V := hV.of (fun a h1 h2 => hO4 a (by omega) (by omega))
  refine V_aload_n (i := 0) dX1_hearAndDo_7 rfl 0 rfl ?_
  refine V_aload_n (i := 1) dX1_hearAndDo_8 rfl 1 rfl ?_
  refine V_aload_n (i := 1) dX1_hearAndDo_9 rfl 1 rfl ?_
  refine M_getI (x := nI (v_su V)) dX1_hearAndDo_10 lf_X1_34 rfl hb.1 (hV4.su) ?_
  refine M_callVn (As := [.ref (b), .int (nI (v_su V))]) (st := []) dX1_hearAndDo_13 lv_X1_37 ⟨by decide, by decide⟩ ⟨rfl, rfl⟩ rfl (ci := 1) hw.1 rfl rfl (Nat.le_of_ble_eq_true rfl) (t_doAll hw hG4 hb hV4 (by omega) rfl hsu) (fun iv13 lw13 q13 => ?_)
  obtain ⟨e1, hG13, hD13, hO13⟩ := q13
  subst e1
  refine V_vret dX1_hearAndDo_16 ⟨rfl, rfl⟩ (Nat.zero_le _) (Nat.zero_le _) ?_
  subst hQ
  exact ⟨_, _, rfl, rfl, rfl, hG13, hD13, hO4.r hO13⟩
set_option maxRecDepth 20000 in
theorem t_leastSure {g : Ev} {S : St} {iv : IV} {lw : LW} {w : Nat} (hw : IsCrowd S w) {b : Nat} (hb : IsCamp S b) {V : Cv} (hV : XC iv b V) {q : Nat} (hq : IsHear S q) (hd : b + 8 < q) (hd2 : q + 1 < w) {c : Nat} (hc : c < v_nc V) : CQ g mX1_leastSure [.ref (w), .ref (b), .ref (q), .int (nI c)] S iv lw (fun w9 iv2 lw2 => w9 = .int (oI ((ffO (fun i => decide (cntTo (fun m => decide (ddF (gV V c) (lV V c) (v_lk V) (10 * i) (v_nm V) m = some c)) (v_nm V) = v_nm V)) 101).map (10 * ·))) ∧ lw = lw2 ∧ Of2 q 2 w 5 iv iv2) := by
  refine CT_ofQ rfl (by decide) (Nat.le_of_ble_eq_true rfl) (lv := [(0, .ref (w)), (1, .ref (b)), (2, .ref (q)), (3, .int (nI c))]) rfl (fun Q hQ => ?_)
  have hnm := hV.ok.nm
  have hnc := hV.ok.nc
  refine V_aload_n (i := 0) dX1_leastSure_0 rfl 0 rfl ?_
  refine V_aload_n (i := 1) dX1_leastSure_1 rfl 1 rfl ?_
  refine V_aload_n (i := 2) dX1_leastSure_2 rfl 2 rfl ?_
  refine V_iload_n (i := 3) dX1_leastSure_3 rfl 3 rfl ?_
  refine M_callVn (As := [.ref (b), .ref (q), .int (nI c)]) (st := []) dX1_leastSure_4 lv_X1_30 ⟨by decide, by decide⟩ ⟨rfl, rfl⟩ rfl (ci := 1) hw.1 rfl rfl (Nat.le_of_ble_eq_true rfl) (t_hearAll hw hb hV hq hd hd2 hc) (fun iv4 lw4 q4 => ?_)
  obtain ⟨e1, hG4, hO4⟩ := q4
  subst e1
  refine V_iconst (v := nI 0) dX1_leastSure_7 rfl ?_
  refine V_istore (lv2 := [(4, .int (nI 0)), (0, .ref (w)), (1, .ref (b)), (2, .ref (q)), (3, .int (nI c))]) dX1_leastSure_8 (by decide) rfl ?_
  have lp10 : ∀ j, j ≤ 101 → ∀ iv2 : IV, Of2 q 2 w 5 iv iv2 → XG iv2 w (gV V c) (lV V c) (v_nm V) → (∀ k, k < j → (fun i => decide (cntTo (fun m => decide (ddF (gV V c) (lV V c) (v_lk V) (10 * i) (v_nm V) m = some c)) (v_nm V) = v_nm V)) k = false) → VM g mX1_leastSure 10 [(4, .int (nI (10 * j))), (0, .ref (w)), (1, .ref (b)), (2, .ref (q)), (3, .int (nI c))] [] S iv2 lw Q := by
    refine up_ind fun j hj ih10 => ?_
    intro iv2 hO hG hal
    have hV2 : XC iv2 b V := hV.of (fun a h1 h2 => hO a (by omega) (by omega))
    refine V_iload dX1_leastSure_10 0 rfl ?_
    refine V_sipush (v := nI 1000) dX1_leastSure_12 rfl ?_
    refine V_icmp_gt (tgt := 46) dX1_leastSure_15 rfl (fun h15 => ?_) (fun h15 => ?_)
    · have h15 : 1000 < (10 * j) := (nI_ltI (by omega) (by omega)).mp h15
      refine V_iconst (v := (-1)) dX1_leastSure_46 rfl ?_
      refine V_iret dX1_leastSure_47 ⟨rfl, rfl⟩ (Nat.zero_le _) (Nat.zero_le _) ?_
      subst hQ
      exact ⟨_, _, _, rfl, rfl, by rw [ffO_none (fun k hk => hal k (by omega))]; rfl, rfl, hO⟩
    · have h15 : ¬ 1000 < (10 * j) := fun q => h15 ((nI_ltI (by omega) (by omega)).mpr q)
      refine V_aload_n (i := 0) dX1_leastSure_18 rfl 1 rfl ?_
      refine V_aload_n (i := 1) dX1_leastSure_19 rfl 2 rfl ?_
      refine V_iload dX1_leastSure_20 0 rfl ?_
      refine M_callVn (As := [.ref (b), .int (nI (10 * j))]) (st := []) dX1_leastSure_22 lv_X1_37 ⟨by decide, by decide⟩ ⟨rfl, rfl⟩ rfl (ci := 1) hw.1 rfl rfl (Nat.le_of_ble_eq_true rfl) (t_doAll hw hG hb hV2 (by omega) rfl (s := 10 * j) (by omega)) (fun iv22 lw22 q22 => ?_)
      obtain ⟨e1, hG22, hD22, hO22⟩ := q22
      subst e1
      refine V_aload_n (i := 0) dX1_leastSure_25 rfl 1 rfl ?_
      refine V_iload_n (i := 3) dX1_leastSure_26 rfl 4 rfl ?_
      refine M_callVp (As := [.int (nI c)]) (st := []) dX1_leastSure_27 lv_X1_96 ⟨by decide, by decide⟩ ⟨rfl, rfl⟩ rfl (ci := 1) hw.1 rfl rfl (Nat.le_of_ble_eq_true rfl) (t_countDoing hw hG22 hD22 (c := c) (by omega)) ?_
      refine V_aload_n (i := 0) dX1_leastSure_30 rfl 1 rfl ?_
      refine M_getI (x := nI (v_nm V)) dX1_leastSure_31 lf_X1_26 rfl hw.1 (hG22.2.1) ?_
      have hcl := cntTo_le (fun m => decide (ddF (gV V c) (lV V c) (v_lk V) (10 * j) (v_nm V) m = some c)) (v_nm V)
      refine V_icmp_ne (tgt := 40) dX1_leastSure_34 rfl (fun h34 => ?_) (fun h34 => ?_)
      · have h34 : ¬ (cntTo (fun m => decide (ddF (gV V c) (lV V c) (v_lk V) (10 * j) (v_nm V) m = some c)) (v_nm V)) = (v_nm V) := fun q => h34 ((nI_eq (by omega) (by omega)).mpr q)
        refine V_iinc (v := nI (10 * (j + 1))) (lv2 := [(4, .int (nI (10 * (j + 1)))), (0, .ref (w)), (1, .ref (b)), (2, .ref (q)), (3, .int (nI c))]) dX1_leastSure_40 0 rfl ((nI_add (10 * j) 10).trans (by congr 1)) (by decide) rfl ?_
        refine V_goto (tgt := 10) dX1_leastSure_43 rfl ?_
        refine V_sub [0, 1, 2, 3, 4] rfl ?_
        exact M_at (ih10 (by omega) iv22 (hO.r hO22) hG22 (fun k hk => (Nat.lt_or_ge k j).elim (hal k) (fun z => by have e9 : k = j := (by omega); rw [e9]; exact decide_eq_false h34))) (rfl) rfl (rfl) (rfl)
      · have h34 : (cntTo (fun m => decide (ddF (gV V c) (lV V c) (v_lk V) (10 * j) (v_nm V) m = some c)) (v_nm V)) = (v_nm V) := (nI_eq (by omega) (by omega)).mp h34
        refine V_iload dX1_leastSure_37 0 rfl ?_
        refine V_iret dX1_leastSure_39 ⟨rfl, rfl⟩ (Nat.zero_le _) (Nat.zero_le _) ?_
        subst hQ
        exact ⟨_, _, _, rfl, rfl, by rw [ffO_at (show j < 101 by omega) hal (decide_eq_true h34)]; rfl, rfl, hO.r hO22⟩
  refine V_sub [0, 1, 2, 3, 4] rfl ?_
  exact M_at (lp10 0 (Nat.zero_le _) iv4 hO4 hG4 (fun k hk => absurd hk (by omega))) (rfl) rfl (rfl) (rfl)
