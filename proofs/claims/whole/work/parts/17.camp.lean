set_option maxRecDepth 20000 in
theorem t_X0_isUse {g : Ev} {S : St} {iv : IV} {lw : LW} {v : Int32} : CP g mX0_isUse [.int (v)] S iv lw (.int (bI ((1 : Int) ≤ v.toInt ∧ v.toInt ≤ 99))) := by
  refine CT_ofQ rfl (by decide) (Nat.le_of_ble_eq_true rfl) (lv := [(0, .int (v))]) rfl (fun Q hQ => ?_)
  refine V_iload_n (i := 0) dX0_isUse_0 rfl 0 rfl ?_
  refine V_iconst (v := nI 1) dX0_isUse_1 rfl ?_
  refine V_icmp_lt (tgt := 15) dX0_isUse_2 rfl (fun h2 => ?_) (fun h2 => ?_)
  · have h2 : v.toInt < (1 : Int) := by have q := Int32.lt_iff_toInt_lt.mp h2; rw [nI_toInt (n := 1) (by omega)] at q; exact q
    refine V_iconst (v := nI 0) dX0_isUse_15 rfl ?_
    refine V_zret dX0_isUse_16 ⟨rfl, rfl⟩ (by rfl) (Nat.zero_le _) (Nat.zero_le _) ?_
    subst hQ
    exact ⟨by rw [bI_f (by omega)], rfl⟩
  · have h2 : ¬ v.toInt < (1 : Int) := fun r => h2 (Int32.lt_iff_toInt_lt.mpr (by rw [nI_toInt (n := 1) (by omega)]; exact r))
    refine V_iload_n (i := 0) dX0_isUse_5 rfl 0 rfl ?_
    refine V_bipush (v := nI 99) dX0_isUse_6 rfl ?_
    refine V_icmp_gt (tgt := 15) dX0_isUse_8 rfl (fun h8 => ?_) (fun h8 => ?_)
    · have h8 : (99 : Int) < v.toInt := by have q := Int32.lt_iff_toInt_lt.mp h8; rw [nI_toInt (n := 99) (by omega)] at q; exact q
      refine V_iconst (v := nI 0) dX0_isUse_15 rfl ?_
      refine V_zret dX0_isUse_16 ⟨rfl, rfl⟩ (by rfl) (Nat.zero_le _) (Nat.zero_le _) ?_
      subst hQ
      exact ⟨by rw [bI_f (by omega)], rfl⟩
    · have h8 : ¬ (99 : Int) < v.toInt := fun r => h8 (Int32.lt_iff_toInt_lt.mpr (by rw [nI_toInt (n := 99) (by omega)]; exact r))
      refine V_iconst (v := nI 1) dX0_isUse_11 rfl ?_
      refine V_goto (tgt := 16) dX0_isUse_12 rfl ?_
      refine V_zret dX0_isUse_16 ⟨rfl, rfl⟩ (by rfl) (Nat.zero_le _) (Nat.zero_le _) ?_
      subst hQ
      exact ⟨by rw [bI_t (by omega)], rfl⟩
set_option maxRecDepth 20000 in
theorem t_X0_isCost {g : Ev} {S : St} {iv : IV} {lw : LW} {v : Int32} : CP g mX0_isCost [.int (v)] S iv lw (.int (bI ((0 : Int) ≤ v.toInt ∧ v.toInt ≤ 99))) := by
  refine CT_ofQ rfl (by decide) (Nat.le_of_ble_eq_true rfl) (lv := [(0, .int (v))]) rfl (fun Q hQ => ?_)
  refine V_iload_n (i := 0) dX0_isCost_0 rfl 0 rfl ?_
  refine V_if_lt (tgt := 14) dX0_isCost_1 rfl (fun h1 => ?_) (fun h1 => ?_)
  · have h1 : v.toInt < 0 := by have q := i_neg.mp h1; exact q
    refine V_iconst (v := nI 0) dX0_isCost_14 rfl ?_
    refine V_zret dX0_isCost_15 ⟨rfl, rfl⟩ (by rfl) (Nat.zero_le _) (Nat.zero_le _) ?_
    subst hQ
    exact ⟨by rw [bI_f (by omega)], rfl⟩
  · have h1 : ¬ v.toInt < 0 := fun r => h1 (i_neg.mpr (by exact r))
    refine V_iload_n (i := 0) dX0_isCost_4 rfl 0 rfl ?_
    refine V_bipush (v := nI 99) dX0_isCost_5 rfl ?_
    refine V_icmp_gt (tgt := 14) dX0_isCost_7 rfl (fun h7 => ?_) (fun h7 => ?_)
    · have h7 : (99 : Int) < v.toInt := by have q := Int32.lt_iff_toInt_lt.mp h7; rw [nI_toInt (n := 99) (by omega)] at q; exact q
      refine V_iconst (v := nI 0) dX0_isCost_14 rfl ?_
      refine V_zret dX0_isCost_15 ⟨rfl, rfl⟩ (by rfl) (Nat.zero_le _) (Nat.zero_le _) ?_
      subst hQ
      exact ⟨by rw [bI_f (by omega)], rfl⟩
    · have h7 : ¬ (99 : Int) < v.toInt := fun r => h7 (Int32.lt_iff_toInt_lt.mpr (by rw [nI_toInt (n := 99) (by omega)]; exact r))
      refine V_iconst (v := nI 1) dX0_isCost_10 rfl ?_
      refine V_goto (tgt := 15) dX0_isCost_11 rfl ?_
      refine V_zret dX0_isCost_15 ⟨rfl, rfl⟩ (by rfl) (Nat.zero_le _) (Nat.zero_le _) ?_
      subst hQ
      exact ⟨by rw [bI_t (by omega)], rfl⟩
set_option maxRecDepth 20000 in
theorem t_X0_isSure {g : Ev} {S : St} {iv : IV} {lw : LW} {v : Int32} : CP g mX0_isSure [.int (v)] S iv lw (.int (bI ((0 : Int) ≤ v.toInt ∧ v.toInt ≤ 1000))) := by
  refine CT_ofQ rfl (by decide) (Nat.le_of_ble_eq_true rfl) (lv := [(0, .int (v))]) rfl (fun Q hQ => ?_)
  refine V_iload_n (i := 0) dX0_isSure_0 rfl 0 rfl ?_
  refine V_if_lt (tgt := 15) dX0_isSure_1 rfl (fun h1 => ?_) (fun h1 => ?_)
  · have h1 : v.toInt < 0 := by have q := i_neg.mp h1; exact q
    refine V_iconst (v := nI 0) dX0_isSure_15 rfl ?_
    refine V_zret dX0_isSure_16 ⟨rfl, rfl⟩ (by rfl) (Nat.zero_le _) (Nat.zero_le _) ?_
    subst hQ
    exact ⟨by rw [bI_f (by omega)], rfl⟩
  · have h1 : ¬ v.toInt < 0 := fun r => h1 (i_neg.mpr (by exact r))
    refine V_iload_n (i := 0) dX0_isSure_4 rfl 0 rfl ?_
    refine V_sipush (v := nI 1000) dX0_isSure_5 rfl ?_
    refine V_icmp_gt (tgt := 15) dX0_isSure_8 rfl (fun h8 => ?_) (fun h8 => ?_)
    · have h8 : (1000 : Int) < v.toInt := by have q := Int32.lt_iff_toInt_lt.mp h8; rw [nI_toInt (n := 1000) (by omega)] at q; exact q
      refine V_iconst (v := nI 0) dX0_isSure_15 rfl ?_
      refine V_zret dX0_isSure_16 ⟨rfl, rfl⟩ (by rfl) (Nat.zero_le _) (Nat.zero_le _) ?_
      subst hQ
      exact ⟨by rw [bI_f (by omega)], rfl⟩
    · have h8 : ¬ (1000 : Int) < v.toInt := fun r => h8 (Int32.lt_iff_toInt_lt.mpr (by rw [nI_toInt (n := 1000) (by omega)]; exact r))
      refine V_iconst (v := nI 1) dX0_isSure_11 rfl ?_
      refine V_goto (tgt := 16) dX0_isSure_12 rfl ?_
      refine V_zret dX0_isSure_16 ⟨rfl, rfl⟩ (by rfl) (Nat.zero_le _) (Nat.zero_le _) ?_
      subst hQ
      exact ⟨by rw [bI_t (by omega)], rfl⟩
set_option maxRecDepth 20000 in
theorem t_X0_isLost {g : Ev} {S : St} {iv : IV} {lw : LW} {v : Int32} : CP g mX0_isLost [.int (v)] S iv lw (.int (bI ((0 : Int) ≤ v.toInt ∧ v.toInt ≤ 100))) := by
  refine CT_ofQ rfl (by decide) (Nat.le_of_ble_eq_true rfl) (lv := [(0, .int (v))]) rfl (fun Q hQ => ?_)
  refine V_iload_n (i := 0) dX0_isLost_0 rfl 0 rfl ?_
  refine V_if_lt (tgt := 14) dX0_isLost_1 rfl (fun h1 => ?_) (fun h1 => ?_)
  · have h1 : v.toInt < 0 := by have q := i_neg.mp h1; exact q
    refine V_iconst (v := nI 0) dX0_isLost_14 rfl ?_
    refine V_zret dX0_isLost_15 ⟨rfl, rfl⟩ (by rfl) (Nat.zero_le _) (Nat.zero_le _) ?_
    subst hQ
    exact ⟨by rw [bI_f (by omega)], rfl⟩
  · have h1 : ¬ v.toInt < 0 := fun r => h1 (i_neg.mpr (by exact r))
    refine V_iload_n (i := 0) dX0_isLost_4 rfl 0 rfl ?_
    refine V_bipush (v := nI 100) dX0_isLost_5 rfl ?_
    refine V_icmp_gt (tgt := 14) dX0_isLost_7 rfl (fun h7 => ?_) (fun h7 => ?_)
    · have h7 : (100 : Int) < v.toInt := by have q := Int32.lt_iff_toInt_lt.mp h7; rw [nI_toInt (n := 100) (by omega)] at q; exact q
      refine V_iconst (v := nI 0) dX0_isLost_14 rfl ?_
      refine V_zret dX0_isLost_15 ⟨rfl, rfl⟩ (by rfl) (Nat.zero_le _) (Nat.zero_le _) ?_
      subst hQ
      exact ⟨by rw [bI_f (by omega)], rfl⟩
    · have h7 : ¬ (100 : Int) < v.toInt := fun r => h7 (Int32.lt_iff_toInt_lt.mpr (by rw [nI_toInt (n := 100) (by omega)]; exact r))
      refine V_iconst (v := nI 1) dX0_isLost_10 rfl ?_
      refine V_goto (tgt := 15) dX0_isLost_11 rfl ?_
      refine V_zret dX0_isLost_15 ⟨rfl, rfl⟩ (by rfl) (Nat.zero_le _) (Nat.zero_le _) ?_
      subst hQ
      exact ⟨by rw [bI_t (by omega)], rfl⟩
set_option maxRecDepth 20000 in
theorem t_X0_isLook {g : Ev} {S : St} {iv : IV} {lw : LW} {v : Int32} : CP g mX0_isLook [.int (v)] S iv lw (.int (bI (v.toInt = 0 ∨ v.toInt = 1))) := by
  refine CT_ofQ rfl (by decide) (Nat.le_of_ble_eq_true rfl) (lv := [(0, .int (v))]) rfl (fun Q hQ => ?_)
  refine V_iload_n (i := 0) dX0_isLook_0 rfl 0 rfl ?_
  refine V_if_eq (tgt := 9) dX0_isLook_1 rfl (fun h1 => ?_) (fun h1 => ?_)
  · have h1 : v.toInt = 0 := by have q := i_eq0.mp h1; exact q
    refine V_iconst (v := nI 1) dX0_isLook_9 rfl ?_
    refine V_goto (tgt := 14) dX0_isLook_10 rfl ?_
    refine V_zret dX0_isLook_14 ⟨rfl, rfl⟩ (by rfl) (Nat.zero_le _) (Nat.zero_le _) ?_
    subst hQ
    exact ⟨by rw [bI_t (by omega)], rfl⟩
  · have h1 : ¬ v.toInt = 0 := fun r => h1 (i_eq0.mpr (by exact r))
    refine V_iload_n (i := 0) dX0_isLook_4 rfl 0 rfl ?_
    refine V_iconst (v := nI 1) dX0_isLook_5 rfl ?_
    refine V_icmp_ne (tgt := 13) dX0_isLook_6 rfl (fun h6 => ?_) (fun h6 => ?_)
    · have h6 : ¬ v.toInt = (1 : Int) := fun r => h6 (i_eqq.mpr (by rw [nI_toInt (n := 1) (by omega)]; exact r))
      refine V_iconst (v := nI 0) dX0_isLook_13 rfl ?_
      refine V_zret dX0_isLook_14 ⟨rfl, rfl⟩ (by rfl) (Nat.zero_le _) (Nat.zero_le _) ?_
      subst hQ
      exact ⟨by rw [bI_f (by omega)], rfl⟩
    · have h6 : v.toInt = (1 : Int) := by have q := i_eqq.mp h6; rw [nI_toInt (n := 1) (by omega)] at q; exact q
      refine V_iconst (v := nI 1) dX0_isLook_9 rfl ?_
      refine V_goto (tgt := 14) dX0_isLook_10 rfl ?_
      refine V_zret dX0_isLook_14 ⟨rfl, rfl⟩ (by rfl) (Nat.zero_le _) (Nat.zero_le _) ?_
      subst hQ
      exact ⟨by rw [bI_t (by omega)], rfl⟩
set_option maxRecDepth 20000 in
theorem t_X0_isNote {g : Ev} {S : St} {iv : IV} {lw : LW} {v : Int64} : CP g mX0_isNote [.long (v)] S iv lw (.int (bI ((0 : Int) ≤ v.toInt ∧ v.toInt ≤ 4))) := by
  refine CT_ofQ rfl (by decide) (Nat.le_of_ble_eq_true rfl) (lv := [(0, .long (v))]) rfl (fun Q hQ => ?_)
  refine V_lload_n (i := 0) dX0_isNote_0 rfl 0 rfl ?_
  refine V_lconst (v := lN 0) dX0_isNote_1 rfl ?_
  refine V_lcmp dX0_isNote_2 ?_
  refine V_if_lt (tgt := 18) dX0_isNote_3 rfl (fun h3 => ?_) (fun h3 => ?_)
  · have h3 : v.toInt < (0 : Int) := by have q := lg_lt.mp h3; rw [lN_toInt (n := 0) (by omega)] at q; exact q
    refine V_iconst (v := nI 0) dX0_isNote_18 rfl ?_
    refine V_zret dX0_isNote_19 ⟨rfl, rfl⟩ (by rfl) (Nat.zero_le _) (Nat.zero_le _) ?_
    subst hQ
    exact ⟨by rw [bI_f (by omega)], rfl⟩
  · have h3 : ¬ v.toInt < (0 : Int) := fun r => h3 (lg_lt.mpr (by rw [lN_toInt (n := 0) (by omega)]; exact r))
    refine V_lload_n (i := 0) dX0_isNote_6 rfl 0 rfl ?_
    refine V_ldc2 (v := lN 4) dX0_isNote_7 mw_370 ?_
    refine V_lcmp dX0_isNote_10 ?_
    refine V_if_gt (tgt := 18) dX0_isNote_11 rfl (fun h11 => ?_) (fun h11 => ?_)
    · have h11 : (4 : Int) < v.toInt := by have q := lg_gt.mp h11; rw [lN_toInt (n := 4) (by omega)] at q; exact q
      refine V_iconst (v := nI 0) dX0_isNote_18 rfl ?_
      refine V_zret dX0_isNote_19 ⟨rfl, rfl⟩ (by rfl) (Nat.zero_le _) (Nat.zero_le _) ?_
      subst hQ
      exact ⟨by rw [bI_f (by omega)], rfl⟩
    · have h11 : ¬ (4 : Int) < v.toInt := fun r => h11 (lg_gt.mpr (by rw [lN_toInt (n := 4) (by omega)]; exact r))
      refine V_iconst (v := nI 1) dX0_isNote_14 rfl ?_
      refine V_goto (tgt := 19) dX0_isNote_15 rfl ?_
      refine V_zret dX0_isNote_19 ⟨rfl, rfl⟩ (by rfl) (Nat.zero_le _) (Nat.zero_le _) ?_
      subst hQ
      exact ⟨by rw [bI_t (by omega)], rfl⟩
set_option maxRecDepth 20000 in
theorem t_X0_isCall {g : Ev} {S : St} {iv : IV} {lw : LW} {b : Nat} (hb : IsCamp S b) {V : Cv} (hV : XC iv b V) {c : Int32} : CP g mX0_isCall [.ref (b), .int (c)] S iv lw (.int (bI (inR c (v_nc V)))) := by
  refine CT_ofQ rfl (by decide) (Nat.le_of_ble_eq_true rfl) (lv := [(0, .ref (b)), (1, .int (c))]) rfl (fun Q hQ => ?_)
  have hnc := hV.ok.nc
  have hne := hV.ok.ne
  have hnm := hV.ok.nm
  refine V_iload_n (i := 1) dX0_isCall_0 rfl 1 rfl ?_
  refine V_if_lt (tgt := 16) dX0_isCall_1 rfl (fun h1 => ?_) (fun h1 => ?_)
  · have h1 : c.toInt < 0 := by have q := i_neg.mp h1; exact q
    refine V_iconst (v := nI 0) dX0_isCall_16 rfl ?_
    refine V_zret dX0_isCall_17 ⟨rfl, rfl⟩ (by rfl) (Nat.zero_le _) (Nat.zero_le _) ?_
    subst hQ
    exact ⟨by rw [bI_f (by unfold inR; omega)], rfl⟩
  · have h1 : ¬ c.toInt < 0 := fun r => h1 (i_neg.mpr (by exact r))
    refine V_iload_n (i := 1) dX0_isCall_4 rfl 1 rfl ?_
    refine V_aload_n (i := 0) dX0_isCall_5 rfl 0 rfl ?_
    refine M_getI (x := nI (v_nc V)) dX0_isCall_6 lf_X0_36 rfl hb.1 (hV.nc) ?_
    refine V_icmp_ge (tgt := 16) dX0_isCall_9 rfl (fun h9 => ?_) (fun h9 => ?_)
    · have h9 : ((v_nc V) : Int) ≤ c.toInt := by have q := Int32.le_iff_toInt_le.mp h9; rw [nI_toInt (n := (v_nc V)) (by omega)] at q; exact q
      refine V_iconst (v := nI 0) dX0_isCall_16 rfl ?_
      refine V_zret dX0_isCall_17 ⟨rfl, rfl⟩ (by rfl) (Nat.zero_le _) (Nat.zero_le _) ?_
      subst hQ
      exact ⟨by rw [bI_f (by unfold inR; omega)], rfl⟩
    · have h9 : ¬ ((v_nc V) : Int) ≤ c.toInt := fun r => h9 (Int32.le_iff_toInt_le.mpr (by rw [nI_toInt (n := (v_nc V)) (by omega)]; exact r))
      refine V_iconst (v := nI 1) dX0_isCall_12 rfl ?_
      refine V_goto (tgt := 17) dX0_isCall_13 rfl ?_
      refine V_zret dX0_isCall_17 ⟨rfl, rfl⟩ (by rfl) (Nat.zero_le _) (Nat.zero_le _) ?_
      subst hQ
      exact ⟨by rw [bI_t (by unfold inR; omega)], rfl⟩
set_option maxRecDepth 20000 in
theorem t_X0_isEar {g : Ev} {S : St} {iv : IV} {lw : LW} {b : Nat} (hb : IsCamp S b) {V : Cv} (hV : XC iv b V) {c : Int32} : CP g mX0_isEar [.ref (b), .int (c)] S iv lw (.int (bI (inR c (v_ne V)))) := by
  refine CT_ofQ rfl (by decide) (Nat.le_of_ble_eq_true rfl) (lv := [(0, .ref (b)), (1, .int (c))]) rfl (fun Q hQ => ?_)
  have hnc := hV.ok.nc
  have hne := hV.ok.ne
  have hnm := hV.ok.nm
  refine V_iload_n (i := 1) dX0_isEar_0 rfl 1 rfl ?_
  refine V_if_lt (tgt := 16) dX0_isEar_1 rfl (fun h1 => ?_) (fun h1 => ?_)
  · have h1 : c.toInt < 0 := by have q := i_neg.mp h1; exact q
    refine V_iconst (v := nI 0) dX0_isEar_16 rfl ?_
    refine V_zret dX0_isEar_17 ⟨rfl, rfl⟩ (by rfl) (Nat.zero_le _) (Nat.zero_le _) ?_
    subst hQ
    exact ⟨by rw [bI_f (by unfold inR; omega)], rfl⟩
  · have h1 : ¬ c.toInt < 0 := fun r => h1 (i_neg.mpr (by exact r))
    refine V_iload_n (i := 1) dX0_isEar_4 rfl 1 rfl ?_
    refine V_aload_n (i := 0) dX0_isEar_5 rfl 0 rfl ?_
    refine M_getI (x := nI (v_ne V)) dX0_isEar_6 lf_X0_40 rfl hb.1 (hV.ne) ?_
    refine V_icmp_ge (tgt := 16) dX0_isEar_9 rfl (fun h9 => ?_) (fun h9 => ?_)
    · have h9 : ((v_ne V) : Int) ≤ c.toInt := by have q := Int32.le_iff_toInt_le.mp h9; rw [nI_toInt (n := (v_ne V)) (by omega)] at q; exact q
      refine V_iconst (v := nI 0) dX0_isEar_16 rfl ?_
      refine V_zret dX0_isEar_17 ⟨rfl, rfl⟩ (by rfl) (Nat.zero_le _) (Nat.zero_le _) ?_
      subst hQ
      exact ⟨by rw [bI_f (by unfold inR; omega)], rfl⟩
    · have h9 : ¬ ((v_ne V) : Int) ≤ c.toInt := fun r => h9 (Int32.le_iff_toInt_le.mpr (by rw [nI_toInt (n := (v_ne V)) (by omega)]; exact r))
      refine V_iconst (v := nI 1) dX0_isEar_12 rfl ?_
      refine V_goto (tgt := 17) dX0_isEar_13 rfl ?_
      refine V_zret dX0_isEar_17 ⟨rfl, rfl⟩ (by rfl) (Nat.zero_le _) (Nat.zero_le _) ?_
      subst hQ
      exact ⟨by rw [bI_t (by unfold inR; omega)], rfl⟩
set_option maxRecDepth 20000 in
theorem t_X0_isMan {g : Ev} {S : St} {iv : IV} {lw : LW} {b : Nat} (hb : IsCamp S b) {V : Cv} (hV : XC iv b V) {c : Int32} : CP g mX0_isMan [.ref (b), .int (c)] S iv lw (.int (bI (inR c (v_nm V)))) := by
  refine CT_ofQ rfl (by decide) (Nat.le_of_ble_eq_true rfl) (lv := [(0, .ref (b)), (1, .int (c))]) rfl (fun Q hQ => ?_)
  have hnc := hV.ok.nc
  have hne := hV.ok.ne
  have hnm := hV.ok.nm
  refine V_iload_n (i := 1) dX0_isMan_0 rfl 1 rfl ?_
  refine V_if_lt (tgt := 16) dX0_isMan_1 rfl (fun h1 => ?_) (fun h1 => ?_)
  · have h1 : c.toInt < 0 := by have q := i_neg.mp h1; exact q
    refine V_iconst (v := nI 0) dX0_isMan_16 rfl ?_
    refine V_zret dX0_isMan_17 ⟨rfl, rfl⟩ (by rfl) (Nat.zero_le _) (Nat.zero_le _) ?_
    subst hQ
    exact ⟨by rw [bI_f (by unfold inR; omega)], rfl⟩
  · have h1 : ¬ c.toInt < 0 := fun r => h1 (i_neg.mpr (by exact r))
    refine V_iload_n (i := 1) dX0_isMan_4 rfl 1 rfl ?_
    refine V_aload_n (i := 0) dX0_isMan_5 rfl 0 rfl ?_
    refine M_getI (x := nI (v_nm V)) dX0_isMan_6 lf_X0_43 rfl hb.1 (hV.nm) ?_
    refine V_icmp_ge (tgt := 16) dX0_isMan_9 rfl (fun h9 => ?_) (fun h9 => ?_)
    · have h9 : ((v_nm V) : Int) ≤ c.toInt := by have q := Int32.le_iff_toInt_le.mp h9; rw [nI_toInt (n := (v_nm V)) (by omega)] at q; exact q
      refine V_iconst (v := nI 0) dX0_isMan_16 rfl ?_
      refine V_zret dX0_isMan_17 ⟨rfl, rfl⟩ (by rfl) (Nat.zero_le _) (Nat.zero_le _) ?_
      subst hQ
      exact ⟨by rw [bI_f (by unfold inR; omega)], rfl⟩
    · have h9 : ¬ ((v_nm V) : Int) ≤ c.toInt := fun r => h9 (Int32.le_iff_toInt_le.mpr (by rw [nI_toInt (n := (v_nm V)) (by omega)]; exact r))
      refine V_iconst (v := nI 1) dX0_isMan_12 rfl ?_
      refine V_goto (tgt := 17) dX0_isMan_13 rfl ?_
      refine V_zret dX0_isMan_17 ⟨rfl, rfl⟩ (by rfl) (Nat.zero_le _) (Nat.zero_le _) ?_
      subst hQ
      exact ⟨by rw [bI_t (by unfold inR; omega)], rfl⟩
set_option maxRecDepth 20000 in
theorem t_X0_hasRoomForCall {g : Ev} {S : St} {iv : IV} {lw : LW} {b : Nat} (hb : IsCamp S b) {V : Cv} (hV : XC iv b V) : CP g mX0_hasRoomForCall [.ref (b)] S iv lw (.int (bI (v_nc V < 12))) := by
  refine CT_ofQ rfl (by decide) (Nat.le_of_ble_eq_true rfl) (lv := [(0, .ref (b))]) rfl (fun Q hQ => ?_)
  have hnc := hV.ok.nc
  have hne := hV.ok.ne
  have hnm := hV.ok.nm
  refine V_aload_n (i := 0) dX0_hasRoomForCall_0 rfl 0 rfl ?_
  refine M_getI (x := nI (v_nc V)) dX0_hasRoomForCall_1 lf_X0_36 rfl hb.1 (hV.nc) ?_
  refine V_bipush (v := nI 12) dX0_hasRoomForCall_4 rfl ?_
  refine V_icmp_ge (tgt := 13) dX0_hasRoomForCall_6 rfl (fun h6 => ?_) (fun h6 => ?_)
  · have h6 : 12 ≤ (v_nc V) := (nI_leI (by omega) (by omega)).mp h6
    refine V_iconst (v := nI 0) dX0_hasRoomForCall_13 rfl ?_
    refine V_zret dX0_hasRoomForCall_14 ⟨rfl, rfl⟩ (by rfl) (Nat.zero_le _) (Nat.zero_le _) ?_
    subst hQ
    exact ⟨by rw [bI_f (by omega)], rfl⟩
  · have h6 : ¬ 12 ≤ (v_nc V) := fun q => h6 ((nI_leI (by omega) (by omega)).mpr q)
    refine V_iconst (v := nI 1) dX0_hasRoomForCall_9 rfl ?_
    refine V_goto (tgt := 14) dX0_hasRoomForCall_10 rfl ?_
    refine V_zret dX0_hasRoomForCall_14 ⟨rfl, rfl⟩ (by rfl) (Nat.zero_le _) (Nat.zero_le _) ?_
    subst hQ
    exact ⟨by rw [bI_t (by omega)], rfl⟩
set_option maxRecDepth 20000 in
theorem t_X0_hasRoomForEar {g : Ev} {S : St} {iv : IV} {lw : LW} {b : Nat} (hb : IsCamp S b) {V : Cv} (hV : XC iv b V) : CP g mX0_hasRoomForEar [.ref (b)] S iv lw (.int (bI (v_ne V < 6))) := by
  refine CT_ofQ rfl (by decide) (Nat.le_of_ble_eq_true rfl) (lv := [(0, .ref (b))]) rfl (fun Q hQ => ?_)
  have hnc := hV.ok.nc
  have hne := hV.ok.ne
  have hnm := hV.ok.nm
  refine V_aload_n (i := 0) dX0_hasRoomForEar_0 rfl 0 rfl ?_
  refine M_getI (x := nI (v_ne V)) dX0_hasRoomForEar_1 lf_X0_40 rfl hb.1 (hV.ne) ?_
  refine V_bipush (v := nI 6) dX0_hasRoomForEar_4 rfl ?_
  refine V_icmp_ge (tgt := 13) dX0_hasRoomForEar_6 rfl (fun h6 => ?_) (fun h6 => ?_)
  · have h6 : 6 ≤ (v_ne V) := (nI_leI (by omega) (by omega)).mp h6
    refine V_iconst (v := nI 0) dX0_hasRoomForEar_13 rfl ?_
    refine V_zret dX0_hasRoomForEar_14 ⟨rfl, rfl⟩ (by rfl) (Nat.zero_le _) (Nat.zero_le _) ?_
    subst hQ
    exact ⟨by rw [bI_f (by omega)], rfl⟩
  · have h6 : ¬ 6 ≤ (v_ne V) := fun q => h6 ((nI_leI (by omega) (by omega)).mpr q)
    refine V_iconst (v := nI 1) dX0_hasRoomForEar_9 rfl ?_
    refine V_goto (tgt := 14) dX0_hasRoomForEar_10 rfl ?_
    refine V_zret dX0_hasRoomForEar_14 ⟨rfl, rfl⟩ (by rfl) (Nat.zero_le _) (Nat.zero_le _) ?_
    subst hQ
    exact ⟨by rw [bI_t (by omega)], rfl⟩
set_option maxRecDepth 20000 in
theorem t_X0_hasRoomForMan {g : Ev} {S : St} {iv : IV} {lw : LW} {b : Nat} (hb : IsCamp S b) {V : Cv} (hV : XC iv b V) : CP g mX0_hasRoomForMan [.ref (b)] S iv lw (.int (bI (v_nm V < 8))) := by
  refine CT_ofQ rfl (by decide) (Nat.le_of_ble_eq_true rfl) (lv := [(0, .ref (b))]) rfl (fun Q hQ => ?_)
  have hnc := hV.ok.nc
  have hne := hV.ok.ne
  have hnm := hV.ok.nm
  refine V_aload_n (i := 0) dX0_hasRoomForMan_0 rfl 0 rfl ?_
  refine M_getI (x := nI (v_nm V)) dX0_hasRoomForMan_1 lf_X0_43 rfl hb.1 (hV.nm) ?_
  refine V_bipush (v := nI 8) dX0_hasRoomForMan_4 rfl ?_
  refine V_icmp_ge (tgt := 13) dX0_hasRoomForMan_6 rfl (fun h6 => ?_) (fun h6 => ?_)
  · have h6 : 8 ≤ (v_nm V) := (nI_leI (by omega) (by omega)).mp h6
    refine V_iconst (v := nI 0) dX0_hasRoomForMan_13 rfl ?_
    refine V_zret dX0_hasRoomForMan_14 ⟨rfl, rfl⟩ (by rfl) (Nat.zero_le _) (Nat.zero_le _) ?_
    subst hQ
    exact ⟨by rw [bI_f (by omega)], rfl⟩
  · have h6 : ¬ 8 ≤ (v_nm V) := fun q => h6 ((nI_leI (by omega) (by omega)).mpr q)
    refine V_iconst (v := nI 1) dX0_hasRoomForMan_9 rfl ?_
    refine V_goto (tgt := 14) dX0_hasRoomForMan_10 rfl ?_
    refine V_zret dX0_hasRoomForMan_14 ⟨rfl, rfl⟩ (by rfl) (Nat.zero_le _) (Nat.zero_le _) ?_
    subst hQ
    exact ⟨by rw [bI_t (by omega)], rfl⟩
set_option maxRecDepth 20000 in
theorem t_X0_sizeOf {g : Ev} {S : St} {iv : IV} {lw : LW} {b : Nat} (hb : IsCamp S b) {V : Cv} (hV : XC iv b V) {c : Nat} (hc : c < v_nc V) : CP g mX0_sizeOf [.ref (b), .int (nI c)] S iv lw (.int (nI (v_sz V c))) := by
  refine CT_ofQ rfl (by decide) (Nat.le_of_ble_eq_true rfl) (lv := [(0, .ref (b)), (1, .int (nI c))]) rfl (fun Q hQ => ?_)
  have hnc := hV.ok.nc
  have hne := hV.ok.ne
  have hnm := hV.ok.nm
  refine V_iload_n (i := 1) dX0_sizeOf_0 rfl 1 rfl ?_
  refine V_if_lt (tgt := 30) dX0_sizeOf_1 rfl (fun q => absurd q (nI_pos (by omega))) (fun _ => ?_)
  refine V_iload_n (i := 1) dX0_sizeOf_4 rfl 1 rfl ?_
  refine V_aload_n (i := 0) dX0_sizeOf_5 rfl 0 rfl ?_
  refine M_getI (x := nI (v_nc V)) dX0_sizeOf_6 lf_X0_36 rfl hb.1 (hV.nc) ?_
  refine V_icmp_ge (tgt := 30) dX0_sizeOf_9 rfl (fun h9 => ?_) (fun h9 => ?_)
  · have h9 : (v_nc V) ≤ c := (nI_leI (by omega) (by omega)).mp h9
    exact absurd h9 (by omega)
  · have h9 : ¬ (v_nc V) ≤ c := fun q => h9 ((nI_leI (by omega) (by omega)).mpr q)
    refine V_iload_n (i := 1) dX0_sizeOf_12 rfl 1 rfl ?_
    refine V_aload_n (i := 0) dX0_sizeOf_13 rfl 0 rfl ?_
    refine M_getR dX0_sizeOf_14 lf_X0_11 rfl hb.1 hb.2.1.1 ?_
    refine M_alen (t := 0) dX0_sizeOf_17 (by decide) hb.2.1.2 ?_
    refine V_icmp_ge (tgt := 30) dX0_sizeOf_18 rfl (fun h18 => ?_) (fun h18 => ?_)
    · have h18 : 12 ≤ c := (nI_leI (by omega) (by omega)).mp h18
      exact absurd h18 (by omega)
    · have h18 : ¬ 12 ≤ c := fun q => h18 ((nI_leI (by omega) (by omega)).mpr q)
      refine V_aload_n (i := 0) dX0_sizeOf_21 rfl 0 rfl ?_
      refine M_getR dX0_sizeOf_22 lf_X0_11 rfl hb.1 hb.2.1.1 ?_
      refine V_iload_n (i := 1) dX0_sizeOf_25 rfl 1 rfl ?_
      refine M_ialdn (j := c) (x := nI (v_sz V c)) dX0_sizeOf_26 hb.2.1.2 (by decide) (by omega) (hV.sz (c := c) (by omega)) ?_
      refine V_goto (tgt := 31) dX0_sizeOf_27 rfl ?_
      refine V_iret dX0_sizeOf_31 ⟨rfl, rfl⟩ (Nat.zero_le _) (Nat.zero_le _) ?_
      subst hQ
      exact ⟨rfl, rfl⟩
set_option maxRecDepth 20000 in
theorem t_X0_packedOf {g : Ev} {S : St} {iv : IV} {lw : LW} {b : Nat} (hb : IsCamp S b) {V : Cv} (hV : XC iv b V) {c : Nat} (hc : c < v_nc V) : CP g mX0_packedOf [.ref (b), .int (nI c)] S iv lw (.int (nI (v_pk V c))) := by
  refine CT_ofQ rfl (by decide) (Nat.le_of_ble_eq_true rfl) (lv := [(0, .ref (b)), (1, .int (nI c))]) rfl (fun Q hQ => ?_)
  have hnc := hV.ok.nc
  have hne := hV.ok.ne
  have hnm := hV.ok.nm
  refine V_iload_n (i := 1) dX0_packedOf_0 rfl 1 rfl ?_
  refine V_if_lt (tgt := 30) dX0_packedOf_1 rfl (fun q => absurd q (nI_pos (by omega))) (fun _ => ?_)
  refine V_iload_n (i := 1) dX0_packedOf_4 rfl 1 rfl ?_
  refine V_aload_n (i := 0) dX0_packedOf_5 rfl 0 rfl ?_
  refine M_getI (x := nI (v_nc V)) dX0_packedOf_6 lf_X0_36 rfl hb.1 (hV.nc) ?_
  refine V_icmp_ge (tgt := 30) dX0_packedOf_9 rfl (fun h9 => ?_) (fun h9 => ?_)
  · have h9 : (v_nc V) ≤ c := (nI_leI (by omega) (by omega)).mp h9
    exact absurd h9 (by omega)
  · have h9 : ¬ (v_nc V) ≤ c := fun q => h9 ((nI_leI (by omega) (by omega)).mpr q)
    refine V_iload_n (i := 1) dX0_packedOf_12 rfl 1 rfl ?_
    refine V_aload_n (i := 0) dX0_packedOf_13 rfl 0 rfl ?_
    refine M_getR dX0_packedOf_14 lf_X0_15 rfl hb.1 hb.2.2.1.1 ?_
    refine M_alen (t := 0) dX0_packedOf_17 (by decide) hb.2.2.1.2 ?_
    refine V_icmp_ge (tgt := 30) dX0_packedOf_18 rfl (fun h18 => ?_) (fun h18 => ?_)
    · have h18 : 12 ≤ c := (nI_leI (by omega) (by omega)).mp h18
      exact absurd h18 (by omega)
    · have h18 : ¬ 12 ≤ c := fun q => h18 ((nI_leI (by omega) (by omega)).mpr q)
      refine V_aload_n (i := 0) dX0_packedOf_21 rfl 0 rfl ?_
      refine M_getR dX0_packedOf_22 lf_X0_15 rfl hb.1 hb.2.2.1.1 ?_
      refine V_iload_n (i := 1) dX0_packedOf_25 rfl 1 rfl ?_
      refine M_ialdn (j := c) (x := nI (v_pk V c)) dX0_packedOf_26 hb.2.2.1.2 (by decide) (by omega) (hV.pk (c := c) (by omega)) ?_
      refine V_goto (tgt := 31) dX0_packedOf_27 rfl ?_
      refine V_iret dX0_packedOf_31 ⟨rfl, rfl⟩ (Nat.zero_le _) (Nat.zero_le _) ?_
      subst hQ
      exact ⟨rfl, rfl⟩
set_option maxRecDepth 20000 in
theorem t_X0_useOf {g : Ev} {S : St} {iv : IV} {lw : LW} {b : Nat} (hb : IsCamp S b) {V : Cv} (hV : XC iv b V) {c : Nat} (hc : c < v_nc V) : CP g mX0_useOf [.ref (b), .int (nI c)] S iv lw (.int (nI (v_us V c))) := by
  refine CT_ofQ rfl (by decide) (Nat.le_of_ble_eq_true rfl) (lv := [(0, .ref (b)), (1, .int (nI c))]) rfl (fun Q hQ => ?_)
  have hnc := hV.ok.nc
  have hne := hV.ok.ne
  have hnm := hV.ok.nm
  refine V_iload_n (i := 1) dX0_useOf_0 rfl 1 rfl ?_
  refine V_if_lt (tgt := 30) dX0_useOf_1 rfl (fun q => absurd q (nI_pos (by omega))) (fun _ => ?_)
  refine V_iload_n (i := 1) dX0_useOf_4 rfl 1 rfl ?_
  refine V_aload_n (i := 0) dX0_useOf_5 rfl 0 rfl ?_
  refine M_getI (x := nI (v_nc V)) dX0_useOf_6 lf_X0_36 rfl hb.1 (hV.nc) ?_
  refine V_icmp_ge (tgt := 30) dX0_useOf_9 rfl (fun h9 => ?_) (fun h9 => ?_)
  · have h9 : (v_nc V) ≤ c := (nI_leI (by omega) (by omega)).mp h9
    exact absurd h9 (by omega)
  · have h9 : ¬ (v_nc V) ≤ c := fun q => h9 ((nI_leI (by omega) (by omega)).mpr q)
    refine V_iload_n (i := 1) dX0_useOf_12 rfl 1 rfl ?_
    refine V_aload_n (i := 0) dX0_useOf_13 rfl 0 rfl ?_
    refine M_getR dX0_useOf_14 lf_X0_18 rfl hb.1 hb.2.2.2.1.1 ?_
    refine M_alen (t := 0) dX0_useOf_17 (by decide) hb.2.2.2.1.2 ?_
    refine V_icmp_ge (tgt := 30) dX0_useOf_18 rfl (fun h18 => ?_) (fun h18 => ?_)
    · have h18 : 12 ≤ c := (nI_leI (by omega) (by omega)).mp h18
      exact absurd h18 (by omega)
    · have h18 : ¬ 12 ≤ c := fun q => h18 ((nI_leI (by omega) (by omega)).mpr q)
      refine V_aload_n (i := 0) dX0_useOf_21 rfl 0 rfl ?_
      refine M_getR dX0_useOf_22 lf_X0_18 rfl hb.1 hb.2.2.2.1.1 ?_
      refine V_iload_n (i := 1) dX0_useOf_25 rfl 1 rfl ?_
      refine M_ialdn (j := c) (x := nI (v_us V c)) dX0_useOf_26 hb.2.2.2.1.2 (by decide) (by omega) (hV.us (c := c) (by omega)) ?_
      refine V_goto (tgt := 31) dX0_useOf_27 rfl ?_
      refine V_iret dX0_useOf_31 ⟨rfl, rfl⟩ (Nat.zero_le _) (Nat.zero_le _) ?_
      subst hQ
      exact ⟨rfl, rfl⟩
set_option maxRecDepth 20000 in
theorem t_X0_costOf {g : Ev} {S : St} {iv : IV} {lw : LW} {b : Nat} (hb : IsCamp S b) {V : Cv} (hV : XC iv b V) {c : Nat} (hc : c < v_nc V) : CP g mX0_costOf [.ref (b), .int (nI c)] S iv lw (.int (nI (v_co V c))) := by
  refine CT_ofQ rfl (by decide) (Nat.le_of_ble_eq_true rfl) (lv := [(0, .ref (b)), (1, .int (nI c))]) rfl (fun Q hQ => ?_)
  have hnc := hV.ok.nc
  have hne := hV.ok.ne
  have hnm := hV.ok.nm
  refine V_iload_n (i := 1) dX0_costOf_0 rfl 1 rfl ?_
  refine V_if_lt (tgt := 30) dX0_costOf_1 rfl (fun q => absurd q (nI_pos (by omega))) (fun _ => ?_)
  refine V_iload_n (i := 1) dX0_costOf_4 rfl 1 rfl ?_
  refine V_aload_n (i := 0) dX0_costOf_5 rfl 0 rfl ?_
  refine M_getI (x := nI (v_nc V)) dX0_costOf_6 lf_X0_36 rfl hb.1 (hV.nc) ?_
  refine V_icmp_ge (tgt := 30) dX0_costOf_9 rfl (fun h9 => ?_) (fun h9 => ?_)
  · have h9 : (v_nc V) ≤ c := (nI_leI (by omega) (by omega)).mp h9
    exact absurd h9 (by omega)
  · have h9 : ¬ (v_nc V) ≤ c := fun q => h9 ((nI_leI (by omega) (by omega)).mpr q)
    refine V_iload_n (i := 1) dX0_costOf_12 rfl 1 rfl ?_
    refine V_aload_n (i := 0) dX0_costOf_13 rfl 0 rfl ?_
    refine M_getR dX0_costOf_14 lf_X0_21 rfl hb.1 hb.2.2.2.2.1.1 ?_
    refine M_alen (t := 0) dX0_costOf_17 (by decide) hb.2.2.2.2.1.2 ?_
    refine V_icmp_ge (tgt := 30) dX0_costOf_18 rfl (fun h18 => ?_) (fun h18 => ?_)
    · have h18 : 12 ≤ c := (nI_leI (by omega) (by omega)).mp h18
      exact absurd h18 (by omega)
    · have h18 : ¬ 12 ≤ c := fun q => h18 ((nI_leI (by omega) (by omega)).mpr q)
      refine V_aload_n (i := 0) dX0_costOf_21 rfl 0 rfl ?_
      refine M_getR dX0_costOf_22 lf_X0_21 rfl hb.1 hb.2.2.2.2.1.1 ?_
      refine V_iload_n (i := 1) dX0_costOf_25 rfl 1 rfl ?_
      refine M_ialdn (j := c) (x := nI (v_co V c)) dX0_costOf_26 hb.2.2.2.2.1.2 (by decide) (by omega) (hV.co (c := c) (by omega)) ?_
      refine V_goto (tgt := 31) dX0_costOf_27 rfl ?_
      refine V_iret dX0_costOf_31 ⟨rfl, rfl⟩ (Nat.zero_le _) (Nat.zero_le _) ?_
      subst hQ
      exact ⟨rfl, rfl⟩
set_option maxRecDepth 20000 in
theorem t_X0_kindOf {g : Ev} {S : St} {iv : IV} {lw : LW} {b : Nat} (hb : IsCamp S b) {V : Cv} (hV : XC iv b V) {e : Nat} (hc : e < v_ne V) : CP g mX0_kindOf [.ref (b), .int (nI e)] S iv lw (.int (nI (v_kd V e))) := by
  refine CT_ofQ rfl (by decide) (Nat.le_of_ble_eq_true rfl) (lv := [(0, .ref (b)), (1, .int (nI e))]) rfl (fun Q hQ => ?_)
  have hnc := hV.ok.nc
  have hne := hV.ok.ne
  have hnm := hV.ok.nm
  refine V_iload_n (i := 1) dX0_kindOf_0 rfl 1 rfl ?_
  refine V_if_lt (tgt := 30) dX0_kindOf_1 rfl (fun q => absurd q (nI_pos (by omega))) (fun _ => ?_)
  refine V_iload_n (i := 1) dX0_kindOf_4 rfl 1 rfl ?_
  refine V_aload_n (i := 0) dX0_kindOf_5 rfl 0 rfl ?_
  refine M_getI (x := nI (v_ne V)) dX0_kindOf_6 lf_X0_40 rfl hb.1 (hV.ne) ?_
  refine V_icmp_ge (tgt := 30) dX0_kindOf_9 rfl (fun h9 => ?_) (fun h9 => ?_)
  · have h9 : (v_ne V) ≤ e := (nI_leI (by omega) (by omega)).mp h9
    exact absurd h9 (by omega)
  · have h9 : ¬ (v_ne V) ≤ e := fun q => h9 ((nI_leI (by omega) (by omega)).mpr q)
    refine V_iload_n (i := 1) dX0_kindOf_12 rfl 1 rfl ?_
    refine V_aload_n (i := 0) dX0_kindOf_13 rfl 0 rfl ?_
    refine M_getR dX0_kindOf_14 lf_X0_24 rfl hb.1 hb.2.2.2.2.2.1.1 ?_
    refine M_alen (t := 0) dX0_kindOf_17 (by decide) hb.2.2.2.2.2.1.2 ?_
    refine V_icmp_ge (tgt := 30) dX0_kindOf_18 rfl (fun h18 => ?_) (fun h18 => ?_)
    · have h18 : 6 ≤ e := (nI_leI (by omega) (by omega)).mp h18
      exact absurd h18 (by omega)
    · have h18 : ¬ 6 ≤ e := fun q => h18 ((nI_leI (by omega) (by omega)).mpr q)
      refine V_aload_n (i := 0) dX0_kindOf_21 rfl 0 rfl ?_
      refine M_getR dX0_kindOf_22 lf_X0_24 rfl hb.1 hb.2.2.2.2.2.1.1 ?_
      refine V_iload_n (i := 1) dX0_kindOf_25 rfl 1 rfl ?_
      refine M_ialdn (j := e) (x := nI (v_kd V e)) dX0_kindOf_26 hb.2.2.2.2.2.1.2 (by decide) (by omega) (hV.kd (e := e) (by omega)) ?_
      refine V_goto (tgt := 31) dX0_kindOf_27 rfl ?_
      refine V_iret dX0_kindOf_31 ⟨rfl, rfl⟩ (Nat.zero_le _) (Nat.zero_le _) ?_
      subst hQ
      exact ⟨rfl, rfl⟩
set_option maxRecDepth 20000 in
theorem t_X0_strengthOf {g : Ev} {S : St} {iv : IV} {lw : LW} {b : Nat} (hb : IsCamp S b) {V : Cv} (hV : XC iv b V) {e : Nat} (hc : e < v_ne V) : CP g mX0_strengthOf [.ref (b), .int (nI e)] S iv lw (.int (nI (v_by V e))) := by
  refine CT_ofQ rfl (by decide) (Nat.le_of_ble_eq_true rfl) (lv := [(0, .ref (b)), (1, .int (nI e))]) rfl (fun Q hQ => ?_)
  have hnc := hV.ok.nc
  have hne := hV.ok.ne
  have hnm := hV.ok.nm
  refine V_iload_n (i := 1) dX0_strengthOf_0 rfl 1 rfl ?_
  refine V_if_lt (tgt := 30) dX0_strengthOf_1 rfl (fun q => absurd q (nI_pos (by omega))) (fun _ => ?_)
  refine V_iload_n (i := 1) dX0_strengthOf_4 rfl 1 rfl ?_
  refine V_aload_n (i := 0) dX0_strengthOf_5 rfl 0 rfl ?_
  refine M_getI (x := nI (v_ne V)) dX0_strengthOf_6 lf_X0_40 rfl hb.1 (hV.ne) ?_
  refine V_icmp_ge (tgt := 30) dX0_strengthOf_9 rfl (fun h9 => ?_) (fun h9 => ?_)
  · have h9 : (v_ne V) ≤ e := (nI_leI (by omega) (by omega)).mp h9
    exact absurd h9 (by omega)
  · have h9 : ¬ (v_ne V) ≤ e := fun q => h9 ((nI_leI (by omega) (by omega)).mpr q)
    refine V_iload_n (i := 1) dX0_strengthOf_12 rfl 1 rfl ?_
    refine V_aload_n (i := 0) dX0_strengthOf_13 rfl 0 rfl ?_
    refine M_getR dX0_strengthOf_14 lf_X0_27 rfl hb.1 hb.2.2.2.2.2.2.1.1 ?_
    refine M_alen (t := 0) dX0_strengthOf_17 (by decide) hb.2.2.2.2.2.2.1.2 ?_
    refine V_icmp_ge (tgt := 30) dX0_strengthOf_18 rfl (fun h18 => ?_) (fun h18 => ?_)
    · have h18 : 6 ≤ e := (nI_leI (by omega) (by omega)).mp h18
      exact absurd h18 (by omega)
    · have h18 : ¬ 6 ≤ e := fun q => h18 ((nI_leI (by omega) (by omega)).mpr q)
      refine V_aload_n (i := 0) dX0_strengthOf_21 rfl 0 rfl ?_
      refine M_getR dX0_strengthOf_22 lf_X0_27 rfl hb.1 hb.2.2.2.2.2.2.1.1 ?_
      refine V_iload_n (i := 1) dX0_strengthOf_25 rfl 1 rfl ?_
      refine M_ialdn (j := e) (x := nI (v_by V e)) dX0_strengthOf_26 hb.2.2.2.2.2.2.1.2 (by decide) (by omega) (hV.by (e := e) (by omega)) ?_
      refine V_goto (tgt := 31) dX0_strengthOf_27 rfl ?_
      refine V_iret dX0_strengthOf_31 ⟨rfl, rfl⟩ (Nat.zero_le _) (Nat.zero_le _) ?_
      subst hQ
      exact ⟨rfl, rfl⟩
set_option maxRecDepth 20000 in
theorem t_X0_earOfMan {g : Ev} {S : St} {iv : IV} {lw : LW} {b : Nat} (hb : IsCamp S b) {V : Cv} (hV : XC iv b V) {m : Nat} (hc : m < v_nm V) : CP g mX0_earOfMan [.ref (b), .int (nI m)] S iv lw (.int (nI (v_eo V m))) := by
  refine CT_ofQ rfl (by decide) (Nat.le_of_ble_eq_true rfl) (lv := [(0, .ref (b)), (1, .int (nI m))]) rfl (fun Q hQ => ?_)
  have hnc := hV.ok.nc
  have hne := hV.ok.ne
  have hnm := hV.ok.nm
  refine V_iload_n (i := 1) dX0_earOfMan_0 rfl 1 rfl ?_
  refine V_if_lt (tgt := 30) dX0_earOfMan_1 rfl (fun q => absurd q (nI_pos (by omega))) (fun _ => ?_)
  refine V_iload_n (i := 1) dX0_earOfMan_4 rfl 1 rfl ?_
  refine V_aload_n (i := 0) dX0_earOfMan_5 rfl 0 rfl ?_
  refine M_getI (x := nI (v_nm V)) dX0_earOfMan_6 lf_X0_43 rfl hb.1 (hV.nm) ?_
  refine V_icmp_ge (tgt := 30) dX0_earOfMan_9 rfl (fun h9 => ?_) (fun h9 => ?_)
  · have h9 : (v_nm V) ≤ m := (nI_leI (by omega) (by omega)).mp h9
    exact absurd h9 (by omega)
  · have h9 : ¬ (v_nm V) ≤ m := fun q => h9 ((nI_leI (by omega) (by omega)).mpr q)
    refine V_iload_n (i := 1) dX0_earOfMan_12 rfl 1 rfl ?_
    refine V_aload_n (i := 0) dX0_earOfMan_13 rfl 0 rfl ?_
    refine M_getR dX0_earOfMan_14 lf_X0_30 rfl hb.1 hb.2.2.2.2.2.2.2.1.1 ?_
    refine M_alen (t := 0) dX0_earOfMan_17 (by decide) hb.2.2.2.2.2.2.2.1.2 ?_
    refine V_icmp_ge (tgt := 30) dX0_earOfMan_18 rfl (fun h18 => ?_) (fun h18 => ?_)
    · have h18 : 8 ≤ m := (nI_leI (by omega) (by omega)).mp h18
      exact absurd h18 (by omega)
    · have h18 : ¬ 8 ≤ m := fun q => h18 ((nI_leI (by omega) (by omega)).mpr q)
      refine V_aload_n (i := 0) dX0_earOfMan_21 rfl 0 rfl ?_
      refine M_getR dX0_earOfMan_22 lf_X0_30 rfl hb.1 hb.2.2.2.2.2.2.2.1.1 ?_
      refine V_iload_n (i := 1) dX0_earOfMan_25 rfl 1 rfl ?_
      refine M_ialdn (j := m) (x := nI (v_eo V m)) dX0_earOfMan_26 hb.2.2.2.2.2.2.2.1.2 (by decide) (by omega) (hV.eo (m := m) (by omega)) ?_
      refine V_goto (tgt := 31) dX0_earOfMan_27 rfl ?_
      refine V_iret dX0_earOfMan_31 ⟨rfl, rfl⟩ (Nat.zero_le _) (Nat.zero_le _) ?_
      subst hQ
      exact ⟨rfl, rfl⟩
set_option maxRecDepth 20000 in
theorem t_X0_lookOf {g : Ev} {S : St} {iv : IV} {lw : LW} {b : Nat} (hb : IsCamp S b) {V : Cv} (hV : XC iv b V) {m : Nat} (hc : m < v_nm V) : CP g mX0_lookOf [.ref (b), .int (nI m)] S iv lw (.int (nI (v_lk V m))) := by
  refine CT_ofQ rfl (by decide) (Nat.le_of_ble_eq_true rfl) (lv := [(0, .ref (b)), (1, .int (nI m))]) rfl (fun Q hQ => ?_)
  have hnc := hV.ok.nc
  have hne := hV.ok.ne
  have hnm := hV.ok.nm
  refine V_iload_n (i := 1) dX0_lookOf_0 rfl 1 rfl ?_
  refine V_if_lt (tgt := 30) dX0_lookOf_1 rfl (fun q => absurd q (nI_pos (by omega))) (fun _ => ?_)
  refine V_iload_n (i := 1) dX0_lookOf_4 rfl 1 rfl ?_
  refine V_aload_n (i := 0) dX0_lookOf_5 rfl 0 rfl ?_
  refine M_getI (x := nI (v_nm V)) dX0_lookOf_6 lf_X0_43 rfl hb.1 (hV.nm) ?_
  refine V_icmp_ge (tgt := 30) dX0_lookOf_9 rfl (fun h9 => ?_) (fun h9 => ?_)
  · have h9 : (v_nm V) ≤ m := (nI_leI (by omega) (by omega)).mp h9
    exact absurd h9 (by omega)
  · have h9 : ¬ (v_nm V) ≤ m := fun q => h9 ((nI_leI (by omega) (by omega)).mpr q)
    refine V_iload_n (i := 1) dX0_lookOf_12 rfl 1 rfl ?_
    refine V_aload_n (i := 0) dX0_lookOf_13 rfl 0 rfl ?_
    refine M_getR dX0_lookOf_14 lf_X0_33 rfl hb.1 hb.2.2.2.2.2.2.2.2.1 ?_
    refine M_alen (t := 0) dX0_lookOf_17 (by decide) hb.2.2.2.2.2.2.2.2.2 ?_
    refine V_icmp_ge (tgt := 30) dX0_lookOf_18 rfl (fun h18 => ?_) (fun h18 => ?_)
    · have h18 : 8 ≤ m := (nI_leI (by omega) (by omega)).mp h18
      exact absurd h18 (by omega)
    · have h18 : ¬ 8 ≤ m := fun q => h18 ((nI_leI (by omega) (by omega)).mpr q)
      refine V_aload_n (i := 0) dX0_lookOf_21 rfl 0 rfl ?_
      refine M_getR dX0_lookOf_22 lf_X0_33 rfl hb.1 hb.2.2.2.2.2.2.2.2.1 ?_
      refine V_iload_n (i := 1) dX0_lookOf_25 rfl 1 rfl ?_
      refine M_ialdn (j := m) (x := nI (v_lk V m)) dX0_lookOf_26 hb.2.2.2.2.2.2.2.2.2 (by decide) (by omega) (hV.lk (m := m) (by omega)) ?_
      refine V_goto (tgt := 31) dX0_lookOf_27 rfl ?_
      refine V_iret dX0_lookOf_31 ⟨rfl, rfl⟩ (Nat.zero_le _) (Nat.zero_le _) ?_
      subst hQ
      exact ⟨rfl, rfl⟩
set_option maxRecDepth 20000 in
theorem t_X0_useOf_no {g : Ev} {S : St} {iv : IV} {lw : LW} {b : Nat} (hb : IsCamp S b) : CP g mX0_useOf [.ref (b), .int ((-1))] S iv lw (.int (nI 0)) := by
  refine CT_ofQ rfl (by decide) (Nat.le_of_ble_eq_true rfl) (lv := [(0, .ref (b)), (1, .int ((-1)))]) rfl (fun Q hQ => ?_)
  refine V_iload_n (i := 1) dX0_useOf_0 rfl 1 rfl ?_
  refine V_if_lt (tgt := 30) dX0_useOf_1 rfl (fun _ => ?_) (fun q => absurd (by decide) q)
  refine V_iconst (v := nI 0) dX0_useOf_30 rfl ?_
  refine V_iret dX0_useOf_31 ⟨rfl, rfl⟩ (Nat.zero_le _) (Nat.zero_le _) ?_
  subst hQ
  exact ⟨rfl, rfl⟩
