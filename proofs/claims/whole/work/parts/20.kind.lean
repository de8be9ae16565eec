/-! Math, Kind -/
def tornP (k a i s : Nat) : Prop := (k = 1 ∨ k = 3) ∧ (i < a ∨ (k = 3 ∧ i + 1 = s))
def echoP (k a i : Nat) : Prop := k = 5 ∧ 0 < i ∧ i % (a + 1) = a
def chg (k t : Nat) : Nat := if k = 2 ∨ k = 4 then (if k = 4 ∧ t = 0 then 9 else if t = 4 then 3 else t) else t
abbrev tornQ (k a i s : Nat) : Prop := (k = 1 ∨ k = 3) ∧ (i < a ∨ (k = 3 ∧ i + 1 = s))
abbrev echoQ (k a i : Nat) : Prop := k = 5 ∧ 0 < i ∧ i % (a + 1) = a
theorem noteBy_is (V : Cv) (c e i : Nat) : noteBy V c e i = if tornQ (v_kd V e) (v_by V e) i (v_sz V c) then 9 else if echoQ (v_kd V e) (v_by V e) i then v_nt V c (i - 1) else chg (v_kd V e) (v_nt V c i) := by
  unfold noteBy chg tornQ echoQ
  by_cases h1 : v_kd V e = 1
  · simp [h1]
  by_cases h3 : v_kd V e = 3
  · simp [h3]
  by_cases h2 : v_kd V e = 2
  · simp [h2]
  by_cases h4 : v_kd V e = 4
  · simp only [h4]
    by_cases t0 : v_nt V c i = 0
    · simp [t0]
    · simp [t0]
  by_cases h5 : v_kd V e = 5
  · simp [h5]
  simp [h1, h2, h3, h4, h5]
theorem noteBy_le {V : Cv} {c e i : Nat} (h : VOK V) (hc : c < v_nc V) (hi : i < v_sz V c) : noteBy V c e i ≤ 9 := by
  have h1 := h.nt hc hi
  have h2 : v_nt V c (i - 1) ≤ 4 := h.nt hc (by omega)
  unfold noteBy
  repeat' split
  all_goals omega
set_option maxRecDepth 20000 in
theorem t_min {g : Ev} {S : St} {iv : IV} {lw : LW} {a b : Nat} (ha : a ≤ 1000) (hb : b ≤ 1000) : CP g mJ9_min_7cf53 [.int (nI a), .int (nI b)] S iv lw (.int (nI (min a b))) := by
  refine CT_ofQF rfl (by decide +kernel) (Nat.le_of_ble_eq_true rfl) (lv := [(0, .int (nI a)), (1, .int (nI b))]) rfl (fun Q hQ => ?_)
  refine V_iload_n (i := 0) dJ9_min_7cf53_0 rfl 0 rfl ?_
  refine V_iload_n (i := 1) dJ9_min_7cf53_1 rfl 1 rfl ?_
  refine V_icmp_gt (tgt := 9) dJ9_min_7cf53_2 rfl (fun h2 => ?_) (fun h2 => ?_)
  · have h2 : b < a := (nI_ltI (by omega) (by omega)).mp h2
    refine V_iload_n (i := 1) dJ9_min_7cf53_9 rfl 1 rfl ?_
    refine V_iret dJ9_min_7cf53_10 ⟨rfl, rfl⟩ (Nat.zero_le _) (Nat.zero_le _) ?_
    subst hQ
    exact ⟨by congr 3; omega, rfl⟩
  · have h2 : ¬ b < a := fun q => h2 ((nI_ltI (by omega) (by omega)).mpr q)
    refine V_iload_n (i := 0) dJ9_min_7cf53_5 rfl 0 rfl ?_
    refine V_goto (tgt := 10) dJ9_min_7cf53_6 rfl ?_
    refine V_iret dJ9_min_7cf53_10 ⟨rfl, rfl⟩ (Nat.zero_le _) (Nat.zero_le _) ?_
    subst hQ
    exact ⟨by congr 3; omega, rfl⟩
set_option maxRecDepth 20000 in
theorem t_max {g : Ev} {S : St} {iv : IV} {lw : LW} {a b : Nat} (ha : a ≤ 1000) (hb : b ≤ 1000) : CP g mJ9_max_7cf53 [.int (nI a), .int (nI b)] S iv lw (.int (nI (max a b))) := by
  refine CT_ofQF rfl (by decide +kernel) (Nat.le_of_ble_eq_true rfl) (lv := [(0, .int (nI a)), (1, .int (nI b))]) rfl (fun Q hQ => ?_)
  refine V_iload_n (i := 0) dJ9_max_7cf53_0 rfl 0 rfl ?_
  refine V_iload_n (i := 1) dJ9_max_7cf53_1 rfl 1 rfl ?_
  refine V_icmp_lt (tgt := 9) dJ9_max_7cf53_2 rfl (fun h2 => ?_) (fun h2 => ?_)
  · have h2 : a < b := (nI_ltI (by omega) (by omega)).mp h2
    refine V_iload_n (i := 1) dJ9_max_7cf53_9 rfl 1 rfl ?_
    refine V_iret dJ9_max_7cf53_10 ⟨rfl, rfl⟩ (Nat.zero_le _) (Nat.zero_le _) ?_
    subst hQ
    exact ⟨by congr 3; omega, rfl⟩
  · have h2 : ¬ a < b := fun q => h2 ((nI_ltI (by omega) (by omega)).mpr q)
    refine V_iload_n (i := 0) dJ9_max_7cf53_5 rfl 0 rfl ?_
    refine V_goto (tgt := 10) dJ9_max_7cf53_6 rfl ?_
    refine V_iret dJ9_max_7cf53_10 ⟨rfl, rfl⟩ (Nat.zero_le _) (Nat.zero_le _) ?_
    subst hQ
    exact ⟨by congr 3; omega, rfl⟩
set_option maxRecDepth 20000 in
theorem t_abs {g : Ev} {S : St} {iv : IV} {lw : LW} {a b : Nat} (ha : a ≤ 1000) (hb : b ≤ 1000) : CP g mJ9_abs_0f7a4 [.int ((nI a - nI b))] S iv lw (.int (nI ((a - b) + (b - a)))) := by
  refine CT_ofQF rfl (by decide +kernel) (Nat.le_of_ble_eq_true rfl) (lv := [(0, .int ((nI a - nI b)))]) rfl (fun Q hQ => ?_)
  have hz := pk_sub_toInt (a := a) (b := b) (by omega) (by omega)
  refine V_iload_n (i := 0) dJ9_abs_0f7a4_0 rfl 0 rfl ?_
  refine V_if_ge (tgt := 9) dJ9_abs_0f7a4_1 rfl (fun h1 => ?_) (fun h1 => ?_)
  · have h1 : 0 ≤ (nI a - nI b).toInt := by have q := i_nn.mp h1; exact q
    refine V_iload_n (i := 0) dJ9_abs_0f7a4_9 rfl 0 rfl ?_
    refine V_iret dJ9_abs_0f7a4_10 ⟨rfl, rfl⟩ (Nat.zero_le _) (Nat.zero_le _) ?_
    subst hQ
    exact ⟨by congr 2; apply Int32.toInt_inj.mp; rw [nI_toInt (by omega)]; rw [hz]; omega, rfl⟩
  · have h1 : ¬ 0 ≤ (nI a - nI b).toInt := fun r => h1 (i_nn.mpr (by exact r))
    refine V_iload_n (i := 0) dJ9_abs_0f7a4_4 rfl 0 rfl ?_
    refine V_ineg dJ9_abs_0f7a4_5 ?_
    refine V_goto (tgt := 10) dJ9_abs_0f7a4_6 rfl ?_
    refine V_iret dJ9_abs_0f7a4_10 ⟨rfl, rfl⟩ (Nat.zero_le _) (Nat.zero_le _) ?_
    subst hQ
    exact ⟨by congr 2; apply Int32.toInt_inj.mp; rw [nI_toInt (by omega)]; rw [Int32.neg_sub, pk_sub_toInt (by omega) (by omega)]; omega, rfl⟩
set_option maxRecDepth 20000 in
theorem t_X3_isKind {g : Ev} {S : St} {iv : IV} {lw : LW} {v : Int32} : CP g mX3_isKind [.int (v)] S iv lw (.int (bI ((0 : Int) ≤ v.toInt ∧ v.toInt ≤ 5))) := by
  refine CT_ofQ rfl (by decide) (Nat.le_of_ble_eq_true rfl) (lv := [(0, .int (v))]) rfl (fun Q hQ => ?_)
  refine V_iload_n (i := 0) dX3_isKind_0 rfl 0 rfl ?_
  refine V_if_lt (tgt := 13) dX3_isKind_1 rfl (fun h1 => ?_) (fun h1 => ?_)
  · have h1 : v.toInt < 0 := by have q := i_neg.mp h1; exact q
    refine V_iconst (v := nI 0) dX3_isKind_13 rfl ?_
    refine V_zret dX3_isKind_14 ⟨rfl, rfl⟩ (by rfl) (Nat.zero_le _) (Nat.zero_le _) ?_
    subst hQ
    exact ⟨by rw [bI_f (by omega)], rfl⟩
  · have h1 : ¬ v.toInt < 0 := fun r => h1 (i_neg.mpr (by exact r))
    refine V_iload_n (i := 0) dX3_isKind_4 rfl 0 rfl ?_
    refine V_iconst (v := nI 5) dX3_isKind_5 rfl ?_
    refine V_icmp_gt (tgt := 13) dX3_isKind_6 rfl (fun h6 => ?_) (fun h6 => ?_)
    · have h6 : (5 : Int) < v.toInt := by have q := Int32.lt_iff_toInt_lt.mp h6; rw [nI_toInt (n := 5) (by omega)] at q; exact q
      refine V_iconst (v := nI 0) dX3_isKind_13 rfl ?_
      refine V_zret dX3_isKind_14 ⟨rfl, rfl⟩ (by rfl) (Nat.zero_le _) (Nat.zero_le _) ?_
      subst hQ
      exact ⟨by rw [bI_f (by omega)], rfl⟩
    · have h6 : ¬ (5 : Int) < v.toInt := fun r => h6 (Int32.lt_iff_toInt_lt.mpr (by rw [nI_toInt (n := 5) (by omega)]; exact r))
      refine V_iconst (v := nI 1) dX3_isKind_9 rfl ?_
      refine V_goto (tgt := 14) dX3_isKind_10 rfl ?_
      refine V_zret dX3_isKind_14 ⟨rfl, rfl⟩ (by rfl) (Nat.zero_le _) (Nat.zero_le _) ?_
      subst hQ
      exact ⟨by rw [bI_t (by omega)], rfl⟩
set_option maxRecDepth 20000 in
theorem t_X3_isStrength {g : Ev} {S : St} {iv : IV} {lw : LW} {v : Int32} : CP g mX3_isStrength [.int (v)] S iv lw (.int (bI ((0 : Int) ≤ v.toInt ∧ v.toInt ≤ 9))) := by
  refine CT_ofQ rfl (by decide) (Nat.le_of_ble_eq_true rfl) (lv := [(0, .int (v))]) rfl (fun Q hQ => ?_)
  refine V_iload_n (i := 0) dX3_isStrength_0 rfl 0 rfl ?_
  refine V_if_lt (tgt := 14) dX3_isStrength_1 rfl (fun h1 => ?_) (fun h1 => ?_)
  · have h1 : v.toInt < 0 := by have q := i_neg.mp h1; exact q
    refine V_iconst (v := nI 0) dX3_isStrength_14 rfl ?_
    refine V_zret dX3_isStrength_15 ⟨rfl, rfl⟩ (by rfl) (Nat.zero_le _) (Nat.zero_le _) ?_
    subst hQ
    exact ⟨by rw [bI_f (by omega)], rfl⟩
  · have h1 : ¬ v.toInt < 0 := fun r => h1 (i_neg.mpr (by exact r))
    refine V_iload_n (i := 0) dX3_isStrength_4 rfl 0 rfl ?_
    refine V_bipush (v := nI 9) dX3_isStrength_5 rfl ?_
    refine V_icmp_gt (tgt := 14) dX3_isStrength_7 rfl (fun h7 => ?_) (fun h7 => ?_)
    · have h7 : (9 : Int) < v.toInt := by have q := Int32.lt_iff_toInt_lt.mp h7; rw [nI_toInt (n := 9) (by omega)] at q; exact q
      refine V_iconst (v := nI 0) dX3_isStrength_14 rfl ?_
      refine V_zret dX3_isStrength_15 ⟨rfl, rfl⟩ (by rfl) (Nat.zero_le _) (Nat.zero_le _) ?_
      subst hQ
      exact ⟨by rw [bI_f (by omega)], rfl⟩
    · have h7 : ¬ (9 : Int) < v.toInt := fun r => h7 (Int32.lt_iff_toInt_lt.mpr (by rw [nI_toInt (n := 9) (by omega)]; exact r))
      refine V_iconst (v := nI 1) dX3_isStrength_10 rfl ?_
      refine V_goto (tgt := 15) dX3_isStrength_11 rfl ?_
      refine V_zret dX3_isStrength_15 ⟨rfl, rfl⟩ (by rfl) (Nat.zero_le _) (Nat.zero_le _) ?_
      subst hQ
      exact ⟨by rw [bI_t (by omega)], rfl⟩
set_option maxRecDepth 20000 in
theorem t_X3_isUnder {g : Ev} {S : St} {iv : IV} {lw : LW} {k o : Nat} (hk : k ≤ 5) (ho : o ≤ 5) : CP g mX3_isUnder [.int (nI k), .int (nI o)] S iv lw (.int (bI (k = o ∨ o = 0 ∨ (k = 3 ∧ o = 1) ∨ (k = 4 ∧ o = 2)))) := by
  refine CT_ofQ rfl (by decide) (Nat.le_of_ble_eq_true rfl) (lv := [(0, .int (nI k)), (1, .int (nI o))]) rfl (fun Q hQ => ?_)
  refine V_iload_n (i := 0) dX3_isUnder_0 rfl 0 rfl ?_
  refine V_iload_n (i := 1) dX3_isUnder_1 rfl 1 rfl ?_
  refine V_icmp_eq (tgt := 29) dX3_isUnder_2 rfl (fun h2 => ?_) (fun h2 => ?_)
  · have h2 : k = o := (nI_eq (by omega) (by omega)).mp h2
    refine V_iconst (v := nI 1) dX3_isUnder_29 rfl ?_
    refine V_goto (tgt := 34) dX3_isUnder_30 rfl ?_
    refine V_zret dX3_isUnder_34 ⟨rfl, rfl⟩ (by rfl) (Nat.zero_le _) (Nat.zero_le _) ?_
    subst hQ
    exact ⟨by rw [bI_t (by omega)], rfl⟩
  · have h2 : ¬ k = o := fun q => h2 ((nI_eq (by omega) (by omega)).mpr q)
    refine V_iload_n (i := 1) dX3_isUnder_5 rfl 1 rfl ?_
    refine V_if_eq (tgt := 29) dX3_isUnder_6 rfl (fun h6 => ?_) (fun h6 => ?_)
    · have h6 : o = 0 := (nI_eq (b := 0) (by omega) (by omega)).mp h6
      refine V_iconst (v := nI 1) dX3_isUnder_29 rfl ?_
      refine V_goto (tgt := 34) dX3_isUnder_30 rfl ?_
      refine V_zret dX3_isUnder_34 ⟨rfl, rfl⟩ (by rfl) (Nat.zero_le _) (Nat.zero_le _) ?_
      subst hQ
      exact ⟨by rw [bI_t (by omega)], rfl⟩
    · have h6 : ¬ o = 0 := fun q => h6 ((nI_eq (b := 0) (by omega) (by omega)).mpr q)
      refine V_iload_n (i := 0) dX3_isUnder_9 rfl 0 rfl ?_
      refine V_iconst (v := nI 3) dX3_isUnder_10 rfl ?_
      refine V_icmp_ne (tgt := 19) dX3_isUnder_11 rfl (fun h11 => ?_) (fun h11 => ?_)
      · have h11 : ¬ k = 3 := fun q => h11 ((nI_eq (by omega) (by omega)).mpr q)
        refine V_iload_n (i := 0) dX3_isUnder_19 rfl 0 rfl ?_
        refine V_iconst (v := nI 4) dX3_isUnder_20 rfl ?_
        refine V_icmp_ne (tgt := 33) dX3_isUnder_21 rfl (fun h21 => ?_) (fun h21 => ?_)
        · have h21 : ¬ k = 4 := fun q => h21 ((nI_eq (by omega) (by omega)).mpr q)
          refine V_iconst (v := nI 0) dX3_isUnder_33 rfl ?_
          refine V_zret dX3_isUnder_34 ⟨rfl, rfl⟩ (by rfl) (Nat.zero_le _) (Nat.zero_le _) ?_
          subst hQ
          exact ⟨by rw [bI_f (by omega)], rfl⟩
        · have h21 : k = 4 := (nI_eq (by omega) (by omega)).mp h21
          refine V_iload_n (i := 1) dX3_isUnder_24 rfl 1 rfl ?_
          refine V_iconst (v := nI 2) dX3_isUnder_25 rfl ?_
          refine V_icmp_ne (tgt := 33) dX3_isUnder_26 rfl (fun h26 => ?_) (fun h26 => ?_)
          · have h26 : ¬ o = 2 := fun q => h26 ((nI_eq (by omega) (by omega)).mpr q)
            refine V_iconst (v := nI 0) dX3_isUnder_33 rfl ?_
            refine V_zret dX3_isUnder_34 ⟨rfl, rfl⟩ (by rfl) (Nat.zero_le _) (Nat.zero_le _) ?_
            subst hQ
            exact ⟨by rw [bI_f (by omega)], rfl⟩
          · have h26 : o = 2 := (nI_eq (by omega) (by omega)).mp h26
            refine V_iconst (v := nI 1) dX3_isUnder_29 rfl ?_
            refine V_goto (tgt := 34) dX3_isUnder_30 rfl ?_
            refine V_zret dX3_isUnder_34 ⟨rfl, rfl⟩ (by rfl) (Nat.zero_le _) (Nat.zero_le _) ?_
            subst hQ
            exact ⟨by rw [bI_t (by omega)], rfl⟩
      · have h11 : k = 3 := (nI_eq (by omega) (by omega)).mp h11
        refine V_iload_n (i := 1) dX3_isUnder_14 rfl 1 rfl ?_
        refine V_iconst (v := nI 1) dX3_isUnder_15 rfl ?_
        refine V_icmp_eq (tgt := 29) dX3_isUnder_16 rfl (fun h16 => ?_) (fun h16 => ?_)
        · have h16 : o = 1 := (nI_eq (by omega) (by omega)).mp h16
          refine V_iconst (v := nI 1) dX3_isUnder_29 rfl ?_
          refine V_goto (tgt := 34) dX3_isUnder_30 rfl ?_
          refine V_zret dX3_isUnder_34 ⟨rfl, rfl⟩ (by rfl) (Nat.zero_le _) (Nat.zero_le _) ?_
          subst hQ
          exact ⟨by rw [bI_t (by omega)], rfl⟩
        · have h16 : ¬ o = 1 := fun q => h16 ((nI_eq (by omega) (by omega)).mpr q)
          refine V_iload_n (i := 0) dX3_isUnder_19 rfl 0 rfl ?_
          refine V_iconst (v := nI 4) dX3_isUnder_20 rfl ?_
          refine V_icmp_ne (tgt := 33) dX3_isUnder_21 rfl (fun h21 => ?_) (fun h21 => ?_)
          · have h21 : ¬ k = 4 := fun q => h21 ((nI_eq (by omega) (by omega)).mpr q)
            refine V_iconst (v := nI 0) dX3_isUnder_33 rfl ?_
            refine V_zret dX3_isUnder_34 ⟨rfl, rfl⟩ (by rfl) (Nat.zero_le _) (Nat.zero_le _) ?_
            subst hQ
            exact ⟨by rw [bI_f (by omega)], rfl⟩
          · have h21 : k = 4 := (nI_eq (by omega) (by omega)).mp h21
            refine V_iload_n (i := 1) dX3_isUnder_24 rfl 1 rfl ?_
            refine V_iconst (v := nI 2) dX3_isUnder_25 rfl ?_
            refine V_icmp_ne (tgt := 33) dX3_isUnder_26 rfl (fun h26 => ?_) (fun h26 => ?_)
            · have h26 : ¬ o = 2 := fun q => h26 ((nI_eq (by omega) (by omega)).mpr q)
              refine V_iconst (v := nI 0) dX3_isUnder_33 rfl ?_
              refine V_zret dX3_isUnder_34 ⟨rfl, rfl⟩ (by rfl) (Nat.zero_le _) (Nat.zero_le _) ?_
              subst hQ
              exact ⟨by rw [bI_f (by omega)], rfl⟩
            · have h26 : o = 2 := (nI_eq (by omega) (by omega)).mp h26
              refine V_iconst (v := nI 1) dX3_isUnder_29 rfl ?_
              refine V_goto (tgt := 34) dX3_isUnder_30 rfl ?_
              refine V_zret dX3_isUnder_34 ⟨rfl, rfl⟩ (by rfl) (Nat.zero_le _) (Nat.zero_le _) ?_
              subst hQ
              exact ⟨by rw [bI_t (by omega)], rfl⟩
set_option maxRecDepth 20000 in
theorem t_X3_isTornAway {g : Ev} {S : St} {iv : IV} {lw : LW} {k a i s : Nat} (hk : k ≤ 5) (ha : a ≤ 9) (hi : i < 8) (hs : 0 < s ∧ s ≤ 8) : CP g mX3_isTornAway [.int (nI k), .int (nI a), .int (nI i), .int (nI s)] S iv lw (.int (bI (tornQ k a i s))) := by
  refine CT_ofQ rfl (by decide) (Nat.le_of_ble_eq_true rfl) (lv := [(0, .int (nI k)), (1, .int (nI a)), (2, .int (nI i)), (3, .int (nI s))]) rfl (fun Q hQ => ?_)
  refine V_iload_n (i := 0) dX3_isTornAway_0 rfl 0 rfl ?_
  refine V_iconst (v := nI 1) dX3_isTornAway_1 rfl ?_
  refine V_icmp_eq (tgt := 12) dX3_isTornAway_2 rfl (fun h2 => ?_) (fun h2 => ?_)
  · have h2 : k = 1 := (nI_eq (by omega) (by omega)).mp h2
    refine V_iload_n (i := 2) dX3_isTornAway_12 rfl 2 rfl ?_
    refine V_iload_n (i := 1) dX3_isTornAway_13 rfl 1 rfl ?_
    refine V_icmp_lt (tgt := 29) dX3_isTornAway_14 rfl (fun h14 => ?_) (fun h14 => ?_)
    · have h14 : i < a := (nI_ltI (by omega) (by omega)).mp h14
      refine V_iconst (v := nI 1) dX3_isTornAway_29 rfl ?_
      refine V_goto (tgt := 34) dX3_isTornAway_30 rfl ?_
      refine V_zret dX3_isTornAway_34 ⟨rfl, rfl⟩ (by rfl) (Nat.zero_le _) (Nat.zero_le _) ?_
      subst hQ
      exact ⟨by rw [bI_t (by unfold tornQ; omega)], rfl⟩
    · have h14 : ¬ i < a := fun q => h14 ((nI_ltI (by omega) (by omega)).mpr q)
      refine V_iload_n (i := 0) dX3_isTornAway_17 rfl 0 rfl ?_
      refine V_iconst (v := nI 3) dX3_isTornAway_18 rfl ?_
      refine V_icmp_ne (tgt := 33) dX3_isTornAway_19 rfl (fun h19 => ?_) (fun h19 => ?_)
      · have h19 : ¬ k = 3 := fun q => h19 ((nI_eq (by omega) (by omega)).mpr q)
        refine V_iconst (v := nI 0) dX3_isTornAway_33 rfl ?_
        refine V_zret dX3_isTornAway_34 ⟨rfl, rfl⟩ (by rfl) (Nat.zero_le _) (Nat.zero_le _) ?_
        subst hQ
        exact ⟨by rw [bI_f (by unfold tornQ; omega)], rfl⟩
      · have h19 : k = 3 := (nI_eq (by omega) (by omega)).mp h19
        refine V_iload_n (i := 2) dX3_isTornAway_22 rfl 2 rfl ?_
        refine V_iload_n (i := 3) dX3_isTornAway_23 rfl 3 rfl ?_
        refine V_iconst (v := nI 1) dX3_isTornAway_24 rfl ?_
        refine V_isub dX3_isTornAway_25 ?_
        refine M_top (nI_sub (by omega)) ?_
        refine V_icmp_ne (tgt := 33) dX3_isTornAway_26 rfl (fun h26 => ?_) (fun h26 => ?_)
        · have h26 : ¬ i = (s - 1) := fun q => h26 ((nI_eq (by omega) (by omega)).mpr q)
          refine V_iconst (v := nI 0) dX3_isTornAway_33 rfl ?_
          refine V_zret dX3_isTornAway_34 ⟨rfl, rfl⟩ (by rfl) (Nat.zero_le _) (Nat.zero_le _) ?_
          subst hQ
          exact ⟨by rw [bI_f (by unfold tornQ; omega)], rfl⟩
        · have h26 : i = (s - 1) := (nI_eq (by omega) (by omega)).mp h26
          refine V_iconst (v := nI 1) dX3_isTornAway_29 rfl ?_
          refine V_goto (tgt := 34) dX3_isTornAway_30 rfl ?_
          refine V_zret dX3_isTornAway_34 ⟨rfl, rfl⟩ (by rfl) (Nat.zero_le _) (Nat.zero_le _) ?_
          subst hQ
          exact ⟨by rw [bI_t (by unfold tornQ; omega)], rfl⟩
  · have h2 : ¬ k = 1 := fun q => h2 ((nI_eq (by omega) (by omega)).mpr q)
    refine V_iload_n (i := 0) dX3_isTornAway_5 rfl 0 rfl ?_
    refine V_iconst (v := nI 3) dX3_isTornAway_6 rfl ?_
    refine V_icmp_eq (tgt := 12) dX3_isTornAway_7 rfl (fun h7 => ?_) (fun h7 => ?_)
    · have h7 : k = 3 := (nI_eq (by omega) (by omega)).mp h7
      refine V_iload_n (i := 2) dX3_isTornAway_12 rfl 2 rfl ?_
      refine V_iload_n (i := 1) dX3_isTornAway_13 rfl 1 rfl ?_
      refine V_icmp_lt (tgt := 29) dX3_isTornAway_14 rfl (fun h14 => ?_) (fun h14 => ?_)
      · have h14 : i < a := (nI_ltI (by omega) (by omega)).mp h14
        refine V_iconst (v := nI 1) dX3_isTornAway_29 rfl ?_
        refine V_goto (tgt := 34) dX3_isTornAway_30 rfl ?_
        refine V_zret dX3_isTornAway_34 ⟨rfl, rfl⟩ (by rfl) (Nat.zero_le _) (Nat.zero_le _) ?_
        subst hQ
        exact ⟨by rw [bI_t (by unfold tornQ; omega)], rfl⟩
      · have h14 : ¬ i < a := fun q => h14 ((nI_ltI (by omega) (by omega)).mpr q)
        refine V_iload_n (i := 0) dX3_isTornAway_17 rfl 0 rfl ?_
        refine V_iconst (v := nI 3) dX3_isTornAway_18 rfl ?_
        refine V_icmp_ne (tgt := 33) dX3_isTornAway_19 rfl (fun h19 => ?_) (fun h19 => ?_)
        · have h19 : ¬ k = 3 := fun q => h19 ((nI_eq (by omega) (by omega)).mpr q)
          refine V_iconst (v := nI 0) dX3_isTornAway_33 rfl ?_
          refine V_zret dX3_isTornAway_34 ⟨rfl, rfl⟩ (by rfl) (Nat.zero_le _) (Nat.zero_le _) ?_
          subst hQ
          exact ⟨by rw [bI_f (by unfold tornQ; omega)], rfl⟩
        · have h19 : k = 3 := (nI_eq (by omega) (by omega)).mp h19
          refine V_iload_n (i := 2) dX3_isTornAway_22 rfl 2 rfl ?_
          refine V_iload_n (i := 3) dX3_isTornAway_23 rfl 3 rfl ?_
          refine V_iconst (v := nI 1) dX3_isTornAway_24 rfl ?_
          refine V_isub dX3_isTornAway_25 ?_
          refine M_top (nI_sub (by omega)) ?_
          refine V_icmp_ne (tgt := 33) dX3_isTornAway_26 rfl (fun h26 => ?_) (fun h26 => ?_)
          · have h26 : ¬ i = (s - 1) := fun q => h26 ((nI_eq (by omega) (by omega)).mpr q)
            refine V_iconst (v := nI 0) dX3_isTornAway_33 rfl ?_
            refine V_zret dX3_isTornAway_34 ⟨rfl, rfl⟩ (by rfl) (Nat.zero_le _) (Nat.zero_le _) ?_
            subst hQ
            exact ⟨by rw [bI_f (by unfold tornQ; omega)], rfl⟩
          · have h26 : i = (s - 1) := (nI_eq (by omega) (by omega)).mp h26
            refine V_iconst (v := nI 1) dX3_isTornAway_29 rfl ?_
            refine V_goto (tgt := 34) dX3_isTornAway_30 rfl ?_
            refine V_zret dX3_isTornAway_34 ⟨rfl, rfl⟩ (by rfl) (Nat.zero_le _) (Nat.zero_le _) ?_
            subst hQ
            exact ⟨by rw [bI_t (by unfold tornQ; omega)], rfl⟩
    · have h7 : ¬ k = 3 := fun q => h7 ((nI_eq (by omega) (by omega)).mpr q)
      refine V_iconst (v := nI 0) dX3_isTornAway_10 rfl ?_
      refine V_zret dX3_isTornAway_11 ⟨rfl, rfl⟩ (by rfl) (Nat.zero_le _) (Nat.zero_le _) ?_
      subst hQ
      exact ⟨by rw [bI_f (by unfold tornQ; omega)], rfl⟩
set_option maxRecDepth 20000 in
theorem t_X3_isEchoed {g : Ev} {S : St} {iv : IV} {lw : LW} {k a i : Nat} (hk : k ≤ 5) (ha : a ≤ 9) (hi : i < 8) : CP g mX3_isEchoed [.int (nI k), .int (nI a), .int (nI i)] S iv lw (.int (bI (echoQ k a i))) := by
  refine CT_ofQ rfl (by decide) (Nat.le_of_ble_eq_true rfl) (lv := [(0, .int (nI k)), (1, .int (nI a)), (2, .int (nI i))]) rfl (fun Q hQ => ?_)
  refine V_iload_n (i := 0) dX3_isEchoed_0 rfl 0 rfl ?_
  refine V_iconst (v := nI 5) dX3_isEchoed_1 rfl ?_
  refine V_icmp_ne (tgt := 26) dX3_isEchoed_2 rfl (fun h2 => ?_) (fun h2 => ?_)
  · have h2 : ¬ k = 5 := fun q => h2 ((nI_eq (by omega) (by omega)).mpr q)
    refine V_iconst (v := nI 0) dX3_isEchoed_26 rfl ?_
    refine V_zret dX3_isEchoed_27 ⟨rfl, rfl⟩ (by rfl) (Nat.zero_le _) (Nat.zero_le _) ?_
    subst hQ
    exact ⟨by rw [bI_f (by unfold echoQ; omega)], rfl⟩
  · have h2 : k = 5 := (nI_eq (by omega) (by omega)).mp h2
    refine V_iload_n (i := 2) dX3_isEchoed_5 rfl 2 rfl ?_
    refine V_if_le (tgt := 26) dX3_isEchoed_6 rfl (fun h6 => ?_) (fun h6 => ?_)
    · have h6 : i ≤ 0 := (nI_leI (b := 0) (by omega) (by omega)).mp h6
      refine V_iconst (v := nI 0) dX3_isEchoed_26 rfl ?_
      refine V_zret dX3_isEchoed_27 ⟨rfl, rfl⟩ (by rfl) (Nat.zero_le _) (Nat.zero_le _) ?_
      subst hQ
      exact ⟨by rw [bI_f (by unfold echoQ; omega)], rfl⟩
    · have h6 : ¬ i ≤ 0 := fun q => h6 ((nI_leI (b := 0) (by omega) (by omega)).mpr q)
      refine V_iload_n (i := 1) dX3_isEchoed_9 rfl 1 rfl ?_
      refine V_if_lt (tgt := 26) dX3_isEchoed_10 rfl (fun q => absurd q (nI_pos (by omega))) (fun _ => ?_)
      refine V_iload_n (i := 2) dX3_isEchoed_13 rfl 2 rfl ?_
      refine V_iload_n (i := 1) dX3_isEchoed_14 rfl 1 rfl ?_
      refine V_iconst (v := nI 1) dX3_isEchoed_15 rfl ?_
      refine V_iadd dX3_isEchoed_16 ?_
      refine M_top (nI_add _ _) ?_
      refine V_irem dX3_isEchoed_17 (nI_ne0 (by omega) (by omega)) ?_
      refine M_top (pk_rem (by omega) (by omega) (by omega)) ?_
      refine V_iload_n (i := 1) dX3_isEchoed_18 rfl 1 rfl ?_
      have hm := Nat.mod_lt i (show 0 < a + 1 by omega)
      refine V_icmp_ne (tgt := 26) dX3_isEchoed_19 rfl (fun h19 => ?_) (fun h19 => ?_)
      · have h19 : ¬ (i % (a + 1)) = a := fun q => h19 ((nI_eq (by omega) (by omega)).mpr q)
        refine V_iconst (v := nI 0) dX3_isEchoed_26 rfl ?_
        refine V_zret dX3_isEchoed_27 ⟨rfl, rfl⟩ (by rfl) (Nat.zero_le _) (Nat.zero_le _) ?_
        subst hQ
        exact ⟨by rw [bI_f (by unfold echoQ; omega)], rfl⟩
      · have h19 : (i % (a + 1)) = a := (nI_eq (by omega) (by omega)).mp h19
        refine V_iconst (v := nI 1) dX3_isEchoed_22 rfl ?_
        refine V_goto (tgt := 27) dX3_isEchoed_23 rfl ?_
        refine V_zret dX3_isEchoed_27 ⟨rfl, rfl⟩ (by rfl) (Nat.zero_le _) (Nat.zero_le _) ?_
        subst hQ
        exact ⟨by rw [bI_t (by unfold echoQ; omega)], rfl⟩
set_option maxRecDepth 20000 in
theorem t_X3_changedNote {g : Ev} {S : St} {iv : IV} {lw : LW} {k t : Nat} (hk : k ≤ 5) (ht : t ≤ 4) : CP g mX3_changedNote [.int (nI k), .int (nI t)] S iv lw (.int (nI (chg k t))) := by
  refine CT_ofQ rfl (by decide) (Nat.le_of_ble_eq_true rfl) (lv := [(0, .int (nI k)), (1, .int (nI t))]) rfl (fun Q hQ => ?_)
  refine V_iload_n (i := 0) dX3_changedNote_0 rfl 0 rfl ?_
  refine V_iconst (v := nI 2) dX3_changedNote_1 rfl ?_
  refine V_icmp_eq (tgt := 12) dX3_changedNote_2 rfl (fun h2 => ?_) (fun h2 => ?_)
  · have h2 : k = 2 := (nI_eq (by omega) (by omega)).mp h2
    refine V_iload_n (i := 0) dX3_changedNote_12 rfl 0 rfl ?_
    refine V_iconst (v := nI 4) dX3_changedNote_13 rfl ?_
    refine V_icmp_ne (tgt := 24) dX3_changedNote_14 rfl (fun h14 => ?_) (fun h14 => ?_)
    · have h14 : ¬ k = 4 := fun q => h14 ((nI_eq (by omega) (by omega)).mpr q)
      refine V_iload_n (i := 1) dX3_changedNote_24 rfl 1 rfl ?_
      refine V_iconst (v := nI 4) dX3_changedNote_25 rfl ?_
      refine V_icmp_ne (tgt := 33) dX3_changedNote_26 rfl (fun h26 => ?_) (fun h26 => ?_)
      · have h26 : ¬ t = 4 := fun q => h26 ((nI_eq (by omega) (by omega)).mpr q)
        refine V_iload_n (i := 1) dX3_changedNote_33 rfl 1 rfl ?_
        refine V_iret dX3_changedNote_34 ⟨rfl, rfl⟩ (Nat.zero_le _) (Nat.zero_le _) ?_
        subst hQ
        refine ⟨?_, rfl⟩
        congr 3
        unfold chg
        repeat' split
        all_goals omega
      · have h26 : t = 4 := (nI_eq (by omega) (by omega)).mp h26
        refine V_iconst (v := nI 3) dX3_changedNote_29 rfl ?_
        refine V_goto (tgt := 34) dX3_changedNote_30 rfl ?_
        refine V_iret dX3_changedNote_34 ⟨rfl, rfl⟩ (Nat.zero_le _) (Nat.zero_le _) ?_
        subst hQ
        refine ⟨?_, rfl⟩
        congr 3
        unfold chg
        repeat' split
        all_goals omega
    · have h14 : k = 4 := (nI_eq (by omega) (by omega)).mp h14
      refine V_iload_n (i := 1) dX3_changedNote_17 rfl 1 rfl ?_
      refine V_if_ne (tgt := 24) dX3_changedNote_18 rfl (fun h18 => ?_) (fun h18 => ?_)
      · have h18 : ¬ t = 0 := fun q => h18 ((nI_eq (b := 0) (by omega) (by omega)).mpr q)
        refine V_iload_n (i := 1) dX3_changedNote_24 rfl 1 rfl ?_
        refine V_iconst (v := nI 4) dX3_changedNote_25 rfl ?_
        refine V_icmp_ne (tgt := 33) dX3_changedNote_26 rfl (fun h26 => ?_) (fun h26 => ?_)
        · have h26 : ¬ t = 4 := fun q => h26 ((nI_eq (by omega) (by omega)).mpr q)
          refine V_iload_n (i := 1) dX3_changedNote_33 rfl 1 rfl ?_
          refine V_iret dX3_changedNote_34 ⟨rfl, rfl⟩ (Nat.zero_le _) (Nat.zero_le _) ?_
          subst hQ
          refine ⟨?_, rfl⟩
          congr 3
          unfold chg
          repeat' split
          all_goals omega
        · have h26 : t = 4 := (nI_eq (by omega) (by omega)).mp h26
          refine V_iconst (v := nI 3) dX3_changedNote_29 rfl ?_
          refine V_goto (tgt := 34) dX3_changedNote_30 rfl ?_
          refine V_iret dX3_changedNote_34 ⟨rfl, rfl⟩ (Nat.zero_le _) (Nat.zero_le _) ?_
          subst hQ
          refine ⟨?_, rfl⟩
          congr 3
          unfold chg
          repeat' split
          all_goals omega
      · have h18 : t = 0 := (nI_eq (b := 0) (by omega) (by omega)).mp h18
        refine V_bipush (v := nI 9) dX3_changedNote_21 rfl ?_
        refine V_iret dX3_changedNote_23 ⟨rfl, rfl⟩ (Nat.zero_le _) (Nat.zero_le _) ?_
        subst hQ
        refine ⟨?_, rfl⟩
        congr 3
        unfold chg
        repeat' split
        all_goals omega
  · have h2 : ¬ k = 2 := fun q => h2 ((nI_eq (by omega) (by omega)).mpr q)
    refine V_iload_n (i := 0) dX3_changedNote_5 rfl 0 rfl ?_
    refine V_iconst (v := nI 4) dX3_changedNote_6 rfl ?_
    refine V_icmp_eq (tgt := 12) dX3_changedNote_7 rfl (fun h7 => ?_) (fun h7 => ?_)
    · have h7 : k = 4 := (nI_eq (by omega) (by omega)).mp h7
      refine V_iload_n (i := 0) dX3_changedNote_12 rfl 0 rfl ?_
      refine V_iconst (v := nI 4) dX3_changedNote_13 rfl ?_
      refine V_icmp_ne (tgt := 24) dX3_changedNote_14 rfl (fun h14 => ?_) (fun h14 => ?_)
      · have h14 : ¬ k = 4 := fun q => h14 ((nI_eq (by omega) (by omega)).mpr q)
        refine V_iload_n (i := 1) dX3_changedNote_24 rfl 1 rfl ?_
        refine V_iconst (v := nI 4) dX3_changedNote_25 rfl ?_
        refine V_icmp_ne (tgt := 33) dX3_changedNote_26 rfl (fun h26 => ?_) (fun h26 => ?_)
        · have h26 : ¬ t = 4 := fun q => h26 ((nI_eq (by omega) (by omega)).mpr q)
          refine V_iload_n (i := 1) dX3_changedNote_33 rfl 1 rfl ?_
          refine V_iret dX3_changedNote_34 ⟨rfl, rfl⟩ (Nat.zero_le _) (Nat.zero_le _) ?_
          subst hQ
          refine ⟨?_, rfl⟩
          congr 3
          unfold chg
          repeat' split
          all_goals omega
        · have h26 : t = 4 := (nI_eq (by omega) (by omega)).mp h26
          refine V_iconst (v := nI 3) dX3_changedNote_29 rfl ?_
          refine V_goto (tgt := 34) dX3_changedNote_30 rfl ?_
          refine V_iret dX3_changedNote_34 ⟨rfl, rfl⟩ (Nat.zero_le _) (Nat.zero_le _) ?_
          subst hQ
          refine ⟨?_, rfl⟩
          congr 3
          unfold chg
          repeat' split
          all_goals omega
      · have h14 : k = 4 := (nI_eq (by omega) (by omega)).mp h14
        refine V_iload_n (i := 1) dX3_changedNote_17 rfl 1 rfl ?_
        refine V_if_ne (tgt := 24) dX3_changedNote_18 rfl (fun h18 => ?_) (fun h18 => ?_)
        · have h18 : ¬ t = 0 := fun q => h18 ((nI_eq (b := 0) (by omega) (by omega)).mpr q)
          refine V_iload_n (i := 1) dX3_changedNote_24 rfl 1 rfl ?_
          refine V_iconst (v := nI 4) dX3_changedNote_25 rfl ?_
          refine V_icmp_ne (tgt := 33) dX3_changedNote_26 rfl (fun h26 => ?_) (fun h26 => ?_)
          · have h26 : ¬ t = 4 := fun q => h26 ((nI_eq (by omega) (by omega)).mpr q)
            refine V_iload_n (i := 1) dX3_changedNote_33 rfl 1 rfl ?_
            refine V_iret dX3_changedNote_34 ⟨rfl, rfl⟩ (Nat.zero_le _) (Nat.zero_le _) ?_
            subst hQ
            refine ⟨?_, rfl⟩
            congr 3
            unfold chg
            repeat' split
            all_goals omega
          · have h26 : t = 4 := (nI_eq (by omega) (by omega)).mp h26
            refine V_iconst (v := nI 3) dX3_changedNote_29 rfl ?_
            refine V_goto (tgt := 34) dX3_changedNote_30 rfl ?_
            refine V_iret dX3_changedNote_34 ⟨rfl, rfl⟩ (Nat.zero_le _) (Nat.zero_le _) ?_
            subst hQ
            refine ⟨?_, rfl⟩
            congr 3
            unfold chg
            repeat' split
            all_goals omega
        · have h18 : t = 0 := (nI_eq (b := 0) (by omega) (by omega)).mp h18
          refine V_bipush (v := nI 9) dX3_changedNote_21 rfl ?_
          refine V_iret dX3_changedNote_23 ⟨rfl, rfl⟩ (Nat.zero_le _) (Nat.zero_le _) ?_
          subst hQ
          refine ⟨?_, rfl⟩
          congr 3
          unfold chg
          repeat' split
          all_goals omega
    · have h7 : ¬ k = 4 := fun q => h7 ((nI_eq (by omega) (by omega)).mpr q)
      refine V_iload_n (i := 1) dX3_changedNote_10 rfl 1 rfl ?_
      refine V_iret dX3_changedNote_11 ⟨rfl, rfl⟩ (Nat.zero_le _) (Nat.zero_le _) ?_
      subst hQ
      refine ⟨?_, rfl⟩
      congr 3
      unfold chg
      repeat' split
      all_goals omega
set_option maxRecDepth 20000 in
theorem t_X3_countTornAway {g : Ev} {S : St} {iv : IV} {lw : LW} {k a : Nat} (hk : k ≤ 5) (ha : a ≤ 9) : CP g mX3_countTornAway [.int (nI k), .int (nI a)] S iv lw (.int (nI (cntTo (fun i => decide (tornQ k a i 8)) 8))) := by
  refine CT_ofQ rfl (by decide) (Nat.le_of_ble_eq_true rfl) (lv := [(0, .int (nI k)), (1, .int (nI a))]) rfl (fun Q hQ => ?_)
  refine V_iconst (v := nI 0) dX3_countTornAway_0 rfl ?_
  refine V_istore_n (lv2 := [(2, .int (nI 0)), (0, .int (nI k)), (1, .int (nI a))]) dX3_countTornAway_1 rfl (by decide) rfl ?_
  refine V_iconst (v := nI 0) dX3_countTornAway_2 rfl ?_
  refine V_istore_n (lv2 := [(3, .int (nI 0)), (2, .int (nI 0)), (0, .int (nI k)), (1, .int (nI a))]) dX3_countTornAway_3 rfl (by decide) rfl ?_
  have lp4 : ∀ j, j ≤ 8 → VM g mX3_countTornAway 4 [(2, .int (nI (cntTo (fun i => decide (tornQ k a i 8)) j))), (3, .int (nI j)), (0, .int (nI k)), (1, .int (nI a))] [] S iv lw Q := by
    refine up_ind fun j hj ih4 => ?_
    refine V_iload_n (i := 3) dX3_countTornAway_4 rfl 1 rfl ?_
    refine V_bipush (v := nI 8) dX3_countTornAway_5 rfl ?_
    refine V_icmp_ge (tgt := 30) dX3_countTornAway_7 rfl (fun h7 => ?_) (fun h7 => ?_)
    · have h7 : 8 ≤ j := (nI_leI (by omega) (by omega)).mp h7
      refine V_iload_n (i := 2) dX3_countTornAway_30 rfl 0 rfl ?_
      refine V_iret dX3_countTornAway_31 ⟨rfl, rfl⟩ (Nat.zero_le _) (Nat.zero_le _) ?_
      subst hQ
      exact ⟨by rw [show j = 8 by omega], rfl⟩
    · have h7 : ¬ 8 ≤ j := fun q => h7 ((nI_leI (by omega) (by omega)).mpr q)
      refine V_iload_n (i := 0) dX3_countTornAway_10 rfl 2 rfl ?_
      refine V_iload_n (i := 1) dX3_countTornAway_11 rfl 3 rfl ?_
      refine V_iload_n (i := 3) dX3_countTornAway_12 rfl 1 rfl ?_
      refine V_bipush (v := nI 8) dX3_countTornAway_13 rfl ?_
      refine M_callSp (As := [.int (nI k), .int (nI a), .int (nI j), .int (nI 8)]) (st := []) dX3_countTornAway_15 ls_X3_23 ⟨by decide, by decide⟩ ⟨rfl, rfl⟩ rfl (Nat.le_of_ble_eq_true rfl) (t_X3_isTornAway hk ha (by omega) (by omega)) ?_
      refine V_if_eq (tgt := 24) dX3_countTornAway_18 rfl (fun h18 => ?_) (fun h18 => ?_)
      · have h18 : ¬ (tornQ k a j 8) := bI_eq0.mp h18
        refine V_iinc (v := nI (j + 1)) (lv2 := [(3, .int (nI (j + 1))), (2, .int (nI (cntTo (fun i => decide (tornQ k a i 8)) j))), (0, .int (nI k)), (1, .int (nI a))]) dX3_countTornAway_24 1 rfl (nI_inc _) (by decide) rfl ?_
        refine V_goto (tgt := 4) dX3_countTornAway_27 rfl ?_
        refine V_sub [1, 0, 2, 3] rfl ?_
        exact M_at (ih4 (by omega)) (by rw [cntTo_f (decide_eq_false h18)]; rfl) rfl (rfl) (rfl)
      · have h18 : tornQ k a j 8 := bI_ne.mp h18
        refine V_iinc (v := nI (cntTo (fun i => decide (tornQ k a i 8)) j + 1)) (lv2 := [(2, .int (nI (cntTo (fun i => decide (tornQ k a i 8)) j + 1))), (3, .int (nI j)), (0, .int (nI k)), (1, .int (nI a))]) dX3_countTornAway_21 0 rfl (nI_inc _) (by decide) rfl ?_
        refine V_iinc (v := nI (j + 1)) (lv2 := [(3, .int (nI (j + 1))), (2, .int (nI (cntTo (fun i => decide (tornQ k a i 8)) j + 1))), (0, .int (nI k)), (1, .int (nI a))]) dX3_countTornAway_24 1 rfl (nI_inc _) (by decide) rfl ?_
        refine V_goto (tgt := 4) dX3_countTornAway_27 rfl ?_
        refine V_sub [1, 0, 2, 3] rfl ?_
        exact M_at (ih4 (by omega)) (by rw [cntTo_t (decide_eq_true h18)]; rfl) rfl (rfl) (rfl)
  refine V_sub [1, 0, 2, 3] rfl ?_
  exact M_at (lp4 0 (Nat.zero_le _)) (rfl) rfl (rfl) (rfl)
set_option maxRecDepth 20000 in
theorem t_X3_countEchoed {g : Ev} {S : St} {iv : IV} {lw : LW} {k a : Nat} (hk : k ≤ 5) (ha : a ≤ 9) : CP g mX3_countEchoed [.int (nI k), .int (nI a)] S iv lw (.int (nI (cntTo (fun i => decide (echoQ k a i)) 8))) := by
  refine CT_ofQ rfl (by decide) (Nat.le_of_ble_eq_true rfl) (lv := [(0, .int (nI k)), (1, .int (nI a))]) rfl (fun Q hQ => ?_)
  refine V_iconst (v := nI 0) dX3_countEchoed_0 rfl ?_
  refine V_istore_n (lv2 := [(2, .int (nI 0)), (0, .int (nI k)), (1, .int (nI a))]) dX3_countEchoed_1 rfl (by decide) rfl ?_
  refine V_iconst (v := nI 0) dX3_countEchoed_2 rfl ?_
  refine V_istore_n (lv2 := [(3, .int (nI 0)), (2, .int (nI 0)), (0, .int (nI k)), (1, .int (nI a))]) dX3_countEchoed_3 rfl (by decide) rfl ?_
  have lp4 : ∀ j, j ≤ 8 → VM g mX3_countEchoed 4 [(2, .int (nI (cntTo (fun i => decide (echoQ k a i)) j))), (3, .int (nI j)), (0, .int (nI k)), (1, .int (nI a))] [] S iv lw Q := by
    refine up_ind fun j hj ih4 => ?_
    refine V_iload_n (i := 3) dX3_countEchoed_4 rfl 1 rfl ?_
    refine V_bipush (v := nI 8) dX3_countEchoed_5 rfl ?_
    refine V_icmp_ge (tgt := 28) dX3_countEchoed_7 rfl (fun h7 => ?_) (fun h7 => ?_)
    · have h7 : 8 ≤ j := (nI_leI (by omega) (by omega)).mp h7
      refine V_iload_n (i := 2) dX3_countEchoed_28 rfl 0 rfl ?_
      refine V_iret dX3_countEchoed_29 ⟨rfl, rfl⟩ (Nat.zero_le _) (Nat.zero_le _) ?_
      subst hQ
      exact ⟨by rw [show j = 8 by omega], rfl⟩
    · have h7 : ¬ 8 ≤ j := fun q => h7 ((nI_leI (by omega) (by omega)).mpr q)
      refine V_iload_n (i := 0) dX3_countEchoed_10 rfl 2 rfl ?_
      refine V_iload_n (i := 1) dX3_countEchoed_11 rfl 3 rfl ?_
      refine V_iload_n (i := 3) dX3_countEchoed_12 rfl 1 rfl ?_
      refine M_callSp (As := [.int (nI k), .int (nI a), .int (nI j)]) (st := []) dX3_countEchoed_13 ls_X3_27 ⟨by decide, by decide⟩ ⟨rfl, rfl⟩ rfl (Nat.le_of_ble_eq_true rfl) (t_X3_isEchoed hk ha (by omega)) ?_
      refine V_if_eq (tgt := 22) dX3_countEchoed_16 rfl (fun h16 => ?_) (fun h16 => ?_)
      · have h16 : ¬ (echoQ k a j) := bI_eq0.mp h16
        refine V_iinc (v := nI (j + 1)) (lv2 := [(3, .int (nI (j + 1))), (2, .int (nI (cntTo (fun i => decide (echoQ k a i)) j))), (0, .int (nI k)), (1, .int (nI a))]) dX3_countEchoed_22 1 rfl (nI_inc _) (by decide) rfl ?_
        refine V_goto (tgt := 4) dX3_countEchoed_25 rfl ?_
        refine V_sub [1, 0, 2, 3] rfl ?_
        exact M_at (ih4 (by omega)) (by rw [cntTo_f (decide_eq_false h16)]; rfl) rfl (rfl) (rfl)
      · have h16 : echoQ k a j := bI_ne.mp h16
        refine V_iinc (v := nI (cntTo (fun i => decide (echoQ k a i)) j + 1)) (lv2 := [(2, .int (nI (cntTo (fun i => decide (echoQ k a i)) j + 1))), (3, .int (nI j)), (0, .int (nI k)), (1, .int (nI a))]) dX3_countEchoed_19 0 rfl (nI_inc _) (by decide) rfl ?_
        refine V_iinc (v := nI (j + 1)) (lv2 := [(3, .int (nI (j + 1))), (2, .int (nI (cntTo (fun i => decide (echoQ k a i)) j + 1))), (0, .int (nI k)), (1, .int (nI a))]) dX3_countEchoed_22 1 rfl (nI_inc _) (by decide) rfl ?_
        refine V_goto (tgt := 4) dX3_countEchoed_25 rfl ?_
        refine V_sub [1, 0, 2, 3] rfl ?_
        exact M_at (ih4 (by omega)) (by rw [cntTo_t (decide_eq_true h16)]; rfl) rfl (rfl) (rfl)
  refine V_sub [1, 0, 2, 3] rfl ?_
  exact M_at (lp4 0 (Nat.zero_le _)) (rfl) rfl (rfl) (rfl)
set_option maxRecDepth 20000 in
theorem t_X3_tellOf {g : Ev} {S : St} {iv : IV} {lw : LW} {k a o : Nat} (hk : k ≤ 5) (ha : a ≤ 9) (ho : o ≤ 5) : CP g mX3_tellOf [.int (nI k), .int (nI a), .int (nI o)] S iv lw (.int (nI (if o = 1 ∨ o = 3 then cntTo (fun i => decide (tornQ k a i 8)) 8 else if o = 2 ∨ o = 4 then chg k 4 else if o = 5 then cntTo (fun i => decide (echoQ k a i)) 8 else a))) := by
  refine CT_ofQ rfl (by decide) (Nat.le_of_ble_eq_true rfl) (lv := [(0, .int (nI k)), (1, .int (nI a)), (2, .int (nI o))]) rfl (fun Q hQ => ?_)
  refine V_iload_n (i := 2) dX3_tellOf_0 rfl 2 rfl ?_
  by_cases hs1_1 : (o : Int) = 1
  · refine V_tabIn (v := 1) (tgt := 36) dX3_tellOf_1 (by rw [nI_toInt (n := o) (by omega)]; exact hs1_1) (by decide) rfl rfl ?_
    have hs1_1 : o = 1 := by omega
    refine V_iload_n (i := 0) dX3_tellOf_36 rfl 0 rfl ?_
    refine V_iload_n (i := 1) dX3_tellOf_37 rfl 1 rfl ?_
    refine M_callSp (As := [.int (nI k), .int (nI a)]) (st := []) dX3_tellOf_38 ls_X3_11 ⟨by decide, by decide⟩ ⟨rfl, rfl⟩ rfl (Nat.le_of_ble_eq_true rfl) (t_X3_countTornAway hk ha) ?_
    refine V_iret dX3_tellOf_41 ⟨rfl, rfl⟩ (Nat.zero_le _) (Nat.zero_le _) ?_
    subst hQ
    refine ⟨?_, rfl⟩
    simp [hs1_1]
  by_cases hs1_2 : (o : Int) = 2
  · refine V_tabIn (v := 2) (tgt := 42) dX3_tellOf_1 (by rw [nI_toInt (n := o) (by omega)]; exact hs1_2) (by decide) rfl rfl ?_
    have hs1_2 : o = 2 := by omega
    refine V_iload_n (i := 0) dX3_tellOf_42 rfl 0 rfl ?_
    refine V_iconst (v := nI 4) dX3_tellOf_43 rfl ?_
    refine M_callSp (As := [.int (nI k), .int (nI 4)]) (st := []) dX3_tellOf_44 ls_X3_15 ⟨by decide, by decide⟩ ⟨rfl, rfl⟩ rfl (Nat.le_of_ble_eq_true rfl) (t_X3_changedNote hk (by omega)) ?_
    refine V_iret dX3_tellOf_47 ⟨rfl, rfl⟩ (Nat.zero_le _) (Nat.zero_le _) ?_
    subst hQ
    refine ⟨?_, rfl⟩
    simp [hs1_2]
  by_cases hs1_3 : (o : Int) = 3
  · refine V_tabIn (v := 3) (tgt := 36) dX3_tellOf_1 (by rw [nI_toInt (n := o) (by omega)]; exact hs1_3) (by decide) rfl rfl ?_
    have hs1_3 : o = 3 := by omega
    refine V_iload_n (i := 0) dX3_tellOf_36 rfl 0 rfl ?_
    refine V_iload_n (i := 1) dX3_tellOf_37 rfl 1 rfl ?_
    refine M_callSp (As := [.int (nI k), .int (nI a)]) (st := []) dX3_tellOf_38 ls_X3_11 ⟨by decide, by decide⟩ ⟨rfl, rfl⟩ rfl (Nat.le_of_ble_eq_true rfl) (t_X3_countTornAway hk ha) ?_
    refine V_iret dX3_tellOf_41 ⟨rfl, rfl⟩ (Nat.zero_le _) (Nat.zero_le _) ?_
    subst hQ
    refine ⟨?_, rfl⟩
    simp [hs1_3]
  by_cases hs1_4 : (o : Int) = 4
  · refine V_tabIn (v := 4) (tgt := 42) dX3_tellOf_1 (by rw [nI_toInt (n := o) (by omega)]; exact hs1_4) (by decide) rfl rfl ?_
    have hs1_4 : o = 4 := by omega
    refine V_iload_n (i := 0) dX3_tellOf_42 rfl 0 rfl ?_
    refine V_iconst (v := nI 4) dX3_tellOf_43 rfl ?_
    refine M_callSp (As := [.int (nI k), .int (nI 4)]) (st := []) dX3_tellOf_44 ls_X3_15 ⟨by decide, by decide⟩ ⟨rfl, rfl⟩ rfl (Nat.le_of_ble_eq_true rfl) (t_X3_changedNote hk (by omega)) ?_
    refine V_iret dX3_tellOf_47 ⟨rfl, rfl⟩ (Nat.zero_le _) (Nat.zero_le _) ?_
    subst hQ
    refine ⟨?_, rfl⟩
    simp [hs1_4]
  by_cases hs1_5 : (o : Int) = 5
  · refine V_tabIn (v := 5) (tgt := 48) dX3_tellOf_1 (by rw [nI_toInt (n := o) (by omega)]; exact hs1_5) (by decide) rfl rfl ?_
    have hs1_5 : o = 5 := by omega
    refine V_iload_n (i := 0) dX3_tellOf_48 rfl 0 rfl ?_
    refine V_iload_n (i := 1) dX3_tellOf_49 rfl 1 rfl ?_
    refine M_callSp (As := [.int (nI k), .int (nI a)]) (st := []) dX3_tellOf_50 ls_X3_18 ⟨by decide, by decide⟩ ⟨rfl, rfl⟩ rfl (Nat.le_of_ble_eq_true rfl) (t_X3_countEchoed hk ha) ?_
    refine V_iret dX3_tellOf_53 ⟨rfl, rfl⟩ (Nat.zero_le _) (Nat.zero_le _) ?_
    subst hQ
    refine ⟨?_, rfl⟩
    simp [hs1_5]
  refine V_tableOut (tgt := 54) dX3_tellOf_1 (by rw [nI_toInt (n := o) (by omega)]; omega) rfl ?_
  refine V_iload_n (i := 1) dX3_tellOf_54 rfl 1 rfl ?_
  refine V_iret dX3_tellOf_55 ⟨rfl, rfl⟩ (Nat.zero_le _) (Nat.zero_le _) ?_
  subst hQ
  refine ⟨?_, rfl⟩
  rw [if_neg (by omega), if_neg (by omega), if_neg (by omega)]
set_option maxRecDepth 20000 in
theorem t_noteByEar {g : Ev} {S : St} {iv : IV} {lw : LW} {b : Nat} (hb : IsCamp S b) {V : Cv} (hV : XC iv b V) {c e i : Nat} (hc : c < v_nc V) (he : e < v_ne V) (hi : i < v_sz V c) : CP g mX6_noteByEar [.ref (b), .int (nI c), .int (nI e), .int (nI i)] S iv lw (.int (nI (noteBy V c e i))) := by
  refine CT_ofQ rfl (by decide) (Nat.le_of_ble_eq_true rfl) (lv := [(0, .ref (b)), (1, .int (nI c)), (2, .int (nI e)), (3, .int (nI i))]) rfl (fun Q hQ => ?_)
  have hnc := hV.ok.nc
  have hne := hV.ok.ne
  have hsz := hV.ok.sz hc
  have hkd := hV.ok.kd he
  have hby := hV.ok.by he
  refine V_aload_n (i := 0) dX6_noteByEar_0 rfl 0 rfl ?_
  refine V_iload_n (i := 2) dX6_noteByEar_1 rfl 2 rfl ?_
  refine M_callVp (As := [.int (nI e)]) (st := []) dX6_noteByEar_2 lv_X6_9 ⟨by decide, by decide⟩ ⟨rfl, rfl⟩ rfl (ci := 0) hb.1 rfl rfl (Nat.le_of_ble_eq_true rfl) (t_X0_kindOf hb hV he) ?_
  refine V_istore (lv2 := [(4, .int (nI (v_kd V e))), (0, .ref (b)), (1, .int (nI c)), (2, .int (nI e)), (3, .int (nI i))]) dX6_noteByEar_5 (by decide) rfl ?_
  refine V_aload_n (i := 0) dX6_noteByEar_7 rfl 1 rfl ?_
  refine V_iload_n (i := 2) dX6_noteByEar_8 rfl 3 rfl ?_
  refine M_callVp (As := [.int (nI e)]) (st := []) dX6_noteByEar_9 lv_X6_15 ⟨by decide, by decide⟩ ⟨rfl, rfl⟩ rfl (ci := 0) hb.1 rfl rfl (Nat.le_of_ble_eq_true rfl) (t_X0_strengthOf hb hV he) ?_
  refine V_istore (lv2 := [(5, .int (nI (v_by V e))), (4, .int (nI (v_kd V e))), (0, .ref (b)), (1, .int (nI c)), (2, .int (nI e)), (3, .int (nI i))]) dX6_noteByEar_12 (by decide) rfl ?_
  refine V_iload dX6_noteByEar_14 1 rfl ?_
  refine V_iload dX6_noteByEar_16 0 rfl ?_
  refine V_iload_n (i := 3) dX6_noteByEar_18 rfl 5 rfl ?_
  refine V_aload_n (i := 0) dX6_noteByEar_19 rfl 2 rfl ?_
  refine V_iload_n (i := 1) dX6_noteByEar_20 rfl 3 rfl ?_
  refine M_callVp (As := [.int (nI c)]) (st := [.int (nI i), .int (nI (v_by V e)), .int (nI (v_kd V e))]) dX6_noteByEar_21 lv_X6_18 ⟨by decide, by decide⟩ ⟨rfl, rfl⟩ rfl (ci := 0) hb.1 rfl rfl (Nat.le_of_ble_eq_true rfl) (t_X0_sizeOf hb hV hc) ?_
  refine M_callSp (As := [.int (nI (v_kd V e)), .int (nI (v_by V e)), .int (nI i), .int (nI (v_sz V c))]) (st := []) dX6_noteByEar_24 ls_X6_21 ⟨by decide, by decide⟩ ⟨rfl, rfl⟩ rfl (Nat.le_of_ble_eq_true rfl) (t_X3_isTornAway (by omega) (by omega) (by omega) (by omega)) ?_
  refine V_if_eq (tgt := 33) dX6_noteByEar_27 rfl (fun h27 => ?_) (fun h27 => ?_)
  · have h27 : ¬ (tornQ (v_kd V e) (v_by V e) i (v_sz V c)) := bI_eq0.mp h27
    refine V_iload dX6_noteByEar_33 1 rfl ?_
    refine V_iload dX6_noteByEar_35 0 rfl ?_
    refine V_iload_n (i := 3) dX6_noteByEar_37 rfl 5 rfl ?_
    refine M_callSp (As := [.int (nI (v_kd V e)), .int (nI (v_by V e)), .int (nI i)]) (st := []) dX6_noteByEar_38 ls_X6_29 ⟨by decide, by decide⟩ ⟨rfl, rfl⟩ rfl (Nat.le_of_ble_eq_true rfl) (t_X3_isEchoed (by omega) (by omega) (by omega)) ?_
    refine V_if_eq (tgt := 53) dX6_noteByEar_41 rfl (fun h41 => ?_) (fun h41 => ?_)
    · have h41 : ¬ (echoQ (v_kd V e) (v_by V e) i) := bI_eq0.mp h41
      refine V_iload dX6_noteByEar_53 1 rfl ?_
      refine V_aload_n (i := 0) dX6_noteByEar_55 rfl 2 rfl ?_
      refine V_iload_n (i := 1) dX6_noteByEar_56 rfl 3 rfl ?_
      refine V_iload_n (i := 3) dX6_noteByEar_57 rfl 5 rfl ?_
      refine M_callVp (As := [.int (nI c), .int (nI i)]) (st := [.int (nI (v_kd V e))]) dX6_noteByEar_58 lv_X6_33 ⟨by decide, by decide⟩ ⟨rfl, rfl⟩ rfl (ci := 0) hb.1 rfl rfl (Nat.le_of_ble_eq_true rfl) (t_X0_noteAt hb hV hc hi) ?_
      have hnt := hV.ok.nt hc hi
      refine M_callSp (As := [.int (nI (v_kd V e)), .int (nI (v_nt V c i))]) (st := []) dX6_noteByEar_61 ls_X6_37 ⟨by decide, by decide⟩ ⟨rfl, rfl⟩ rfl (Nat.le_of_ble_eq_true rfl) (t_X3_changedNote (by omega) (by omega)) ?_
      refine V_iret dX6_noteByEar_64 ⟨rfl, rfl⟩ (Nat.zero_le _) (Nat.zero_le _) ?_
      subst hQ
      exact ⟨by rw [noteBy_is, if_neg h27, if_neg h41], rfl⟩
    · have h41 : echoQ (v_kd V e) (v_by V e) i := bI_ne.mp h41
      refine V_aload_n (i := 0) dX6_noteByEar_44 rfl 2 rfl ?_
      refine V_iload_n (i := 1) dX6_noteByEar_45 rfl 3 rfl ?_
      refine V_iload_n (i := 3) dX6_noteByEar_46 rfl 5 rfl ?_
      refine V_iconst (v := nI 1) dX6_noteByEar_47 rfl ?_
      refine V_isub dX6_noteByEar_48 ?_
      refine M_top (nI_sub (by have := h41.2.1; omega)) ?_
      refine M_callVp (As := [.int (nI c), .int (nI (i - 1))]) (st := []) dX6_noteByEar_49 lv_X6_33 ⟨by decide, by decide⟩ ⟨rfl, rfl⟩ rfl (ci := 0) hb.1 rfl rfl (Nat.le_of_ble_eq_true rfl) (t_X0_noteAt hb hV hc (by omega)) ?_
      refine V_iret dX6_noteByEar_52 ⟨rfl, rfl⟩ (Nat.zero_le _) (Nat.zero_le _) ?_
      subst hQ
      exact ⟨by rw [noteBy_is, if_neg h27, if_pos h41], rfl⟩
  · have h27 : tornQ (v_kd V e) (v_by V e) i (v_sz V c) := bI_ne.mp h27
    refine V_bipush (v := nI 9) dX6_noteByEar_30 rfl ?_
    refine V_iret dX6_noteByEar_32 ⟨rfl, rfl⟩ (Nat.zero_le _) (Nat.zero_le _) ?_
    subst hQ
    exact ⟨by rw [noteBy_is, if_pos h27], rfl⟩
