/-! the reference: back -/
theorem bk_same {ne : Nat} {T : Sv} (h : ¬ (earQ T ∧ ¬ iN T.1 - 10 < ne)) : bkT ne T = T := if_neg h
theorem ms_bk {iv : IV} {lw : LW} {b s ne : Nat} {T : Sv} (h : earQ T ∧ ¬ iN T.1 - 10 < ne) : MS (up2 iv (b + 1) s (nI 0)) lw b s (bkT ne T) := by
  rw [show bkT ne T = (-1, 0, T.2.2) from if_pos h]
  have e : (-1 : Int32).toInt = -1 := by decide
  have h1 : ¬ rowQ ((-1, 0, T.2.2) : Sv) := fun q => by
    have q2 : 0 ≤ (-1 : Int32).toInt ∧ (-1 : Int32).toInt < 5 := q
    omega
  have h2 : ¬ earQ ((-1, 0, T.2.2) : Sv) := fun q => by
    have q2 : 10 ≤ (-1 : Int32).toInt := q
    omega
  refine ⟨up2_s.trans ?_, fun q => absurd q h1, fun q => absurd q h2⟩
  unfold sk
  rw [if_neg h1, if_neg h2]
theorem sk_2 {T : Sv} (h : sk T = 2) : earQ T := by
  rcases sk_c T with q | q | q
  · omega
  · exact q.2.1
  · omega
theorem sk_n2 {T : Sv} (h : ¬ sk T = 2) : ¬ earQ T := by
  rcases sk_c T with q | q | q
  · exact q.2.1
  · omega
  · exact q.2.1
theorem sk_le (T : Sv) : sk T ≤ 2 := by
  rcases sk_c T with q | q | q <;> omega
set_option maxRecDepth 20000 in
theorem q_back_n {g : Ev} {S : St} {iv : IV} {lw : LW} {b : Nat} (hs : SS S b) {X : Xs} (hX : MX S iv lw b X) (hk : XOK X) (hK : x_K X = none) : CQ g mX10_back [.ref (b)] S iv lw (fun w iv2 lw2 => MP S b iv lw (o_back X) w iv2 lw2) := by
  refine CT_ofQ rfl (by decide) (Nat.le_of_ble_eq_true rfl) (lv := [(0, .ref (b))]) rfl (fun Q hQ => ?_)
  have hb := hs.1
  have hA := hX.1
  have hv := hk.1
  have hnc := hv.nc
  have hne := hv.ne
  have hnm := hv.nm
  refine V_aload_n (i := 0) dX10_back_0 rfl 0 rfl ?_
  refine M_getN dX10_back_1 lf_X10_346 rfl hb.1 (hX.2.2.2.2.1 hK) ?_
  refine V_ifnonnullN dX10_back_4 ?_
  refine V_aload_n (i := 0) dX10_back_7 rfl 0 rfl ?_
  refine V_bipush (v := (-5)) dX10_back_8 rfl ?_
  refine M_callVq (As := [.int ((-5))]) (st := []) dX10_back_10 lv_X10_107 ⟨by decide, by decide⟩ ⟨rfl, rfl⟩ rfl (ci := 7) hb.1 rfl rfl (Nat.le_of_ble_eq_true rfl) (q_refuse hs hX hk (j := 3) (by decide)) (fun w10 iv10 lw10 q10 => ?_)
  obtain ⟨rfl, e1, hXr, hOr⟩ := q10
  subst e1
  refine V_iret dX10_back_13 ⟨rfl, rfl⟩ (Nat.zero_le _) (Nat.zero_le _) ?_
  subst hQ
  exact ⟨_, _, _, rfl, rfl, by unfold o_back; rw [hK]; exact ⟨rfl, hXr, hOr, Off.rf⟩⟩
set_option maxRecDepth 20000 in
theorem q_back_s {g : Ev} {S : St} {iv : IV} {lw : LW} {b : Nat} (hs : SS S b) {X : Xs} (hX : MX S iv lw b X) (hk : XOK X) {K : Cv} (hK : x_K X = some K) : CQ g mX10_back [.ref (b)] S iv lw (fun w iv2 lw2 => MP S b iv lw (o_back X) w iv2 lw2) := by
  refine CT_ofQ rfl (by decide) (Nat.le_of_ble_eq_true rfl) (lv := [(0, .ref (b))]) rfl (fun Q hQ => ?_)
  have hb := hs.1
  have hA := hX.1
  have hv := hk.1
  have hnc := hv.nc
  have hne := hv.ne
  have hnm := hv.nm
  obtain ⟨q, hq1, hq2, hq3⟩ := hX.2.2.2.2.2 K hK
  have hqM := hs.2.1 q hq1
  have hKv := hk.2.2.2.2 K hK
  have hKne := hKv.ne
  have hAne := hk.1.ne
  refine V_aload_n (i := 0) dX10_back_0 rfl 0 rfl ?_
  refine M_getR dX10_back_1 lf_X10_346 rfl hb.1 (hq1) ?_
  refine V_ifnonnull (tgt := 14) dX10_back_4 rfl ?_
  refine V_aload_n (i := 0) dX10_back_14 rfl 0 rfl ?_
  refine V_aload_n (i := 0) dX10_back_15 rfl 0 rfl ?_
  refine M_getR dX10_back_16 lf_X10_346 rfl hb.1 (hq1) ?_
  refine M_callVn (As := [.ref (q)]) (st := []) dX10_back_19 lv_X10_238 ⟨by decide, by decide⟩ ⟨rfl, rfl⟩ rfl (ci := 7) hb.1 rfl rfl (Nat.le_of_ble_eq_true rfl) (r_takeFrom hs.1 hqM.1 (by omega) hq3 hKv) (fun iv19 lw19 q19 => ?_)
  obtain ⟨e1, hC19, hB19⟩ := q19
  subst e1
  have hB19 := hB19.mb
  refine V_iconst (v := nI 0) dX10_back_22 rfl ?_
  refine V_istore_n (lv2 := [(1, .int (nI 0)), (0, .ref (b))]) dX10_back_23 rfl (by decide) rfl ?_
  have lp24 : ∀ j, j ≤ 8 → ∀ iv2 : IV, MC iv2 b K → (∀ s, s < j → MS iv2 lw b s (bkT (v_ne K) (x_T X s))) → (∀ s, j ≤ s → s < 8 → MS iv2 lw b s (x_T X s)) → (∀ a, ¬ a = b + 1 → iv2 a = iv19 a) → VM g mX10_back 24 [(1, .int (nI j)), (0, .ref (b))] [] S iv2 lw Q := by
    refine up_ind fun j hj ih24 => ?_
    intro iv2 hC2 hlo hhi hO2
    refine V_iload_n (i := 1) dX10_back_24 rfl 0 rfl ?_
    refine V_bipush (v := nI 8) dX10_back_25 rfl ?_
    refine V_icmp_ge (tgt := 66) dX10_back_27 rfl (fun h27 => ?_) (fun h27 => ?_)
    · have h27 : 8 ≤ j := (nI_leI (by omega) (by omega)).mp h27
      refine V_iconst (v := nI 1) dX10_back_66 rfl ?_
      refine V_iret dX10_back_67 ⟨rfl, rfl⟩ (Nat.zero_le _) (Nat.zero_le _) ?_
      subst hQ
      obtain rfl : j = 8 := by omega
      exact ⟨_, _, _, rfl, rfl, by unfold o_back; rw [hK]; exact ⟨rfl, ⟨hC2, hlo, hX.2.2.1.fr ((congrFun (hO2 b (by omega)) _).trans (hB19 _ _ (by omega) (by omega))) (fun k => (congrFun (hO2 _ (by omega)) _).trans (hB19 _ _ (by omega) (by omega))), hX.2.2.2.1.fr (fun k => (congrFun (hO2 _ (by omega)) _).trans (hB19 _ _ (by omega) (by omega))), hX.2.2.2.2.fr hk.2.2.2.2 (fun a k ha => (congrFun (hO2 _ (by omega)) _).trans (hB19 _ _ (by omega) (by omega)))⟩, fun a ha => (hO2 a (by omega)).trans (hB19.off a ha), Off.rf⟩⟩
    · have h27 : ¬ 8 ≤ j := fun q => h27 ((nI_leI (by omega) (by omega)).mpr q)
      have hTj := hhi j (Nat.le_refl _) (by omega)
      have hsk := sk_le (x_T X j)
      refine V_aload_n (i := 0) dX10_back_30 rfl 1 rfl ?_
      refine M_getR dX10_back_31 lf_X10_7 rfl hb.1 hb.2.1.1 ?_
      refine V_iload_n (i := 1) dX10_back_34 rfl 0 rfl ?_
      refine M_ialdn (j := j) (x := nI (sk (x_T X j))) dX10_back_35 hb.2.1.2 (by decide) (by omega) (hTj.1) ?_
      refine V_iconst (v := nI 2) dX10_back_36 rfl ?_
      refine V_icmp_ne (tgt := 60) dX10_back_37 rfl (fun h37 => ?_) (fun h37 => ?_)
      · have h37 : ¬ (sk (x_T X j)) = 2 := fun q => h37 ((nI_eq (by omega) (by omega)).mpr q)
        refine V_iinc (v := nI (j + 1)) (lv2 := [(1, .int (nI (j + 1))), (0, .ref (b))]) dX10_back_60 0 rfl (nI_inc _) (by decide) rfl ?_
        refine V_goto (tgt := 24) dX10_back_63 rfl ?_
        have hnj : ¬ (earQ (x_T X j) ∧ ¬ iN (x_T X j).1 - 10 < v_ne K) := fun z => sk_n2 (by omega) z.1
        refine V_sub [0, 1] rfl ?_
        exact M_at (ih24 (by omega) iv2 hC2 (fun s hs => if e : s = j then by rw [e, bk_same hnj]; exact hTj else hlo s (by omega)) (fun s h1 h2 => hhi s (by omega) h2) hO2) (rfl) rfl (rfl) (rfl)
      · have h37 : (sk (x_T X j)) = 2 := (nI_eq (by omega) (by omega)).mp h37
        have hEj := sk_2 (T := x_T X j) (by omega)
        obtain ⟨e0, he0, he2⟩ := hk.2.2.1 j (by omega) hEj
        have he6 : e0 < 6 := by omega
        refine V_aload_n (i := 0) dX10_back_40 rfl 1 rfl ?_
        refine M_getR dX10_back_41 lf_X10_28 rfl hb.1 hb.2.2.2.2.2.2.1.1 ?_
        refine V_iload_n (i := 1) dX10_back_44 rfl 0 rfl ?_
        refine M_ialdn (j := j) (x := nI e0) dX10_back_45 hb.2.2.2.2.2.2.1.2 (by decide) (by omega) ((hTj.2.2 hEj).trans (by rw [he2]; exact ten_m he6)) ?_
        refine V_aload_n (i := 0) dX10_back_46 rfl 1 rfl ?_
        refine M_getI (x := nI (v_ne K)) dX10_back_47 lf_X10_95 rfl hb.1 (hC2.ne) ?_
        refine V_icmp_lt (tgt := 60) dX10_back_50 rfl (fun h50 => ?_) (fun h50 => ?_)
        · have h50 : e0 < (v_ne K) := (nI_ltI (by omega) (by omega)).mp h50
          refine V_iinc (v := nI (j + 1)) (lv2 := [(1, .int (nI (j + 1))), (0, .ref (b))]) dX10_back_60 0 rfl (nI_inc _) (by decide) rfl ?_
          refine V_goto (tgt := 24) dX10_back_63 rfl ?_
          have hiN : iN (x_T X j).1 - 10 = e0 := by rw [he2, iN_nI (by omega)]; omega
          have hnj : ¬ (earQ (x_T X j) ∧ ¬ iN (x_T X j).1 - 10 < v_ne K) := fun z => z.2 (by omega)
          refine V_sub [0, 1] rfl ?_
          exact M_at (ih24 (by omega) iv2 hC2 (fun s hs => if e : s = j then by rw [e, bk_same hnj]; exact hTj else hlo s (by omega)) (fun s h1 h2 => hhi s (by omega) h2) hO2) (rfl) rfl (rfl) (rfl)
        · have h50 : ¬ e0 < (v_ne K) := fun q => h50 ((nI_ltI (by omega) (by omega)).mpr q)
          refine V_aload_n (i := 0) dX10_back_53 rfl 1 rfl ?_
          refine M_getR dX10_back_54 lf_X10_7 rfl hb.1 hb.2.1.1 ?_
          refine V_iload_n (i := 1) dX10_back_57 rfl 0 rfl ?_
          refine V_iconst (v := nI 0) dX10_back_58 rfl ?_
          refine M_iastn (j := j) dX10_back_59 hb.2.1.2 (by decide) (by omega) ?_
          refine V_iinc (v := nI (j + 1)) (lv2 := [(1, .int (nI (j + 1))), (0, .ref (b))]) dX10_back_60 0 rfl (nI_inc _) (by decide) rfl ?_
          refine V_goto (tgt := 24) dX10_back_63 rfl ?_
          have hiN : iN (x_T X j).1 - 10 = e0 := by rw [he2, iN_nI (by omega)]; omega
          have hnj : ¬ iN (x_T X j).1 - 10 < v_ne K := by omega
          refine V_sub [0, 1] rfl ?_
          exact M_at (ih24 (by omega) (up2 iv2 (b + 1) j (nI 0)) (hC2.fr hKv (fun a k ha => up2_ne (by omega))) (fun s hs => if e : s = j then by rw [e]; exact ms_bk ⟨hEj, hnj⟩ else (hlo s (by omega)).fr (fun a ha => up2_o (fun z => e z.2)) rfl) (fun s h1 h2 => (hhi s (by omega) h2).fr (fun a ha => up2_o (fun z => absurd z.2 (by omega))) rfl) (fun a ha => (up2_a ha).trans (hO2 a ha))) (rfl) rfl (rfl) (rfl)
  refine V_sub [0, 1] rfl ?_
  exact M_at (lp24 0 (Nat.zero_le _) iv19 hC19 (fun s hs => absurd hs (by omega)) (fun s _ hs => (hX.2.1 s hs).fr (fun a ha => hB19 a s (by omega) (by omega)) rfl) (fun _ _ => rfl)) (rfl) rfl (rfl) (rfl)
theorem q_back {g : Ev} {S : St} {iv : IV} {lw : LW} {b : Nat} (hs : SS S b) {X : Xs} (hX : MX S iv lw b X) (hk : XOK X) : CQ g mX10_back [.ref b] S iv lw (fun w iv2 lw2 => MP S b iv lw (o_back X) w iv2 lw2) := by
  cases hK : x_K X with
  | none => exact q_back_n hs hX hk hK
  | some K => exact q_back_s hs hX hk hK
