/-! Sense, the rest -/
def meanV (V : Cv) (e : Nat) : Nat := perK (sumTo (fun c => v_us V c * behind V c e) (v_nc V)) (sumTo (v_us V) (v_nc V))
theorem msum_le {V : Cv} {e m : Nat} (h : VOK V) (hm : m ≤ v_nc V) : sumTo (fun c => v_us V c * behind V c e) m ≤ 11880 := by
  have h1 : sumTo (fun c => v_us V c * behind V c e) m ≤ m * 990 := sumTo_le m (fun i hi => by
    have h2 := behind_le V i e
    have h3 := h.sz (c := i) (by omega)
    exact Nat.mul_le_mul (h.us (c := i) (by omega)) (by omega : behind V i e ≤ 10))
  have := h.nc
  have : m * 990 ≤ 12 * 990 := Nat.mul_le_mul_right _ (by omega)
  omega
theorem usum_le {V : Cv} {m : Nat} (h : VOK V) (hm : m ≤ v_nc V) : sumTo (v_us V) m ≤ 1188 := by
  have h1 : sumTo (v_us V) m ≤ m * 99 := sumTo_le m (fun i hi => h.us (c := i) (by omega))
  have := h.nc
  have : m * 99 ≤ 12 * 99 := Nat.mul_le_mul_right _ (by omega)
  omega
theorem bitsTo_t {V : Cv} {H : Hv} {e c : Nat} (h : fitB V H e c = true) : bitsTo V H e (c + 1) = bitsTo V H e c ||| 2 ^ nxB V H.1 e c := if_pos h
theorem bitsTo_f {V : Cv} {H : Hv} {e c : Nat} (h : ¬ fitB V H e c = true) : bitsTo V H e (c + 1) = bitsTo V H e c := if_neg h
theorem fmAt_none {V : Cv} {e c : Nat} (h : ∀ k, k < v_nc V → (decide (c < k) && mixB V e c k) = false) : fmAt V e c = none := by
  unfold fmAt
  rw [fstTo_none _ h, if_neg (by omega)]
theorem fmAt_some {V : Cv} {e c d : Nat} (hd : d < v_nc V) (h : ∀ k, k < d → (decide (c < k) && mixB V e c k) = false) (h2 : (decide (c < d) && mixB V e c d) = true) : fmAt V e c = some (100 * c + d) := by
  unfold fmAt
  rw [fstTo_at _ hd h h2, if_pos hd]
theorem sureB_none {V : Cv} {H : Hv} {e n : Nat} (h : gsTo V (n, false, H.2.2) e (v_nc V) = none) : sureB V H e n = false := by unfold sureB; rw [h]
theorem sureB_some {V : Cv} {H : Hv} {e n k : Nat} (h : gsTo V (n, false, H.2.2) e (v_nc V) = some k) : sureB V H e n = decide (v_su V ≤ likeOf V (n, false, H.2.2) e k) := by unfold sureB; rw [h]
theorem fmTo_s {V : Cv} {e c : Nat} (h : fmTo V e c = none) (h2 : fmAt V e c = none) : fmTo V e (c + 1) = none := by
  show (match fmTo V e c with | some x => some x | none => fmAt V e c) = none
  rw [h]; exact h2
set_option maxRecDepth 20000 in
theorem t_bestEar {g : Ev} {S : St} {iv : IV} {lw : LW} {b : Nat} (hb : IsCamp S b) {V : Cv} (hV : XC iv b V) {q : Nat} (hq : IsHear S q) (hd : b + 8 < q) {c : Nat} (hc : c < v_nc V) : CQ g mX6_bestEar [.ref (b), .ref (q), .int (nI c)] S iv lw (fun w iv2 lw2 => w = .int (oI (bestLo (fun e => behind V c e) (v_ne V))) ∧ lw = lw2 ∧ Off q 2 iv iv2) := by
  refine CT_ofQ rfl (by decide) (Nat.le_of_ble_eq_true rfl) (lv := [(0, .ref (b)), (1, .ref (q)), (2, .int (nI c))]) rfl (fun Q hQ => ?_)
  have hsz := hV.ok.sz hc
  have hne := hV.ok.ne
  refine V_iconst (v := (-1)) dX6_bestEar_0 rfl ?_
  refine V_istore_n (lv2 := [(3, .int ((-1))), (0, .ref (b)), (1, .ref (q)), (2, .int (nI c))]) dX6_bestEar_1 rfl (by decide) rfl ?_
  refine V_iconst (v := nI 0) dX6_bestEar_2 rfl ?_
  refine V_istore (lv2 := [(4, .int (nI 0)), (3, .int ((-1))), (0, .ref (b)), (1, .ref (q)), (2, .int (nI c))]) dX6_bestEar_3 (by decide) rfl ?_
  refine V_iconst (v := nI 0) dX6_bestEar_5 rfl ?_
  refine V_istore (lv2 := [(5, .int (nI 0)), (4, .int (nI 0)), (3, .int ((-1))), (0, .ref (b)), (1, .ref (q)), (2, .int (nI c))]) dX6_bestEar_6 (by decide) rfl ?_
  have lp8 : ∀ j, j ≤ (v_ne V) → ∀ iv2 : IV, Off q 2 iv iv2 → VM g mX6_bestEar 8 [(3, .int (oI (bestLo (fun e => behind V c e) j))), (4, .int (nI (valO (fun e => behind V c e) (bestLo (fun e => behind V c e) j)))), (5, .int (nI j)), (0, .ref (b)), (1, .ref (q)), (2, .int (nI c))] [] S iv2 lw Q := by
    refine up_ind fun j hj ih8 => ?_
    intro iv2 hO
    have hV2 := hV.off hO hd
    refine V_iload dX6_bestEar_8 2 rfl ?_
    refine V_aload_n (i := 0) dX6_bestEar_10 rfl 3 rfl ?_
    refine M_getI (x := nI (v_ne V)) dX6_bestEar_11 lf_X6_84 rfl hb.1 (hV2.ne) ?_
    refine V_icmp_ge (tgt := 52) dX6_bestEar_14 rfl (fun h14 => ?_) (fun h14 => ?_)
    · have h14 : (v_ne V) ≤ j := (nI_leI (by omega) (by omega)).mp h14
      refine V_iload_n (i := 3) dX6_bestEar_52 rfl 0 rfl ?_
      refine V_iret dX6_bestEar_53 ⟨rfl, rfl⟩ (Nat.zero_le _) (Nat.zero_le _) ?_
      subst hQ
      exact ⟨_, _, _, rfl, rfl, by rw [show j = v_ne V by omega], rfl, hO⟩
    · have h14 : ¬ (v_ne V) ≤ j := fun q => h14 ((nI_leI (by omega) (by omega)).mpr q)
      refine V_aload_n (i := 0) dX6_bestEar_17 rfl 3 rfl ?_
      refine V_aload_n (i := 1) dX6_bestEar_18 rfl 4 rfl ?_
      refine V_iload_n (i := 2) dX6_bestEar_19 rfl 5 rfl ?_
      refine V_iload dX6_bestEar_20 2 rfl ?_
      refine M_callSq (As := [.ref (b), .ref (q), .int (nI c), .int (nI j)]) (st := []) dX6_bestEar_22 ls_X6_87 ⟨by decide, by decide⟩ ⟨rfl, rfl⟩ rfl (Nat.le_of_ble_eq_true rfl) (t_countedBehind hb hV2 hq hd hc (e := j) (by omega)) (fun w22 iv22 lw22 q22 => ?_)
      obtain ⟨rfl, e2, hO22⟩ := q22
      subst e2
      have hOj := hO.tr hO22
      have hb1 := behind_le V c j
      have hb2 : valO (fun e => behind V c e) (bestLo (fun e => behind V c e) j) ≤ 10 := valLo_le (fun i hi => by have := behind_le V c i; show behind V c i ≤ 10; omega)
      refine V_istore (lv2 := [(6, .int (nI (behind V c j))), (3, .int (oI (bestLo (fun e => behind V c e) j))), (4, .int (nI (valO (fun e => behind V c e) (bestLo (fun e => behind V c e) j)))), (5, .int (nI j)), (0, .ref (b)), (1, .ref (q)), (2, .int (nI c))]) dX6_bestEar_25 (by decide) rfl ?_
      refine V_iload_n (i := 3) dX6_bestEar_27 rfl 1 rfl ?_
      refine V_iconst (v := (-1)) dX6_bestEar_28 rfl ?_
      refine V_icmp_eq (tgt := 39) dX6_bestEar_29 rfl (fun h29 => ?_) (fun h29 => ?_)
      · have h29 := (oI_m1 (fun k hk => bestLo_lt j hk) (by omega)).mp h29
        refine V_iload dX6_bestEar_39 3 rfl ?_
        refine V_istore_n (lv2 := [(3, .int (nI j)), (6, .int (nI (behind V c j))), (4, .int (nI (valO (fun e => behind V c e) (bestLo (fun e => behind V c e) j)))), (5, .int (nI j)), (0, .ref (b)), (1, .ref (q)), (2, .int (nI c))]) dX6_bestEar_41 rfl (by decide) rfl ?_
        refine V_iload dX6_bestEar_42 1 rfl ?_
        refine V_istore (lv2 := [(4, .int (nI (behind V c j))), (3, .int (nI j)), (6, .int (nI (behind V c j))), (5, .int (nI j)), (0, .ref (b)), (1, .ref (q)), (2, .int (nI c))]) dX6_bestEar_44 (by decide) rfl ?_
        refine V_iinc (v := nI (j + 1)) (lv2 := [(5, .int (nI (j + 1))), (4, .int (nI (behind V c j))), (3, .int (nI j)), (6, .int (nI (behind V c j))), (0, .ref (b)), (1, .ref (q)), (2, .int (nI c))]) dX6_bestEar_46 3 rfl (nI_inc _) (by decide) rfl ?_
        refine V_goto (tgt := 8) dX6_bestEar_49 rfl ?_
        refine V_sub [2, 1, 0, 4, 5, 6] rfl ?_
        exact M_at (ih8 (by omega) iv22 hOj) (by rw [bestLo_new (Or.inl h29)]; rfl) rfl (rfl) (rfl)
      · have h29 : ¬ bestLo (fun e => behind V c e) j = none := fun z => h29 ((oI_m1 (fun k hk => bestLo_lt j hk) (by omega)).mpr z)
        refine V_iload dX6_bestEar_32 0 rfl ?_
        refine V_iload dX6_bestEar_34 2 rfl ?_
        refine V_icmp_ge (tgt := 46) dX6_bestEar_36 rfl (fun h36 => ?_) (fun h36 => ?_)
        · have h36 : (valO (fun e => behind V c e) (bestLo (fun e => behind V c e) j)) ≤ (behind V c j) := (nI_leI (by omega) (by omega)).mp h36
          refine V_iinc (v := nI (j + 1)) (lv2 := [(5, .int (nI (j + 1))), (6, .int (nI (behind V c j))), (3, .int (oI (bestLo (fun e => behind V c e) j))), (4, .int (nI (valO (fun e => behind V c e) (bestLo (fun e => behind V c e) j)))), (0, .ref (b)), (1, .ref (q)), (2, .int (nI c))]) dX6_bestEar_46 3 rfl (nI_inc _) (by decide) rfl ?_
          refine V_goto (tgt := 8) dX6_bestEar_49 rfl ?_
          refine V_sub [2, 3, 0, 4, 5, 6] rfl ?_
          exact M_at (ih8 (by omega) iv22 hOj) (by rw [bestLo_old h29 (show ¬ behind V c j < valO (fun e => behind V c e) (bestLo (fun e => behind V c e) j) by omega)]; rfl) rfl (rfl) (rfl)
        · have h36 : ¬ (valO (fun e => behind V c e) (bestLo (fun e => behind V c e) j)) ≤ (behind V c j) := fun q => h36 ((nI_leI (by omega) (by omega)).mpr q)
          refine V_iload dX6_bestEar_39 3 rfl ?_
          refine V_istore_n (lv2 := [(3, .int (nI j)), (6, .int (nI (behind V c j))), (4, .int (nI (valO (fun e => behind V c e) (bestLo (fun e => behind V c e) j)))), (5, .int (nI j)), (0, .ref (b)), (1, .ref (q)), (2, .int (nI c))]) dX6_bestEar_41 rfl (by decide) rfl ?_
          refine V_iload dX6_bestEar_42 1 rfl ?_
          refine V_istore (lv2 := [(4, .int (nI (behind V c j))), (3, .int (nI j)), (6, .int (nI (behind V c j))), (5, .int (nI j)), (0, .ref (b)), (1, .ref (q)), (2, .int (nI c))]) dX6_bestEar_44 (by decide) rfl ?_
          refine V_iinc (v := nI (j + 1)) (lv2 := [(5, .int (nI (j + 1))), (4, .int (nI (behind V c j))), (3, .int (nI j)), (6, .int (nI (behind V c j))), (0, .ref (b)), (1, .ref (q)), (2, .int (nI c))]) dX6_bestEar_46 3 rfl (nI_inc _) (by decide) rfl ?_
          refine V_goto (tgt := 8) dX6_bestEar_49 rfl ?_
          refine V_sub [2, 1, 0, 4, 5, 6] rfl ?_
          exact M_at (ih8 (by omega) iv22 hOj) (by rw [bestLo_new (Or.inr (show behind V c j < valO (fun e => behind V c e) (bestLo (fun e => behind V c e) j) by omega))]; rfl) rfl (rfl) (rfl)
  refine V_sub [2, 1, 0, 3, 4, 5] rfl ?_
  exact M_at (lp8 0 (Nat.zero_le _) iv Off.rf) (rfl) rfl (rfl) (rfl)
set_option maxRecDepth 20000 in
theorem t_meanBehind {g : Ev} {S : St} {iv : IV} {lw : LW} {b : Nat} (hb : IsCamp S b) {V : Cv} (hV : XC iv b V) {q : Nat} (hq : IsHear S q) (hd : b + 8 < q) {e : Nat} (he : e < v_ne V) : CQ g mX6_meanBehind [.ref (b), .ref (q), .int (nI e)] S iv lw (fun w iv2 lw2 => w = .int (nI (meanV V e)) ∧ lw = lw2 ∧ Off q 2 iv iv2) := by
  refine CT_ofQ rfl (by decide) (Nat.le_of_ble_eq_true rfl) (lv := [(0, .ref (b)), (1, .ref (q)), (2, .int (nI e))]) rfl (fun Q hQ => ?_)
  have hnc := hV.ok.nc
  refine V_iconst (v := nI 0) dX6_meanBehind_0 rfl ?_
  refine V_istore_n (lv2 := [(3, .int (nI 0)), (0, .ref (b)), (1, .ref (q)), (2, .int (nI e))]) dX6_meanBehind_1 rfl (by decide) rfl ?_
  refine V_iconst (v := nI 0) dX6_meanBehind_2 rfl ?_
  refine V_istore (lv2 := [(4, .int (nI 0)), (3, .int (nI 0)), (0, .ref (b)), (1, .ref (q)), (2, .int (nI e))]) dX6_meanBehind_3 (by decide) rfl ?_
  have lp5 : ∀ j, j ≤ (v_nc V) → ∀ iv2 : IV, Off q 2 iv iv2 → VM g mX6_meanBehind 5 [(3, .int (nI (sumTo (fun c => v_us V c * behind V c e) j))), (4, .int (nI j)), (0, .ref (b)), (1, .ref (q)), (2, .int (nI e))] [] S iv2 lw Q := by
    refine up_ind fun j hj ih5 => ?_
    intro iv2 hO
    have hV2 := hV.off hO hd
    refine V_iload dX6_meanBehind_5 1 rfl ?_
    refine V_aload_n (i := 0) dX6_meanBehind_7 rfl 2 rfl ?_
    refine M_getI (x := nI (v_nc V)) dX6_meanBehind_8 lf_X6_56 rfl hb.1 (hV2.nc) ?_
    refine V_icmp_ge (tgt := 38) dX6_meanBehind_11 rfl (fun h11 => ?_) (fun h11 => ?_)
    · have h11 : (v_nc V) ≤ j := (nI_leI (by omega) (by omega)).mp h11
      refine M_at (lv2 := [(3, .int (nI (sumTo (fun c => v_us V c * behind V c e) (v_nc V)))), (4, .int (nI j)), (0, .ref (b)), (1, .ref (q)), (2, .int (nI e))]) (st2 := []) ?_ (by rw [show j = v_nc V by omega]) rfl rfl rfl
      refine V_iload_n (i := 3) dX6_meanBehind_38 rfl 0 rfl ?_
      refine V_aload_n (i := 0) dX6_meanBehind_39 rfl 2 rfl ?_
      refine M_callVp (As := []) (st := [.int (nI (sumTo (fun c => v_us V c * behind V c e) (v_nc V)))]) dX6_meanBehind_40 lv_X6_91 ⟨by decide, by decide⟩ ⟨rfl, rfl⟩ rfl (ci := 0) hb.1 rfl rfl (Nat.le_of_ble_eq_true rfl) (t_X0_sumUses hb hV2) ?_
      have hm1 := msum_le (e := e) hV.ok (Nat.le_refl _)
      have hm2 := usum_le hV.ok (Nat.le_refl _)
      refine M_callSp (As := [.int (nI (sumTo (fun c => v_us V c * behind V c e) (v_nc V))), .int (nI (sumTo (v_us V) (v_nc V)))]) (st := []) dX6_meanBehind_43 ls_X6_70 ⟨by decide, by decide⟩ ⟨rfl, rfl⟩ rfl (Nat.le_of_ble_eq_true rfl) (t_perThousand (by omega) (by omega)) ?_
      refine V_iret dX6_meanBehind_46 ⟨rfl, rfl⟩ (Nat.zero_le _) (Nat.zero_le _) ?_
      subst hQ
      exact ⟨_, _, _, rfl, rfl, rfl, rfl, hO⟩
    · have h11 : ¬ (v_nc V) ≤ j := fun q => h11 ((nI_leI (by omega) (by omega)).mpr q)
      refine V_iload_n (i := 3) dX6_meanBehind_14 rfl 0 rfl ?_
      refine V_aload_n (i := 0) dX6_meanBehind_15 rfl 2 rfl ?_
      refine V_iload dX6_meanBehind_16 1 rfl ?_
      refine M_callVp (As := [.int (nI j)]) (st := [.int (nI (sumTo (fun c => v_us V c * behind V c e) j))]) dX6_meanBehind_18 lv_X6_63 ⟨by decide, by decide⟩ ⟨rfl, rfl⟩ rfl (ci := 0) hb.1 rfl rfl (Nat.le_of_ble_eq_true rfl) (t_X0_useOf hb hV2 (c := j) (by omega)) ?_
      refine V_aload_n (i := 0) dX6_meanBehind_21 rfl 2 rfl ?_
      refine V_aload_n (i := 1) dX6_meanBehind_22 rfl 3 rfl ?_
      refine V_iload dX6_meanBehind_23 1 rfl ?_
      refine V_iload_n (i := 2) dX6_meanBehind_25 rfl 4 rfl ?_
      refine M_callSq (As := [.ref (b), .ref (q), .int (nI j), .int (nI e)]) (st := [.int (nI (v_us V j)), .int (nI (sumTo (fun c => v_us V c * behind V c e) j))]) dX6_meanBehind_26 ls_X6_87 ⟨by decide, by decide⟩ ⟨rfl, rfl⟩ rfl (Nat.le_of_ble_eq_true rfl) (t_countedBehind hb hV2 hq hd (c := j) (by omega) he) (fun w26 iv26 lw26 q26 => ?_)
      obtain ⟨rfl, e2, hO26⟩ := q26
      subst e2
      have hOj := hO.tr hO26
      refine V_imul dX6_meanBehind_29 ?_
      refine M_top (pk_mul _ _) ?_
      refine V_iadd dX6_meanBehind_30 ?_
      refine M_top (nI_add _ _) ?_
      refine V_istore_n (lv2 := [(3, .int (nI ((sumTo (fun c => v_us V c * behind V c e) j) + ((v_us V j) * (behind V j e))))), (4, .int (nI j)), (0, .ref (b)), (1, .ref (q)), (2, .int (nI e))]) dX6_meanBehind_31 rfl (by decide) rfl ?_
      refine V_iinc (v := nI (j + 1)) (lv2 := [(4, .int (nI (j + 1))), (3, .int (nI ((sumTo (fun c => v_us V c * behind V c e) j) + ((v_us V j) * (behind V j e))))), (0, .ref (b)), (1, .ref (q)), (2, .int (nI e))]) dX6_meanBehind_32 1 rfl (nI_inc _) (by decide) rfl ?_
      refine V_goto (tgt := 5) dX6_meanBehind_35 rfl ?_
      refine V_sub [1, 0, 2, 3, 4] rfl ?_
      exact M_at (ih5 (by omega) iv26 hOj) (rfl) rfl (rfl) (rfl)
  refine V_sub [1, 0, 2, 3, 4] rfl ?_
  exact M_at (lp5 0 (Nat.zero_le _) iv Off.rf) (rfl) rfl (rfl) (rfl)
set_option maxRecDepth 20000 in
theorem t_riskOf {g : Ev} {S : St} {iv : IV} {lw : LW} {b : Nat} (hb : IsCamp S b) {V : Cv} (hV : XC iv b V) {q : Nat} (hq : IsHear S q) (hd : b + 8 < q) {c e : Nat} (hc : c < v_nc V) (he : e < v_ne V) : CQ g mX6_riskOf [.ref (b), .ref (q), .int (nI c), .int (nI e)] S iv lw (fun w iv2 lw2 => w = .int (nI (riskV V c e)) ∧ lw = lw2 ∧ Off q 2 iv iv2) := by
  refine CT_ofQ rfl (by decide) (Nat.le_of_ble_eq_true rfl) (lv := [(0, .ref (b)), (1, .ref (q)), (2, .int (nI c)), (3, .int (nI e))]) rfl (fun Q hQ => ?_)
  have hnc := hV.ok.nc
  refine V_aload_n (i := 1) dX6_riskOf_0 rfl 1 rfl ?_
  refine V_aload_n (i := 0) dX6_riskOf_1 rfl 0 rfl ?_
  refine V_iload_n (i := 2) dX6_riskOf_2 rfl 2 rfl ?_
  refine V_iload_n (i := 3) dX6_riskOf_3 rfl 3 rfl ?_
  refine M_callVn (As := [.ref (b), .int (nI c), .int (nI e)]) (st := []) dX6_riskOf_4 lv_X6_73 ⟨by decide, by decide⟩ ⟨rfl, rfl⟩ rfl (ci := 2) hq.1 rfl rfl (Nat.le_of_ble_eq_true rfl) (t_takeCall hq hb hV hd hc he) (fun iv4 lw4 q4 => ?_)
  obtain ⟨e1, hX4, hO4⟩ := q4
  subst e1
  have hV2 := hV.off hO4 hd
  refine V_iconst (v := nI 0) dX6_riskOf_7 rfl ?_
  refine V_istore (lv2 := [(4, .int (nI 0)), (0, .ref (b)), (1, .ref (q)), (2, .int (nI c)), (3, .int (nI e))]) dX6_riskOf_8 (by decide) rfl ?_
  refine V_iconst (v := nI 0) dX6_riskOf_10 rfl ?_
  refine V_istore (lv2 := [(5, .int (nI 0)), (4, .int (nI 0)), (0, .ref (b)), (1, .ref (q)), (2, .int (nI c)), (3, .int (nI e))]) dX6_riskOf_11 (by decide) rfl ?_
  have lp13 : ∀ j, j ≤ (v_nc V) → VM g mX6_riskOf 13 [(4, .int (nI (sumTo (fun k => if (!decide (k = c) && fitB V (hearOf V c e (v_sz V c) true) e k) = true then worth V k else 0) j))), (5, .int (nI j)), (0, .ref (b)), (1, .ref (q)), (2, .int (nI c)), (3, .int (nI e))] [] S iv4 lw Q := by
    refine up_ind fun j hj ih13 => ?_
    refine V_iload dX6_riskOf_13 1 rfl ?_
    refine V_aload_n (i := 0) dX6_riskOf_15 rfl 2 rfl ?_
    refine M_getI (x := nI (v_nc V)) dX6_riskOf_16 lf_X6_56 rfl hb.1 (hV2.nc) ?_
    refine V_icmp_ge (tgt := 63) dX6_riskOf_19 rfl (fun h19 => ?_) (fun h19 => ?_)
    · have h19 : (v_nc V) ≤ j := (nI_leI (by omega) (by omega)).mp h19
      refine M_at (lv2 := [(4, .int (nI (sumTo (fun k => if (!decide (k = c) && fitB V (hearOf V c e (v_sz V c) true) e k) = true then worth V k else 0) (v_nc V)))), (5, .int (nI j)), (0, .ref (b)), (1, .ref (q)), (2, .int (nI c)), (3, .int (nI e))]) (st2 := []) ?_ (by rw [show j = v_nc V by omega]) rfl rfl rfl
      refine V_aload_n (i := 0) dX6_riskOf_63 rfl 2 rfl ?_
      refine V_aload_n (i := 1) dX6_riskOf_64 rfl 3 rfl ?_
      refine V_iload_n (i := 3) dX6_riskOf_65 rfl 5 rfl ?_
      refine M_callSp (As := [.ref (b), .ref (q), .int (nI e)]) (st := []) dX6_riskOf_66 ls_X6_66 ⟨by decide, by decide⟩ ⟨rfl, rfl⟩ rfl (Nat.le_of_ble_eq_true rfl) (t_usesThatFit hb hV2 hq hX4 he) ?_
      refine V_istore (lv2 := [(5, .int (nI (usF V (hearOf V c e (v_sz V c) true) e))), (4, .int (nI (sumTo (fun k => if (!decide (k = c) && fitB V (hearOf V c e (v_sz V c) true) e k) = true then worth V k else 0) (v_nc V)))), (0, .ref (b)), (1, .ref (q)), (2, .int (nI c)), (3, .int (nI e))]) dX6_riskOf_69 (by decide) rfl ?_
      refine V_iload dX6_riskOf_71 0 rfl ?_
      have hf1 : usF V (hearOf V c e (v_sz V c) true) e ≤ 1188 := usF_le hV.ok _ (Nat.le_refl _)
      have hs1 := rsum_le (c := c) (e := e) (H := (hearOf V c e (v_sz V c) true)) hV.ok (Nat.le_refl (v_nc V))
      obtain rfl : j = v_nc V := by omega
      refine V_if_le (tgt := 84) dX6_riskOf_73 rfl (fun h73 => ?_) (fun h73 => ?_)
      · have h73 : (usF V (hearOf V c e (v_sz V c) true) e) ≤ 0 := (nI_leI (b := 0) (by omega) (by omega)).mp h73
        refine V_iconst (v := nI 0) dX6_riskOf_84 rfl ?_
        refine V_iret dX6_riskOf_85 ⟨rfl, rfl⟩ (Nat.zero_le _) (Nat.zero_le _) ?_
        subst hQ
        exact ⟨_, _, _, rfl, rfl, by unfold riskV; rw [if_neg (by omega)], rfl, hO4⟩
      · have h73 : ¬ (usF V (hearOf V c e (v_sz V c) true) e) ≤ 0 := fun q => h73 ((nI_leI (b := 0) (by omega) (by omega)).mpr q)
        refine V_iload dX6_riskOf_76 1 rfl ?_
        refine V_iload dX6_riskOf_78 0 rfl ?_
        refine V_idiv dX6_riskOf_80 (nI_ne0 (by omega) (by omega)) ?_
        refine M_top (x2 := nI (sumTo (fun k => if (!decide (k = c) && fitB V (hearOf V c e (v_sz V c) true) e k) = true then worth V k else 0) (v_nc V) / usF V (hearOf V c e (v_sz V c) true) e)) (pk_div (by omega) (by omega) (by omega)) ?_
        refine V_goto (tgt := 85) dX6_riskOf_81 rfl ?_
        refine V_iret dX6_riskOf_85 ⟨rfl, rfl⟩ (Nat.zero_le _) (Nat.zero_le _) ?_
        subst hQ
        exact ⟨_, _, _, rfl, rfl, by unfold riskV; rw [if_pos (by omega)], rfl, hO4⟩
    · have h19 : ¬ (v_nc V) ≤ j := fun q => h19 ((nI_leI (by omega) (by omega)).mpr q)
      refine V_iload dX6_riskOf_22 1 rfl ?_
      refine V_iload_n (i := 2) dX6_riskOf_24 rfl 4 rfl ?_
      refine V_icmp_eq (tgt := 57) dX6_riskOf_25 rfl (fun h25 => ?_) (fun h25 => ?_)
      · have h25 : j = c := (nI_eq (by omega) (by omega)).mp h25
        refine V_iinc (v := nI (j + 1)) (lv2 := [(5, .int (nI (j + 1))), (4, .int (nI (sumTo (fun k => if (!decide (k = c) && fitB V (hearOf V c e (v_sz V c) true) e k) = true then worth V k else 0) j))), (0, .ref (b)), (1, .ref (q)), (2, .int (nI c)), (3, .int (nI e))]) dX6_riskOf_57 1 rfl (nI_inc _) (by decide) rfl ?_
        refine V_goto (tgt := 13) dX6_riskOf_60 rfl ?_
        refine V_sub [1, 0, 2, 3, 4, 5] rfl ?_
        exact M_at (ih13 (by omega)) (by rw [sumTo_f (p := fun k => !decide (k = c) && fitB V (hearOf V c e (v_sz V c) true) e k) (by simp [h25])]; rfl) rfl (rfl) (rfl)
      · have h25 : ¬ j = c := fun q => h25 ((nI_eq (by omega) (by omega)).mpr q)
        refine V_aload_n (i := 0) dX6_riskOf_28 rfl 2 rfl ?_
        refine V_aload_n (i := 1) dX6_riskOf_29 rfl 3 rfl ?_
        refine V_iload_n (i := 3) dX6_riskOf_30 rfl 5 rfl ?_
        refine V_iload dX6_riskOf_31 1 rfl ?_
        refine M_callSp (As := [.ref (b), .ref (q), .int (nI e), .int (nI j)]) (st := []) dX6_riskOf_33 ls_X6_59 ⟨by decide, by decide⟩ ⟨rfl, rfl⟩ rfl (Nat.le_of_ble_eq_true rfl) (t_isFit hb hV2 hq hX4 he (c := j) (by omega)) ?_
        refine V_if_eq (tgt := 57) dX6_riskOf_36 rfl (fun h36 => ?_) (fun h36 => ?_)
        · have h36 : ¬ (fitB V (hearOf V c e (v_sz V c) true) e j = true) := bI_eq0.mp h36
          refine V_iinc (v := nI (j + 1)) (lv2 := [(5, .int (nI (j + 1))), (4, .int (nI (sumTo (fun k => if (!decide (k = c) && fitB V (hearOf V c e (v_sz V c) true) e k) = true then worth V k else 0) j))), (0, .ref (b)), (1, .ref (q)), (2, .int (nI c)), (3, .int (nI e))]) dX6_riskOf_57 1 rfl (nI_inc _) (by decide) rfl ?_
          refine V_goto (tgt := 13) dX6_riskOf_60 rfl ?_
          refine V_sub [1, 0, 2, 3, 4, 5] rfl ?_
          exact M_at (ih13 (by omega)) (by rw [sumTo_f (p := fun k => !decide (k = c) && fitB V (hearOf V c e (v_sz V c) true) e k) (by simp [h36])]; rfl) rfl (rfl) (rfl)
        · have h36 : fitB V (hearOf V c e (v_sz V c) true) e j = true := bI_ne.mp h36
          refine V_iload dX6_riskOf_39 0 rfl ?_
          refine V_aload_n (i := 0) dX6_riskOf_41 rfl 2 rfl ?_
          refine V_iload dX6_riskOf_42 1 rfl ?_
          refine M_callVp (As := [.int (nI j)]) (st := [.int (nI (sumTo (fun k => if (!decide (k = c) && fitB V (hearOf V c e (v_sz V c) true) e k) = true then worth V k else 0) j))]) dX6_riskOf_44 lv_X6_63 ⟨by decide, by decide⟩ ⟨rfl, rfl⟩ rfl (ci := 0) hb.1 rfl rfl (Nat.le_of_ble_eq_true rfl) (t_X0_useOf hb hV2 (c := j) (by omega)) ?_
          refine V_aload_n (i := 0) dX6_riskOf_47 rfl 2 rfl ?_
          refine V_iload dX6_riskOf_48 1 rfl ?_
          refine M_callVp (As := [.int (nI j)]) (st := [.int (nI (v_us V j)), .int (nI (sumTo (fun k => if (!decide (k = c) && fitB V (hearOf V c e (v_sz V c) true) e k) = true then worth V k else 0) j))]) dX6_riskOf_50 lv_X6_95 ⟨by decide, by decide⟩ ⟨rfl, rfl⟩ rfl (ci := 0) hb.1 rfl rfl (Nat.le_of_ble_eq_true rfl) (t_X0_costOf hb hV2 (c := j) (by omega)) ?_
          refine V_imul dX6_riskOf_53 ?_
          refine M_top (x2 := nI (worth V j)) (pk_mul _ _) ?_
          refine V_iadd dX6_riskOf_54 ?_
          refine M_top (nI_add _ _) ?_
          refine V_istore (lv2 := [(4, .int (nI ((sumTo (fun k => if (!decide (k = c) && fitB V (hearOf V c e (v_sz V c) true) e k) = true then worth V k else 0) j) + (worth V j)))), (5, .int (nI j)), (0, .ref (b)), (1, .ref (q)), (2, .int (nI c)), (3, .int (nI e))]) dX6_riskOf_55 (by decide) rfl ?_
          refine V_iinc (v := nI (j + 1)) (lv2 := [(5, .int (nI (j + 1))), (4, .int (nI ((sumTo (fun k => if (!decide (k = c) && fitB V (hearOf V c e (v_sz V c) true) e k) = true then worth V k else 0) j) + (worth V j)))), (0, .ref (b)), (1, .ref (q)), (2, .int (nI c)), (3, .int (nI e))]) dX6_riskOf_57 1 rfl (nI_inc _) (by decide) rfl ?_
          refine V_goto (tgt := 13) dX6_riskOf_60 rfl ?_
          refine V_sub [1, 0, 2, 3, 4, 5] rfl ?_
          exact M_at (ih13 (by omega)) (by rw [sumTo_t (p := fun k => !decide (k = c) && fitB V (hearOf V c e (v_sz V c) true) e k) (by simp [h25, h36])]; rfl) rfl (rfl) (rfl)
  refine V_sub [1, 0, 2, 3, 4, 5] rfl ?_
  exact M_at (lp13 0 (Nat.zero_le _)) (rfl) rfl (rfl) (rfl)
set_option maxRecDepth 20000 in
theorem t_riskiest {g : Ev} {S : St} {iv : IV} {lw : LW} {b : Nat} (hb : IsCamp S b) {V : Cv} (hV : XC iv b V) {q : Nat} (hq : IsHear S q) (hd : b + 8 < q) {e : Nat} (he : e < v_ne V) : CQ g mX6_riskiest [.ref (b), .ref (q), .int (nI e)] S iv lw (fun w iv2 lw2 => w = .int (oI (bestHi (fun c => riskV V c e) (v_nc V))) ∧ lw = lw2 ∧ Off q 2 iv iv2) := by
  refine CT_ofQ rfl (by decide) (Nat.le_of_ble_eq_true rfl) (lv := [(0, .ref (b)), (1, .ref (q)), (2, .int (nI e))]) rfl (fun Q hQ => ?_)
  have hnc := hV.ok.nc
  refine V_iconst (v := (-1)) dX6_riskiest_0 rfl ?_
  refine V_istore_n (lv2 := [(3, .int ((-1))), (0, .ref (b)), (1, .ref (q)), (2, .int (nI e))]) dX6_riskiest_1 rfl (by decide) rfl ?_
  refine V_iconst (v := nI 0) dX6_riskiest_2 rfl ?_
  refine V_istore (lv2 := [(4, .int (nI 0)), (3, .int ((-1))), (0, .ref (b)), (1, .ref (q)), (2, .int (nI e))]) dX6_riskiest_3 (by decide) rfl ?_
  refine V_iconst (v := nI 0) dX6_riskiest_5 rfl ?_
  refine V_istore (lv2 := [(5, .int (nI 0)), (4, .int (nI 0)), (3, .int ((-1))), (0, .ref (b)), (1, .ref (q)), (2, .int (nI e))]) dX6_riskiest_6 (by decide) rfl ?_
  have lp8 : ∀ j, j ≤ (v_nc V) → ∀ iv2 : IV, Off q 2 iv iv2 → VM g mX6_riskiest 8 [(3, .int (oI (bestHi (fun c => riskV V c e) j))), (4, .int (nI (valO (fun c => riskV V c e) (bestHi (fun c => riskV V c e) j)))), (5, .int (nI j)), (0, .ref (b)), (1, .ref (q)), (2, .int (nI e))] [] S iv2 lw Q := by
    refine up_ind fun j hj ih8 => ?_
    intro iv2 hO
    have hV2 := hV.off hO hd
    refine V_iload dX6_riskiest_8 2 rfl ?_
    refine V_aload_n (i := 0) dX6_riskiest_10 rfl 3 rfl ?_
    refine M_getI (x := nI (v_nc V)) dX6_riskiest_11 lf_X6_56 rfl hb.1 (hV2.nc) ?_
    refine V_icmp_ge (tgt := 52) dX6_riskiest_14 rfl (fun h14 => ?_) (fun h14 => ?_)
    · have h14 : (v_nc V) ≤ j := (nI_leI (by omega) (by omega)).mp h14
      refine V_iload_n (i := 3) dX6_riskiest_52 rfl 0 rfl ?_
      refine V_iret dX6_riskiest_53 ⟨rfl, rfl⟩ (Nat.zero_le _) (Nat.zero_le _) ?_
      subst hQ
      exact ⟨_, _, _, rfl, rfl, by rw [show j = v_nc V by omega], rfl, hO⟩
    · have h14 : ¬ (v_nc V) ≤ j := fun q => h14 ((nI_leI (by omega) (by omega)).mpr q)
      refine V_aload_n (i := 0) dX6_riskiest_17 rfl 3 rfl ?_
      refine V_aload_n (i := 1) dX6_riskiest_18 rfl 4 rfl ?_
      refine V_iload dX6_riskiest_19 2 rfl ?_
      refine V_iload_n (i := 2) dX6_riskiest_21 rfl 5 rfl ?_
      refine M_callSq (As := [.ref (b), .ref (q), .int (nI j), .int (nI e)]) (st := []) dX6_riskiest_22 ls_X6_98 ⟨by decide, by decide⟩ ⟨rfl, rfl⟩ rfl (Nat.le_of_ble_eq_true rfl) (t_riskOf hb hV2 hq hd (c := j) (by omega) he) (fun w22 iv22 lw22 q22 => ?_)
      obtain ⟨rfl, e2, hO22⟩ := q22
      subst e2
      have hOj := hO.tr hO22
      have hb1 := riskV_le (c := j) (e := e) hV.ok
      have hb2 : valO (fun c => riskV V c e) (bestHi (fun c => riskV V c e) j) ≤ 117612 := valHi_le (fun i hi => riskV_le hV.ok)
      refine V_istore (lv2 := [(6, .int (nI (riskV V j e))), (3, .int (oI (bestHi (fun c => riskV V c e) j))), (4, .int (nI (valO (fun c => riskV V c e) (bestHi (fun c => riskV V c e) j)))), (5, .int (nI j)), (0, .ref (b)), (1, .ref (q)), (2, .int (nI e))]) dX6_riskiest_25 (by decide) rfl ?_
      refine V_iload_n (i := 3) dX6_riskiest_27 rfl 1 rfl ?_
      refine V_iconst (v := (-1)) dX6_riskiest_28 rfl ?_
      refine V_icmp_eq (tgt := 39) dX6_riskiest_29 rfl (fun h29 => ?_) (fun h29 => ?_)
      · have h29 := (oI_m1 (fun k hk => bestHi_lt j hk) (by omega)).mp h29
        refine V_iload dX6_riskiest_39 3 rfl ?_
        refine V_istore_n (lv2 := [(3, .int (nI j)), (6, .int (nI (riskV V j e))), (4, .int (nI (valO (fun c => riskV V c e) (bestHi (fun c => riskV V c e) j)))), (5, .int (nI j)), (0, .ref (b)), (1, .ref (q)), (2, .int (nI e))]) dX6_riskiest_41 rfl (by decide) rfl ?_
        refine V_iload dX6_riskiest_42 1 rfl ?_
        refine V_istore (lv2 := [(4, .int (nI (riskV V j e))), (3, .int (nI j)), (6, .int (nI (riskV V j e))), (5, .int (nI j)), (0, .ref (b)), (1, .ref (q)), (2, .int (nI e))]) dX6_riskiest_44 (by decide) rfl ?_
        refine V_iinc (v := nI (j + 1)) (lv2 := [(5, .int (nI (j + 1))), (4, .int (nI (riskV V j e))), (3, .int (nI j)), (6, .int (nI (riskV V j e))), (0, .ref (b)), (1, .ref (q)), (2, .int (nI e))]) dX6_riskiest_46 3 rfl (nI_inc _) (by decide) rfl ?_
        refine V_goto (tgt := 8) dX6_riskiest_49 rfl ?_
        refine V_sub [2, 1, 0, 4, 5, 6] rfl ?_
        exact M_at (ih8 (by omega) iv22 hOj) (by rw [bestHi_new (Or.inl h29)]; rfl) rfl (rfl) (rfl)
      · have h29 : ¬ bestHi (fun c => riskV V c e) j = none := fun z => h29 ((oI_m1 (fun k hk => bestHi_lt j hk) (by omega)).mpr z)
        refine V_iload dX6_riskiest_32 0 rfl ?_
        refine V_iload dX6_riskiest_34 2 rfl ?_
        refine V_icmp_le (tgt := 46) dX6_riskiest_36 rfl (fun h36 => ?_) (fun h36 => ?_)
        · have h36 : (riskV V j e) ≤ (valO (fun c => riskV V c e) (bestHi (fun c => riskV V c e) j)) := (nI_leI (by omega) (by omega)).mp h36
          refine V_iinc (v := nI (j + 1)) (lv2 := [(5, .int (nI (j + 1))), (6, .int (nI (riskV V j e))), (3, .int (oI (bestHi (fun c => riskV V c e) j))), (4, .int (nI (valO (fun c => riskV V c e) (bestHi (fun c => riskV V c e) j)))), (0, .ref (b)), (1, .ref (q)), (2, .int (nI e))]) dX6_riskiest_46 3 rfl (nI_inc _) (by decide) rfl ?_
          refine V_goto (tgt := 8) dX6_riskiest_49 rfl ?_
          refine V_sub [2, 3, 0, 4, 5, 6] rfl ?_
          exact M_at (ih8 (by omega) iv22 hOj) (by rw [bestHi_old h29 (show ¬ valO (fun c => riskV V c e) (bestHi (fun c => riskV V c e) j) < riskV V j e by omega)]; rfl) rfl (rfl) (rfl)
        · have h36 : ¬ (riskV V j e) ≤ (valO (fun c => riskV V c e) (bestHi (fun c => riskV V c e) j)) := fun q => h36 ((nI_leI (by omega) (by omega)).mpr q)
          refine V_iload dX6_riskiest_39 3 rfl ?_
          refine V_istore_n (lv2 := [(3, .int (nI j)), (6, .int (nI (riskV V j e))), (4, .int (nI (valO (fun c => riskV V c e) (bestHi (fun c => riskV V c e) j)))), (5, .int (nI j)), (0, .ref (b)), (1, .ref (q)), (2, .int (nI e))]) dX6_riskiest_41 rfl (by decide) rfl ?_
          refine V_iload dX6_riskiest_42 1 rfl ?_
          refine V_istore (lv2 := [(4, .int (nI (riskV V j e))), (3, .int (nI j)), (6, .int (nI (riskV V j e))), (5, .int (nI j)), (0, .ref (b)), (1, .ref (q)), (2, .int (nI e))]) dX6_riskiest_44 (by decide) rfl ?_
          refine V_iinc (v := nI (j + 1)) (lv2 := [(5, .int (nI (j + 1))), (4, .int (nI (riskV V j e))), (3, .int (nI j)), (6, .int (nI (riskV V j e))), (0, .ref (b)), (1, .ref (q)), (2, .int (nI e))]) dX6_riskiest_46 3 rfl (nI_inc _) (by decide) rfl ?_
          refine V_goto (tgt := 8) dX6_riskiest_49 rfl ?_
          refine V_sub [2, 1, 0, 4, 5, 6] rfl ?_
          exact M_at (ih8 (by omega) iv22 hOj) (by rw [bestHi_new (Or.inr (show valO (fun c => riskV V c e) (bestHi (fun c => riskV V c e) j) < riskV V j e by omega))]; rfl) rfl (rfl) (rfl)
  refine V_sub [2, 1, 0, 3, 4, 5] rfl ?_
  exact M_at (lp8 0 (Nat.zero_le _) iv Off.rf) (rfl) rfl (rfl) (rfl)
set_option maxRecDepth 20000 in
theorem t_nextBit {g : Ev} {S : St} {iv : IV} {lw : LW} {b : Nat} (hb : IsCamp S b) {V : Cv} (hV : XC iv b V) {m e c : Nat} (hm : m ≤ 8) (he : e < v_ne V) (hc : c < v_nc V) : CP g mX6_nextBit [.ref (b), .int (nI m), .int (nI e), .int (nI c)] S iv lw (.int (nI (nxB V m e c))) := by
  refine CT_ofQ rfl (by decide) (Nat.le_of_ble_eq_true rfl) (lv := [(0, .ref (b)), (1, .int (nI m)), (2, .int (nI e)), (3, .int (nI c))]) rfl (fun Q hQ => ?_)
  refine V_aload_n (i := 0) dX6_nextBit_0 rfl 0 rfl ?_
  refine V_iload_n (i := 3) dX6_nextBit_1 rfl 3 rfl ?_
  refine V_iload_n (i := 1) dX6_nextBit_2 rfl 1 rfl ?_
  refine M_callVp (As := [.int (nI c), .int (nI m)]) (st := []) dX6_nextBit_3 lv_X6_104 ⟨by decide, by decide⟩ ⟨rfl, rfl⟩ rfl (ci := 0) hb.1 rfl rfl (Nat.le_of_ble_eq_true rfl) (t_X0_isNoteOf hb hV (i := nI m) hc) ?_
  refine V_if_ne (tgt := 12) dX6_nextBit_6 rfl (fun h6 => ?_) (fun h6 => ?_)
  · have h6 : inR (nI m) (v_sz V c) := bI_ne.mp h6
    have h6 := (inR_n (by omega)).mp h6
    refine V_aload_n (i := 0) dX6_nextBit_12 rfl 0 rfl ?_
    refine V_iload_n (i := 3) dX6_nextBit_13 rfl 3 rfl ?_
    refine V_iload_n (i := 2) dX6_nextBit_14 rfl 2 rfl ?_
    refine V_iload_n (i := 1) dX6_nextBit_15 rfl 1 rfl ?_
    refine M_callSp (As := [.ref (b), .int (nI c), .int (nI e), .int (nI m)]) (st := []) dX6_nextBit_16 ls_X6_50 ⟨by decide, by decide⟩ ⟨rfl, rfl⟩ rfl (Nat.le_of_ble_eq_true rfl) (t_noteByEar hb hV hc he h6) ?_
    refine V_istore (lv2 := [(4, .int (nI (noteBy V c e m))), (0, .ref (b)), (1, .int (nI m)), (2, .int (nI e)), (3, .int (nI c))]) dX6_nextBit_19 (by decide) rfl ?_
    refine V_iload dX6_nextBit_21 0 rfl ?_
    refine V_bipush (v := nI 9) dX6_nextBit_23 rfl ?_
    have hnb := noteBy_le (e := e) hV.ok hc h6
    refine V_icmp_ne (tgt := 32) dX6_nextBit_25 rfl (fun h25 => ?_) (fun h25 => ?_)
    · have h25 : ¬ (noteBy V c e m) = 9 := fun q => h25 ((nI_eq (by omega) (by omega)).mpr q)
      refine V_iload dX6_nextBit_32 0 rfl ?_
      refine V_iret dX6_nextBit_34 ⟨rfl, rfl⟩ (Nat.zero_le _) (Nat.zero_le _) ?_
      subst hQ
      exact ⟨by unfold nxB; rw [if_pos h6, if_neg h25], rfl⟩
    · have h25 : (noteBy V c e m) = 9 := (nI_eq (by omega) (by omega)).mp h25
      refine V_iconst (v := nI 5) dX6_nextBit_28 rfl ?_
      refine V_goto (tgt := 34) dX6_nextBit_29 rfl ?_
      refine V_iret dX6_nextBit_34 ⟨rfl, rfl⟩ (Nat.zero_le _) (Nat.zero_le _) ?_
      subst hQ
      exact ⟨by unfold nxB; rw [if_pos h6, if_pos h25], rfl⟩
  · have h6 : ¬ (inR (nI m) (v_sz V c)) := bI_eq0.mp h6
    have h6 : ¬ m < v_sz V c := fun z => h6 ((inR_n (by omega)).mpr z)
    refine V_bipush (v := nI 6) dX6_nextBit_9 rfl ?_
    refine V_iret dX6_nextBit_11 ⟨rfl, rfl⟩ (Nat.zero_le _) (Nat.zero_le _) ?_
    subst hQ
    exact ⟨by unfold nxB; rw [if_neg h6], rfl⟩
set_option maxRecDepth 20000 in
theorem t_nextBits {g : Ev} {S : St} {iv : IV} {lw : LW} {b : Nat} (hb : IsCamp S b) {V : Cv} (hV : XC iv b V) {q : Nat} (hq : IsHear S q) {H : Hv} (hH : XH iv q H) {e : Nat} (he : e < v_ne V) : CP g mX6_nextBits [.ref (b), .ref (q), .int (nI e)] S iv lw (.int (nI (bitsTo V H e (v_nc V)))) := by
  refine CT_ofQ rfl (by decide) (Nat.le_of_ble_eq_true rfl) (lv := [(0, .ref (b)), (1, .ref (q)), (2, .int (nI e))]) rfl (fun Q hQ => ?_)
  have hnc := hV.ok.nc
  have h8 := hH.1.1
  refine V_iconst (v := nI 0) dX6_nextBits_0 rfl ?_
  refine V_istore_n (lv2 := [(3, .int (nI 0)), (0, .ref (b)), (1, .ref (q)), (2, .int (nI e))]) dX6_nextBits_1 rfl (by decide) rfl ?_
  refine V_iconst (v := nI 0) dX6_nextBits_2 rfl ?_
  refine V_istore (lv2 := [(4, .int (nI 0)), (3, .int (nI 0)), (0, .ref (b)), (1, .ref (q)), (2, .int (nI e))]) dX6_nextBits_3 (by decide) rfl ?_
  have lp5 : ∀ j, j ≤ (v_nc V) → VM g mX6_nextBits 5 [(3, .int (nI (bitsTo V H e j))), (4, .int (nI j)), (0, .ref (b)), (1, .ref (q)), (2, .int (nI e))] [] S iv lw Q := by
    refine up_ind fun j hj ih5 => ?_
    refine V_iload dX6_nextBits_5 1 rfl ?_
    refine V_aload_n (i := 0) dX6_nextBits_7 rfl 2 rfl ?_
    refine M_getI (x := nI (v_nc V)) dX6_nextBits_8 lf_X6_56 rfl hb.1 (hV.nc) ?_
    refine V_icmp_ge (tgt := 47) dX6_nextBits_11 rfl (fun h11 => ?_) (fun h11 => ?_)
    · have h11 : (v_nc V) ≤ j := (nI_leI (by omega) (by omega)).mp h11
      refine V_iload_n (i := 3) dX6_nextBits_47 rfl 0 rfl ?_
      refine V_iret dX6_nextBits_48 ⟨rfl, rfl⟩ (Nat.zero_le _) (Nat.zero_le _) ?_
      subst hQ
      exact ⟨by rw [show j = v_nc V by omega], rfl⟩
    · have h11 : ¬ (v_nc V) ≤ j := fun q => h11 ((nI_leI (by omega) (by omega)).mpr q)
      refine V_aload_n (i := 0) dX6_nextBits_14 rfl 2 rfl ?_
      refine V_aload_n (i := 1) dX6_nextBits_15 rfl 3 rfl ?_
      refine V_iload_n (i := 2) dX6_nextBits_16 rfl 4 rfl ?_
      refine V_iload dX6_nextBits_17 1 rfl ?_
      refine M_callSp (As := [.ref (b), .ref (q), .int (nI e), .int (nI j)]) (st := []) dX6_nextBits_19 ls_X6_59 ⟨by decide, by decide⟩ ⟨rfl, rfl⟩ rfl (Nat.le_of_ble_eq_true rfl) (t_isFit hb hV hq hH he (c := j) (by omega)) ?_
      refine V_if_eq (tgt := 41) dX6_nextBits_22 rfl (fun h22 => ?_) (fun h22 => ?_)
      · have h22 : ¬ (fitB V H e j = true) := bI_eq0.mp h22
        refine V_iinc (v := nI (j + 1)) (lv2 := [(4, .int (nI (j + 1))), (3, .int (nI (bitsTo V H e j))), (0, .ref (b)), (1, .ref (q)), (2, .int (nI e))]) dX6_nextBits_41 1 rfl (nI_inc _) (by decide) rfl ?_
        refine V_goto (tgt := 5) dX6_nextBits_44 rfl ?_
        refine V_sub [1, 0, 2, 3, 4] rfl ?_
        exact M_at (ih5 (by omega)) (by rw [bitsTo_f h22]; rfl) rfl (rfl) (rfl)
      · have h22 : fitB V H e j = true := bI_ne.mp h22
        refine V_iload_n (i := 3) dX6_nextBits_25 rfl 0 rfl ?_
        refine V_iconst (v := nI 1) dX6_nextBits_26 rfl ?_
        refine V_aload_n (i := 0) dX6_nextBits_27 rfl 2 rfl ?_
        refine V_aload_n (i := 1) dX6_nextBits_28 rfl 3 rfl ?_
        refine M_getI (x := nI H.1) dX6_nextBits_29 lf_X6_40 rfl hq.1 (hH.2.1) ?_
        refine V_iload_n (i := 2) dX6_nextBits_32 rfl 4 rfl ?_
        refine V_iload dX6_nextBits_33 1 rfl ?_
        refine M_callSp (As := [.ref (b), .int (nI H.1), .int (nI e), .int (nI j)]) (st := [.int (nI 1), .int (nI (bitsTo V H e j))]) dX6_nextBits_35 ls_X6_101 ⟨by decide, by decide⟩ ⟨rfl, rfl⟩ rfl (Nat.le_of_ble_eq_true rfl) (t_nextBit hb hV (by omega) he (c := j) (by omega)) ?_
        refine V_ishl dX6_nextBits_38 ?_
        refine M_top (x2 := nI (2 ^ nxB V H.1 e j)) ((nI_shl (by have := nxB_le (n := H.1) (e := e) hV.ok (c := j) (by omega); omega) _).trans (by rw [Nat.one_mul])) ?_
        refine V_ior dX6_nextBits_39 ?_
        refine M_top (x2 := nI (bitsTo V H e j ||| 2 ^ nxB V H.1 e j)) (nI_or _ _) ?_
        refine V_istore_n (lv2 := [(3, .int (nI (bitsTo V H e j ||| 2 ^ nxB V H.1 e j))), (4, .int (nI j)), (0, .ref (b)), (1, .ref (q)), (2, .int (nI e))]) dX6_nextBits_40 rfl (by decide) rfl ?_
        refine V_iinc (v := nI (j + 1)) (lv2 := [(4, .int (nI (j + 1))), (3, .int (nI (bitsTo V H e j ||| 2 ^ nxB V H.1 e j))), (0, .ref (b)), (1, .ref (q)), (2, .int (nI e))]) dX6_nextBits_41 1 rfl (nI_inc _) (by decide) rfl ?_
        refine V_goto (tgt := 5) dX6_nextBits_44 rfl ?_
        refine V_sub [1, 0, 2, 3, 4] rfl ?_
        exact M_at (ih5 (by omega)) (by rw [bitsTo_t h22]; rfl) rfl (rfl) (rfl)
  refine V_sub [1, 0, 2, 3, 4] rfl ?_
  exact M_at (lp5 0 (Nat.zero_le _)) (rfl) rfl (rfl) (rfl)
set_option maxRecDepth 20000 in
theorem t_areMixed {g : Ev} {S : St} {iv : IV} {lw : LW} {b : Nat} (hb : IsCamp S b) {V : Cv} (hV : XC iv b V) {q : Nat} (hq : IsHear S q) (hd : b + 8 < q) {e c d : Nat} (he : e < v_ne V) (hc : c < v_nc V) (hdd : d < v_nc V) : CQ g mX6_areMixed [.ref (b), .ref (q), .int (nI e), .int (nI c), .int (nI d)] S iv lw (fun w iv2 lw2 => w = .int (bI (mixB V e c d = true)) ∧ lw = lw2 ∧ Off q 2 iv iv2) := by
  refine CT_ofQ rfl (by decide) (Nat.le_of_ble_eq_true rfl) (lv := [(0, .ref (b)), (1, .ref (q)), (2, .int (nI e)), (3, .int (nI c)), (4, .int (nI d))]) rfl (fun Q hQ => ?_)
  refine V_aload_n (i := 1) dX6_areMixed_0 rfl 1 rfl ?_
  refine V_aload_n (i := 0) dX6_areMixed_1 rfl 0 rfl ?_
  refine V_iload_n (i := 3) dX6_areMixed_2 rfl 3 rfl ?_
  refine V_iload_n (i := 2) dX6_areMixed_3 rfl 2 rfl ?_
  refine M_callVn (As := [.ref (b), .int (nI c), .int (nI e)]) (st := []) dX6_areMixed_4 lv_X6_73 ⟨by decide, by decide⟩ ⟨rfl, rfl⟩ rfl (ci := 2) hq.1 rfl rfl (Nat.le_of_ble_eq_true rfl) (t_takeCall hq hb hV hd hc he) (fun iv4 lw4 q4 => ?_)
  obtain ⟨e1, hX4, hO4⟩ := q4
  subst e1
  have hV2 := hV.off hO4 hd
  refine V_aload_n (i := 0) dX6_areMixed_7 rfl 0 rfl ?_
  refine V_aload_n (i := 1) dX6_areMixed_8 rfl 1 rfl ?_
  refine V_iload_n (i := 2) dX6_areMixed_9 rfl 2 rfl ?_
  refine V_iload dX6_areMixed_10 4 rfl ?_
  refine M_callSp (As := [.ref (b), .ref (q), .int (nI e), .int (nI d)]) (st := []) dX6_areMixed_12 ls_X6_59 ⟨by decide, by decide⟩ ⟨rfl, rfl⟩ rfl (Nat.le_of_ble_eq_true rfl) (t_isFit hb hV2 hq hX4 he hdd) ?_
  refine V_zret dX6_areMixed_15 ⟨rfl, rfl⟩ (bI_nar) (Nat.zero_le _) (Nat.zero_le _) ?_
  subst hQ
  exact ⟨_, _, _, rfl, rfl, rfl, rfl, hO4⟩
set_option maxRecDepth 20000 in
theorem t_countMixed {g : Ev} {S : St} {iv : IV} {lw : LW} {b : Nat} (hb : IsCamp S b) {V : Cv} (hV : XC iv b V) {q : Nat} (hq : IsHear S q) (hd : b + 8 < q) {e : Nat} (he : e < v_ne V) : CQ g mX6_countMixed [.ref (b), .ref (q), .int (nI e)] S iv lw (fun w iv2 lw2 => w = .int (nI (mixAll V e (v_nc V))) ∧ lw = lw2 ∧ Off q 2 iv iv2) := by
  refine CT_ofQ rfl (by decide) (Nat.le_of_ble_eq_true rfl) (lv := [(0, .ref (b)), (1, .ref (q)), (2, .int (nI e))]) rfl (fun Q hQ => ?_)
  have hnc := hV.ok.nc
  refine V_iconst (v := nI 0) dX6_countMixed_0 rfl ?_
  refine V_istore_n (lv2 := [(3, .int (nI 0)), (0, .ref (b)), (1, .ref (q)), (2, .int (nI e))]) dX6_countMixed_1 rfl (by decide) rfl ?_
  refine V_iconst (v := nI 0) dX6_countMixed_2 rfl ?_
  refine V_istore (lv2 := [(4, .int (nI 0)), (3, .int (nI 0)), (0, .ref (b)), (1, .ref (q)), (2, .int (nI e))]) dX6_countMixed_3 (by decide) rfl ?_
  have lp5 : ∀ j, j ≤ (v_nc V) → ∀ iv2 : IV, Off q 2 iv iv2 → VM g mX6_countMixed 5 [(3, .int (nI (mixAll V e j))), (4, .int (nI j)), (0, .ref (b)), (1, .ref (q)), (2, .int (nI e))] [] S iv2 lw Q := by
    refine up_ind fun j hj ih5 => ?_
    intro iv2 hO
    have hV2 := hV.off hO hd
    refine V_iload dX6_countMixed_5 1 rfl ?_
    refine V_aload_n (i := 0) dX6_countMixed_7 rfl 2 rfl ?_
    refine M_getI (x := nI (v_nc V)) dX6_countMixed_8 lf_X6_56 rfl hb.1 (hV2.nc) ?_
    refine V_icmp_ge (tgt := 57) dX6_countMixed_11 rfl (fun h11 => ?_) (fun h11 => ?_)
    · have h11 : (v_nc V) ≤ j := (nI_leI (by omega) (by omega)).mp h11
      refine V_iload_n (i := 3) dX6_countMixed_57 rfl 0 rfl ?_
      refine V_iret dX6_countMixed_58 ⟨rfl, rfl⟩ (Nat.zero_le _) (Nat.zero_le _) ?_
      subst hQ
      exact ⟨_, _, _, rfl, rfl, by rw [show j = v_nc V by omega], rfl, hO⟩
    · have h11 : ¬ (v_nc V) ≤ j := fun q => h11 ((nI_leI (by omega) (by omega)).mpr q)
      refine V_iload dX6_countMixed_14 1 rfl ?_
      refine V_iconst (v := nI 1) dX6_countMixed_16 rfl ?_
      refine V_iadd dX6_countMixed_17 ?_
      refine M_top (nI_add _ _) ?_
      refine V_istore (lv2 := [(5, .int (nI (j + 1))), (3, .int (nI (mixAll V e j))), (4, .int (nI j)), (0, .ref (b)), (1, .ref (q)), (2, .int (nI e))]) dX6_countMixed_18 (by decide) rfl ?_
      have lp20 : ∀ i, i ≤ (v_nc V) → j + 1 ≤ i → ∀ iv3 : IV, Off q 2 iv iv3 → VM g mX6_countMixed 20 [(3, .int (nI (mixAll V e j + mixN V e j i))), (5, .int (nI i)), (4, .int (nI j)), (0, .ref (b)), (1, .ref (q)), (2, .int (nI e))] [] S iv3 lw Q := by
        refine up_ind fun i hi ih20 => ?_
        intro hji iv3 hO3
        have hV3 := hV.off hO3 hd
        refine V_iload dX6_countMixed_20 1 rfl ?_
        refine V_aload_n (i := 0) dX6_countMixed_22 rfl 3 rfl ?_
        refine M_getI (x := nI (v_nc V)) dX6_countMixed_23 lf_X6_56 rfl hb.1 (hV3.nc) ?_
        refine V_icmp_ge (tgt := 51) dX6_countMixed_26 rfl (fun h26 => ?_) (fun h26 => ?_)
        · have h26 : (v_nc V) ≤ i := (nI_leI (by omega) (by omega)).mp h26
          refine M_at (lv2 := [(3, .int (nI (mixAll V e (j + 1)))), (5, .int (nI i)), (4, .int (nI j)), (0, .ref (b)), (1, .ref (q)), (2, .int (nI e))]) (st2 := []) ?_ (by rw [show i = v_nc V by omega]; rfl) rfl rfl rfl
          refine V_iinc (v := nI (j + 1)) (lv2 := [(4, .int (nI (j + 1))), (3, .int (nI (mixAll V e (j + 1)))), (5, .int (nI i)), (0, .ref (b)), (1, .ref (q)), (2, .int (nI e))]) dX6_countMixed_51 2 rfl (nI_inc _) (by decide) rfl ?_
          refine V_goto (tgt := 5) dX6_countMixed_54 rfl ?_
          refine V_sub [1, 0, 3, 4, 5] rfl ?_
          exact M_at (ih5 (by omega) iv3 hO3) (rfl) rfl (rfl) (rfl)
        · have h26 : ¬ (v_nc V) ≤ i := fun q => h26 ((nI_leI (by omega) (by omega)).mpr q)
          refine V_aload_n (i := 0) dX6_countMixed_29 rfl 3 rfl ?_
          refine V_aload_n (i := 1) dX6_countMixed_30 rfl 4 rfl ?_
          refine V_iload_n (i := 2) dX6_countMixed_31 rfl 5 rfl ?_
          refine V_iload dX6_countMixed_32 2 rfl ?_
          refine V_iload dX6_countMixed_34 1 rfl ?_
          refine M_callSq (As := [.ref (b), .ref (q), .int (nI e), .int (nI j), .int (nI i)]) (st := []) dX6_countMixed_36 ls_X6_108 ⟨by decide, by decide⟩ ⟨rfl, rfl⟩ rfl (Nat.le_of_ble_eq_true rfl) (t_areMixed hb hV3 hq hd he (c := j) (d := i) (by omega) (by omega)) (fun w36 iv36 lw36 q36 => ?_)
          obtain ⟨rfl, e2, hO36⟩ := q36
          subst e2
          have hOj := hO3.tr hO36
          refine V_if_eq (tgt := 45) dX6_countMixed_39 rfl (fun h39 => ?_) (fun h39 => ?_)
          · have h39 : ¬ (mixB V e j i = true) := bI_eq0.mp h39
            refine V_iinc (v := nI (i + 1)) (lv2 := [(5, .int (nI (i + 1))), (3, .int (nI (mixAll V e j + mixN V e j i))), (4, .int (nI j)), (0, .ref (b)), (1, .ref (q)), (2, .int (nI e))]) dX6_countMixed_45 1 rfl (nI_inc _) (by decide) rfl ?_
            refine V_goto (tgt := 20) dX6_countMixed_48 rfl ?_
            refine V_sub [1, 0, 2, 3, 4, 5] rfl ?_
            exact M_at (ih20 (by omega) (by omega) iv36 hOj) (by unfold mixN; rw [cntTo_f (by simp [h39])]; rfl) rfl (rfl) (rfl)
          · have h39 : mixB V e j i = true := bI_ne.mp h39
            refine V_iinc (v := nI ((mixAll V e j + mixN V e j i) + 1)) (lv2 := [(3, .int (nI ((mixAll V e j + mixN V e j i) + 1))), (5, .int (nI i)), (4, .int (nI j)), (0, .ref (b)), (1, .ref (q)), (2, .int (nI e))]) dX6_countMixed_42 0 rfl (nI_inc _) (by decide) rfl ?_
            refine V_iinc (v := nI (i + 1)) (lv2 := [(5, .int (nI (i + 1))), (3, .int (nI ((mixAll V e j + mixN V e j i) + 1))), (4, .int (nI j)), (0, .ref (b)), (1, .ref (q)), (2, .int (nI e))]) dX6_countMixed_45 1 rfl (nI_inc _) (by decide) rfl ?_
            refine V_goto (tgt := 20) dX6_countMixed_48 rfl ?_
            refine V_sub [1, 0, 2, 3, 4, 5] rfl ?_
            exact M_at (ih20 (by omega) (by omega) iv36 hOj) (by unfold mixN; rw [cntTo_t (by simp [h39]; omega)]; rfl) rfl (rfl) (rfl)
      refine V_sub [1, 0, 2, 3, 4, 5] rfl ?_
      exact M_at (lp20 (j + 1) (by omega) (Nat.le_refl _) iv2 hO) (by rw [mixN_0]; rfl) rfl (rfl) (rfl)
  refine V_sub [1, 0, 2, 3, 4] rfl ?_
  exact M_at (lp5 0 (Nat.zero_le _) iv Off.rf) (rfl) rfl (rfl) (rfl)
set_option maxRecDepth 20000 in
theorem t_firstMixed {g : Ev} {S : St} {iv : IV} {lw : LW} {b : Nat} (hb : IsCamp S b) {V : Cv} (hV : XC iv b V) {q : Nat} (hq : IsHear S q) (hd : b + 8 < q) {e : Nat} (he : e < v_ne V) : CQ g mX6_firstMixed [.ref (b), .ref (q), .int (nI e)] S iv lw (fun w iv2 lw2 => w = .int (oI (fmTo V e (v_nc V))) ∧ lw = lw2 ∧ Off q 2 iv iv2) := by
  refine CT_ofQ rfl (by decide) (Nat.le_of_ble_eq_true rfl) (lv := [(0, .ref (b)), (1, .ref (q)), (2, .int (nI e))]) rfl (fun Q hQ => ?_)
  have hnc := hV.ok.nc
  refine V_iconst (v := nI 0) dX6_firstMixed_0 rfl ?_
  refine V_istore_n (lv2 := [(3, .int (nI 0)), (0, .ref (b)), (1, .ref (q)), (2, .int (nI e))]) dX6_firstMixed_1 rfl (by decide) rfl ?_
  have lp2 : ∀ j, j ≤ (v_nc V) → ∀ iv2 : IV, Off q 2 iv iv2 → fmTo V e j = none → VM g mX6_firstMixed 2 [(3, .int (nI j)), (0, .ref (b)), (1, .ref (q)), (2, .int (nI e))] [] S iv2 lw Q := by
    refine up_ind fun j hj ih2 => ?_
    intro iv2 hO hno
    have hV2 := hV.off hO hd
    refine V_iload_n (i := 3) dX6_firstMixed_2 rfl 0 rfl ?_
    refine V_aload_n (i := 0) dX6_firstMixed_3 rfl 1 rfl ?_
    refine M_getI (x := nI (v_nc V)) dX6_firstMixed_4 lf_X6_56 rfl hb.1 (hV2.nc) ?_
    refine V_icmp_ge (tgt := 56) dX6_firstMixed_7 rfl (fun h7 => ?_) (fun h7 => ?_)
    · have h7 : (v_nc V) ≤ j := (nI_leI (by omega) (by omega)).mp h7
      refine V_iconst (v := (-1)) dX6_firstMixed_56 rfl ?_
      refine V_iret dX6_firstMixed_57 ⟨rfl, rfl⟩ (Nat.zero_le _) (Nat.zero_le _) ?_
      subst hQ
      exact ⟨_, _, _, rfl, rfl, by rw [← show j = v_nc V by omega, hno]; rfl, rfl, hO⟩
    · have h7 : ¬ (v_nc V) ≤ j := fun q => h7 ((nI_leI (by omega) (by omega)).mpr q)
      refine V_iload_n (i := 3) dX6_firstMixed_10 rfl 0 rfl ?_
      refine V_iconst (v := nI 1) dX6_firstMixed_11 rfl ?_
      refine V_iadd dX6_firstMixed_12 ?_
      refine M_top (nI_add _ _) ?_
      refine V_istore (lv2 := [(4, .int (nI (j + 1))), (3, .int (nI j)), (0, .ref (b)), (1, .ref (q)), (2, .int (nI e))]) dX6_firstMixed_13 (by decide) rfl ?_
      have lp15 : ∀ i, i ≤ (v_nc V) → j + 1 ≤ i → ∀ iv3 : IV, Off q 2 iv iv3 → (∀ k, k < i → (decide (j < k) && mixB V e j k) = false) → VM g mX6_firstMixed 15 [(4, .int (nI i)), (3, .int (nI j)), (0, .ref (b)), (1, .ref (q)), (2, .int (nI e))] [] S iv3 lw Q := by
        refine up_ind fun i hi ih15 => ?_
        intro hji iv3 hO3 hnk
        have hV3 := hV.off hO3 hd
        refine V_iload dX6_firstMixed_15 0 rfl ?_
        refine V_aload_n (i := 0) dX6_firstMixed_17 rfl 2 rfl ?_
        refine M_getI (x := nI (v_nc V)) dX6_firstMixed_18 lf_X6_56 rfl hb.1 (hV3.nc) ?_
        refine V_icmp_ge (tgt := 50) dX6_firstMixed_21 rfl (fun h21 => ?_) (fun h21 => ?_)
        · have h21 : (v_nc V) ≤ i := (nI_leI (by omega) (by omega)).mp h21
          refine V_iinc (v := nI (j + 1)) (lv2 := [(3, .int (nI (j + 1))), (4, .int (nI i)), (0, .ref (b)), (1, .ref (q)), (2, .int (nI e))]) dX6_firstMixed_50 1 rfl (nI_inc _) (by decide) rfl ?_
          refine V_goto (tgt := 2) dX6_firstMixed_53 rfl ?_
          refine V_sub [0, 2, 3, 4] rfl ?_
          exact M_at (ih2 (by omega) iv3 hO3 (fmTo_s hno (fmAt_none (fun k hk => hnk k (by omega))))) (rfl) rfl (rfl) (rfl)
        · have h21 : ¬ (v_nc V) ≤ i := fun q => h21 ((nI_leI (by omega) (by omega)).mpr q)
          refine V_aload_n (i := 0) dX6_firstMixed_24 rfl 2 rfl ?_
          refine V_aload_n (i := 1) dX6_firstMixed_25 rfl 3 rfl ?_
          refine V_iload_n (i := 2) dX6_firstMixed_26 rfl 4 rfl ?_
          refine V_iload_n (i := 3) dX6_firstMixed_27 rfl 1 rfl ?_
          refine V_iload dX6_firstMixed_28 0 rfl ?_
          refine M_callSq (As := [.ref (b), .ref (q), .int (nI e), .int (nI j), .int (nI i)]) (st := []) dX6_firstMixed_30 ls_X6_108 ⟨by decide, by decide⟩ ⟨rfl, rfl⟩ rfl (Nat.le_of_ble_eq_true rfl) (t_areMixed hb hV3 hq hd he (c := j) (d := i) (by omega) (by omega)) (fun w30 iv30 lw30 q30 => ?_)
          obtain ⟨rfl, e2, hO30⟩ := q30
          subst e2
          have hOj := hO3.tr hO30
          refine V_if_eq (tgt := 44) dX6_firstMixed_33 rfl (fun h33 => ?_) (fun h33 => ?_)
          · have h33 : ¬ (mixB V e j i = true) := bI_eq0.mp h33
            refine V_iinc (v := nI (i + 1)) (lv2 := [(4, .int (nI (i + 1))), (3, .int (nI j)), (0, .ref (b)), (1, .ref (q)), (2, .int (nI e))]) dX6_firstMixed_44 0 rfl (nI_inc _) (by decide) rfl ?_
            refine V_goto (tgt := 15) dX6_firstMixed_47 rfl ?_
            refine V_sub [0, 1, 2, 3, 4] rfl ?_
            exact M_at (ih15 (by omega) (by omega) iv30 hOj (fun k hk => (Nat.lt_or_ge k i).elim (hnk k) (fun z => by have e9 : k = i := (by omega); rw [e9]; simp [h33]))) (rfl) rfl (rfl) (rfl)
          · have h33 : mixB V e j i = true := bI_ne.mp h33
            refine V_bipush (v := nI 100) dX6_firstMixed_36 rfl ?_
            refine V_iload_n (i := 3) dX6_firstMixed_38 rfl 1 rfl ?_
            refine V_imul dX6_firstMixed_39 ?_
            refine M_top (pk_mul _ _) ?_
            refine V_iload dX6_firstMixed_40 0 rfl ?_
            refine V_iadd dX6_firstMixed_42 ?_
            refine M_top (nI_add _ _) ?_
            refine V_iret dX6_firstMixed_43 ⟨rfl, rfl⟩ (Nat.zero_le _) (Nat.zero_le _) ?_
            subst hQ
            exact ⟨_, _, _, rfl, rfl, by rw [fmTo_some (v_nc V) (show j < v_nc V by omega) hno (fmAt_some (by omega) hnk (by simp [h33]; omega))]; rfl, rfl, hOj⟩
      refine V_sub [0, 1, 2, 3, 4] rfl ?_
      exact M_at (lp15 (j + 1) (by omega) (Nat.le_refl _) iv2 hO (fun k hk => by simp; omega)) (rfl) rfl (rfl) (rfl)
  refine V_sub [0, 1, 2, 3] rfl ?_
  exact M_at (lp2 0 (Nat.zero_le _) iv Off.rf rfl) (rfl) rfl (rfl) (rfl)
set_option maxRecDepth 20000 in
theorem t_differences {g : Ev} {S : St} {iv : IV} {lw : LW} {b : Nat} (hb : IsCamp S b) {V : Cv} (hV : XC iv b V) {q : Nat} (hq : IsHear S q) {H : Hv} (hH : XH iv q H) {c : Nat} (hc : c < v_nc V) : CP g mX6_differences [.ref (b), .ref (q), .int (nI c)] S iv lw (.int (nI (difV V H c))) := by
  refine CT_ofQ rfl (by decide) (Nat.le_of_ble_eq_true rfl) (lv := [(0, .ref (b)), (1, .ref (q)), (2, .int (nI c))]) rfl (fun Q hQ => ?_)
  have h8 := hH.1.1
  have hsz := hV.ok.sz hc
  refine V_aload_n (i := 0) dX6_differences_0 rfl 0 rfl ?_
  refine V_iload_n (i := 2) dX6_differences_1 rfl 2 rfl ?_
  refine M_callVp (As := [.int (nI c)]) (st := []) dX6_differences_2 lv_X6_18 ⟨by decide, by decide⟩ ⟨rfl, rfl⟩ rfl (ci := 0) hb.1 rfl rfl (Nat.le_of_ble_eq_true rfl) (t_X0_sizeOf hb hV hc) ?_
  refine V_istore_n (lv2 := [(3, .int (nI (v_sz V c))), (0, .ref (b)), (1, .ref (q)), (2, .int (nI c))]) dX6_differences_5 rfl (by decide) rfl ?_
  refine V_iload_n (i := 3) dX6_differences_6 rfl 0 rfl ?_
  refine V_aload_n (i := 1) dX6_differences_7 rfl 2 rfl ?_
  refine M_getI (x := nI H.1) dX6_differences_8 lf_X6_40 rfl hq.1 (hH.2.1) ?_
  refine V_isub dX6_differences_11 ?_
  refine M_callSp (As := [.int ((nI (v_sz V c) - nI H.1))]) (st := []) dX6_differences_12 ls_X6_112 ⟨by decide, by decide⟩ ⟨rfl, rfl⟩ rfl (Nat.le_of_ble_eq_true rfl) (t_abs (a := v_sz V c) (b := H.1) (by omega) (by omega)) ?_
  refine V_istore (lv2 := [(4, .int (nI ((v_sz V c - H.1) + (H.1 - v_sz V c)))), (3, .int (nI (v_sz V c))), (0, .ref (b)), (1, .ref (q)), (2, .int (nI c))]) dX6_differences_15 (by decide) rfl ?_
  refine V_iconst (v := nI 0) dX6_differences_17 rfl ?_
  refine V_istore (lv2 := [(5, .int (nI 0)), (4, .int (nI ((v_sz V c - H.1) + (H.1 - v_sz V c)))), (3, .int (nI (v_sz V c))), (0, .ref (b)), (1, .ref (q)), (2, .int (nI c))]) dX6_differences_18 (by decide) rfl ?_
  have lp20 : ∀ i, i ≤ (min (v_sz V c) H.1) → VM g mX6_differences 20 [(4, .int (nI ((v_sz V c - H.1) + (H.1 - v_sz V c) + cntTo (fun i => !decide (H.2.2 i = 9) && !decide (H.2.2 i = v_nt V c i)) i))), (5, .int (nI i)), (3, .int (nI (v_sz V c))), (0, .ref (b)), (1, .ref (q)), (2, .int (nI c))] [] S iv lw Q := by
    refine up_ind fun i hi ih20 => ?_
    refine V_iload dX6_differences_20 1 rfl ?_
    refine V_iload_n (i := 3) dX6_differences_22 rfl 2 rfl ?_
    refine V_icmp_ge (tgt := 71) dX6_differences_23 rfl (fun h23 => ?_) (fun h23 => ?_)
    · have h23 : (v_sz V c) ≤ i := (nI_leI (by omega) (by omega)).mp h23
      refine V_iload dX6_differences_71 0 rfl ?_
      refine V_iret dX6_differences_73 ⟨rfl, rfl⟩ (Nat.zero_le _) (Nat.zero_le _) ?_
      subst hQ
      exact ⟨by rw [show i = min (v_sz V c) H.1 by omega]; rfl, rfl⟩
    · have h23 : ¬ (v_sz V c) ≤ i := fun q => h23 ((nI_leI (by omega) (by omega)).mpr q)
      refine V_iload dX6_differences_26 1 rfl ?_
      refine V_aload_n (i := 1) dX6_differences_28 rfl 4 rfl ?_
      refine M_getI (x := nI H.1) dX6_differences_29 lf_X6_40 rfl hq.1 (hH.2.1) ?_
      refine V_icmp_ge (tgt := 71) dX6_differences_32 rfl (fun h32 => ?_) (fun h32 => ?_)
      · have h32 : H.1 ≤ i := (nI_leI (by omega) (by omega)).mp h32
        refine V_iload dX6_differences_71 0 rfl ?_
        refine V_iret dX6_differences_73 ⟨rfl, rfl⟩ (Nat.zero_le _) (Nat.zero_le _) ?_
        subst hQ
        exact ⟨by rw [show i = min (v_sz V c) H.1 by omega]; rfl, rfl⟩
      · have h32 : ¬ H.1 ≤ i := fun q => h32 ((nI_leI (by omega) (by omega)).mpr q)
        have hn1 := hH.1.2 i (by omega)
        have hn2 := hV.ok.nt hc (i := i) (by omega)
        refine V_aload_n (i := 1) dX6_differences_35 rfl 4 rfl ?_
        refine V_iload dX6_differences_36 1 rfl ?_
        refine M_callVp (As := [.int (nI i)]) (st := []) dX6_differences_38 lv_X6_48 ⟨by decide, by decide⟩ ⟨rfl, rfl⟩ rfl (ci := 2) hq.1 rfl rfl (Nat.le_of_ble_eq_true rfl) (t_X2_noteAt hq hH (i := i) (by omega)) ?_
        refine V_istore (lv2 := [(6, .int (nI (H.2.2 i))), (4, .int (nI ((v_sz V c - H.1) + (H.1 - v_sz V c) + cntTo (fun i => !decide (H.2.2 i = 9) && !decide (H.2.2 i = v_nt V c i)) i))), (5, .int (nI i)), (3, .int (nI (v_sz V c))), (0, .ref (b)), (1, .ref (q)), (2, .int (nI c))]) dX6_differences_41 (by decide) rfl ?_
        refine V_iload dX6_differences_43 0 rfl ?_
        refine V_bipush (v := nI 9) dX6_differences_45 rfl ?_
        refine V_icmp_eq (tgt := 65) dX6_differences_47 rfl (fun h47 => ?_) (fun h47 => ?_)
        · have h47 : (H.2.2 i) = 9 := (nI_eq (by omega) (by omega)).mp h47
          refine V_iinc (v := nI (i + 1)) (lv2 := [(5, .int (nI (i + 1))), (6, .int (nI (H.2.2 i))), (4, .int (nI ((v_sz V c - H.1) + (H.1 - v_sz V c) + cntTo (fun i => !decide (H.2.2 i = 9) && !decide (H.2.2 i = v_nt V c i)) i))), (3, .int (nI (v_sz V c))), (0, .ref (b)), (1, .ref (q)), (2, .int (nI c))]) dX6_differences_65 2 rfl (nI_inc _) (by decide) rfl ?_
          refine V_goto (tgt := 20) dX6_differences_68 rfl ?_
          refine V_sub [2, 0, 3, 4, 5, 6] rfl ?_
          exact M_at (ih20 (by omega)) (by rw [cntTo_f (by simp [h47])]; rfl) rfl (rfl) (rfl)
        · have h47 : ¬ (H.2.2 i) = 9 := fun q => h47 ((nI_eq (by omega) (by omega)).mpr q)
          refine V_iload dX6_differences_50 0 rfl ?_
          refine V_aload_n (i := 0) dX6_differences_52 rfl 4 rfl ?_
          refine V_iload_n (i := 2) dX6_differences_53 rfl 6 rfl ?_
          refine V_iload dX6_differences_54 2 rfl ?_
          refine M_callVp (As := [.int (nI c), .int (nI i)]) (st := [.int (nI (H.2.2 i))]) dX6_differences_56 lv_X6_33 ⟨by decide, by decide⟩ ⟨rfl, rfl⟩ rfl (ci := 0) hb.1 rfl rfl (Nat.le_of_ble_eq_true rfl) (t_X0_noteAt hb hV hc (i := i) (by omega)) ?_
          refine V_icmp_eq (tgt := 65) dX6_differences_59 rfl (fun h59 => ?_) (fun h59 => ?_)
          · have h59 : (H.2.2 i) = (v_nt V c i) := (nI_eq (by omega) (by omega)).mp h59
            refine V_iinc (v := nI (i + 1)) (lv2 := [(5, .int (nI (i + 1))), (6, .int (nI (H.2.2 i))), (4, .int (nI ((v_sz V c - H.1) + (H.1 - v_sz V c) + cntTo (fun i => !decide (H.2.2 i = 9) && !decide (H.2.2 i = v_nt V c i)) i))), (3, .int (nI (v_sz V c))), (0, .ref (b)), (1, .ref (q)), (2, .int (nI c))]) dX6_differences_65 2 rfl (nI_inc _) (by decide) rfl ?_
            refine V_goto (tgt := 20) dX6_differences_68 rfl ?_
            refine V_sub [2, 0, 3, 4, 5, 6] rfl ?_
            exact M_at (ih20 (by omega)) (by rw [cntTo_f (by simp [h59])]; rfl) rfl (rfl) (rfl)
          · have h59 : ¬ (H.2.2 i) = (v_nt V c i) := fun q => h59 ((nI_eq (by omega) (by omega)).mpr q)
            refine V_iinc (v := nI (((v_sz V c - H.1) + (H.1 - v_sz V c) + cntTo (fun i => !decide (H.2.2 i = 9) && !decide (H.2.2 i = v_nt V c i)) i) + 1)) (lv2 := [(4, .int (nI (((v_sz V c - H.1) + (H.1 - v_sz V c) + cntTo (fun i => !decide (H.2.2 i = 9) && !decide (H.2.2 i = v_nt V c i)) i) + 1))), (6, .int (nI (H.2.2 i))), (5, .int (nI i)), (3, .int (nI (v_sz V c))), (0, .ref (b)), (1, .ref (q)), (2, .int (nI c))]) dX6_differences_62 1 rfl (nI_inc _) (by decide) rfl ?_
            refine V_iinc (v := nI (i + 1)) (lv2 := [(5, .int (nI (i + 1))), (4, .int (nI (((v_sz V c - H.1) + (H.1 - v_sz V c) + cntTo (fun i => !decide (H.2.2 i = 9) && !decide (H.2.2 i = v_nt V c i)) i) + 1))), (6, .int (nI (H.2.2 i))), (3, .int (nI (v_sz V c))), (0, .ref (b)), (1, .ref (q)), (2, .int (nI c))]) dX6_differences_65 2 rfl (nI_inc _) (by decide) rfl ?_
            refine V_goto (tgt := 20) dX6_differences_68 rfl ?_
            refine V_sub [1, 0, 3, 4, 5, 6] rfl ?_
            exact M_at (ih20 (by omega)) (by rw [cntTo_t (by simp [h47, h59])]; rfl) rfl (rfl) (rfl)
  refine V_sub [1, 0, 2, 3, 4, 5] rfl ?_
  exact M_at (lp20 0 (Nat.zero_le _)) (rfl) rfl (rfl) (rfl)
set_option maxRecDepth 20000 in
theorem t_nearestCall {g : Ev} {S : St} {iv : IV} {lw : LW} {b : Nat} (hb : IsCamp S b) {V : Cv} (hV : XC iv b V) {q : Nat} (hq : IsHear S q) {H : Hv} (hH : XH iv q H) : CP g mX6_nearestCall [.ref (b), .ref (q)] S iv lw (.int (oI (bestLo (difV V H) (v_nc V)))) := by
  refine CT_ofQ rfl (by decide) (Nat.le_of_ble_eq_true rfl) (lv := [(0, .ref (b)), (1, .ref (q))]) rfl (fun Q hQ => ?_)
  have hnc := hV.ok.nc
  have h8 := hH.1.1
  refine V_iconst (v := (-1)) dX6_nearestCall_0 rfl ?_
  refine V_istore_n (lv2 := [(2, .int ((-1))), (0, .ref (b)), (1, .ref (q))]) dX6_nearestCall_1 rfl (by decide) rfl ?_
  refine V_iconst (v := nI 0) dX6_nearestCall_2 rfl ?_
  refine V_istore_n (lv2 := [(3, .int (nI 0)), (2, .int ((-1))), (0, .ref (b)), (1, .ref (q))]) dX6_nearestCall_3 rfl (by decide) rfl ?_
  refine V_iconst (v := nI 0) dX6_nearestCall_4 rfl ?_
  refine V_istore (lv2 := [(4, .int (nI 0)), (3, .int (nI 0)), (2, .int ((-1))), (0, .ref (b)), (1, .ref (q))]) dX6_nearestCall_5 (by decide) rfl ?_
  have lp7 : ∀ j, j ≤ (v_nc V) → VM g mX6_nearestCall 7 [(2, .int (oI (bestLo (difV V H) j))), (3, .int (nI (valO (difV V H) (bestLo (difV V H) j)))), (4, .int (nI j)), (0, .ref (b)), (1, .ref (q))] [] S iv lw Q := by
    refine up_ind fun j hj ih7 => ?_
    refine V_iload dX6_nearestCall_7 2 rfl ?_
    refine V_aload_n (i := 0) dX6_nearestCall_9 rfl 3 rfl ?_
    refine M_getI (x := nI (v_nc V)) dX6_nearestCall_10 lf_X6_56 rfl hb.1 (hV.nc) ?_
    refine V_icmp_ge (tgt := 48) dX6_nearestCall_13 rfl (fun h13 => ?_) (fun h13 => ?_)
    · have h13 : (v_nc V) ≤ j := (nI_leI (by omega) (by omega)).mp h13
      refine V_iload_n (i := 2) dX6_nearestCall_48 rfl 0 rfl ?_
      refine V_iret dX6_nearestCall_49 ⟨rfl, rfl⟩ (Nat.zero_le _) (Nat.zero_le _) ?_
      subst hQ
      exact ⟨by rw [show j = v_nc V by omega], rfl⟩
    · have h13 : ¬ (v_nc V) ≤ j := fun q => h13 ((nI_leI (by omega) (by omega)).mpr q)
      refine V_aload_n (i := 0) dX6_nearestCall_16 rfl 3 rfl ?_
      refine V_aload_n (i := 1) dX6_nearestCall_17 rfl 4 rfl ?_
      refine V_iload dX6_nearestCall_18 2 rfl ?_
      refine M_callSp (As := [.ref (b), .ref (q), .int (nI j)]) (st := []) dX6_nearestCall_20 ls_X6_117 ⟨by decide, by decide⟩ ⟨rfl, rfl⟩ rfl (Nat.le_of_ble_eq_true rfl) (t_differences hb hV hq hH (c := j) (by omega)) ?_
      refine V_istore (lv2 := [(5, .int (nI (difV V H j))), (2, .int (oI (bestLo (difV V H) j))), (3, .int (nI (valO (difV V H) (bestLo (difV V H) j)))), (4, .int (nI j)), (0, .ref (b)), (1, .ref (q))]) dX6_nearestCall_23 (by decide) rfl ?_
      refine V_iload_n (i := 2) dX6_nearestCall_25 rfl 1 rfl ?_
      refine V_iconst (v := (-1)) dX6_nearestCall_26 rfl ?_
      have hb1 := difV_le hV.ok (c := j) (by omega) h8
      have hb2 : valO (difV V H) (bestLo (difV V H) j) ≤ 24 := valLo_le (fun i hi => difV_le hV.ok (by omega) h8)
      refine V_icmp_eq (tgt := 36) dX6_nearestCall_27 rfl (fun h27 => ?_) (fun h27 => ?_)
      · have h27 := (oI_m1 (fun k hk => bestLo_lt j hk) (by omega)).mp h27
        refine V_iload dX6_nearestCall_36 3 rfl ?_
        refine V_istore_n (lv2 := [(2, .int (nI j)), (5, .int (nI (difV V H j))), (3, .int (nI (valO (difV V H) (bestLo (difV V H) j)))), (4, .int (nI j)), (0, .ref (b)), (1, .ref (q))]) dX6_nearestCall_38 rfl (by decide) rfl ?_
        refine V_iload dX6_nearestCall_39 1 rfl ?_
        refine V_istore_n (lv2 := [(3, .int (nI (difV V H j))), (2, .int (nI j)), (5, .int (nI (difV V H j))), (4, .int (nI j)), (0, .ref (b)), (1, .ref (q))]) dX6_nearestCall_41 rfl (by decide) rfl ?_
        refine V_iinc (v := nI (j + 1)) (lv2 := [(4, .int (nI (j + 1))), (3, .int (nI (difV V H j))), (2, .int (nI j)), (5, .int (nI (difV V H j))), (0, .ref (b)), (1, .ref (q))]) dX6_nearestCall_42 3 rfl (nI_inc _) (by decide) rfl ?_
        refine V_goto (tgt := 7) dX6_nearestCall_45 rfl ?_
        refine V_sub [2, 1, 0, 4, 5] rfl ?_
        exact M_at (ih7 (by omega)) (by rw [bestLo_new (Or.inl h27)]; rfl) rfl (rfl) (rfl)
      · have h27 : ¬ bestLo (difV V H) j = none := fun z => h27 ((oI_m1 (fun k hk => bestLo_lt j hk) (by omega)).mpr z)
        refine V_iload dX6_nearestCall_30 0 rfl ?_
        refine V_iload_n (i := 3) dX6_nearestCall_32 rfl 2 rfl ?_
        refine V_icmp_ge (tgt := 42) dX6_nearestCall_33 rfl (fun h33 => ?_) (fun h33 => ?_)
        · have h33 : (valO (difV V H) (bestLo (difV V H) j)) ≤ (difV V H j) := (nI_leI (by omega) (by omega)).mp h33
          refine V_iinc (v := nI (j + 1)) (lv2 := [(4, .int (nI (j + 1))), (5, .int (nI (difV V H j))), (2, .int (oI (bestLo (difV V H) j))), (3, .int (nI (valO (difV V H) (bestLo (difV V H) j)))), (0, .ref (b)), (1, .ref (q))]) dX6_nearestCall_42 3 rfl (nI_inc _) (by decide) rfl ?_
          refine V_goto (tgt := 7) dX6_nearestCall_45 rfl ?_
          refine V_sub [2, 3, 0, 4, 5] rfl ?_
          exact M_at (ih7 (by omega)) (by rw [bestLo_old h27 (show ¬ difV V H j < valO (difV V H) (bestLo (difV V H) j) by omega)]; rfl) rfl (rfl) (rfl)
        · have h33 : ¬ (valO (difV V H) (bestLo (difV V H) j)) ≤ (difV V H j) := fun q => h33 ((nI_leI (by omega) (by omega)).mpr q)
          refine V_iload dX6_nearestCall_36 3 rfl ?_
          refine V_istore_n (lv2 := [(2, .int (nI j)), (5, .int (nI (difV V H j))), (3, .int (nI (valO (difV V H) (bestLo (difV V H) j)))), (4, .int (nI j)), (0, .ref (b)), (1, .ref (q))]) dX6_nearestCall_38 rfl (by decide) rfl ?_
          refine V_iload dX6_nearestCall_39 1 rfl ?_
          refine V_istore_n (lv2 := [(3, .int (nI (difV V H j))), (2, .int (nI j)), (5, .int (nI (difV V H j))), (4, .int (nI j)), (0, .ref (b)), (1, .ref (q))]) dX6_nearestCall_41 rfl (by decide) rfl ?_
          refine V_iinc (v := nI (j + 1)) (lv2 := [(4, .int (nI (j + 1))), (3, .int (nI (difV V H j))), (2, .int (nI j)), (5, .int (nI (difV V H j))), (0, .ref (b)), (1, .ref (q))]) dX6_nearestCall_42 3 rfl (nI_inc _) (by decide) rfl ?_
          refine V_goto (tgt := 7) dX6_nearestCall_45 rfl ?_
          refine V_sub [2, 1, 0, 4, 5] rfl ?_
          exact M_at (ih7 (by omega)) (by rw [bestLo_new (Or.inr (show difV V H j < valO (difV V H) (bestLo (difV V H) j) by omega))]; rfl) rfl (rfl) (rfl)
  refine V_sub [2, 1, 0, 3, 4] rfl ?_
  exact M_at (lp7 0 (Nat.zero_le _)) (rfl) rfl (rfl) (rfl)
set_option maxRecDepth 20000 in
theorem t_whenSure {g : Ev} {S : St} {iv : IV} {lw : LW} {b : Nat} (hb : IsCamp S b) {V : Cv} (hV : XC iv b V) {q : Nat} (hq : IsHear S q) (hd : b + 8 < q) {H : Hv} (hH : XH iv q H) {e : Nat} (he : e < v_ne V) : CQ g mX6_whenSure [.ref (b), .ref (q), .int (nI e)] S iv lw (fun w iv2 lw2 => w = .int (oI (whenV V H e)) ∧ lw = lw2 ∧ Off q 2 iv iv2) := by
  refine CT_ofQ rfl (by decide) (Nat.le_of_ble_eq_true rfl) (lv := [(0, .ref (b)), (1, .ref (q)), (2, .int (nI e))]) rfl (fun Q hQ => ?_)
  have h8 := hH.1.1
  have hnc := hV.ok.nc
  have hsu := hV.ok.su
  refine V_aload_n (i := 1) dX6_whenSure_0 rfl 1 rfl ?_
  refine M_getI (x := nI H.1) dX6_whenSure_1 lf_X6_40 rfl hq.1 (hH.2.1) ?_
  refine V_istore_n (lv2 := [(3, .int (nI H.1)), (0, .ref (b)), (1, .ref (q)), (2, .int (nI e))]) dX6_whenSure_4 rfl (by decide) rfl ?_
  refine V_iconst (v := nI 0) dX6_whenSure_5 rfl ?_
  refine V_istore (lv2 := [(4, .int (nI 0)), (3, .int (nI H.1)), (0, .ref (b)), (1, .ref (q)), (2, .int (nI e))]) dX6_whenSure_6 (by decide) rfl ?_
  have lp8 : ∀ j, j ≤ (H.1 + 1) → ∀ iv2 : IV, Off q 2 iv iv2 → (∀ i, i < H.1 → iv2 (q + 1) i = nI (H.2.2 i)) → (∀ k, k < j → sureB V H e k = false) → VM g mX6_whenSure 8 [(4, .int (nI j)), (3, .int (nI (H.1))), (0, .ref (b)), (1, .ref (q)), (2, .int (nI e))] [] S iv2 lw Q := by
    refine up_ind fun j hj ih8 => ?_
    intro iv2 hO hrow hal
    refine V_iload dX6_whenSure_8 0 rfl ?_
    refine V_iload_n (i := 3) dX6_whenSure_10 rfl 1 rfl ?_
    refine V_icmp_gt (tgt := 59) dX6_whenSure_11 rfl (fun h11 => ?_) (fun h11 => ?_)
    · have h11 : (H.1) < j := (nI_ltI (by omega) (by omega)).mp h11
      refine V_iconst (v := (-1)) dX6_whenSure_59 rfl ?_
      refine V_iret dX6_whenSure_60 ⟨rfl, rfl⟩ (Nat.zero_le _) (Nat.zero_le _) ?_
      subst hQ
      have hk : fstTo (sureB V H e) (H.1 + 1) = H.1 + 1 := fstTo_none _ (fun i hi => hal i (by omega))
      exact ⟨_, _, _, rfl, rfl, by unfold whenV; rw [hk, if_neg (by omega)]; rfl, rfl, hO⟩
    · have h11 : ¬ (H.1) < j := fun q => h11 ((nI_ltI (by omega) (by omega)).mpr q)
      refine V_aload_n (i := 1) dX6_whenSure_14 rfl 3 rfl ?_
      refine V_iload dX6_whenSure_15 0 rfl ?_
      refine V_iconst (v := nI 0) dX6_whenSure_17 rfl ?_
      refine M_callVn (As := [.int (nI j), .int (nI 0)]) (st := []) dX6_whenSure_18 lv_X6_77 ⟨by decide, by decide⟩ ⟨rfl, rfl⟩ rfl (ci := 2) hq.1 rfl rfl (Nat.le_of_ble_eq_true rfl) (t_cutTo hq (n := j) (by omega) (o := false) rfl) (fun iv18 lw18 q18 => ?_)
      obtain ⟨rfl, e2⟩ := q18
      subst e2
      have hOj : Off q 2 iv (up2 (up2 iv2 q 1 (nI j)) q 2 (nI 0)) := hO.tr off_cut
      have hVj := hV.off hOj hd
      have hXj : XH (up2 (up2 iv2 q 1 (nI j)) q 2 (nI 0)) q (j, false, H.2.2) := xh_cut hrow (by omega) (by omega) (fun i hi => hH.1.2 i (by omega)) rfl
      refine V_aload_n (i := 0) dX6_whenSure_21 rfl 2 rfl ?_
      refine V_aload_n (i := 1) dX6_whenSure_22 rfl 3 rfl ?_
      refine V_iload_n (i := 2) dX6_whenSure_23 rfl 4 rfl ?_
      refine M_callSp (As := [.ref (b), .ref (q), .int (nI e)]) (st := []) dX6_whenSure_24 ls_X6_120 ⟨by decide, by decide⟩ ⟨rfl, rfl⟩ rfl (Nat.le_of_ble_eq_true rfl) (t_guessOf hb hVj hq hXj he) ?_
      refine V_istore (lv2 := [(5, .int (oI (gsTo V (j, false, H.2.2) e (v_nc V)))), (4, .int (nI j)), (3, .int (nI (H.1))), (0, .ref (b)), (1, .ref (q)), (2, .int (nI e))]) dX6_whenSure_27 (by decide) rfl ?_
      refine V_iload dX6_whenSure_29 0 rfl ?_
      refine V_iconst (v := (-1)) dX6_whenSure_31 rfl ?_
      refine V_icmp_eq (tgt := 53) dX6_whenSure_32 rfl (fun h32 => ?_) (fun h32 => ?_)
      · have h32 := (oI_m1 (fun k hk => gsTo_lt _ hk) (by omega)).mp h32
        refine V_iinc (v := nI (j + 1)) (lv2 := [(4, .int (nI (j + 1))), (5, .int (oI (gsTo V (j, false, H.2.2) e (v_nc V)))), (3, .int (nI (H.1))), (0, .ref (b)), (1, .ref (q)), (2, .int (nI e))]) dX6_whenSure_53 1 rfl (nI_inc _) (by decide) rfl ?_
        refine V_goto (tgt := 8) dX6_whenSure_56 rfl ?_
        refine V_sub [0, 2, 3, 4, 5] rfl ?_
        exact M_at (ih8 (by omega) (up2 (up2 iv2 q 1 (nI j)) q 2 (nI 0)) hOj (fun i hi => by rw [up2_a (by omega), up2_a (by omega)]; exact hrow i hi) (fun k hk => (Nat.lt_or_ge k j).elim (hal k) (fun z => by have e9 : k = j := (by omega); rw [e9]; exact sureB_none h32))) (rfl) rfl (rfl) (rfl)
      · have h32 : ¬ gsTo V (j, false, H.2.2) e (v_nc V) = none := fun z => h32 ((oI_m1 (fun k hk => gsTo_lt _ hk) (by omega)).mpr z)
        obtain ⟨k0, hk0⟩ := Option.ne_none_iff_exists'.mp h32
        refine M_at (lv2 := [(5, .int (nI k0)), (4, .int (nI j)), (3, .int (nI (H.1))), (0, .ref (b)), (1, .ref (q)), (2, .int (nI e))]) (st2 := []) ?_ (by rw [hk0]; rfl) rfl rfl rfl
        refine V_aload_n (i := 0) dX6_whenSure_35 rfl 3 rfl ?_
        refine V_aload_n (i := 1) dX6_whenSure_36 rfl 4 rfl ?_
        refine V_iload_n (i := 2) dX6_whenSure_37 rfl 5 rfl ?_
        refine V_iload dX6_whenSure_38 0 rfl ?_
        refine M_callSp (As := [.ref (b), .ref (q), .int (nI e), .int (nI k0)]) (st := []) dX6_whenSure_40 ls_X6_123 ⟨by decide, by decide⟩ ⟨rfl, rfl⟩ rfl (Nat.le_of_ble_eq_true rfl) (t_likelyOf hb hVj hq hXj he (c := k0) (gsTo_lt _ hk0)) ?_
        refine V_aload_n (i := 0) dX6_whenSure_43 rfl 3 rfl ?_
        refine M_getI (x := nI (v_su V)) dX6_whenSure_44 lf_X6_126 rfl hb.1 (hVj.su) ?_
        have hl := like_le (H := (j, false, H.2.2)) (e := e) hV.ok (gsTo_lt _ hk0)
        refine V_icmp_lt (tgt := 53) dX6_whenSure_47 rfl (fun h47 => ?_) (fun h47 => ?_)
        · have h47 : (likeOf V (j, false, H.2.2) e k0) < (v_su V) := (nI_ltI (by omega) (by omega)).mp h47
          refine V_iinc (v := nI (j + 1)) (lv2 := [(4, .int (nI (j + 1))), (5, .int (nI k0)), (3, .int (nI (H.1))), (0, .ref (b)), (1, .ref (q)), (2, .int (nI e))]) dX6_whenSure_53 1 rfl (nI_inc _) (by decide) rfl ?_
          refine V_goto (tgt := 8) dX6_whenSure_56 rfl ?_
          refine V_sub [0, 2, 3, 4, 5] rfl ?_
          exact M_at (ih8 (by omega) (up2 (up2 iv2 q 1 (nI j)) q 2 (nI 0)) hOj (fun i hi => by rw [up2_a (by omega), up2_a (by omega)]; exact hrow i hi) (fun k hk => (Nat.lt_or_ge k j).elim (hal k) (fun z => by have e9 : k = j := (by omega); rw [e9]; exact (sureB_some hk0).trans (decide_eq_false (by omega))))) (rfl) rfl (rfl) (rfl)
        · have h47 : ¬ (likeOf V (j, false, H.2.2) e k0) < (v_su V) := fun q => h47 ((nI_ltI (by omega) (by omega)).mpr q)
          refine V_iload dX6_whenSure_50 1 rfl ?_
          refine V_iret dX6_whenSure_52 ⟨rfl, rfl⟩ (Nat.zero_le _) (Nat.zero_le _) ?_
          subst hQ
          have hk : fstTo (sureB V H e) (H.1 + 1) = j := fstTo_at _ (by omega) hal ((sureB_some hk0).trans (decide_eq_true (by omega)))
          exact ⟨_, _, _, rfl, rfl, by unfold whenV; rw [hk, if_pos (by omega)]; rfl, rfl, hOj⟩
  refine V_sub [0, 1, 2, 3, 4] rfl ?_
  exact M_at (lp8 0 (Nat.zero_le _) iv Off.rf hH.2.2.2 (fun k hk => absurd hk (by omega))) (rfl) rfl (rfl) (rfl)
