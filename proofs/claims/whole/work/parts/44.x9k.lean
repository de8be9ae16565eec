/-! sound -/
theorem CX.now2 {iv iv2 : IV} {lw : LW} {X : Xs} {A : Cv} (h : CX iv lw X) (hA : XC iv2 1 A) (hO : Of2 1 9 47 2 iv iv2) (he : v_ne (x_A X) ≤ v_ne A) : CX iv2 lw (x_sA X A) := by
  obtain ⟨a1, a2, a3, a4, ⟨s, e, a5⟩, a6, a7⟩ := h
  refine ⟨hA, by rw [hO 0 (by omega) (by omega)]; exact a2, fun K hK => (a3 K hK).of (fun a g1 g2 => hO a (by omega) (by omega)), fun t ht => (a4 t ht).of (hO _ (by omega) (by omega)) rfl, ⟨s, e, a5.of (hO _ (by omega) (by omega)) (hO _ (by omega) (by omega))⟩, fun j hj => by rw [hO 56 (by omega) (by omega)]; exact a6 j hj, fun t ht hq => ?_⟩
  obtain ⟨e2, h1, h2⟩ := a7 t ht hq
  exact ⟨e2, Nat.lt_of_lt_of_le h1 he, h2⟩
def o_sound (X : Xs) (c s : Int32) : Ans := if ¬ (inR c (v_nc (x_A X)) ∧ inR s 8) then rfA X 0 else (nI (cntTo (goneB (x_A X)) (v_sz (x_A X) (iN c))), x_sT (x_sA X (atV (x_A X) (v_sz (x_A X) (iN c)))) (iN s) (nI 0, v_sz (x_A X) (iN c), hearT (v_sz (x_A X) (iN c), true, sndN (x_A X) (iN c)) (v_sz (x_A X) (iN c))))
set_option maxRecDepth 20000 in
theorem k_sound_in {g : Ev} {S : St} {iv : IV} {lw : LW} (hx : IsX S) {X : Xs} (hX : CX iv lw X) {j : Nat} (hj : j < 8) {c : Int32} : CQ g mX9_sound [.ref (0), .int (c), .int (nI j)] S iv lw (fun w iv2 lw2 => OP iv lw (o_sound X c (nI j)) w iv2 lw2) := by
  refine CT_ofQ rfl (by decide) (Nat.le_of_ble_eq_true rfl) (lv := [(0, .ref (0)), (1, .int (c)), (2, .int (nI j))]) rfl (fun Q hQ => ?_)
  have hA := hX.1
  have hnc := hA.ok.nc
  have hne := hA.ok.ne
  have hnm := hA.ok.nm
  have hTj := hX.2.2.2.1 j hj
  have hjn : iN (nI j) = j := iN_nI (by omega)
  have h8 := in8 hj
  have hk := hTj.1.1
  have hk2 := hTj.1.2.1
  have hk3 := hTj.1.2.2
  refine V_aload_n (i := 0) dX9_sound_0 rfl 0 rfl ?_
  refine V_iload_n (i := 2) dX9_sound_1 rfl 2 rfl ?_
  refine M_callVp (As := [.int (nI j)]) (st := []) dX9_sound_2 lv_X9_65 ⟨by decide, by decide⟩ ⟨rfl, rfl⟩ rfl (ci := 6) hx.1 rfl rfl (Nat.le_of_ble_eq_true rfl) (t_shelfAt_in hx hj) ?_
  refine V_astore_n (lv2 := [(3, .ref (29 + 2 * j)), (0, .ref (0)), (1, .int (c)), (2, .int (nI j))]) dX9_sound_5 rfl (by decide) rfl ?_
  refine V_aload_n (i := 0) dX9_sound_6 rfl 1 rfl ?_
  refine M_getR dX9_sound_7 lf_X9_10 rfl hx.1 hx.2.1.1 ?_
  refine V_iload_n (i := 1) dX9_sound_10 rfl 2 rfl ?_
  refine M_callVp (As := [.int (c)]) (st := []) dX9_sound_11 lv_X9_180 ⟨by decide, by decide⟩ ⟨rfl, rfl⟩ rfl (ci := 0) hx.2.1.2.1 rfl rfl (Nat.le_of_ble_eq_true rfl) (t_X0_isCall hx.2.1.2 hA) ?_
  refine V_if_eq (tgt := 21) dX9_sound_14 rfl (fun h14 => ?_) (fun h14 => ?_)
  · have h14 : ¬ (inR c (v_nc (x_A X))) := bI_eq0.mp h14
    refine V_aload_n (i := 0) dX9_sound_21 rfl 1 rfl ?_
    refine V_bipush (v := (-2)) dX9_sound_22 rfl ?_
    refine M_callVq (As := [.int ((-2))]) (st := []) dX9_sound_24 lv_X9_69 ⟨by decide, by decide⟩ ⟨rfl, rfl⟩ rfl (ci := 6) hx.1 rfl rfl (Nat.le_of_ble_eq_true rfl) (t_refuse hx hX (j := 0) (by decide)) (fun w24 iv24 lw24 q24 => ?_)
    obtain ⟨rfl, e1, hXr, hOr⟩ := q24
    subst e1
    refine V_iret dX9_sound_27 ⟨rfl, rfl⟩ (Nat.zero_le _) (Nat.zero_le _) ?_
    subst hQ
    exact ⟨_, _, _, rfl, rfl, by unfold o_sound; rw [if_pos (fun z => h14 z.1)]; exact ⟨rfl, hXr, hOr, Off.rf⟩⟩
  · have h14 : inR c (v_nc (x_A X)) := bI_ne.mp h14
    refine V_aload_n (i := 3) dX9_sound_17 rfl 0 rfl ?_
    refine V_ifnonnull (tgt := 28) dX9_sound_18 rfl ?_
    have cc := iN_eq (k := c) (by omega)
    have dc := iN_i (k := c) (by omega)
    refine M_at (lv2 := [(3, .ref (29 + 2 * j)), (0, .ref (0)), (1, .int (nI (iN c))), (2, .int (nI j))]) (st2 := []) ?_ (by rw [← cc]) rfl rfl rfl
    refine V_aload_n (i := 0) dX9_sound_28 rfl 1 rfl ?_
    refine M_getR dX9_sound_29 lf_X9_43 rfl hx.1 hx.2.2.2.2.2.1.1 ?_
    refine V_aload_n (i := 0) dX9_sound_32 rfl 1 rfl ?_
    refine M_getR dX9_sound_33 lf_X9_10 rfl hx.1 hx.2.1.1 ?_
    refine V_iload_n (i := 1) dX9_sound_36 rfl 2 rfl ?_
    refine M_callVq (As := [.ref (1), .int (nI (iN c))]) (st := []) dX9_sound_37 lv_X9_371 ⟨by decide, by decide⟩ ⟨rfl, rfl⟩ rfl (ci := 2) hx.2.2.2.2.2.1.2.1 rfl rfl (Nat.le_of_ble_eq_true rfl) (t_takeSounded hx.2.2.2.2.2.1.2 hx.2.1.2 hA (by omega) (c := iN c) (by omega)) (fun w37 iv37 lw37 q37 => ?_)
    obtain ⟨rfl, e1, hAn, hHn, hO⟩ := q37
    subst e1
    have hX2 := hX.now2 hAn hO (Nat.le_refl _)
    have hTj2 := hX2.2.2.2.1 j hj
    refine V_istore (lv2 := [(4, .int (nI (cntTo (goneB (x_A X)) (v_sz (x_A X) (iN c))))), (3, .ref (29 + 2 * j)), (0, .ref (0)), (1, .int (nI (iN c))), (2, .int (nI j))]) dX9_sound_40 (by decide) rfl ?_
    refine V_aload_n (i := 3) dX9_sound_42 rfl 1 rfl ?_
    refine V_aload_n (i := 0) dX9_sound_43 rfl 2 rfl ?_
    refine M_getR dX9_sound_44 lf_X9_43 rfl hx.1 hx.2.2.2.2.2.1.1 ?_
    refine M_callVn (As := [.ref (47)]) (st := []) dX9_sound_47 lv_X9_374 ⟨by decide, by decide⟩ ⟨rfl, rfl⟩ rfl (ci := 4) (sh_ok hx hj).1 rfl rfl (Nat.le_of_ble_eq_true rfl) (t_putHearing (sh_ok hx hj) hTj2 hx.2.2.2.2.2.1.2 hHn (by omega)) (fun iv47 lw47 q47 => ?_)
    obtain ⟨hTn, hOn, hLn⟩ := q47
    have hXn := hX2.shelf hj hTn hOn hLn (fun q => absurd (show (10 : Int) ≤ (nI 0).toInt from q) (by decide))
    refine V_iload dX9_sound_50 0 rfl ?_
    refine V_iret dX9_sound_52 ⟨rfl, rfl⟩ (Nat.zero_le _) (Nat.zero_le _) ?_
    subst hQ
    exact ⟨_, _, _, rfl, rfl, by unfold o_sound; rw [if_neg (fun z => z ⟨h14, h8⟩), hjn]; exact ⟨rfl, hXn, fun a ha => (hOn a (by omega)).trans (hO a (by omega) (by omega)), hLn.wide (by omega) (by omega)⟩⟩
set_option maxRecDepth 20000 in
theorem k_sound_no {g : Ev} {S : St} {iv : IV} {lw : LW} (hx : IsX S) {X : Xs} (hX : CX iv lw X) {s : Int32} (hs : ¬ inR s 8) {c : Int32} : CQ g mX9_sound [.ref (0), .int (c), .int (s)] S iv lw (fun w iv2 lw2 => OP iv lw (o_sound X c (s)) w iv2 lw2) := by
  refine CT_ofQ rfl (by decide) (Nat.le_of_ble_eq_true rfl) (lv := [(0, .ref (0)), (1, .int (c)), (2, .int (s))]) rfl (fun Q hQ => ?_)
  have hA := hX.1
  have hnc := hA.ok.nc
  have hne := hA.ok.ne
  have hnm := hA.ok.nm
  refine V_aload_n (i := 0) dX9_sound_0 rfl 0 rfl ?_
  refine V_iload_n (i := 2) dX9_sound_1 rfl 2 rfl ?_
  refine M_callVp (As := [.int (s)]) (st := []) dX9_sound_2 lv_X9_65 ⟨by decide, by decide⟩ ⟨rfl, rfl⟩ rfl (ci := 6) hx.1 rfl rfl (Nat.le_of_ble_eq_true rfl) (t_shelfAt_no hx hs) ?_
  refine V_astore_nN (lv2 := [(3, .null), (0, .ref (0)), (1, .int (c)), (2, .int (s))]) dX9_sound_5 rfl (by decide) rfl ?_
  refine V_aload_n (i := 0) dX9_sound_6 rfl 1 rfl ?_
  refine M_getR dX9_sound_7 lf_X9_10 rfl hx.1 hx.2.1.1 ?_
  refine V_iload_n (i := 1) dX9_sound_10 rfl 2 rfl ?_
  refine M_callVp (As := [.int (c)]) (st := []) dX9_sound_11 lv_X9_180 ⟨by decide, by decide⟩ ⟨rfl, rfl⟩ rfl (ci := 0) hx.2.1.2.1 rfl rfl (Nat.le_of_ble_eq_true rfl) (t_X0_isCall hx.2.1.2 hA) ?_
  refine V_if_eq (tgt := 21) dX9_sound_14 rfl (fun h14 => ?_) (fun h14 => ?_)
  · have h14 : ¬ (inR c (v_nc (x_A X))) := bI_eq0.mp h14
    refine V_aload_n (i := 0) dX9_sound_21 rfl 1 rfl ?_
    refine V_bipush (v := (-2)) dX9_sound_22 rfl ?_
    refine M_callVq (As := [.int ((-2))]) (st := []) dX9_sound_24 lv_X9_69 ⟨by decide, by decide⟩ ⟨rfl, rfl⟩ rfl (ci := 6) hx.1 rfl rfl (Nat.le_of_ble_eq_true rfl) (t_refuse hx hX (j := 0) (by decide)) (fun w24 iv24 lw24 q24 => ?_)
    obtain ⟨rfl, e1, hXr, hOr⟩ := q24
    subst e1
    refine V_iret dX9_sound_27 ⟨rfl, rfl⟩ (Nat.zero_le _) (Nat.zero_le _) ?_
    subst hQ
    exact ⟨_, _, _, rfl, rfl, by unfold o_sound; rw [if_pos (fun z => hs z.2)]; exact ⟨rfl, hXr, hOr, Off.rf⟩⟩
  · have h14 : inR c (v_nc (x_A X)) := bI_ne.mp h14
    refine V_aload_nN (i := 3) dX9_sound_17 rfl 0 rfl ?_
    refine V_ifnonnullN dX9_sound_18 ?_
    refine V_aload_n (i := 0) dX9_sound_21 rfl 1 rfl ?_
    refine V_bipush (v := (-2)) dX9_sound_22 rfl ?_
    refine M_callVq (As := [.int ((-2))]) (st := []) dX9_sound_24 lv_X9_69 ⟨by decide, by decide⟩ ⟨rfl, rfl⟩ rfl (ci := 6) hx.1 rfl rfl (Nat.le_of_ble_eq_true rfl) (t_refuse hx hX (j := 0) (by decide)) (fun w24 iv24 lw24 q24 => ?_)
    obtain ⟨rfl, e1, hXr, hOr⟩ := q24
    subst e1
    refine V_iret dX9_sound_27 ⟨rfl, rfl⟩ (Nat.zero_le _) (Nat.zero_le _) ?_
    subst hQ
    exact ⟨_, _, _, rfl, rfl, by unfold o_sound; rw [if_pos (fun z => hs z.2)]; exact ⟨rfl, hXr, hOr, Off.rf⟩⟩
theorem k_sound {g : Ev} {S : St} {iv : IV} {lw : LW} (hx : IsX S) {X : Xs} (hX : CX iv lw X) {c s : Int32} : CQ g mX9_sound [.ref (0), .int (c), .int (s)] S iv lw (fun w iv2 lw2 => OP iv lw (o_sound X c s) w iv2 lw2) := by
  by_cases hs : inR s 8
  · obtain ⟨j, hj, rfl⟩ := (inR_nI (by omega)).mp hs
    exact k_sound_in hx hX hj
  · exact k_sound_no hx hX hs
