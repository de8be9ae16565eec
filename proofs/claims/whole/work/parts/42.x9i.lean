/-! putHearing, countFilledShelves, status -/
theorem fit9 : ∀ x, x < 10 → fitL (nI 0) (nI x).toInt64 = lN x := by decide +kernel
theorem XS.fn {iv : IV} {lw : LW} {b s : Nat} {c : Int32} {f f2 : Nat → Int64} (h : XS iv lw b (c, s, f)) (he : ∀ i, i < 40 → f i = f2 i) : XS iv lw b (c, s, f2) := by
  obtain ⟨h0, h1, h2, h3⟩ := h
  exact ⟨h0, h1, h2, fun i hi => (h3 i hi).trans (he i hi)⟩
def hearT (H : Hv) (j : Nat) : Nat → Int64 := fun i => if i < j then lN (H.2.2 i) else lN 0
def filledN (X : Xs) : Nat := cntTo (fun s => !decide ((x_T X s).1 = -1)) 8
def o_status (X : Xs) (w : Int32) : Ans := (if w.toInt = 0 then nI (v_nc (x_A X)) else if w.toInt = 1 then nI (v_ne (x_A X)) else if w.toInt = 2 then nI (v_nm (x_A X)) else if w.toInt = 3 then nI (sumTo (v_sz (x_A X)) (v_nc (x_A X))) else if w.toInt = 4 then nI (sumTo (v_us (x_A X)) (v_nc (x_A X))) else if w.toInt = 5 then nI (v_su (x_A X)) else if w.toInt = 6 then nI (v_lo (x_A X)) else if w.toInt = 7 then nI (x_n X) else if w.toInt = 8 then v_se (x_A X) else if w.toInt = 9 then nI (filledN X) else if w.toInt = 10 then nI (sumTo (v_lk (x_A X)) (v_nm (x_A X))) else if 12 ≤ w.toInt ∧ w.toInt ≤ 16 then x_R X (iN w - 12) else -1, X)
set_option maxRecDepth 20000 in
theorem t_putHearing {g : Ev} {S : St} {iv : IV} {lw : LW} {b : Nat} (hb : IsShelf S b) {T : Sv} (hT : XS iv lw b T) {q : Nat} (hq : IsHear S q) {H : Hv} (hH : XH iv q H) (hd : b + 1 < q ∨ q + 1 < b) : CN g mX7_putHearing [.ref (b), .ref (q)] S iv lw (fun iv2 lw2 => XS iv2 lw2 b (nI 0, H.1, hearT H H.1) ∧ Off b 2 iv iv2 ∧ Off b 2 lw lw2) := by
  refine CT_ofQ rfl (by decide) (Nat.le_of_ble_eq_true rfl) (lv := [(0, .ref (b)), (1, .ref (q))]) rfl (fun Q hQ => ?_)
  have h8 := hH.1.1
  refine V_aload_n (i := 0) dX7_putHearing_0 rfl 0 rfl ?_
  refine V_iconst (v := nI 0) dX7_putHearing_1 rfl ?_
  refine V_aload_n (i := 1) dX7_putHearing_2 rfl 1 rfl ?_
  refine M_getI (x := nI H.1) dX7_putHearing_3 lf_X7_44 rfl hq.1 (hH.2.1) ?_
  refine M_callVn (As := [.int (nI 0), .int (nI H.1)]) (st := []) dX7_putHearing_6 lv_X7_47 ⟨by decide, by decide⟩ ⟨rfl, rfl⟩ rfl (ci := 4) hb.1 rfl rfl (Nat.le_of_ble_eq_true rfl) (t_putRow hb hT (k := 0) (m := H.1) (by omega) (by omega)) (fun iv6 lw6 q6 => ?_)
  obtain ⟨hT6, hO6, hL6⟩ := q6
  have hH6 : XH iv6 q H := hH.of (hO6 _ (by omega)) (hO6 _ (by omega))
  refine V_iconst (v := nI 0) dX7_putHearing_9 rfl ?_
  refine V_istore_n (lv2 := [(2, .int (nI 0)), (0, .ref (b)), (1, .ref (q))]) dX7_putHearing_10 rfl (by decide) rfl ?_
  have lp11 : ∀ j, j ≤ (H.1) → ∀ lw2 : LW, XS iv6 lw2 b (nI 0, H.1, hearT H j) → Off b 2 lw lw2 → VM g mX7_putHearing 11 [(2, .int (nI j)), (0, .ref (b)), (1, .ref (q))] [] S iv6 lw2 Q := by
    refine up_ind fun j hj ih11 => ?_
    intro lw2 hT2 hL2
    refine V_iload_n (i := 2) dX7_putHearing_11 rfl 0 rfl ?_
    refine V_aload_n (i := 1) dX7_putHearing_12 rfl 2 rfl ?_
    refine M_getI (x := nI H.1) dX7_putHearing_13 lf_X7_44 rfl hq.1 (hH6.2.1) ?_
    refine V_icmp_ge (tgt := 36) dX7_putHearing_16 rfl (fun h16 => ?_) (fun h16 => ?_)
    · have h16 : H.1 ≤ j := (nI_leI (by omega) (by omega)).mp h16
      refine V_vret dX7_putHearing_36 ⟨rfl, rfl⟩ (Nat.zero_le _) (Nat.zero_le _) ?_
      subst hQ
      obtain rfl : j = H.1 := by omega
      exact ⟨_, _, rfl, rfl, hT2, hO6, hL2⟩
    · have h16 : ¬ H.1 ≤ j := fun q => h16 ((nI_leI (by omega) (by omega)).mpr q)
      refine V_aload_n (i := 0) dX7_putHearing_19 rfl 1 rfl ?_
      refine V_iload_n (i := 2) dX7_putHearing_20 rfl 0 rfl ?_
      refine V_aload_n (i := 1) dX7_putHearing_21 rfl 2 rfl ?_
      refine V_iload_n (i := 2) dX7_putHearing_22 rfl 0 rfl ?_
      refine M_callVp (As := [.int (nI j)]) (st := [.int (nI j), .ref (b)]) dX7_putHearing_23 lv_X7_51 ⟨by decide, by decide⟩ ⟨rfl, rfl⟩ rfl (ci := 2) hq.1 rfl rfl (Nat.le_of_ble_eq_true rfl) (t_X2_noteAt hq hH6 (i := j) (by omega)) ?_
      refine V_i2l dX7_putHearing_26 ?_
      refine M_callVn (As := [.int (nI j), .long ((nI (H.2.2 j)).toInt64)]) (st := []) dX7_putHearing_27 lv_X7_55 ⟨by decide, by decide⟩ ⟨rfl, rfl⟩ rfl (ci := 4) hb.1 rfl rfl (Nat.le_of_ble_eq_true rfl) (t_putElement hb hT2 (i := nI j) (v := (nI (H.2.2 j)).toInt64) (by rw [nI_toInt (by omega)]; exact ⟨by omega, show (j : Int) < (H.1 : Int) by omega⟩)) (fun iv27 lw27 q27 => ?_)
      obtain ⟨rfl, e2⟩ := q27
      have h9 := hH.1.2 j (by omega)
      rw [nI_clamp (by omega)] at e2
      have e3 : fitL (nI 0) (nI (H.2.2 j)).toInt64 = lN (H.2.2 j) := fit9 _ (by omega)
      have hT27 : XS iv6 lw27 b (nI 0, H.1, hearT H (j + 1)) := by
        rw [e2]
        refine XS.fn (xs_put (j := j) (v := fitL (nI 0) (nI (H.2.2 j)).toInt64) hT2) (fun i hi => ?_)
        show (if i = j then fitL (nI 0) (nI (H.2.2 j)).toInt64 else hearT H j i) = hearT H (j + 1) i
        rw [e3]
        unfold hearT
        by_cases e9 : i = j
        · subst e9; rw [if_pos rfl, if_pos (by omega)]
        · rw [if_neg e9]; by_cases e8 : i < j
          · rw [if_pos e8, if_pos (by omega)]
          · rw [if_neg e8, if_neg (by omega)]
      have hL27 : Off b 2 lw lw27 := by rw [e2]; exact hL2.up (by omega) (by omega)
      refine V_iinc (v := nI (j + 1)) (lv2 := [(2, .int (nI (j + 1))), (0, .ref (b)), (1, .ref (q))]) dX7_putHearing_30 0 rfl (nI_inc _) (by decide) rfl ?_
      refine V_goto (tgt := 11) dX7_putHearing_33 rfl ?_
      refine V_sub [0, 1, 2] rfl ?_
      exact M_at (ih11 (by omega) lw27 hT27 hL27) (rfl) rfl (rfl) (rfl)
  refine V_sub [0, 1, 2] rfl ?_
  exact M_at (lp11 0 (Nat.zero_le _) lw6 (XS.fn hT6 (fun i hi => rfl)) hL6) (rfl) rfl (rfl) (rfl)
set_option maxRecDepth 20000 in
theorem t_countFilled {g : Ev} {S : St} {iv : IV} {lw : LW} (hx : IsX S) {X : Xs} (hX : CX iv lw X) : CP g mX9_countFilledShelves [.ref (0)] S iv lw (.int (nI (filledN X))) := by
  refine CT_ofQ rfl (by decide) (Nat.le_of_ble_eq_true rfl) (lv := [(0, .ref (0))]) rfl (fun Q hQ => ?_)
  have hA := hX.1
  have hnc := hA.ok.nc
  have hne := hA.ok.ne
  have hnm := hA.ok.nm
  refine V_iconst (v := nI 0) dX9_countFilledShelves_0 rfl ?_
  refine V_istore_n (lv2 := [(1, .int (nI 0)), (0, .ref (0))]) dX9_countFilledShelves_1 rfl (by decide) rfl ?_
  refine V_iconst (v := nI 0) dX9_countFilledShelves_2 rfl ?_
  refine V_istore_n (lv2 := [(2, .int (nI 0)), (1, .int (nI 0)), (0, .ref (0))]) dX9_countFilledShelves_3 rfl (by decide) rfl ?_
  have lp4 : ∀ j, j ≤ 8 → VM g mX9_countFilledShelves 4 [(1, .int (nI (cntTo (fun s => !decide ((x_T X s).1 = -1)) j))), (2, .int (nI j)), (0, .ref (0))] [] S iv lw Q := by
    refine up_ind fun j hj ih4 => ?_
    refine V_iload_n (i := 2) dX9_countFilledShelves_4 rfl 1 rfl ?_
    refine V_bipush (v := nI 8) dX9_countFilledShelves_5 rfl ?_
    refine V_icmp_ge (tgt := 37) dX9_countFilledShelves_7 rfl (fun h7 => ?_) (fun h7 => ?_)
    · have h7 : 8 ≤ j := (nI_leI (by omega) (by omega)).mp h7
      refine V_iload_n (i := 1) dX9_countFilledShelves_37 rfl 0 rfl ?_
      refine V_iret dX9_countFilledShelves_38 ⟨rfl, rfl⟩ (Nat.zero_le _) (Nat.zero_le _) ?_
      subst hQ
      exact ⟨by rw [show j = 8 by omega]; rfl, rfl⟩
    · have h7 : ¬ 8 ≤ j := fun q => h7 ((nI_leI (by omega) (by omega)).mpr q)
      refine V_aload_n (i := 0) dX9_countFilledShelves_10 rfl 2 rfl ?_
      refine V_iload_n (i := 2) dX9_countFilledShelves_11 rfl 1 rfl ?_
      refine M_callVp (As := [.int (nI j)]) (st := []) dX9_countFilledShelves_12 lv_X9_65 ⟨by decide, by decide⟩ ⟨rfl, rfl⟩ rfl (ci := 6) hx.1 rfl rfl (Nat.le_of_ble_eq_true rfl) (t_shelfAt_in hx (j := j) (by omega)) ?_
      refine V_astore_n (lv2 := [(3, .ref (29 + 2 * j)), (1, .int (nI (cntTo (fun s => !decide ((x_T X s).1 = -1)) j))), (2, .int (nI j)), (0, .ref (0))]) dX9_countFilledShelves_15 rfl (by decide) rfl ?_
      refine V_aload_n (i := 3) dX9_countFilledShelves_16 rfl 0 rfl ?_
      refine V_ifnull dX9_countFilledShelves_17 ?_
      refine V_aload_n (i := 3) dX9_countFilledShelves_20 rfl 0 rfl ?_
      refine M_getI (x := (x_T X j).1) dX9_countFilledShelves_21 lf_X9_96 rfl (sh_ok hx (show j < 8 by omega)).1 ((hX.2.2.2.1 j (by omega)).2.1) ?_
      refine V_iconst (v := (-1)) dX9_countFilledShelves_24 rfl ?_
      refine V_icmp_eq (tgt := 31) dX9_countFilledShelves_25 rfl (fun h25 => ?_) (fun h25 => ?_)
      · refine V_iinc (v := nI (j + 1)) (lv2 := [(2, .int (nI (j + 1))), (3, .ref (29 + 2 * j)), (1, .int (nI (cntTo (fun s => !decide ((x_T X s).1 = -1)) j))), (0, .ref (0))]) dX9_countFilledShelves_31 2 rfl (nI_inc _) (by decide) rfl ?_
        refine V_goto (tgt := 4) dX9_countFilledShelves_34 rfl ?_
        refine V_sub [2, 0, 3] rfl ?_
        exact M_at (ih4 (by omega)) (by rw [cntTo_f (by simp [h25])]; rfl) rfl (rfl) (rfl)
      · refine V_iinc (v := nI ((cntTo (fun s => !decide ((x_T X s).1 = -1)) j) + 1)) (lv2 := [(1, .int (nI ((cntTo (fun s => !decide ((x_T X s).1 = -1)) j) + 1))), (3, .ref (29 + 2 * j)), (2, .int (nI j)), (0, .ref (0))]) dX9_countFilledShelves_28 1 rfl (nI_inc _) (by decide) rfl ?_
        refine V_iinc (v := nI (j + 1)) (lv2 := [(2, .int (nI (j + 1))), (1, .int (nI ((cntTo (fun s => !decide ((x_T X s).1 = -1)) j) + 1))), (3, .ref (29 + 2 * j)), (0, .ref (0))]) dX9_countFilledShelves_31 2 rfl (nI_inc _) (by decide) rfl ?_
        refine V_goto (tgt := 4) dX9_countFilledShelves_34 rfl ?_
        refine V_sub [1, 0, 3] rfl ?_
        exact M_at (ih4 (by omega)) (by rw [cntTo_t (by simp [h25])]; rfl) rfl (rfl) (rfl)
  refine V_sub [1, 0, 2] rfl ?_
  exact M_at (lp4 0 (Nat.zero_le _)) (rfl) rfl (rfl) (rfl)
