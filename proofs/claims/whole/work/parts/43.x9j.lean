/-! status -/
set_option maxRecDepth 20000 in
theorem k_status {g : Ev} {S : St} {iv : IV} {lw : LW} (hx : IsX S) {X : Xs} (hX : CX iv lw X) {w : Int32} : CQ g mX9_status [.ref (0), .int (w)] S iv lw (fun w9 iv2 lw2 => OP iv lw (o_status X w) w9 iv2 lw2) := by
  refine CT_ofQ rfl (by decide) (Nat.le_of_ble_eq_true rfl) (lv := [(0, .ref (0)), (1, .int (w))]) rfl (fun Q hQ => ?_)
  have hA := hX.1
  have hnc := hA.ok.nc
  have hne := hA.ok.ne
  have hnm := hA.ok.nm
  obtain ⟨s0, e0, hT⟩ := hX.2.2.2.2.1
  have hTn := hT.1.1.1
  refine V_iload_n (i := 1) dX9_status_0 rfl 1 rfl ?_
  by_cases hs1_0 : w.toInt = 0
  · refine V_tabIn (v := 0) (tgt := 60) dX9_status_1 (by exact hs1_0) (by decide) rfl rfl ?_
    refine V_aload_n (i := 0) dX9_status_60 rfl 0 rfl ?_
    refine M_getR dX9_status_61 lf_X9_10 rfl hx.1 hx.2.1.1 ?_
    refine M_getI (x := nI (v_nc (x_A X))) dX9_status_64 lf_X9_281 rfl hx.2.1.2.1 (hA.nc) ?_
    refine V_iret dX9_status_67 ⟨rfl, rfl⟩ (Nat.zero_le _) (Nat.zero_le _) ?_
    subst hQ
    exact ⟨_, _, _, rfl, rfl, by unfold o_status; rw [if_pos (by omega)]; exact OP.same hX⟩
  by_cases hs1_1 : w.toInt = 1
  · refine V_tabIn (v := 1) (tgt := 68) dX9_status_1 (by exact hs1_1) (by decide) rfl rfl ?_
    refine V_aload_n (i := 0) dX9_status_68 rfl 0 rfl ?_
    refine M_getR dX9_status_69 lf_X9_10 rfl hx.1 hx.2.1.1 ?_
    refine M_getI (x := nI (v_ne (x_A X))) dX9_status_72 lf_X9_275 rfl hx.2.1.2.1 (hA.ne) ?_
    refine V_iret dX9_status_75 ⟨rfl, rfl⟩ (Nat.zero_le _) (Nat.zero_le _) ?_
    subst hQ
    exact ⟨_, _, _, rfl, rfl, by unfold o_status; rw [if_neg (by omega), if_pos (by omega)]; exact OP.same hX⟩
  by_cases hs1_2 : w.toInt = 2
  · refine V_tabIn (v := 2) (tgt := 76) dX9_status_1 (by exact hs1_2) (by decide) rfl rfl ?_
    refine V_aload_n (i := 0) dX9_status_76 rfl 0 rfl ?_
    refine M_getR dX9_status_77 lf_X9_10 rfl hx.1 hx.2.1.1 ?_
    refine M_getI (x := nI (v_nm (x_A X))) dX9_status_80 lf_X9_387 rfl hx.2.1.2.1 (hA.nm) ?_
    refine V_iret dX9_status_83 ⟨rfl, rfl⟩ (Nat.zero_le _) (Nat.zero_le _) ?_
    subst hQ
    exact ⟨_, _, _, rfl, rfl, by unfold o_status; rw [if_neg (by omega), if_neg (by omega), if_pos (by omega)]; exact OP.same hX⟩
  by_cases hs1_3 : w.toInt = 3
  · refine V_tabIn (v := 3) (tgt := 84) dX9_status_1 (by exact hs1_3) (by decide) rfl rfl ?_
    refine V_aload_n (i := 0) dX9_status_84 rfl 0 rfl ?_
    refine M_getR dX9_status_85 lf_X9_10 rfl hx.1 hx.2.1.1 ?_
    refine M_callVp (As := []) (st := []) dX9_status_88 lv_X9_390 ⟨by decide, by decide⟩ ⟨rfl, rfl⟩ rfl (ci := 0) hx.2.1.2.1 rfl rfl (Nat.le_of_ble_eq_true rfl) (t_X0_countNotes hx.2.1.2 hA) ?_
    refine V_iret dX9_status_91 ⟨rfl, rfl⟩ (Nat.zero_le _) (Nat.zero_le _) ?_
    subst hQ
    exact ⟨_, _, _, rfl, rfl, by unfold o_status; rw [if_neg (by omega), if_neg (by omega), if_neg (by omega), if_pos (by omega)]; exact OP.same hX⟩
  by_cases hs1_4 : w.toInt = 4
  · refine V_tabIn (v := 4) (tgt := 92) dX9_status_1 (by exact hs1_4) (by decide) rfl rfl ?_
    refine V_aload_n (i := 0) dX9_status_92 rfl 0 rfl ?_
    refine M_getR dX9_status_93 lf_X9_10 rfl hx.1 hx.2.1.1 ?_
    refine M_callVp (As := []) (st := []) dX9_status_96 lv_X9_393 ⟨by decide, by decide⟩ ⟨rfl, rfl⟩ rfl (ci := 0) hx.2.1.2.1 rfl rfl (Nat.le_of_ble_eq_true rfl) (t_X0_sumUses hx.2.1.2 hA) ?_
    refine V_iret dX9_status_99 ⟨rfl, rfl⟩ (Nat.zero_le _) (Nat.zero_le _) ?_
    subst hQ
    exact ⟨_, _, _, rfl, rfl, by unfold o_status; rw [if_neg (by omega), if_neg (by omega), if_neg (by omega), if_neg (by omega), if_pos (by omega)]; exact OP.same hX⟩
  by_cases hs1_5 : w.toInt = 5
  · refine V_tabIn (v := 5) (tgt := 100) dX9_status_1 (by exact hs1_5) (by decide) rfl rfl ?_
    refine V_aload_n (i := 0) dX9_status_100 rfl 0 rfl ?_
    refine M_getR dX9_status_101 lf_X9_10 rfl hx.1 hx.2.1.1 ?_
    refine M_getI (x := nI (v_su (x_A X))) dX9_status_104 lf_X9_192 rfl hx.2.1.2.1 (hA.su) ?_
    refine V_iret dX9_status_107 ⟨rfl, rfl⟩ (Nat.zero_le _) (Nat.zero_le _) ?_
    subst hQ
    exact ⟨_, _, _, rfl, rfl, by unfold o_status; rw [if_neg (by omega), if_neg (by omega), if_neg (by omega), if_neg (by omega), if_neg (by omega), if_pos (by omega)]; exact OP.same hX⟩
  by_cases hs1_6 : w.toInt = 6
  · refine V_tabIn (v := 6) (tgt := 108) dX9_status_1 (by exact hs1_6) (by decide) rfl rfl ?_
    refine V_aload_n (i := 0) dX9_status_108 rfl 0 rfl ?_
    refine M_getR dX9_status_109 lf_X9_10 rfl hx.1 hx.2.1.1 ?_
    refine M_getI (x := nI (v_lo (x_A X))) dX9_status_112 lf_X9_198 rfl hx.2.1.2.1 (hA.lo) ?_
    refine V_iret dX9_status_115 ⟨rfl, rfl⟩ (Nat.zero_le _) (Nat.zero_le _) ?_
    subst hQ
    exact ⟨_, _, _, rfl, rfl, by unfold o_status; rw [if_neg (by omega), if_neg (by omega), if_neg (by omega), if_neg (by omega), if_neg (by omega), if_neg (by omega), if_pos (by omega)]; exact OP.same hX⟩
  by_cases hs1_7 : w.toInt = 7
  · refine V_tabIn (v := 7) (tgt := 116) dX9_status_1 (by exact hs1_7) (by decide) rfl rfl ?_
    refine V_aload_n (i := 0) dX9_status_116 rfl 0 rfl ?_
    refine M_getR dX9_status_117 lf_X9_36 rfl hx.1 hx.2.2.2.2.1.1 ?_
    refine M_getI (x := nI (x_n X)) dX9_status_120 lf_X9_396 rfl hx.2.2.2.2.1.2.1 (hT.1.2.1) ?_
    refine V_iret dX9_status_123 ⟨rfl, rfl⟩ (Nat.zero_le _) (Nat.zero_le _) ?_
    subst hQ
    exact ⟨_, _, _, rfl, rfl, by unfold o_status; rw [if_neg (by omega), if_neg (by omega), if_neg (by omega), if_neg (by omega), if_neg (by omega), if_neg (by omega), if_neg (by omega), if_pos (by omega)]; exact OP.same hX⟩
  by_cases hs1_8 : w.toInt = 8
  · refine V_tabIn (v := 8) (tgt := 124) dX9_status_1 (by exact hs1_8) (by decide) rfl rfl ?_
    refine V_aload_n (i := 0) dX9_status_124 rfl 0 rfl ?_
    refine M_getR dX9_status_125 lf_X9_10 rfl hx.1 hx.2.1.1 ?_
    refine M_getI (x := v_se (x_A X)) dX9_status_128 lf_X9_384 rfl hx.2.1.2.1 (hA.se) ?_
    refine V_iret dX9_status_131 ⟨rfl, rfl⟩ (Nat.zero_le _) (Nat.zero_le _) ?_
    subst hQ
    exact ⟨_, _, _, rfl, rfl, by unfold o_status; rw [if_neg (by omega), if_neg (by omega), if_neg (by omega), if_neg (by omega), if_neg (by omega), if_neg (by omega), if_neg (by omega), if_neg (by omega), if_pos (by omega)]; exact OP.same hX⟩
  by_cases hs1_9 : w.toInt = 9
  · refine V_tabIn (v := 9) (tgt := 132) dX9_status_1 (by exact hs1_9) (by decide) rfl rfl ?_
    refine V_aload_n (i := 0) dX9_status_132 rfl 0 rfl ?_
    refine M_callVp (As := []) (st := []) dX9_status_133 lv_X9_397 ⟨by decide, by decide⟩ ⟨rfl, rfl⟩ rfl (ci := 6) hx.1 rfl rfl (Nat.le_of_ble_eq_true rfl) (t_countFilled hx hX) ?_
    refine V_iret dX9_status_136 ⟨rfl, rfl⟩ (Nat.zero_le _) (Nat.zero_le _) ?_
    subst hQ
    exact ⟨_, _, _, rfl, rfl, by unfold o_status; rw [if_neg (by omega), if_neg (by omega), if_neg (by omega), if_neg (by omega), if_neg (by omega), if_neg (by omega), if_neg (by omega), if_neg (by omega), if_neg (by omega), if_pos (by omega)]; exact OP.same hX⟩
  by_cases hs1_10 : w.toInt = 10
  · refine V_tabIn (v := 10) (tgt := 137) dX9_status_1 (by exact hs1_10) (by decide) rfl rfl ?_
    refine V_aload_n (i := 0) dX9_status_137 rfl 0 rfl ?_
    refine M_getR dX9_status_138 lf_X9_10 rfl hx.1 hx.2.1.1 ?_
    refine M_callVp (As := []) (st := []) dX9_status_141 lv_X9_400 ⟨by decide, by decide⟩ ⟨rfl, rfl⟩ rfl (ci := 0) hx.2.1.2.1 rfl rfl (Nat.le_of_ble_eq_true rfl) (t_X0_countLookers hx.2.1.2 hA) ?_
    refine V_iret dX9_status_144 ⟨rfl, rfl⟩ (Nat.zero_le _) (Nat.zero_le _) ?_
    subst hQ
    exact ⟨_, _, _, rfl, rfl, by unfold o_status; rw [if_neg (by omega), if_neg (by omega), if_neg (by omega), if_neg (by omega), if_neg (by omega), if_neg (by omega), if_neg (by omega), if_neg (by omega), if_neg (by omega), if_neg (by omega), if_pos (by omega)]; exact OP.same hX⟩
  refine V_tableOut (tgt := 145) dX9_status_1 (by omega) rfl ?_
  refine V_iload_n (i := 1) dX9_status_145 rfl 1 rfl ?_
  refine V_bipush (v := nI 12) dX9_status_146 rfl ?_
  refine V_icmp_lt (tgt := 175) dX9_status_148 rfl (fun h148 => ?_) (fun h148 => ?_)
  · have h148 : w.toInt < (12 : Int) := by have q := Int32.lt_iff_toInt_lt.mp h148; rw [nI_toInt (n := 12) (by omega)] at q; exact q
    refine V_iconst (v := (-1)) dX9_status_175 rfl ?_
    refine V_iret dX9_status_176 ⟨rfl, rfl⟩ (Nat.zero_le _) (Nat.zero_le _) ?_
    subst hQ
    exact ⟨_, _, _, rfl, rfl, by unfold o_status; rw [if_neg (by omega), if_neg (by omega), if_neg (by omega), if_neg (by omega), if_neg (by omega), if_neg (by omega), if_neg (by omega), if_neg (by omega), if_neg (by omega), if_neg (by omega), if_neg (by omega), if_neg (by omega)]; exact OP.same hX⟩
  · have h148 : ¬ w.toInt < (12 : Int) := fun r => h148 (Int32.lt_iff_toInt_lt.mpr (by rw [nI_toInt (n := 12) (by omega)]; exact r))
    refine V_iload_n (i := 1) dX9_status_151 rfl 1 rfl ?_
    refine V_bipush (v := nI 12) dX9_status_152 rfl ?_
    have hw := iN_i (k := w) (by omega)
    have hz := Int32.toInt_lt w
    refine V_isub dX9_status_154 ?_
    refine M_top (x2 := nI (iN w - 12)) (sub_iN (by omega) (by omega)) ?_
    refine V_aload_n (i := 0) dX9_status_155 rfl 0 rfl ?_
    refine M_getR dX9_status_156 lf_X9_61 rfl hx.1 hx.2.2.2.2.2.2.2.2.1.1 ?_
    refine M_alen (t := 0) dX9_status_159 (by decide) hx.2.2.2.2.2.2.2.2.1.2 ?_
    refine V_icmp_ge (tgt := 175) dX9_status_160 rfl (fun h160 => ?_) (fun h160 => ?_)
    · have h160 : 5 ≤ (iN w - 12) := (nI_leI (by omega) (by omega)).mp h160
      refine V_iconst (v := (-1)) dX9_status_175 rfl ?_
      refine V_iret dX9_status_176 ⟨rfl, rfl⟩ (Nat.zero_le _) (Nat.zero_le _) ?_
      subst hQ
      exact ⟨_, _, _, rfl, rfl, by unfold o_status; rw [if_neg (by omega), if_neg (by omega), if_neg (by omega), if_neg (by omega), if_neg (by omega), if_neg (by omega), if_neg (by omega), if_neg (by omega), if_neg (by omega), if_neg (by omega), if_neg (by omega), if_neg (by omega)]; exact OP.same hX⟩
    · have h160 : ¬ 5 ≤ (iN w - 12) := fun q => h160 ((nI_leI (by omega) (by omega)).mpr q)
      refine V_aload_n (i := 0) dX9_status_163 rfl 0 rfl ?_
      refine M_getR dX9_status_164 lf_X9_61 rfl hx.1 hx.2.2.2.2.2.2.2.2.1.1 ?_
      refine V_iload_n (i := 1) dX9_status_167 rfl 1 rfl ?_
      refine V_bipush (v := nI 12) dX9_status_168 rfl ?_
      refine V_isub dX9_status_170 ?_
      refine M_top (x2 := nI (iN w - 12)) (sub_iN (by omega) (by omega)) ?_
      refine M_ialdn (j := (iN w - 12)) (x := x_R X (iN w - 12)) dX9_status_171 hx.2.2.2.2.2.2.2.2.1.2 (by decide) (by omega) (hX.2.2.2.2.2.1 _ (by omega)) ?_
      refine V_goto (tgt := 176) dX9_status_172 rfl ?_
      refine V_iret dX9_status_176 ⟨rfl, rfl⟩ (Nat.zero_le _) (Nat.zero_le _) ?_
      subst hQ
      exact ⟨_, _, _, rfl, rfl, by unfold o_status; rw [if_neg (by omega), if_neg (by omega), if_neg (by omega), if_neg (by omega), if_neg (by omega), if_neg (by omega), if_neg (by omega), if_neg (by omega), if_neg (by omega), if_neg (by omega), if_neg (by omega), if_pos (by omega)]; exact OP.same hX⟩
