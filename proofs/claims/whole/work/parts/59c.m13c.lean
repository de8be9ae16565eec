/-! the reference: copy -/
theorem ms_cpy {iv : IV} {lw lw2 : LW} {b s i j m : Nat} {T P : Sv} (h : MS iv lw b s T) (hc : ∀ k, lw2 (b + 5 + s) k = if j ≤ k ∧ k < j + m then P.2.2 (i + (k - j)) else lw (b + 5 + s) k) : MS iv lw2 b s (T.1, T.2.1, va_cpy P.2.2 T.2.2 i j m) := by
  refine ⟨h.1, fun q => ⟨(h.2.1 q).1, (h.2.1 q).2.1, fun k hk => ?_⟩, h.2.2⟩
  rw [hc]
  show _ = va_cpy P.2.2 T.2.2 i j m k
  unfold va_cpy
  by_cases c : j ≤ k ∧ k < j + m
  · rw [if_pos c, if_pos c]
  · rw [if_neg c, if_neg c]; exact (h.2.1 q).2.2 k hk
theorem cpy_s {f w : Nat → Int64} {a i j u : Nat} {lw3 : LW} {x : Int64} (h : ∀ k, lw3 a k = if j ≤ k ∧ k < j + u then f (i + (k - j)) else w k) (hx : x = f (i + u)) : ∀ k, up2 lw3 a (j + u) x a k = if j ≤ k ∧ k < j + (u + 1) then f (i + (k - j)) else w k := fun k => by
  by_cases e : k = j + u
  · subst e
    rw [up2_s, if_pos (by omega), hx, Nat.add_sub_cancel_left]
  · rw [up2_k e, h]
    by_cases c : j ≤ k ∧ k < j + u
    · rw [if_pos c, if_pos (by omega)]
    · rw [if_neg c, if_neg (by omega)]
theorem MX.shelfL {S : St} {iv : IV} {lw lw2 : LW} {b j : Nat} {X : Xs} {T : Sv} (h : MX S iv lw b X) (hT : MS iv lw2 b j T) (hl : ∀ s, s < 8 → ¬ s = j → lw2 (b + 5 + s) = lw (b + 5 + s)) : MX S iv lw2 b (x_sT X j T) := by
  refine ⟨h.1, fun s hs => ?_, h.2.2.1, h.2.2.2.1, h.2.2.2.2⟩
  show MS iv lw2 b s (if s = j then T else x_T X s)
  by_cases q : s = j
  · subst q; rw [if_pos rfl]; exact hT
  · rw [if_neg q]; exact (h.2.1 s hs).fr (fun a ha => rfl) (hl s hs q)
set_option maxRecDepth 20000 in
theorem q_copy {g : Ev} {S : St} {iv : IV} {lw : LW} {b : Nat} (hs : SS S b) {X : Xs} (hX : MX S iv lw b X) (hk : XOK X) {p : Int32} {r : Int32} {i : Int32} {j : Int32} {m : Int32} : CQ g mX10_copy [.ref (b), .int (p), .int (r), .int (i), .int (j), .int (m)] S iv lw (fun w iv2 lw2 => MP S b iv lw (o_copy X p r i j m) w iv2 lw2) := by
  refine CT_ofQ rfl (by decide) (Nat.le_of_ble_eq_true rfl) (lv := [(0, .ref (b)), (1, .int (p)), (2, .int (r)), (3, .int (i)), (4, .int (j)), (5, .int (m))]) rfl (fun Q hQ => ?_)
  have hb := hs.1
  have hA := hX.1
  have hv := hk.1
  have hnc := hv.nc
  have hne := hv.ne
  have hnm := hv.nm
  refine V_iload_n (i := 1) dX10_copy_0 rfl 1 rfl ?_
  refine V_i2l dX10_copy_1 ?_
  refine V_lconst (v := lN 0) dX10_copy_2 rfl ?_
  refine V_ldc2 (v := lN 7) dX10_copy_3 mw_1215 ?_
  refine M_callSp (As := [.long ((p).toInt64), .long (lN 0), .long (lN 7)]) (st := []) dX10_copy_6 ls_X10_91 ⟨by decide, by decide⟩ ⟨rfl, rfl⟩ rfl (Nat.le_of_ble_eq_true rfl) (r_in8) ?_
  refine V_if_eq (tgt := 24) dX10_copy_9 rfl (fun h9 => ?_) (fun h9 => ?_)
  · have h9 : ¬ (inR p 8) := bI_eq0.mp h9
    refine V_aload_n (i := 0) dX10_copy_24 rfl 0 rfl ?_
    refine V_bipush (v := (-2)) dX10_copy_25 rfl ?_
    refine M_callVq (As := [.int ((-2))]) (st := []) dX10_copy_27 lv_X10_107 ⟨by decide, by decide⟩ ⟨rfl, rfl⟩ rfl (ci := 7) hb.1 rfl rfl (Nat.le_of_ble_eq_true rfl) (q_refuse hs hX hk (j := 0) (by decide)) (fun w27 iv27 lw27 q27 => ?_)
    obtain ⟨rfl, e1, hXr, hOr⟩ := q27
    subst e1
    refine V_iret dX10_copy_30 ⟨rfl, rfl⟩ (Nat.zero_le _) (Nat.zero_le _) ?_
    subst hQ
    exact ⟨_, _, _, rfl, rfl, by unfold o_copy; rw [if_pos (fun z => h9 z.1)]; exact ⟨rfl, hXr, hOr, Off.rf⟩⟩
  · have h9 : inR p 8 := bI_ne.mp h9
    refine V_iload_n (i := 2) dX10_copy_12 rfl 2 rfl ?_
    refine V_i2l dX10_copy_13 ?_
    refine V_lconst (v := lN 0) dX10_copy_14 rfl ?_
    refine V_ldc2 (v := lN 7) dX10_copy_15 mw_1215 ?_
    refine M_callSp (As := [.long ((r).toInt64), .long (lN 0), .long (lN 7)]) (st := []) dX10_copy_18 ls_X10_91 ⟨by decide, by decide⟩ ⟨rfl, rfl⟩ rfl (Nat.le_of_ble_eq_true rfl) (r_in8) ?_
    refine V_if_ne (tgt := 31) dX10_copy_21 rfl (fun h21 => ?_) (fun h21 => ?_)
    · have h21 : inR r 8 := bI_ne.mp h21
      have hsp := sk_c (x_T X (iN p))
      have hsr := sk_c (x_T X (iN r))
      have hSp := (hk.2.1 (iN p) (in8_i h9)).1
      have hSr := (hk.2.1 (iN r) (in8_i h21)).1
      have cp := iN_eq (k := p) (by omega)
      have cr := iN_eq (k := r) (by omega)
      have dp := iN_i (k := p) (by omega)
      have dr := iN_i (k := r) (by omega)
      refine M_at (lv2 := [(0, .ref (b)), (1, .int (nI (iN p))), (2, .int (nI (iN r))), (3, .int (i)), (4, .int (j)), (5, .int (m))]) (st2 := []) ?_ (by rw [← cp, ← cr]) rfl rfl rfl
      refine V_aload_n (i := 0) dX10_copy_31 rfl 0 rfl ?_
      refine M_getR dX10_copy_32 lf_X10_7 rfl hb.1 hb.2.1.1 ?_
      refine V_iload_n (i := 1) dX10_copy_35 rfl 1 rfl ?_
      refine M_ialdn (j := (iN p)) (x := nI (sk (x_T X (iN p)))) dX10_copy_36 hb.2.1.2 (by decide) (by omega) ((hX.2.1 (iN p) (by omega)).1) ?_
      refine V_iconst (v := nI 2) dX10_copy_37 rfl ?_
      refine V_icmp_eq (tgt := 86) dX10_copy_38 rfl (fun h38 => ?_) (fun h38 => ?_)
      · have h38 : (sk (x_T X (iN p))) = 2 := (nI_eq (by omega) (by omega)).mp h38
        refine V_aload_n (i := 0) dX10_copy_86 rfl 0 rfl ?_
        refine V_bipush (v := (-3)) dX10_copy_87 rfl ?_
        refine M_callVq (As := [.int ((-3))]) (st := []) dX10_copy_89 lv_X10_107 ⟨by decide, by decide⟩ ⟨rfl, rfl⟩ rfl (ci := 7) hb.1 rfl rfl (Nat.le_of_ble_eq_true rfl) (q_refuse hs hX hk (j := 1) (by decide)) (fun w89 iv89 lw89 q89 => ?_)
        obtain ⟨rfl, e1, hXr, hOr⟩ := q89
        subst e1
        refine V_iret dX10_copy_92 ⟨rfl, rfl⟩ (Nat.zero_le _) (Nat.zero_le _) ?_
        subst hQ
        exact ⟨_, _, _, rfl, rfl, by unfold o_copy; rw [if_neg (fun z => z ⟨h9, h21⟩), if_pos (Or.inl (by omega))]; exact ⟨rfl, hXr, hOr, Off.rf⟩⟩
      · have h38 : ¬ (sk (x_T X (iN p))) = 2 := fun q => h38 ((nI_eq (by omega) (by omega)).mpr q)
        refine V_aload_n (i := 0) dX10_copy_41 rfl 0 rfl ?_
        refine M_getR dX10_copy_42 lf_X10_7 rfl hb.1 hb.2.1.1 ?_
        refine V_iload_n (i := 2) dX10_copy_45 rfl 2 rfl ?_
        refine M_ialdn (j := (iN r)) (x := nI (sk (x_T X (iN r)))) dX10_copy_46 hb.2.1.2 (by decide) (by omega) ((hX.2.1 (iN r) (by omega)).1) ?_
        refine V_iconst (v := nI 2) dX10_copy_47 rfl ?_
        refine V_icmp_eq (tgt := 86) dX10_copy_48 rfl (fun h48 => ?_) (fun h48 => ?_)
        · have h48 : (sk (x_T X (iN r))) = 2 := (nI_eq (by omega) (by omega)).mp h48
          refine V_aload_n (i := 0) dX10_copy_86 rfl 0 rfl ?_
          refine V_bipush (v := (-3)) dX10_copy_87 rfl ?_
          refine M_callVq (As := [.int ((-3))]) (st := []) dX10_copy_89 lv_X10_107 ⟨by decide, by decide⟩ ⟨rfl, rfl⟩ rfl (ci := 7) hb.1 rfl rfl (Nat.le_of_ble_eq_true rfl) (q_refuse hs hX hk (j := 1) (by decide)) (fun w89 iv89 lw89 q89 => ?_)
          obtain ⟨rfl, e1, hXr, hOr⟩ := q89
          subst e1
          refine V_iret dX10_copy_92 ⟨rfl, rfl⟩ (Nat.zero_le _) (Nat.zero_le _) ?_
          subst hQ
          exact ⟨_, _, _, rfl, rfl, by unfold o_copy; rw [if_neg (fun z => z ⟨h9, h21⟩), if_pos (Or.inr (Or.inl (by omega)))]; exact ⟨rfl, hXr, hOr, Off.rf⟩⟩
        · have h48 : ¬ (sk (x_T X (iN r))) = 2 := fun q => h48 ((nI_eq (by omega) (by omega)).mpr q)
          refine V_aload_n (i := 0) dX10_copy_51 rfl 0 rfl ?_
          refine M_getR dX10_copy_52 lf_X10_7 rfl hb.1 hb.2.1.1 ?_
          refine V_iload_n (i := 1) dX10_copy_55 rfl 1 rfl ?_
          refine M_ialdn (j := (iN p)) (x := nI (sk (x_T X (iN p)))) dX10_copy_56 hb.2.1.2 (by decide) (by omega) ((hX.2.1 (iN p) (by omega)).1) ?_
          refine V_iconst (v := nI 1) dX10_copy_57 rfl ?_
          refine V_icmp_ne (tgt := 93) dX10_copy_58 rfl (fun h58 => ?_) (fun h58 => ?_)
          · have h58 : ¬ (sk (x_T X (iN p))) = 1 := fun q => h58 ((nI_eq (by omega) (by omega)).mpr q)
            refine V_aload_n (i := 0) dX10_copy_93 rfl 0 rfl ?_
            refine M_getR dX10_copy_94 lf_X10_7 rfl hb.1 hb.2.1.1 ?_
            refine V_iload_n (i := 1) dX10_copy_97 rfl 1 rfl ?_
            refine M_ialdn (j := (iN p)) (x := nI (sk (x_T X (iN p)))) dX10_copy_98 hb.2.1.2 (by decide) (by omega) ((hX.2.1 (iN p) (by omega)).1) ?_
            refine V_if_eq (tgt := 111) dX10_copy_99 rfl (fun h99 => ?_) (fun h99 => ?_)
            · have h99 : (sk (x_T X (iN p))) = 0 := (nI_eq (b := 0) (by omega) (by omega)).mp h99
              refine V_aload_n (i := 0) dX10_copy_111 rfl 0 rfl ?_
              refine V_bipush (v := (-4)) dX10_copy_112 rfl ?_
              refine M_callVq (As := [.int ((-4))]) (st := []) dX10_copy_114 lv_X10_107 ⟨by decide, by decide⟩ ⟨rfl, rfl⟩ rfl (ci := 7) hb.1 rfl rfl (Nat.le_of_ble_eq_true rfl) (q_refuse hs hX hk (j := 2) (by decide)) (fun w114 iv114 lw114 q114 => ?_)
              obtain ⟨rfl, e1, hXr, hOr⟩ := q114
              subst e1
              refine V_iret dX10_copy_117 ⟨rfl, rfl⟩ (Nat.zero_le _) (Nat.zero_le _) ?_
              subst hQ
              exact ⟨_, _, _, rfl, rfl, by unfold o_copy; rw [if_neg (fun z => z ⟨h9, h21⟩), if_neg (fun z => z.elim (fun z => by omega) (fun z => z.elim (fun z => by omega) (fun z => by have z1 := z.1; have z2 := z.2.1; omega))), if_pos (fun z => by have z1 := z.1; have z2 := z.2; omega)]; exact ⟨rfl, hXr, hOr, Off.rf⟩⟩
            · have h99 : ¬ (sk (x_T X (iN p))) = 0 := fun q => h99 ((nI_eq (b := 0) (by omega) (by omega)).mpr q)
              omega
          · have h58 : (sk (x_T X (iN p))) = 1 := (nI_eq (by omega) (by omega)).mp h58
            refine V_aload_n (i := 0) dX10_copy_61 rfl 0 rfl ?_
            refine M_getR dX10_copy_62 lf_X10_7 rfl hb.1 hb.2.1.1 ?_
            refine V_iload_n (i := 2) dX10_copy_65 rfl 2 rfl ?_
            refine M_ialdn (j := (iN r)) (x := nI (sk (x_T X (iN r)))) dX10_copy_66 hb.2.1.2 (by decide) (by omega) ((hX.2.1 (iN r) (by omega)).1) ?_
            refine V_iconst (v := nI 1) dX10_copy_67 rfl ?_
            refine V_icmp_ne (tgt := 93) dX10_copy_68 rfl (fun h68 => ?_) (fun h68 => ?_)
            · have h68 : ¬ (sk (x_T X (iN r))) = 1 := fun q => h68 ((nI_eq (by omega) (by omega)).mpr q)
              refine V_aload_n (i := 0) dX10_copy_93 rfl 0 rfl ?_
              refine M_getR dX10_copy_94 lf_X10_7 rfl hb.1 hb.2.1.1 ?_
              refine V_iload_n (i := 1) dX10_copy_97 rfl 1 rfl ?_
              refine M_ialdn (j := (iN p)) (x := nI (sk (x_T X (iN p)))) dX10_copy_98 hb.2.1.2 (by decide) (by omega) ((hX.2.1 (iN p) (by omega)).1) ?_
              refine V_if_eq (tgt := 111) dX10_copy_99 rfl (fun h99 => ?_) (fun h99 => ?_)
              · have h99 : (sk (x_T X (iN p))) = 0 := (nI_eq (b := 0) (by omega) (by omega)).mp h99
                omega
              · have h99 : ¬ (sk (x_T X (iN p))) = 0 := fun q => h99 ((nI_eq (b := 0) (by omega) (by omega)).mpr q)
                refine V_aload_n (i := 0) dX10_copy_102 rfl 0 rfl ?_
                refine M_getR dX10_copy_103 lf_X10_7 rfl hb.1 hb.2.1.1 ?_
                refine V_iload_n (i := 2) dX10_copy_106 rfl 2 rfl ?_
                refine M_ialdn (j := (iN r)) (x := nI (sk (x_T X (iN r)))) dX10_copy_107 hb.2.1.2 (by decide) (by omega) ((hX.2.1 (iN r) (by omega)).1) ?_
                refine V_if_ne (tgt := 118) dX10_copy_108 rfl (fun h108 => ?_) (fun h108 => ?_)
                · have h108 : ¬ (sk (x_T X (iN r))) = 0 := fun q => h108 ((nI_eq (b := 0) (by omega) (by omega)).mpr q)
                  omega
                · have h108 : (sk (x_T X (iN r))) = 0 := (nI_eq (b := 0) (by omega) (by omega)).mp h108
                  refine V_aload_n (i := 0) dX10_copy_111 rfl 0 rfl ?_
                  refine V_bipush (v := (-4)) dX10_copy_112 rfl ?_
                  refine M_callVq (As := [.int ((-4))]) (st := []) dX10_copy_114 lv_X10_107 ⟨by decide, by decide⟩ ⟨rfl, rfl⟩ rfl (ci := 7) hb.1 rfl rfl (Nat.le_of_ble_eq_true rfl) (q_refuse hs hX hk (j := 2) (by decide)) (fun w114 iv114 lw114 q114 => ?_)
                  obtain ⟨rfl, e1, hXr, hOr⟩ := q114
                  subst e1
                  refine V_iret dX10_copy_117 ⟨rfl, rfl⟩ (Nat.zero_le _) (Nat.zero_le _) ?_
                  subst hQ
                  exact ⟨_, _, _, rfl, rfl, by unfold o_copy; rw [if_neg (fun z => z ⟨h9, h21⟩), if_neg (fun z => z.elim (fun z => by omega) (fun z => z.elim (fun z => by omega) (fun z => by have z1 := z.1; have z2 := z.2.1; omega))), if_pos (fun z => by have z1 := z.1; have z2 := z.2; omega)]; exact ⟨rfl, hXr, hOr, Off.rf⟩⟩
            · have h68 : (sk (x_T X (iN r))) = 1 := (nI_eq (by omega) (by omega)).mp h68
              refine V_aload_n (i := 0) dX10_copy_71 rfl 0 rfl ?_
              refine M_getR dX10_copy_72 lf_X10_13 rfl hb.1 hb.2.2.1.1 ?_
              refine V_iload_n (i := 1) dX10_copy_75 rfl 1 rfl ?_
              refine M_ialdn (j := (iN p)) (x := (x_T X (iN p)).1) dX10_copy_76 hb.2.2.1.2 (by decide) (by omega) (((hX.2.1 (iN p) (by omega)).2.1 (by omega)).1) ?_
              refine V_aload_n (i := 0) dX10_copy_77 rfl 0 rfl ?_
              refine M_getR dX10_copy_78 lf_X10_13 rfl hb.1 hb.2.2.1.1 ?_
              refine V_iload_n (i := 2) dX10_copy_81 rfl 2 rfl ?_
              refine M_ialdn (j := (iN r)) (x := (x_T X (iN r)).1) dX10_copy_82 hb.2.2.1.2 (by decide) (by omega) (((hX.2.1 (iN r) (by omega)).2.1 (by omega)).1) ?_
              refine V_icmp_eq (tgt := 93) dX10_copy_83 rfl (fun h83 => ?_) (fun h83 => ?_)
              · refine V_aload_n (i := 0) dX10_copy_93 rfl 0 rfl ?_
                refine M_getR dX10_copy_94 lf_X10_7 rfl hb.1 hb.2.1.1 ?_
                refine V_iload_n (i := 1) dX10_copy_97 rfl 1 rfl ?_
                refine M_ialdn (j := (iN p)) (x := nI (sk (x_T X (iN p)))) dX10_copy_98 hb.2.1.2 (by decide) (by omega) ((hX.2.1 (iN p) (by omega)).1) ?_
                refine V_if_eq (tgt := 111) dX10_copy_99 rfl (fun h99 => ?_) (fun h99 => ?_)
                · have h99 : (sk (x_T X (iN p))) = 0 := (nI_eq (b := 0) (by omega) (by omega)).mp h99
                  omega
                · have h99 : ¬ (sk (x_T X (iN p))) = 0 := fun q => h99 ((nI_eq (b := 0) (by omega) (by omega)).mpr q)
                  refine V_aload_n (i := 0) dX10_copy_102 rfl 0 rfl ?_
                  refine M_getR dX10_copy_103 lf_X10_7 rfl hb.1 hb.2.1.1 ?_
                  refine V_iload_n (i := 2) dX10_copy_106 rfl 2 rfl ?_
                  refine M_ialdn (j := (iN r)) (x := nI (sk (x_T X (iN r)))) dX10_copy_107 hb.2.1.2 (by decide) (by omega) ((hX.2.1 (iN r) (by omega)).1) ?_
                  refine V_if_ne (tgt := 118) dX10_copy_108 rfl (fun h108 => ?_) (fun h108 => ?_)
                  · have h108 : ¬ (sk (x_T X (iN r))) = 0 := fun q => h108 ((nI_eq (b := 0) (by omega) (by omega)).mpr q)
                    have hrp : rowQ (x_T X (iN p)) := by omega
                    have hrr : rowQ (x_T X (iN r)) := by omega
                    refine V_iload dX10_copy_118 5 rfl ?_
                    refine V_if_lt (tgt := 181) dX10_copy_120 rfl (fun h120 => ?_) (fun h120 => ?_)
                    · have h120 : m.toInt < 0 := by have q := i_neg.mp h120; exact q
                      refine V_aload_n (i := 0) dX10_copy_181 rfl 0 rfl ?_
                      refine V_bipush (v := (-2)) dX10_copy_182 rfl ?_
                      refine M_callVq (As := [.int ((-2))]) (st := []) dX10_copy_184 lv_X10_107 ⟨by decide, by decide⟩ ⟨rfl, rfl⟩ rfl (ci := 7) hb.1 rfl rfl (Nat.le_of_ble_eq_true rfl) (q_refuse hs hX hk (j := 0) (by decide)) (fun w184 iv184 lw184 q184 => ?_)
                      obtain ⟨rfl, e1, hXr, hOr⟩ := q184
                      subst e1
                      refine V_iret dX10_copy_187 ⟨rfl, rfl⟩ (Nat.zero_le _) (Nat.zero_le _) ?_
                      subst hQ
                      exact ⟨_, _, _, rfl, rfl, by unfold o_copy; rw [if_neg (fun z => z ⟨h9, h21⟩), if_neg (fun z => z.elim (fun z => by omega) (fun z => z.elim (fun z => by omega) (fun z => z.2.2 h83))), if_neg (fun z => z ⟨hrp, hrr⟩), if_pos (fun z => by have z1 := z.1; have z2 := z.2; unfold plQ at z1 z2; omega)]; exact ⟨rfl, hXr, hOr, Off.rf⟩⟩
                    · have h120 : ¬ m.toInt < 0 := fun r => h120 (i_neg.mpr (by exact r))
                      refine V_iload_n (i := 3) dX10_copy_123 rfl 3 rfl ?_
                      refine V_if_lt (tgt := 181) dX10_copy_124 rfl (fun h124 => ?_) (fun h124 => ?_)
                      · have h124 : i.toInt < 0 := by have q := i_neg.mp h124; exact q
                        refine V_aload_n (i := 0) dX10_copy_181 rfl 0 rfl ?_
                        refine V_bipush (v := (-2)) dX10_copy_182 rfl ?_
                        refine M_callVq (As := [.int ((-2))]) (st := []) dX10_copy_184 lv_X10_107 ⟨by decide, by decide⟩ ⟨rfl, rfl⟩ rfl (ci := 7) hb.1 rfl rfl (Nat.le_of_ble_eq_true rfl) (q_refuse hs hX hk (j := 0) (by decide)) (fun w184 iv184 lw184 q184 => ?_)
                        obtain ⟨rfl, e1, hXr, hOr⟩ := q184
                        subst e1
                        refine V_iret dX10_copy_187 ⟨rfl, rfl⟩ (Nat.zero_le _) (Nat.zero_le _) ?_
                        subst hQ
                        exact ⟨_, _, _, rfl, rfl, by unfold o_copy; rw [if_neg (fun z => z ⟨h9, h21⟩), if_neg (fun z => z.elim (fun z => by omega) (fun z => z.elim (fun z => by omega) (fun z => z.2.2 h83))), if_neg (fun z => z ⟨hrp, hrr⟩), if_pos (fun z => by have z1 := z.1; have z2 := z.2; unfold plQ at z1 z2; omega)]; exact ⟨rfl, hXr, hOr, Off.rf⟩⟩
                      · have h124 : ¬ i.toInt < 0 := fun r => h124 (i_neg.mpr (by exact r))
                        refine V_iload dX10_copy_127 4 rfl ?_
                        refine V_if_lt (tgt := 181) dX10_copy_129 rfl (fun h129 => ?_) (fun h129 => ?_)
                        · have h129 : j.toInt < 0 := by have q := i_neg.mp h129; exact q
                          refine V_aload_n (i := 0) dX10_copy_181 rfl 0 rfl ?_
                          refine V_bipush (v := (-2)) dX10_copy_182 rfl ?_
                          refine M_callVq (As := [.int ((-2))]) (st := []) dX10_copy_184 lv_X10_107 ⟨by decide, by decide⟩ ⟨rfl, rfl⟩ rfl (ci := 7) hb.1 rfl rfl (Nat.le_of_ble_eq_true rfl) (q_refuse hs hX hk (j := 0) (by decide)) (fun w184 iv184 lw184 q184 => ?_)
                          obtain ⟨rfl, e1, hXr, hOr⟩ := q184
                          subst e1
                          refine V_iret dX10_copy_187 ⟨rfl, rfl⟩ (Nat.zero_le _) (Nat.zero_le _) ?_
                          subst hQ
                          exact ⟨_, _, _, rfl, rfl, by unfold o_copy; rw [if_neg (fun z => z ⟨h9, h21⟩), if_neg (fun z => z.elim (fun z => by omega) (fun z => z.elim (fun z => by omega) (fun z => z.2.2 h83))), if_neg (fun z => z ⟨hrp, hrr⟩), if_pos (fun z => by have z1 := z.1; have z2 := z.2; unfold plQ at z1 z2; omega)]; exact ⟨rfl, hXr, hOr, Off.rf⟩⟩
                        · have h129 : ¬ j.toInt < 0 := fun r => h129 (i_neg.mpr (by exact r))
                          have bi := Int32.toInt_lt i
                          have bj := Int32.toInt_lt j
                          have bm := Int32.toInt_lt m
                          have ci := iN_eq (k := i) (by omega)
                          have cj := iN_eq (k := j) (by omega)
                          have cm := iN_eq (k := m) (by omega)
                          have di := iN_i (k := i) (by omega)
                          have dj := iN_i (k := j) (by omega)
                          have dm := iN_i (k := m) (by omega)
                          refine M_at (lv2 := [(0, .ref (b)), (1, .int (nI (iN p))), (2, .int (nI (iN r))), (3, .int (nI (iN i))), (4, .int (nI (iN j))), (5, .int (nI (iN m)))]) (st2 := []) ?_ (by rw [← ci, ← cj, ← cm]) rfl rfl rfl
                          refine V_iload dX10_copy_132 5 rfl ?_
                          refine V_aload_n (i := 0) dX10_copy_134 rfl 0 rfl ?_
                          refine M_getR dX10_copy_135 lf_X10_16 rfl hb.1 hb.2.2.2.1.1 ?_
                          refine V_iload_n (i := 1) dX10_copy_138 rfl 1 rfl ?_
                          refine M_ialdn (j := (iN p)) (x := nI (x_T X (iN p)).2.1) dX10_copy_139 hb.2.2.2.1.2 (by decide) (by omega) (((hX.2.1 (iN p) (by omega)).2.1 hrp).2.1) ?_
                          refine V_icmp_gt (tgt := 181) dX10_copy_140 rfl (fun h140 => ?_) (fun h140 => ?_)
                          · have h140 : (x_T X (iN p)).2.1 < (iN m) := (nI_ltI (by omega) (by omega)).mp h140
                            refine V_aload_n (i := 0) dX10_copy_181 rfl 0 rfl ?_
                            refine V_bipush (v := (-2)) dX10_copy_182 rfl ?_
                            refine M_callVq (As := [.int ((-2))]) (st := []) dX10_copy_184 lv_X10_107 ⟨by decide, by decide⟩ ⟨rfl, rfl⟩ rfl (ci := 7) hb.1 rfl rfl (Nat.le_of_ble_eq_true rfl) (q_refuse hs hX hk (j := 0) (by decide)) (fun w184 iv184 lw184 q184 => ?_)
                            obtain ⟨rfl, e1, hXr, hOr⟩ := q184
                            subst e1
                            refine V_iret dX10_copy_187 ⟨rfl, rfl⟩ (Nat.zero_le _) (Nat.zero_le _) ?_
                            subst hQ
                            exact ⟨_, _, _, rfl, rfl, by unfold o_copy; rw [if_neg (fun z => z ⟨h9, h21⟩), if_neg (fun z => z.elim (fun z => by omega) (fun z => z.elim (fun z => by omega) (fun z => z.2.2 h83))), if_neg (fun z => z ⟨hrp, hrr⟩), if_pos (fun z => by have z1 := z.1; have z2 := z.2; unfold plQ at z1 z2; omega)]; exact ⟨rfl, hXr, hOr, Off.rf⟩⟩
                          · have h140 : ¬ (x_T X (iN p)).2.1 < (iN m) := fun q => h140 ((nI_ltI (by omega) (by omega)).mpr q)
                            refine V_iload dX10_copy_143 5 rfl ?_
                            refine V_aload_n (i := 0) dX10_copy_145 rfl 0 rfl ?_
                            refine M_getR dX10_copy_146 lf_X10_16 rfl hb.1 hb.2.2.2.1.1 ?_
                            refine V_iload_n (i := 2) dX10_copy_149 rfl 2 rfl ?_
                            refine M_ialdn (j := (iN r)) (x := nI (x_T X (iN r)).2.1) dX10_copy_150 hb.2.2.2.1.2 (by decide) (by omega) (((hX.2.1 (iN r) (by omega)).2.1 hrr).2.1) ?_
                            refine V_icmp_gt (tgt := 181) dX10_copy_151 rfl (fun h151 => ?_) (fun h151 => ?_)
                            · have h151 : (x_T X (iN r)).2.1 < (iN m) := (nI_ltI (by omega) (by omega)).mp h151
                              refine V_aload_n (i := 0) dX10_copy_181 rfl 0 rfl ?_
                              refine V_bipush (v := (-2)) dX10_copy_182 rfl ?_
                              refine M_callVq (As := [.int ((-2))]) (st := []) dX10_copy_184 lv_X10_107 ⟨by decide, by decide⟩ ⟨rfl, rfl⟩ rfl (ci := 7) hb.1 rfl rfl (Nat.le_of_ble_eq_true rfl) (q_refuse hs hX hk (j := 0) (by decide)) (fun w184 iv184 lw184 q184 => ?_)
                              obtain ⟨rfl, e1, hXr, hOr⟩ := q184
                              subst e1
                              refine V_iret dX10_copy_187 ⟨rfl, rfl⟩ (Nat.zero_le _) (Nat.zero_le _) ?_
                              subst hQ
                              exact ⟨_, _, _, rfl, rfl, by unfold o_copy; rw [if_neg (fun z => z ⟨h9, h21⟩), if_neg (fun z => z.elim (fun z => by omega) (fun z => z.elim (fun z => by omega) (fun z => z.2.2 h83))), if_neg (fun z => z ⟨hrp, hrr⟩), if_pos (fun z => by have z1 := z.1; have z2 := z.2; unfold plQ at z1 z2; omega)]; exact ⟨rfl, hXr, hOr, Off.rf⟩⟩
                            · have h151 : ¬ (x_T X (iN r)).2.1 < (iN m) := fun q => h151 ((nI_ltI (by omega) (by omega)).mpr q)
                              refine V_iload_n (i := 3) dX10_copy_154 rfl 3 rfl ?_
                              refine V_aload_n (i := 0) dX10_copy_155 rfl 0 rfl ?_
                              refine M_getR dX10_copy_156 lf_X10_16 rfl hb.1 hb.2.2.2.1.1 ?_
                              refine V_iload_n (i := 1) dX10_copy_159 rfl 1 rfl ?_
                              refine M_ialdn (j := (iN p)) (x := nI (x_T X (iN p)).2.1) dX10_copy_160 hb.2.2.2.1.2 (by decide) (by omega) (((hX.2.1 (iN p) (by omega)).2.1 hrp).2.1) ?_
                              refine V_iload dX10_copy_161 5 rfl ?_
                              refine V_isub dX10_copy_163 ?_
                              refine M_top (x2 := nI ((x_T X (iN p)).2.1 - iN m)) (nI_sub (by omega)) ?_
                              refine V_icmp_gt (tgt := 181) dX10_copy_164 rfl (fun h164 => ?_) (fun h164 => ?_)
                              · have h164 : ((x_T X (iN p)).2.1 - iN m) < (iN i) := (nI_ltI (by omega) (by omega)).mp h164
                                refine V_aload_n (i := 0) dX10_copy_181 rfl 0 rfl ?_
                                refine V_bipush (v := (-2)) dX10_copy_182 rfl ?_
                                refine M_callVq (As := [.int ((-2))]) (st := []) dX10_copy_184 lv_X10_107 ⟨by decide, by decide⟩ ⟨rfl, rfl⟩ rfl (ci := 7) hb.1 rfl rfl (Nat.le_of_ble_eq_true rfl) (q_refuse hs hX hk (j := 0) (by decide)) (fun w184 iv184 lw184 q184 => ?_)
                                obtain ⟨rfl, e1, hXr, hOr⟩ := q184
                                subst e1
                                refine V_iret dX10_copy_187 ⟨rfl, rfl⟩ (Nat.zero_le _) (Nat.zero_le _) ?_
                                subst hQ
                                exact ⟨_, _, _, rfl, rfl, by unfold o_copy; rw [if_neg (fun z => z ⟨h9, h21⟩), if_neg (fun z => z.elim (fun z => by omega) (fun z => z.elim (fun z => by omega) (fun z => z.2.2 h83))), if_neg (fun z => z ⟨hrp, hrr⟩), if_pos (fun z => by have z1 := z.1; have z2 := z.2; unfold plQ at z1 z2; omega)]; exact ⟨rfl, hXr, hOr, Off.rf⟩⟩
                              · have h164 : ¬ ((x_T X (iN p)).2.1 - iN m) < (iN i) := fun q => h164 ((nI_ltI (by omega) (by omega)).mpr q)
                                refine V_iload dX10_copy_167 4 rfl ?_
                                refine V_aload_n (i := 0) dX10_copy_169 rfl 0 rfl ?_
                                refine M_getR dX10_copy_170 lf_X10_16 rfl hb.1 hb.2.2.2.1.1 ?_
                                refine V_iload_n (i := 2) dX10_copy_173 rfl 2 rfl ?_
                                refine M_ialdn (j := (iN r)) (x := nI (x_T X (iN r)).2.1) dX10_copy_174 hb.2.2.2.1.2 (by decide) (by omega) (((hX.2.1 (iN r) (by omega)).2.1 hrr).2.1) ?_
                                refine V_iload dX10_copy_175 5 rfl ?_
                                refine V_isub dX10_copy_177 ?_
                                refine M_top (x2 := nI ((x_T X (iN r)).2.1 - iN m)) (nI_sub (by omega)) ?_
                                refine V_icmp_le (tgt := 188) dX10_copy_178 rfl (fun h178 => ?_) (fun h178 => ?_)
                                · have h178 : (iN j) ≤ ((x_T X (iN r)).2.1 - iN m) := (nI_leI (by omega) (by omega)).mp h178
                                  refine V_iconst (v := nI 0) dX10_copy_188 rfl ?_
                                  refine V_istore (lv2 := [(6, .int (nI 0)), (0, .ref (b)), (1, .int (nI (iN p))), (2, .int (nI (iN r))), (3, .int (nI (iN i))), (4, .int (nI (iN j))), (5, .int (nI (iN m)))]) dX10_copy_189 (by decide) rfl ?_
                                  have lp191 : ∀ t, t ≤ (iN m) → ∀ lw2 : LW, (∀ k, k < t → lw2 (b + 13) k = (x_T X (iN p)).2.2 (iN i + k)) → Off (b + 13) 1 lw lw2 → VM g mX10_copy 191 [(6, .int (nI t)), (0, .ref (b)), (1, .int (nI (iN p))), (2, .int (nI (iN r))), (3, .int (nI (iN i))), (4, .int (nI (iN j))), (5, .int (nI (iN m)))] [] S iv lw2 Q := by
                                    refine up_ind fun t ht ih191 => ?_
                                    intro lw2 hrow hL
                                    refine V_iload dX10_copy_191 0 rfl ?_
                                    refine V_iload dX10_copy_193 6 rfl ?_
                                    refine V_icmp_ge (tgt := 222) dX10_copy_195 rfl (fun h195 => ?_) (fun h195 => ?_)
                                    · have h195 : (iN m) ≤ t := (nI_leI (by omega) (by omega)).mp h195
                                      refine V_iconst (v := nI 0) dX10_copy_222 rfl ?_
                                      refine V_istore (lv2 := [(6, .int (nI 0)), (0, .ref (b)), (1, .int (nI (iN p))), (2, .int (nI (iN r))), (3, .int (nI (iN i))), (4, .int (nI (iN j))), (5, .int (nI (iN m)))]) dX10_copy_223 (by decide) rfl ?_
                                      have lp225 : ∀ u, u ≤ (iN m) → ∀ lw3 : LW, (∀ k, lw3 (b + 5 + iN r) k = if iN j ≤ k ∧ k < iN j + u then (x_T X (iN p)).2.2 (iN i + (k - iN j)) else lw (b + 5 + iN r) k) → (∀ a, ¬ a = b + 5 + iN r → lw3 a = lw2 a) → VM g mX10_copy 225 [(6, .int (nI u)), (0, .ref (b)), (1, .int (nI (iN p))), (2, .int (nI (iN r))), (3, .int (nI (iN i))), (4, .int (nI (iN j))), (5, .int (nI (iN m)))] [] S iv lw3 Q := by
                                        refine up_ind fun u hu ih225 => ?_
                                        intro lw3 hcp hO3
                                        refine V_iload dX10_copy_225 0 rfl ?_
                                        refine V_iload dX10_copy_227 6 rfl ?_
                                        refine V_icmp_ge (tgt := 257) dX10_copy_229 rfl (fun h229 => ?_) (fun h229 => ?_)
                                        · have h229 : (iN m) ≤ u := (nI_leI (by omega) (by omega)).mp h229
                                          refine V_iload dX10_copy_257 6 rfl ?_
                                          refine V_iret dX10_copy_259 ⟨rfl, rfl⟩ (Nat.zero_le _) (Nat.zero_le _) ?_
                                          subst hQ
                                          obtain hu9 : u = iN m := by omega
                                          have hXn := hX.shelfL (j := iN r) (ms_cpy (i := iN i) (j := iN j) (m := iN m) (P := (x_T X (iN p))) (hX.2.1 (iN r) (by omega)) (by rw [← hu9]; exact hcp)) (fun s h8 hs9 => (hO3 _ (by omega)).trans (hL _ (by omega)))
                                          exact ⟨_, _, _, rfl, rfl, by unfold o_copy; rw [if_neg (fun z => z ⟨h9, h21⟩), if_neg (fun z => z.elim (fun z => by omega) (fun z => z.elim (fun z => by omega) (fun z => z.2.2 h83))), if_neg (fun z => z ⟨hrp, hrr⟩), if_neg (fun z => z ⟨⟨by omega, by omega, by omega, by omega⟩, ⟨by omega, by omega, by omega, by omega⟩⟩)]; exact ⟨by rw [← cm], hXn, Off.rf, fun a ha => (hO3 a (by omega)).trans (hL a (by omega))⟩⟩
                                        · have h229 : ¬ (iN m) ≤ u := fun q => h229 ((nI_leI (by omega) (by omega)).mpr q)
                                          refine V_aload_n (i := 0) dX10_copy_232 rfl 1 rfl ?_
                                          refine M_getR dX10_copy_233 lf_X10_21 rfl hb.1 hb.2.2.2.2.1.1 ?_
                                          refine V_iload_n (i := 2) dX10_copy_236 rfl 3 rfl ?_
                                          refine M_aaldn (t := 2) (j := (iN r)) dX10_copy_237 (by decide) hb.2.2.2.2.1.2 (by decide) (by omega) ((hb.2.2.2.2.2.2.2.2.2.2.2.2.2.2.2.2.2.2.2.2.2.2.1 (iN r) (by omega)).1) ?_
                                          refine V_iload dX10_copy_238 5 rfl ?_
                                          refine V_iload dX10_copy_240 0 rfl ?_
                                          refine V_iadd dX10_copy_242 ?_
                                          refine M_top (nI_add _ _) ?_
                                          refine V_aload_n (i := 0) dX10_copy_243 rfl 1 rfl ?_
                                          refine M_getR dX10_copy_244 lf_X10_24 rfl hb.1 hb.2.2.2.2.2.1.1 ?_
                                          refine V_iload dX10_copy_247 0 rfl ?_
                                          refine M_laldn (j := u) (x := (x_T X (iN p)).2.2 (iN i + u)) dX10_copy_249 hb.2.2.2.2.2.1.2 (by decide) (by omega) ((congrFun (hO3 (b + 13) (by omega)) _).trans (hrow u (by omega))) ?_
                                          refine M_lastn (j := ((iN j) + u)) dX10_copy_250 (hb.2.2.2.2.2.2.2.2.2.2.2.2.2.2.2.2.2.2.2.2.2.2.1 (iN r) (by omega)).2 (by decide) (by omega) ?_
                                          refine V_iinc (v := nI (u + 1)) (lv2 := [(6, .int (nI (u + 1))), (0, .ref (b)), (1, .int (nI (iN p))), (2, .int (nI (iN r))), (3, .int (nI (iN i))), (4, .int (nI (iN j))), (5, .int (nI (iN m)))]) dX10_copy_251 0 rfl (nI_inc _) (by decide) rfl ?_
                                          refine V_goto (tgt := 225) dX10_copy_254 rfl ?_
                                          refine V_sub [0, 1, 2, 3, 4, 5, 6] rfl ?_
                                          exact M_at (ih225 (by omega) _ (cpy_s (f := (x_T X (iN p)).2.2) (w := lw (b + 5 + iN r)) hcp rfl) (fun a ha => (up2_a ha).trans (hO3 a ha))) (rfl) rfl (rfl) (rfl)
                                      refine V_sub [0, 1, 2, 3, 4, 5, 6] rfl ?_
                                      exact M_at (lp225 0 (Nat.zero_le _) lw2 (fun k => (congrFun (hL _ (by omega)) k).trans (if_neg (by omega)).symm) (fun _ _ => rfl)) (rfl) rfl (rfl) (rfl)
                                    · have h195 : ¬ (iN m) ≤ t := fun q => h195 ((nI_leI (by omega) (by omega)).mpr q)
                                      refine V_aload_n (i := 0) dX10_copy_198 rfl 1 rfl ?_
                                      refine M_getR dX10_copy_199 lf_X10_24 rfl hb.1 hb.2.2.2.2.2.1.1 ?_
                                      refine V_iload dX10_copy_202 0 rfl ?_
                                      refine V_aload_n (i := 0) dX10_copy_204 rfl 1 rfl ?_
                                      refine M_getR dX10_copy_205 lf_X10_21 rfl hb.1 hb.2.2.2.2.1.1 ?_
                                      refine V_iload_n (i := 1) dX10_copy_208 rfl 2 rfl ?_
                                      refine M_aaldn (t := 2) (j := (iN p)) dX10_copy_209 (by decide) hb.2.2.2.2.1.2 (by decide) (by omega) ((hb.2.2.2.2.2.2.2.2.2.2.2.2.2.2.2.2.2.2.2.2.2.2.1 (iN p) (by omega)).1) ?_
                                      refine V_iload_n (i := 3) dX10_copy_210 rfl 4 rfl ?_
                                      refine V_iload dX10_copy_211 0 rfl ?_
                                      refine V_iadd dX10_copy_213 ?_
                                      refine M_top (nI_add _ _) ?_
                                      refine M_laldn (j := ((iN i) + t)) (x := (x_T X (iN p)).2.2 (iN i + t)) dX10_copy_214 (hb.2.2.2.2.2.2.2.2.2.2.2.2.2.2.2.2.2.2.2.2.2.2.1 (iN p) (by omega)).2 (by decide) (by omega) ((congrFun (hL _ (by omega)) _).trans (((hX.2.1 (iN p) (by omega)).2.1 hrp).2.2 _ (by omega))) ?_
                                      refine M_lastn (j := t) dX10_copy_215 hb.2.2.2.2.2.1.2 (by decide) (by omega) ?_
                                      refine V_iinc (v := nI (t + 1)) (lv2 := [(6, .int (nI (t + 1))), (0, .ref (b)), (1, .int (nI (iN p))), (2, .int (nI (iN r))), (3, .int (nI (iN i))), (4, .int (nI (iN j))), (5, .int (nI (iN m)))]) dX10_copy_216 0 rfl (nI_inc _) (by decide) rfl ?_
                                      refine V_goto (tgt := 191) dX10_copy_219 rfl ?_
                                      refine V_sub [0, 1, 2, 3, 4, 5, 6] rfl ?_
                                      exact M_at (ih191 (by omega) _ (rowAddL (f := fun k => (x_T X (iN p)).2.2 (iN i + k)) hrow rfl) (hL.up (by omega) (by omega))) (rfl) rfl (rfl) (rfl)
                                  refine V_sub [0, 1, 2, 3, 4, 5, 6] rfl ?_
                                  exact M_at (lp191 0 (Nat.zero_le _) lw (fun k hk => absurd hk (by omega)) Off.rf) (rfl) rfl (rfl) (rfl)
                                · have h178 : ¬ (iN j) ≤ ((x_T X (iN r)).2.1 - iN m) := fun q => h178 ((nI_leI (by omega) (by omega)).mpr q)
                                  refine V_aload_n (i := 0) dX10_copy_181 rfl 0 rfl ?_
                                  refine V_bipush (v := (-2)) dX10_copy_182 rfl ?_
                                  refine M_callVq (As := [.int ((-2))]) (st := []) dX10_copy_184 lv_X10_107 ⟨by decide, by decide⟩ ⟨rfl, rfl⟩ rfl (ci := 7) hb.1 rfl rfl (Nat.le_of_ble_eq_true rfl) (q_refuse hs hX hk (j := 0) (by decide)) (fun w184 iv184 lw184 q184 => ?_)
                                  obtain ⟨rfl, e1, hXr, hOr⟩ := q184
                                  subst e1
                                  refine V_iret dX10_copy_187 ⟨rfl, rfl⟩ (Nat.zero_le _) (Nat.zero_le _) ?_
                                  subst hQ
                                  exact ⟨_, _, _, rfl, rfl, by unfold o_copy; rw [if_neg (fun z => z ⟨h9, h21⟩), if_neg (fun z => z.elim (fun z => by omega) (fun z => z.elim (fun z => by omega) (fun z => z.2.2 h83))), if_neg (fun z => z ⟨hrp, hrr⟩), if_pos (fun z => by have z1 := z.1; have z2 := z.2; unfold plQ at z1 z2; omega)]; exact ⟨rfl, hXr, hOr, Off.rf⟩⟩
                  · have h108 : (sk (x_T X (iN r))) = 0 := (nI_eq (b := 0) (by omega) (by omega)).mp h108
                    omega
              · refine V_aload_n (i := 0) dX10_copy_86 rfl 0 rfl ?_
                refine V_bipush (v := (-3)) dX10_copy_87 rfl ?_
                refine M_callVq (As := [.int ((-3))]) (st := []) dX10_copy_89 lv_X10_107 ⟨by decide, by decide⟩ ⟨rfl, rfl⟩ rfl (ci := 7) hb.1 rfl rfl (Nat.le_of_ble_eq_true rfl) (q_refuse hs hX hk (j := 1) (by decide)) (fun w89 iv89 lw89 q89 => ?_)
                obtain ⟨rfl, e1, hXr, hOr⟩ := q89
                subst e1
                refine V_iret dX10_copy_92 ⟨rfl, rfl⟩ (Nat.zero_le _) (Nat.zero_le _) ?_
                subst hQ
                exact ⟨_, _, _, rfl, rfl, by unfold o_copy; rw [if_neg (fun z => z ⟨h9, h21⟩), if_pos (Or.inr (Or.inr ⟨by omega, by omega, h83⟩))]; exact ⟨rfl, hXr, hOr, Off.rf⟩⟩
    · have h21 : ¬ (inR r 8) := bI_eq0.mp h21
      refine V_aload_n (i := 0) dX10_copy_24 rfl 0 rfl ?_
      refine V_bipush (v := (-2)) dX10_copy_25 rfl ?_
      refine M_callVq (As := [.int ((-2))]) (st := []) dX10_copy_27 lv_X10_107 ⟨by decide, by decide⟩ ⟨rfl, rfl⟩ rfl (ci := 7) hb.1 rfl rfl (Nat.le_of_ble_eq_true rfl) (q_refuse hs hX hk (j := 0) (by decide)) (fun w27 iv27 lw27 q27 => ?_)
      obtain ⟨rfl, e1, hXr, hOr⟩ := q27
      subst e1
      refine V_iret dX10_copy_30 ⟨rfl, rfl⟩ (Nat.zero_le _) (Nat.zero_le _) ?_
      subst hQ
      exact ⟨_, _, _, rfl, rfl, by unfold o_copy; rw [if_pos (fun z => h21 z.2)]; exact ⟨rfl, hXr, hOr, Off.rf⟩⟩
