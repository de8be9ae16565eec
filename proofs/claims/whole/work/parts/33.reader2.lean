/-! Reader, second half -/
def okR (r : Rs) : Bool := match r with
  | .error _ => false
  | .ok _ => true
theorem RP.w {iv2 : IV} {b c n : Nat} {f : Nat → Nat} {w : Value} {r : Rs} (h : RP iv2 b c n f w r) : w = .int (bI (okR r = true)) := by
  cases r with
  | error s => exact h.1.trans (congrArg Value.int (bI_f (show ¬ okR (Except.error s) = true from fun z => Bool.noConfusion z)).symm)
  | ok x => exact h.1.trans (congrArg Value.int (bI_t (rfl : okR (.ok x) = true)).symm)
theorem RP.err {iv2 : IV} {b c n : Nat} {f : Nat → Nat} {w : Value} {r : Rs} (h : RP iv2 b c n f w r) (h2 : ¬ okR r = true) : ∃ s e, r = .error s ∧ XTp iv2 b n f s e := by
  cases r with
  | error s => obtain ⟨e, he⟩ := h.2; exact ⟨s, e, rfl, he⟩
  | ok x => exact absurd rfl h2
theorem RP.okk {iv2 : IV} {b c n : Nat} {f : Nat → Nat} {w : Value} {r : Rs} (h : RP iv2 b c n f w r) (h2 : okR r = true) : ∃ x, r = .ok x ∧ XTp iv2 b n f x.2.1 x.2.2 ∧ XC iv2 c x.1 := by
  cases r with
  | error s => cases h2
  | ok x => exact ⟨x, rfl, h.2⟩
theorem RP.t {iv2 : IV} {b c n : Nat} {f : Nat → Nat} {r : Rs} (h : RP iv2 b c n f (.int (bI (okR r = true))) r) (h2 : okR r = true) : RP iv2 b c n f (.int (nI 1)) r := by rw [bI_t h2] at h; exact h
theorem RP.f {iv2 : IV} {b c n : Nat} {f : Nat → Nat} {r : Rs} (h : RP iv2 b c n f (.int (bI (okR r = true))) r) (h2 : ¬ okR r = true) : RP iv2 b c n f (.int (nI 0)) r := by rw [bI_f h2] at h; exact h
abbrev Rg := Except Nat (Nat × Cv)
def ansR (r : Rg) : Int32 := match r with
  | .error s => (-20) - nI s
  | .ok x => nI x.1
def RG (iv2 : IV) (c : Nat) (r : Rg) : Prop := match r with
  | .error _ => True
  | .ok x => XC iv2 c x.2
theorem rdGo_err {n k m : Nat} {f : Nat → Nat} {V : Cv} {t : Nat × Nat} {s : Nat} (h : rdSt n f V t.1 t.2 = .error s) : rdGo n f (k + 1) m V t = .error s := by unfold rdGo; rw [h]
theorem rdGo_end {n k m : Nat} {f : Nat → Nat} {V : Cv} {t : Nat × Nat} {x : Cv × (Nat × Nat)} (h : rdSt n f V t.1 t.2 = .ok x) (h2 : n ≤ x.2.1) : rdGo n f (k + 1) m V t = .ok (m, x.1) := by unfold rdGo; rw [h]; exact if_pos h2
theorem rdGo_go {n k m : Nat} {f : Nat → Nat} {V : Cv} {t : Nat × Nat} {x : Cv × (Nat × Nat)} (h : rdSt n f V t.1 t.2 = .ok x) (h2 : ¬ n ≤ x.2.1) (h3 : sgB n f x.2.1 = true) : rdGo n f (k + 1) m V t = rdGo n f k (m + 1) x.1 (tok n f x.2.2) := by
  have e : rdGo n f (k + 1) m V t = (match rdSt n f V t.1 t.2 with
    | .error s => .error s
    | .ok x => if n ≤ x.2.1 then .ok (m, x.1) else if sgB n f x.2.1 = true then rdGo n f k (m + 1) x.1 (tok n f x.2.2) else .error x.2.1) := rfl
  rw [e, h]
  exact (if_neg h2).trans (if_pos h3)
theorem rdGo_no {n k m : Nat} {f : Nat → Nat} {V : Cv} {t : Nat × Nat} {x : Cv × (Nat × Nat)} (h : rdSt n f V t.1 t.2 = .ok x) (h2 : ¬ n ≤ x.2.1) (h3 : ¬ sgB n f x.2.1 = true) : rdGo n f (k + 1) m V t = .error x.2.1 := by
  have e : rdGo n f (k + 1) m V t = (match rdSt n f V t.1 t.2 with
    | .error s => .error s
    | .ok x => if n ≤ x.2.1 then .ok (m, x.1) else if sgB n f x.2.1 = true then rdGo n f k (m + 1) x.1 (tok n f x.2.2) else .error x.2.1) := rfl
  rw [e, h]
  exact (if_neg h2).trans (if_neg h3)
set_option maxRecDepth 20000 in
theorem t_isStatementRead {g : Ev} {S : St} {iv : IV} {lw : LW} {b : Nat} (hb : IsTape S b) {c : Nat} (hc : IsCamp S c) {V : Cv} (hV : XC iv c V) (hd : c + 8 < b) {n : Nat} {f : Nat → Nat} {s e : Nat} (hT : XTp iv b n f s e) : CQ g mX5_isStatementRead [.ref (b), .ref (c)] S iv lw (fun w iv2 lw2 => lw = lw2 ∧ RP iv2 b c n f w (rdSt n f V s e) ∧ Of2 c 9 b 1 iv iv2) := by
  refine CT_ofQ rfl (by decide) (Nat.le_of_ble_eq_true rfl) (lv := [(0, .ref (b)), (1, .ref (c))]) rfl (fun Q hQ => ?_)
  refine V_aload_n (i := 0) dX5_isStatementRead_0 rfl 0 rfl ?_
  refine V_ldcS (i := 0) dX5_isStatementRead_1 (List.mem_of_getElem? (i := 0) rfl) ?_
  refine M_callVp (As := [.ref (100000 + (1 + 0))]) (st := []) dX5_isStatementRead_3 lv_X5_37 ⟨by decide, by decide⟩ ⟨rfl, rfl⟩ rfl (ci := 5) hb.1 rfl rfl (Nat.le_of_ble_eq_true rfl) (t_isAtWord hb hT (i := 0) (by decide)) ?_
  refine V_if_eq (tgt := 30) dX5_isStatementRead_6 rfl (fun h6 => ?_) (fun h6 => ?_)
  · have h6 : ¬ (wordB n f s e 0 = true) := bI_eq0.mp h6
    refine V_aload_n (i := 0) dX5_isStatementRead_30 rfl 0 rfl ?_
    refine V_ldcS (i := 1) dX5_isStatementRead_31 (List.mem_of_getElem? (i := 1) rfl) ?_
    refine M_callVp (As := [.ref (100000 + (1 + 1))]) (st := []) dX5_isStatementRead_33 lv_X5_37 ⟨by decide, by decide⟩ ⟨rfl, rfl⟩ rfl (ci := 5) hb.1 rfl rfl (Nat.le_of_ble_eq_true rfl) (t_isAtWord hb hT (i := 1) (by decide)) ?_
    refine V_if_eq (tgt := 60) dX5_isStatementRead_36 rfl (fun h36 => ?_) (fun h36 => ?_)
    · have h36 : ¬ (wordB n f s e 1 = true) := bI_eq0.mp h36
      refine V_aload_n (i := 0) dX5_isStatementRead_60 rfl 0 rfl ?_
      refine V_ldcS (i := 2) dX5_isStatementRead_61 (List.mem_of_getElem? (i := 2) rfl) ?_
      refine M_callVp (As := [.ref (100000 + (1 + 2))]) (st := []) dX5_isStatementRead_63 lv_X5_37 ⟨by decide, by decide⟩ ⟨rfl, rfl⟩ rfl (ci := 5) hb.1 rfl rfl (Nat.le_of_ble_eq_true rfl) (t_isAtWord hb hT (i := 2) (by decide)) ?_
      refine V_if_eq (tgt := 90) dX5_isStatementRead_66 rfl (fun h66 => ?_) (fun h66 => ?_)
      · have h66 : ¬ (wordB n f s e 2 = true) := bI_eq0.mp h66
        refine V_aload_n (i := 0) dX5_isStatementRead_90 rfl 0 rfl ?_
        refine V_ldcS (i := 3) dX5_isStatementRead_91 (List.mem_of_getElem? (i := 3) rfl) ?_
        refine M_callVp (As := [.ref (100000 + (1 + 3))]) (st := []) dX5_isStatementRead_93 lv_X5_37 ⟨by decide, by decide⟩ ⟨rfl, rfl⟩ rfl (ci := 5) hb.1 rfl rfl (Nat.le_of_ble_eq_true rfl) (t_isAtWord hb hT (i := 3) (by decide)) ?_
        refine V_if_eq (tgt := 105) dX5_isStatementRead_96 rfl (fun h96 => ?_) (fun h96 => ?_)
        · have h96 : ¬ (wordB n f s e 3 = true) := bI_eq0.mp h96
          refine V_aload_n (i := 0) dX5_isStatementRead_105 rfl 0 rfl ?_
          refine V_ldcS (i := 4) dX5_isStatementRead_106 (List.mem_of_getElem? (i := 4) rfl) ?_
          refine M_callVp (As := [.ref (100000 + (1 + 4))]) (st := []) dX5_isStatementRead_108 lv_X5_37 ⟨by decide, by decide⟩ ⟨rfl, rfl⟩ rfl (ci := 5) hb.1 rfl rfl (Nat.le_of_ble_eq_true rfl) (t_isAtWord hb hT (i := 4) (by decide)) ?_
          refine V_if_eq (tgt := 120) dX5_isStatementRead_111 rfl (fun h111 => ?_) (fun h111 => ?_)
          · have h111 : ¬ (wordB n f s e 4 = true) := bI_eq0.mp h111
            refine V_aload_n (i := 0) dX5_isStatementRead_120 rfl 0 rfl ?_
            refine V_ldcS (i := 5) dX5_isStatementRead_121 (List.mem_of_getElem? (i := 5) rfl) ?_
            refine M_callVp (As := [.ref (100000 + (1 + 5))]) (st := []) dX5_isStatementRead_123 lv_X5_37 ⟨by decide, by decide⟩ ⟨rfl, rfl⟩ rfl (ci := 5) hb.1 rfl rfl (Nat.le_of_ble_eq_true rfl) (t_isAtWord hb hT (i := 5) (by decide)) ?_
            refine V_if_eq (tgt := 141) dX5_isStatementRead_126 rfl (fun h126 => ?_) (fun h126 => ?_)
            · have h126 : ¬ (wordB n f s e 5 = true) := bI_eq0.mp h126
              refine V_iconst (v := nI 0) dX5_isStatementRead_141 rfl ?_
              refine V_zret dX5_isStatementRead_142 ⟨rfl, rfl⟩ (by rfl) (Nat.zero_le _) (Nat.zero_le _) ?_
              subst hQ
              exact ⟨_, _, _, rfl, rfl, rfl, by unfold rdSt; rw [if_neg h6, if_neg h36, if_neg h66, if_neg h96, if_neg h111, if_neg h126]; exact ⟨rfl, _, hT⟩, Of2.rf⟩
            · have h126 : wordB n f s e 5 = true := bI_ne.mp h126
              refine V_aload_n (i := 0) dX5_isStatementRead_129 rfl 0 rfl ?_
              refine V_aload_n (i := 1) dX5_isStatementRead_130 rfl 1 rfl ?_
              refine M_callSq (As := [.ref (b), .ref (c)]) (st := []) dX5_isStatementRead_131 ls_X5_77 ⟨by decide, by decide⟩ ⟨rfl, rfl⟩ rfl (Nat.le_of_ble_eq_true rfl) (t_isUseRead hb hc hV hd hT) (fun w131 iv131 lw131 q131 => ?_)
              obtain ⟨e1, hR, hO⟩ := q131
              subst e1
              obtain rfl := hR.w
              refine V_if_eq (tgt := 141) dX5_isStatementRead_134 rfl (fun h134 => ?_) (fun h134 => ?_)
              · have h134 : ¬ (okR (rdTwo 0 (v_nc V) 1 100 (fun c u => v_setU V c u) n f (tok n f e)) = true) := bI_eq0.mp h134
                refine V_iconst (v := nI 0) dX5_isStatementRead_141 rfl ?_
                refine V_zret dX5_isStatementRead_142 ⟨rfl, rfl⟩ (by rfl) (Nat.zero_le _) (Nat.zero_le _) ?_
                subst hQ
                exact ⟨_, _, _, rfl, rfl, rfl, by unfold rdSt; rw [if_neg h6, if_neg h36, if_neg h66, if_neg h96, if_neg h111, if_pos h126]; exact hR.f h134, hO⟩
              · have h134 : okR (rdTwo 0 (v_nc V) 1 100 (fun c u => v_setU V c u) n f (tok n f e)) = true := bI_ne.mp h134
                refine V_iconst (v := nI 1) dX5_isStatementRead_137 rfl ?_
                refine V_goto (tgt := 142) dX5_isStatementRead_138 rfl ?_
                refine V_zret dX5_isStatementRead_142 ⟨rfl, rfl⟩ (by rfl) (Nat.zero_le _) (Nat.zero_le _) ?_
                subst hQ
                exact ⟨_, _, _, rfl, rfl, rfl, by unfold rdSt; rw [if_neg h6, if_neg h36, if_neg h66, if_neg h96, if_neg h111, if_pos h126]; exact hR.t h134, hO⟩
          · have h111 : wordB n f s e 4 = true := bI_ne.mp h111
            refine V_aload_n (i := 0) dX5_isStatementRead_114 rfl 0 rfl ?_
            refine V_aload_n (i := 1) dX5_isStatementRead_115 rfl 1 rfl ?_
            refine M_callSq (As := [.ref (b), .ref (c)]) (st := []) dX5_isStatementRead_116 ls_X5_72 ⟨by decide, by decide⟩ ⟨rfl, rfl⟩ rfl (Nat.le_of_ble_eq_true rfl) (t_isLostRead hb hc hV hd hT) (fun w116 iv116 lw116 q116 => ?_)
            obtain ⟨e1, hR, hO⟩ := q116
            subst e1
            obtain rfl := hR.w
            refine V_zret dX5_isStatementRead_119 ⟨rfl, rfl⟩ (bI_nar) (Nat.zero_le _) (Nat.zero_le _) ?_
            subst hQ
            exact ⟨_, _, _, rfl, rfl, rfl, by unfold rdSt; rw [if_neg h6, if_neg h36, if_neg h66, if_neg h96, if_pos h111]; exact hR, hO⟩
        · have h96 : wordB n f s e 3 = true := bI_ne.mp h96
          refine V_aload_n (i := 0) dX5_isStatementRead_99 rfl 0 rfl ?_
          refine V_aload_n (i := 1) dX5_isStatementRead_100 rfl 1 rfl ?_
          refine M_callSq (As := [.ref (b), .ref (c)]) (st := []) dX5_isStatementRead_101 ls_X5_67 ⟨by decide, by decide⟩ ⟨rfl, rfl⟩ rfl (Nat.le_of_ble_eq_true rfl) (t_isSureRead hb hc hV hd hT) (fun w101 iv101 lw101 q101 => ?_)
          obtain ⟨e1, hR, hO⟩ := q101
          subst e1
          obtain rfl := hR.w
          refine V_zret dX5_isStatementRead_104 ⟨rfl, rfl⟩ (bI_nar) (Nat.zero_le _) (Nat.zero_le _) ?_
          subst hQ
          exact ⟨_, _, _, rfl, rfl, rfl, by unfold rdSt; rw [if_neg h6, if_neg h36, if_neg h66, if_pos h96]; exact hR, hO⟩
      · have h66 : wordB n f s e 2 = true := bI_ne.mp h66
        refine V_aload_n (i := 1) dX5_isStatementRead_69 rfl 1 rfl ?_
        refine M_callVp (As := []) (st := []) dX5_isStatementRead_70 lv_X5_59 ⟨by decide, by decide⟩ ⟨rfl, rfl⟩ rfl (ci := 0) hc.1 rfl rfl (Nat.le_of_ble_eq_true rfl) (t_X0_hasRoomForMan hc hV) ?_
        refine V_if_eq (tgt := 88) dX5_isStatementRead_73 rfl (fun h73 => ?_) (fun h73 => ?_)
        · have h73 : ¬ (v_nm V < 8) := bI_eq0.mp h73
          refine V_iconst (v := nI 0) dX5_isStatementRead_88 rfl ?_
          refine V_zret dX5_isStatementRead_89 ⟨rfl, rfl⟩ (by rfl) (Nat.zero_le _) (Nat.zero_le _) ?_
          subst hQ
          exact ⟨_, _, _, rfl, rfl, rfl, by unfold rdSt; rw [if_neg h6, if_neg h36, if_pos h66, if_neg h73]; exact ⟨rfl, _, hT⟩, Of2.rf⟩
        · have h73 : v_nm V < 8 := bI_ne.mp h73
          refine V_aload_n (i := 0) dX5_isStatementRead_76 rfl 0 rfl ?_
          refine V_aload_n (i := 1) dX5_isStatementRead_77 rfl 1 rfl ?_
          refine M_callSq (As := [.ref (b), .ref (c)]) (st := []) dX5_isStatementRead_78 ls_X5_62 ⟨by decide, by decide⟩ ⟨rfl, rfl⟩ rfl (Nat.le_of_ble_eq_true rfl) (t_isManRead hb hc hV hd hT h73) (fun w78 iv78 lw78 q78 => ?_)
          obtain ⟨e1, hR, hO⟩ := q78
          subst e1
          obtain rfl := hR.w
          refine V_if_eq (tgt := 88) dX5_isStatementRead_81 rfl (fun h81 => ?_) (fun h81 => ?_)
          · have h81 : ¬ (okR (rdTwo 0 (v_ne V) 0 2 (fun k a => v_addM V k a) n f (tok n f e)) = true) := bI_eq0.mp h81
            refine V_iconst (v := nI 0) dX5_isStatementRead_88 rfl ?_
            refine V_zret dX5_isStatementRead_89 ⟨rfl, rfl⟩ (by rfl) (Nat.zero_le _) (Nat.zero_le _) ?_
            subst hQ
            exact ⟨_, _, _, rfl, rfl, rfl, by unfold rdSt; rw [if_neg h6, if_neg h36, if_pos h66, if_pos h73]; exact hR.f h81, hO⟩
          · have h81 : okR (rdTwo 0 (v_ne V) 0 2 (fun k a => v_addM V k a) n f (tok n f e)) = true := bI_ne.mp h81
            refine V_iconst (v := nI 1) dX5_isStatementRead_84 rfl ?_
            refine V_goto (tgt := 89) dX5_isStatementRead_85 rfl ?_
            refine V_zret dX5_isStatementRead_89 ⟨rfl, rfl⟩ (by rfl) (Nat.zero_le _) (Nat.zero_le _) ?_
            subst hQ
            exact ⟨_, _, _, rfl, rfl, rfl, by unfold rdSt; rw [if_neg h6, if_neg h36, if_pos h66, if_pos h73]; exact hR.t h81, hO⟩
    · have h36 : wordB n f s e 1 = true := bI_ne.mp h36
      refine V_aload_n (i := 1) dX5_isStatementRead_39 rfl 1 rfl ?_
      refine M_callVp (As := []) (st := []) dX5_isStatementRead_40 lv_X5_51 ⟨by decide, by decide⟩ ⟨rfl, rfl⟩ rfl (ci := 0) hc.1 rfl rfl (Nat.le_of_ble_eq_true rfl) (t_X0_hasRoomForEar hc hV) ?_
      refine V_if_eq (tgt := 58) dX5_isStatementRead_43 rfl (fun h43 => ?_) (fun h43 => ?_)
      · have h43 : ¬ (v_ne V < 6) := bI_eq0.mp h43
        refine V_iconst (v := nI 0) dX5_isStatementRead_58 rfl ?_
        refine V_zret dX5_isStatementRead_59 ⟨rfl, rfl⟩ (by rfl) (Nat.zero_le _) (Nat.zero_le _) ?_
        subst hQ
        exact ⟨_, _, _, rfl, rfl, rfl, by unfold rdSt; rw [if_neg h6, if_pos h36, if_neg h43]; exact ⟨rfl, _, hT⟩, Of2.rf⟩
      · have h43 : v_ne V < 6 := bI_ne.mp h43
        refine V_aload_n (i := 0) dX5_isStatementRead_46 rfl 0 rfl ?_
        refine V_aload_n (i := 1) dX5_isStatementRead_47 rfl 1 rfl ?_
        refine M_callSq (As := [.ref (b), .ref (c)]) (st := []) dX5_isStatementRead_48 ls_X5_54 ⟨by decide, by decide⟩ ⟨rfl, rfl⟩ rfl (Nat.le_of_ble_eq_true rfl) (t_isEarRead hb hc hV hd hT h43) (fun w48 iv48 lw48 q48 => ?_)
        obtain ⟨e1, hR, hO⟩ := q48
        subst e1
        obtain rfl := hR.w
        refine V_if_eq (tgt := 58) dX5_isStatementRead_51 rfl (fun h51 => ?_) (fun h51 => ?_)
        · have h51 : ¬ (okR (rdTwo 0 6 0 10 (fun k a => v_addE V k a) n f (tok n f e)) = true) := bI_eq0.mp h51
          refine V_iconst (v := nI 0) dX5_isStatementRead_58 rfl ?_
          refine V_zret dX5_isStatementRead_59 ⟨rfl, rfl⟩ (by rfl) (Nat.zero_le _) (Nat.zero_le _) ?_
          subst hQ
          exact ⟨_, _, _, rfl, rfl, rfl, by unfold rdSt; rw [if_neg h6, if_pos h36, if_pos h43]; exact hR.f h51, hO⟩
        · have h51 : okR (rdTwo 0 6 0 10 (fun k a => v_addE V k a) n f (tok n f e)) = true := bI_ne.mp h51
          refine V_iconst (v := nI 1) dX5_isStatementRead_54 rfl ?_
          refine V_goto (tgt := 59) dX5_isStatementRead_55 rfl ?_
          refine V_zret dX5_isStatementRead_59 ⟨rfl, rfl⟩ (by rfl) (Nat.zero_le _) (Nat.zero_le _) ?_
          subst hQ
          exact ⟨_, _, _, rfl, rfl, rfl, by unfold rdSt; rw [if_neg h6, if_pos h36, if_pos h43]; exact hR.t h51, hO⟩
  · have h6 : wordB n f s e 0 = true := bI_ne.mp h6
    refine V_aload_n (i := 1) dX5_isStatementRead_9 rfl 1 rfl ?_
    refine M_callVp (As := []) (st := []) dX5_isStatementRead_10 lv_X5_41 ⟨by decide, by decide⟩ ⟨rfl, rfl⟩ rfl (ci := 0) hc.1 rfl rfl (Nat.le_of_ble_eq_true rfl) (t_X0_hasRoomForCall hc hV) ?_
    refine V_if_eq (tgt := 28) dX5_isStatementRead_13 rfl (fun h13 => ?_) (fun h13 => ?_)
    · have h13 : ¬ (v_nc V < 12) := bI_eq0.mp h13
      refine V_iconst (v := nI 0) dX5_isStatementRead_28 rfl ?_
      refine V_zret dX5_isStatementRead_29 ⟨rfl, rfl⟩ (by rfl) (Nat.zero_le _) (Nat.zero_le _) ?_
      subst hQ
      exact ⟨_, _, _, rfl, rfl, rfl, by unfold rdSt; rw [if_pos h6, if_neg h13]; exact ⟨rfl, _, hT⟩, Of2.rf⟩
    · have h13 : v_nc V < 12 := bI_ne.mp h13
      refine V_aload_n (i := 0) dX5_isStatementRead_16 rfl 0 rfl ?_
      refine V_aload_n (i := 1) dX5_isStatementRead_17 rfl 1 rfl ?_
      refine M_callSq (As := [.ref (b), .ref (c)]) (st := []) dX5_isStatementRead_18 ls_X5_46 ⟨by decide, by decide⟩ ⟨rfl, rfl⟩ rfl (Nat.le_of_ble_eq_true rfl) (t_isCallRead hb hc hV hd hT h13) (fun w18 iv18 lw18 q18 => ?_)
      obtain ⟨e1, hR, hO⟩ := q18
      subst e1
      obtain rfl := hR.w
      refine V_if_eq (tgt := 28) dX5_isStatementRead_21 rfl (fun h21 => ?_) (fun h21 => ?_)
      · have h21 : ¬ (okR (rdCall n f V (tok n f e)) = true) := bI_eq0.mp h21
        refine V_iconst (v := nI 0) dX5_isStatementRead_28 rfl ?_
        refine V_zret dX5_isStatementRead_29 ⟨rfl, rfl⟩ (by rfl) (Nat.zero_le _) (Nat.zero_le _) ?_
        subst hQ
        exact ⟨_, _, _, rfl, rfl, rfl, by unfold rdSt; rw [if_pos h6, if_pos h13]; exact hR.f h21, hO⟩
      · have h21 : okR (rdCall n f V (tok n f e)) = true := bI_ne.mp h21
        refine V_iconst (v := nI 1) dX5_isStatementRead_24 rfl ?_
        refine V_goto (tgt := 29) dX5_isStatementRead_25 rfl ?_
        refine V_zret dX5_isStatementRead_29 ⟨rfl, rfl⟩ (by rfl) (Nat.zero_le _) (Nat.zero_le _) ?_
        subst hQ
        exact ⟨_, _, _, rfl, rfl, rfl, by unfold rdSt; rw [if_pos h6, if_pos h13]; exact hR.t h21, hO⟩
set_option maxRecDepth 20000 in
theorem t_readCamp {g : Ev} {S : St} {iv : IV} {lw : LW} {b : Nat} (hb : IsTape S b) {c : Nat} (hc : IsCamp S c) {V : Cv} (hV : XC iv c V) (hd : c + 8 < b) {n : Nat} {f : Nat → Nat} (hB : XB iv b n f) : CQ g mX5_readCamp [.ref (b), .ref (c)] S iv lw (fun w iv2 lw2 => w = .int (ansR (rdGo n f n 1 V (tok n f 0))) ∧ lw = lw2 ∧ RG iv2 c (rdGo n f n 1 V (tok n f 0)) ∧ (∃ s e, XTp iv2 b n f s e) ∧ Of2 c 9 b 1 iv iv2) := by
  refine CT_ofQ rfl (by decide) (Nat.le_of_ble_eq_true rfl) (lv := [(0, .ref (b)), (1, .ref (c))]) rfl (fun Q hQ => ?_)
  have hn := hB.1.1
  refine V_aload_n (i := 0) dX5_readCamp_0 rfl 0 rfl ?_
  refine M_callVn (As := []) (st := []) dX5_readCamp_1 lv_X5_7 ⟨by decide, by decide⟩ ⟨rfl, rfl⟩ rfl (ci := 5) hb.1 rfl rfl (Nat.le_of_ble_eq_true rfl) (t_toFirstToken hb hB) (fun iv1 lw1 q1 => ?_)
  obtain ⟨e1, hX1, hP1⟩ := q1
  subst e1
  have hV1 := hV.of (fun a h1 h2 => hP1 a (by omega))
  refine V_iconst (v := nI 1) dX5_readCamp_4 rfl ?_
  refine V_istore_n (lv2 := [(2, .int (nI 1)), (0, .ref (b)), (1, .ref (c))]) dX5_readCamp_5 rfl (by decide) rfl ?_
  have lp6 : ∀ j, j ≤ (n + 1) → 1 ≤ j → ∀ (iv2 : IV) (V2 : Cv) (s2 e2 : Nat), XC iv2 c V2 → XTp iv2 b n f s2 e2 → Of2 c 9 b 1 iv iv2 → rdGo n f n 1 V (tok n f 0) = rdGo n f (n + 1 - j) j V2 (s2, e2) → VM g mX5_readCamp 6 [(2, .int (nI j)), (0, .ref (b)), (1, .ref (c))] [] S iv2 lw Q := by
    refine up_ind fun j hj ih6 => ?_
    intro hj1 iv2 V2 s2 e2 hV2 hX2 hO2 hG2
    refine V_iload_n (i := 2) dX5_readCamp_6 rfl 0 rfl ?_
    refine V_aload_n (i := 0) dX5_readCamp_7 rfl 1 rfl ?_
    refine M_getI (x := nI n) dX5_readCamp_8 lf_X5_12 rfl hb.1 (hX2.1.2.1) ?_
    refine V_icmp_gt (tgt := 64) dX5_readCamp_11 rfl (fun h11 => ?_) (fun h11 => ?_)
    · have h11 : n < j := (nI_ltI (by omega) (by omega)).mp h11
      refine V_bipush (v := (-20)) dX5_readCamp_64 rfl ?_
      refine V_aload_n (i := 0) dX5_readCamp_66 rfl 1 rfl ?_
      refine M_getI (x := nI s2) dX5_readCamp_67 lf_X5_22 rfl hb.1 (hX2.2.2.1) ?_
      refine V_isub dX5_readCamp_70 ?_
      refine V_iret dX5_readCamp_71 ⟨rfl, rfl⟩ (Nat.zero_le _) (Nat.zero_le _) ?_
      subst hQ
      have hE : rdGo n f n 1 V (tok n f 0) = .error s2 := hG2.trans (by rw [show n + 1 - j = 0 by omega]; rfl)
      exact ⟨_, _, _, rfl, rfl, by rw [hE]; rfl, rfl, by rw [hE]; exact trivial, ⟨_, _, hX2⟩, hO2⟩
    · have h11 : ¬ n < j := fun q => h11 ((nI_ltI (by omega) (by omega)).mpr q)
      refine V_aload_n (i := 0) dX5_readCamp_14 rfl 1 rfl ?_
      refine V_aload_n (i := 1) dX5_readCamp_15 rfl 2 rfl ?_
      refine M_callSq (As := [.ref (b), .ref (c)]) (st := []) dX5_readCamp_16 ls_X5_16 ⟨by decide, by decide⟩ ⟨rfl, rfl⟩ rfl (Nat.le_of_ble_eq_true rfl) (t_isStatementRead hb hc hV2 hd hX2) (fun w16 iv16 lw16 q16 => ?_)
      obtain ⟨e1, hR16, hP16⟩ := q16
      subst e1
      obtain rfl := hR16.w
      have hO16 : Of2 c 9 b 1 iv iv16 := fun a h1 h2 => (hP16 a h1 h2).trans (hO2 a h1 h2)
      refine V_if_ne (tgt := 30) dX5_readCamp_19 rfl (fun h19 => ?_) (fun h19 => ?_)
      · have h19 : okR (rdSt n f V2 s2 e2) = true := bI_ne.mp h19
        obtain ⟨x3, hr3, hX3, hV3⟩ := hR16.okk h19
        refine V_aload_n (i := 0) dX5_readCamp_30 rfl 1 rfl ?_
        refine M_callVp (As := []) (st := []) dX5_readCamp_31 lv_X5_25 ⟨by decide, by decide⟩ ⟨rfl, rfl⟩ rfl (ci := 5) hb.1 rfl rfl (Nat.le_of_ble_eq_true rfl) (t_isAtEnd hb hX3) ?_
        refine V_if_eq (tgt := 39) dX5_readCamp_34 rfl (fun h34 => ?_) (fun h34 => ?_)
        · have h34 : ¬ (n ≤ x3.2.1) := bI_eq0.mp h34
          refine V_aload_n (i := 0) dX5_readCamp_39 rfl 1 rfl ?_
          refine M_callVp (As := []) (st := []) dX5_readCamp_40 lv_X5_29 ⟨by decide, by decide⟩ ⟨rfl, rfl⟩ rfl (ci := 5) hb.1 rfl rfl (Nat.le_of_ble_eq_true rfl) (t_isAtSign hb hX3) ?_
          refine V_if_ne (tgt := 54) dX5_readCamp_43 rfl (fun h43 => ?_) (fun h43 => ?_)
          · have h43 : sgB n f x3.2.1 = true := bI_ne.mp h43
            refine V_aload_n (i := 0) dX5_readCamp_54 rfl 1 rfl ?_
            refine M_callVn (As := []) (st := []) dX5_readCamp_55 lv_X5_32 ⟨by decide, by decide⟩ ⟨rfl, rfl⟩ rfl (ci := 5) hb.1 rfl rfl (Nat.le_of_ble_eq_true rfl) (t_next hb hX3) (fun iv55 lw55 q55 => ?_)
            obtain ⟨e1, hX55, hP55⟩ := q55
            subst e1
            have hV55 := hV3.of (fun a h1 h2 => hP55 a (by omega))
            have hO55 : Of2 c 9 b 1 iv iv55 := hO16.r hP55
            refine V_iinc (v := nI (j + 1)) (lv2 := [(2, .int (nI (j + 1))), (0, .ref (b)), (1, .ref (c))]) dX5_readCamp_58 0 rfl (nI_inc _) (by decide) rfl ?_
            refine V_goto (tgt := 6) dX5_readCamp_61 rfl ?_
            refine V_sub [0, 1, 2] rfl ?_
            exact M_at (ih6 (by omega) (by omega) iv55 x3.1 _ _ hV55 hX55 hO55 (hG2.trans (by rw [show n + 1 - j = (n - j) + 1 by omega, show n + 1 - (j + 1) = n - j by omega]; exact rdGo_go (t := (s2, e2)) hr3 h34 h43))) (rfl) rfl (rfl) (rfl)
          · have h43 : ¬ (sgB n f x3.2.1 = true) := bI_eq0.mp h43
            refine V_bipush (v := (-20)) dX5_readCamp_46 rfl ?_
            refine V_aload_n (i := 0) dX5_readCamp_48 rfl 1 rfl ?_
            refine M_getI (x := nI x3.2.1) dX5_readCamp_49 lf_X5_22 rfl hb.1 (hX3.2.2.1) ?_
            refine V_isub dX5_readCamp_52 ?_
            refine V_iret dX5_readCamp_53 ⟨rfl, rfl⟩ (Nat.zero_le _) (Nat.zero_le _) ?_
            subst hQ
            have hE : rdGo n f n 1 V (tok n f 0) = .error x3.2.1 := hG2.trans (by rw [show n + 1 - j = (n - j) + 1 by omega]; exact rdGo_no (t := (s2, e2)) hr3 h34 h43)
            exact ⟨_, _, _, rfl, rfl, by rw [hE]; rfl, rfl, by rw [hE]; exact trivial, ⟨_, _, hX3⟩, hO16⟩
        · have h34 : n ≤ x3.2.1 := bI_ne.mp h34
          refine V_iload_n (i := 2) dX5_readCamp_37 rfl 0 rfl ?_
          refine V_iret dX5_readCamp_38 ⟨rfl, rfl⟩ (Nat.zero_le _) (Nat.zero_le _) ?_
          subst hQ
          have hE : rdGo n f n 1 V (tok n f 0) = .ok (j, x3.1) := hG2.trans (by rw [show n + 1 - j = (n - j) + 1 by omega]; exact rdGo_end (t := (s2, e2)) hr3 h34)
          exact ⟨_, _, _, rfl, rfl, by rw [hE]; rfl, rfl, by rw [hE]; exact hV3, ⟨_, _, hX3⟩, hO16⟩
      · have h19 : ¬ (okR (rdSt n f V2 s2 e2) = true) := bI_eq0.mp h19
        obtain ⟨s3, e3, hr3, hX3⟩ := hR16.err h19
        refine V_bipush (v := (-20)) dX5_readCamp_22 rfl ?_
        refine V_aload_n (i := 0) dX5_readCamp_24 rfl 1 rfl ?_
        refine M_getI (x := nI s3) dX5_readCamp_25 lf_X5_22 rfl hb.1 (hX3.2.2.1) ?_
        refine V_isub dX5_readCamp_28 ?_
        refine V_iret dX5_readCamp_29 ⟨rfl, rfl⟩ (Nat.zero_le _) (Nat.zero_le _) ?_
        subst hQ
        have hE : rdGo n f n 1 V (tok n f 0) = .error s3 := hG2.trans (by rw [show n + 1 - j = (n - j) + 1 by omega]; exact rdGo_err (t := (s2, e2)) hr3)
        exact ⟨_, _, _, rfl, rfl, by rw [hE]; rfl, rfl, by rw [hE]; exact trivial, ⟨_, _, hX3⟩, hO16⟩
  refine V_sub [0, 1, 2] rfl ?_
  exact M_at (lp6 1 (by omega) (by omega) iv1 V _ _ hV1 hX1 (Of2.r Of2.rf hP1) rfl) (rfl) rfl (rfl) (rfl)
