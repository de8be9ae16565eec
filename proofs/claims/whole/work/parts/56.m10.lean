/-! the reference: all statements; copies of camps; back -/
/-- only the camp has changed, what helps neither -/
def MBt (b : Nat) (iv iv2 : IV) : Prop := ∀ a k, (a = b → ¬ k = 9 ∧ ¬ k = 14 ∧ ¬ k = 17 ∧ ¬ k = 20 ∧ ¬ k = 21 ∧ ¬ k = 22) → (a < b + 18 ∨ b + 42 ≤ a) → iv2 a k = iv a k
theorem MBt.mb {b : Nat} {iv iv2 : IV} (h : MBt b iv iv2) : MB b iv iv2 := fun a k p q => h a k (fun e => ⟨(p e).1, (p e).2.1, (p e).2.2.1, (p e).2.2.2.1, (p e).2.2.2.2.1, (p e).2.2.2.2.2.1⟩) q
def RGq (b : Nat) (iv : IV) (R : Rg) (w : Value) (iv2 : IV) : Prop := w = .int (bI (okG R = true)) ∧ (∀ x, R = .ok x → MC iv2 b x.2 ∧ iv2 b 31 = nI x.1 ∧ VOK x.2) ∧ (∀ q, R = .error q → iv2 b 29 = nI q) ∧ MB b iv iv2
theorem RGq.er {b q : Nat} {iv iv2 : IV} {R : Rg} (hr : R = .error q) (h29 : iv2 b 29 = nI q) (hB : MB b iv iv2) : RGq b iv R (.int (nI 0)) iv2 := by
  subst hr
  exact ⟨(congrArg Value.int (bI_f (fun z => Bool.noConfusion z))).symm, fun x z => (by cases z), fun q2 z => (by cases z; exact h29), hB⟩
theorem RGq.ok {b : Nat} {iv iv2 : IV} {R : Rg} {x : Nat × Cv} (hr : R = .ok x) (hC : MC iv2 b x.2) (h31 : iv2 b 31 = nI x.1) (hB : MB b iv iv2) (hv : VOK x.2) : RGq b iv R (.int (nI 1)) iv2 := by
  subst hr
  exact ⟨(congrArg Value.int (bI_t (rfl : okG (.ok x) = true))).symm, fun y z => (by cases z; exact ⟨hC, h31, hv⟩), fun q2 z => (by cases z), hB⟩
theorem okR_s {r : Rs} (h : okR r = true) : ∃ x, r = .ok x := by
  cases r with
  | error s => cases h
  | ok x => exact ⟨x, rfl⟩
theorem okR_e {r : Rs} (h : ¬ okR r = true) : ∃ q, r = .error q := by
  cases r with
  | error s => exact ⟨s, rfl⟩
  | ok x => exact absurd rfl h
theorem go_er {n k m q : Nat} {f : Nat → Nat} {V : Cv} {s : Nat} (hq : tpQ n f) (hn : n ≤ s + k) (h : rdSt n f V s (nxE n f s) = .error q) : rdGo n f k m V (s, nxE n f s) = .error q := by
  cases k with
  | zero =>
    rw [st_end (by omega) hq] at h
    cases h
    rfl
  | succ k => exact rdGo_err h
theorem go_go {n k m : Nat} {f : Nat → Nat} {V : Cv} {s : Nat} {x : Cv × (Nat × Nat)} (hq : tpQ n f) (hn : n ≤ s + k) (h : rdSt n f V s (nxE n f s) = .ok x) (h2 : x.2.2 = nxE n f x.2.1) : rdGo n f k m V (s, nxE n f s) = contP n f (k - 1) m x.1 x.2.1 := by
  cases k with
  | zero => rw [st_end (by omega) hq] at h; cases h
  | succ k => exact go_ok (t := (s, nxE n f s)) h h2
theorem k0_n {n s : Nat} {f : Nat → Nat} (h : kdT n f s = 0) : n ≤ s := by
  rcases k_eq (n := n) (s := s) (f := f) with z | z | z | z | z <;> omega
theorem k3_s {n s : Nat} {f : Nat → Nat} (h : kdT n f s = 3) : sgB n f s = true ∧ s < n ∧ nxE n f s = s + 1 := by
  rcases k_eq (n := n) (s := s) (f := f) with z | z | z | z | z
  · omega
  · omega
  · omega
  · have h3 := of_decide_eq_true z.2
    refine ⟨z.2, h3.1, ?_⟩
    unfold nxE
    rw [if_neg (fun y => by have := of_decide_eq_true y; omega), if_neg (fun y => by have := of_decide_eq_true y; omega), if_pos z.2]
  · omega
theorem kn_s {n s : Nat} {f : Nat → Nat} (h : ¬ kdT n f s = 0) (h3 : ¬ kdT n f s = 3) : ¬ n ≤ s ∧ ¬ sgB n f s = true := by
  refine ⟨fun z => h (k_0 (by omega)), fun z => ?_⟩
  have h4 := of_decide_eq_true z
  exact h3 (k_3 h4.1 (fun y => by have := of_decide_eq_true y; omega) (fun y => by have := of_decide_eq_true y; omega) z)
theorem cp_end {n k m s : Nat} {f : Nat → Nat} {V : Cv} (h : n ≤ s) : contP n f k m V s = .ok (m, V) := if_pos h
theorem cp_no {n k m s : Nat} {f : Nat → Nat} {V : Cv} (h : ¬ n ≤ s) (h2 : ¬ sgB n f s = true) : contP n f k m V s = .error s := by unfold contP; rw [if_neg h, if_neg h2]
theorem cp_go {n k m s : Nat} {f : Nat → Nat} {V : Cv} (h : ¬ n ≤ s) (h2 : sgB n f s = true) : contP n f k m V s = rdGo n f k (m + 1) V (tok n f (nxE n f s)) := by unfold contP; rw [if_neg h, if_pos h2]
set_option maxRecDepth 20000 in
theorem r_readAll {g : Ev} {S : St} {iv : IV} {lw : LW} {b : Nat} (hb : IsMod S b) {n : Nat} {f : Nat → Nat} (hT : MT iv b n f) (hq : tpQ n f) {V : Cv} (hV : MC iv b V) (hv : VOK V) : CQ g mX10_readAll [.ref (b)] S iv lw (fun w iv2 lw2 => lw = lw2 ∧ RGq b iv (rdGo n f n 1 V (tok n f 0)) w iv2) := by
  refine CT_ofQ rfl (by decide) (Nat.le_of_ble_eq_true rfl) (lv := [(0, .ref (b))]) rfl (fun Q hQ => ?_)
  have hnc := hv.nc
  have hne := hv.ne
  have hnm := hv.nm
  have hn250 := hq.1
  have hB0 : MB b iv (up2 (up2 iv b 31 (nI 1)) b 25 (nI 0)) := (MB.rf.up (by omega)).up (by omega)
  have hT0 := hB0.mt hT
  have hV0 : MC (up2 (up2 iv b 31 (nI 1)) b 25 (nI 0)) b V := hV.ma hv ((MA.rf.up (by omega)).up (by omega))
  refine V_aload_n (i := 0) dX10_readAll_0 rfl 0 rfl ?_
  refine V_iconst (v := nI 1) dX10_readAll_1 rfl ?_
  refine M_putI dX10_readAll_2 lf_X10_227 rfl hb.1 ⟨rfl, rfl⟩ ?_
  refine V_aload_n (i := 0) dX10_readAll_5 rfl 0 rfl ?_
  refine V_iconst (v := nI 0) dX10_readAll_6 rfl ?_
  refine M_putI dX10_readAll_7 lf_X10_167 rfl hb.1 ⟨rfl, rfl⟩ ?_
  refine V_aload_n (i := 0) dX10_readAll_10 rfl 0 rfl ?_
  refine M_callVn (As := []) (st := []) dX10_readAll_11 lv_X10_203 ⟨by decide, by decide⟩ ⟨rfl, rfl⟩ rfl (ci := 7) hb.1 rfl rfl (Nat.le_of_ble_eq_true rfl) (r_token hb hT0 hq (Nat.zero_le _) (by exact up2_s)) (fun iv11 lw11 q11 => ?_)
  obtain ⟨e1, hk11, hO11⟩ := q11
  subst e1
  have hT11 := hO11.mt hT0
  have hV11 := hV0.ma hv hO11.ma
  refine V_aload_n (i := 0) dX10_readAll_14 rfl 0 rfl ?_
  refine M_callVq (As := []) (st := []) dX10_readAll_15 lv_X10_230 ⟨by decide, by decide⟩ ⟨rfl, rfl⟩ rfl (ci := 7) hb.1 rfl rfl (Nat.le_of_ble_eq_true rfl) (r_statement hb hT11 hq hV11 hv hk11) (fun w15 iv15 lw15 q15 => ?_)
  obtain ⟨e1, hS⟩ := q15
  subst e1
  obtain ⟨rfl, hS1, hS2, hS3, hS4⟩ := hS
  have hB15 : MB b iv iv15 := hB0.tr (hO11.ma.mb.tr hS3)
  have h3115 : iv15 b 31 = nI 1 := hS4.trans ((hO11 _ _ (by omega)).trans ((up2_k (by decide)).trans up2_s))
  refine V_if_ne (tgt := 23) dX10_readAll_18 rfl (fun h18 => ?_) (fun h18 => ?_)
  · have h18 : okR (rdSt n f V (tok n f 0).1 (nxE n f (tok n f 0).1)) = true := bI_ne.mp h18
    obtain ⟨x0, hx0⟩ := okR_s h18
    have hvx := rdSt_V hv (nx_le (f := f) hk11.1).1 (nx_le (f := f) hk11.1).2 x0 hx0
    have hR0 : (rdGo n f n 1 V (tok n f 0)) = contP n f (n - 1 - 0) (0 + 1) x0.1 x0.2.1 := go_go hq (by omega) hx0 (hS1 x0 hx0).2.2
    have lp23 : ∀ j, j ≤ n → ∀ (iv2 : IV) (V3 : Cv) (s3 : Nat), VOK V3 → MC iv2 b V3 → MTk iv2 b n f s3 → MB b iv iv2 → iv2 b 31 = nI (j + 1) → j ≤ s3 → (rdGo n f n 1 V (tok n f 0)) = contP n f (n - 1 - j) (j + 1) V3 s3 → VM g mX10_readAll 23 [(0, .ref (b))] [] S iv2 lw Q := by
      refine up_ind fun j hj ih23 => ?_
      intro iv2 V3 s3 hv3 hV3 hk3 hB3 h31 hjs hR
      have hT3 := hB3.mt hT
      have hkk := k_eq (n := n) (s := s3) (f := f)
      have hk4 : kdT n f s3 ≤ 4 := by omega
      have hnx := nx_le (f := f) hk3.1
      refine V_aload_n (i := 0) dX10_readAll_23 rfl 0 rfl ?_
      refine M_getI (x := nI (kdT n f s3)) dX10_readAll_24 lf_X10_176 rfl hb.1 (hk3.2.2.1) ?_
      refine V_if_eq (tgt := 69) dX10_readAll_27 rfl (fun h27 => ?_) (fun h27 => ?_)
      · have h27 : (kdT n f s3) = 0 := (nI_eq (b := 0) (by omega) (by omega)).mp h27
        refine V_iconst (v := nI 1) dX10_readAll_69 rfl ?_
        refine V_zret dX10_readAll_70 ⟨rfl, rfl⟩ (by rfl) (Nat.zero_le _) (Nat.zero_le _) ?_
        subst hQ
        exact ⟨_, _, _, rfl, rfl, rfl, RGq.ok (hR.trans (cp_end (k0_n h27))) hV3 h31 hB3 hv3⟩
      · have h27 : ¬ (kdT n f s3) = 0 := fun q => h27 ((nI_eq (b := 0) (by omega) (by omega)).mpr q)
        refine V_aload_n (i := 0) dX10_readAll_30 rfl 0 rfl ?_
        refine M_getI (x := nI (kdT n f s3)) dX10_readAll_31 lf_X10_176 rfl hb.1 (hk3.2.2.1) ?_
        refine V_iconst (v := nI 3) dX10_readAll_34 rfl ?_
        refine V_icmp_eq (tgt := 43) dX10_readAll_35 rfl (fun h35 => ?_) (fun h35 => ?_)
        · have h35 : (kdT n f s3) = 3 := (nI_eq (by omega) (by omega)).mp h35
          refine V_aload_n (i := 0) dX10_readAll_43 rfl 0 rfl ?_
          have hk3s := k3_s h35
          have hRg := hR.trans (cp_go (by omega) hk3s.1)
          refine M_callVn (As := []) (st := []) dX10_readAll_44 lv_X10_203 ⟨by decide, by decide⟩ ⟨rfl, rfl⟩ rfl (ci := 7) hb.1 rfl rfl (Nat.le_of_ble_eq_true rfl) (r_token hb hT3 hq hnx.2 (hk3.2.2.2.1.trans (by rw [at_n (by omega)]))) (fun iv44 lw44 q44 => ?_)
          obtain ⟨e1, hk44, hO44⟩ := q44
          subst e1
          have hT44 := hO44.mt hT3
          have hV44 := hV3.ma hv3 hO44.ma
          have hge4 := (tok_ge (f := f) hnx.2).1
          refine V_aload_n (i := 0) dX10_readAll_47 rfl 0 rfl ?_
          refine M_callVq (As := []) (st := []) dX10_readAll_48 lv_X10_230 ⟨by decide, by decide⟩ ⟨rfl, rfl⟩ rfl (ci := 7) hb.1 rfl rfl (Nat.le_of_ble_eq_true rfl) (r_statement hb hT44 hq hV44 hv3 hk44) (fun w48 iv48 lw48 q48 => ?_)
          obtain ⟨e1, hU⟩ := q48
          subst e1
          obtain ⟨rfl, hU1, hU2, hU3, hU4⟩ := hU
          have hB48 : MB b iv iv48 := hB3.tr (hO44.ma.mb.tr hU3)
          have h3148 : iv48 b 31 = nI (j + 1) := hU4.trans ((hO44 _ _ (by omega)).trans h31)
          refine V_if_ne (tgt := 56) dX10_readAll_51 rfl (fun h51 => ?_) (fun h51 => ?_)
          · have h51 : okR (rdSt n f V3 (tok n f (nxE n f s3)).1 (nxE n f (tok n f (nxE n f s3)).1)) = true := bI_ne.mp h51
            obtain ⟨x1, hx1⟩ := okR_s h51
            have hvx1 := rdSt_V hv3 (nx_le (f := f) hk44.1).1 (nx_le (f := f) hk44.1).2 x1 hx1
            have hv47 := hvx1.1
            have hR1 : (rdGo n f n 1 V (tok n f 0)) = contP n f (n - 1 - (j + 1)) (j + 1 + 1) x1.1 x1.2.1 := by rw [hRg, show n - 1 - (j + 1) = n - 1 - j - 1 by omega]; exact go_go (s := (tok n f (nxE n f s3)).1) hq (by omega) hx1 (hU1 x1 hx1).2.2
            refine V_aload_n (i := 0) dX10_readAll_56 rfl 0 rfl ?_
            refine V_dup dX10_readAll_57 rfl ?_
            refine M_getI (x := nI (j + 1)) dX10_readAll_58 lf_X10_227 rfl hb.1 (h3148) ?_
            refine V_iconst (v := nI 1) dX10_readAll_61 rfl ?_
            refine V_iadd dX10_readAll_62 ?_
            refine M_top (nI_add _ _) ?_
            refine M_putI dX10_readAll_63 lf_X10_227 rfl hb.1 ⟨rfl, rfl⟩ ?_
            refine V_goto (tgt := 23) dX10_readAll_66 rfl ?_
            refine V_sub [0] rfl ?_
            exact M_at (ih23 (by omega) _ x1.1 x1.2.1 hvx1.1 ((hU1 x1 hx1).1.ma hv47 (MA.rf.up (by omega))) (mtk_fr (hU1 x1 hx1).2.1 (fun k hk => up2_k (by omega))) (hB48.up (by omega)) up2_s (by have := hvx1.2; omega) hR1) (rfl) rfl (rfl) (rfl)
          · have h51 : ¬ (okR (rdSt n f V3 (tok n f (nxE n f s3)).1 (nxE n f (tok n f (nxE n f s3)).1)) = true) := bI_eq0.mp h51
            refine V_iconst (v := nI 0) dX10_readAll_54 rfl ?_
            refine V_zret dX10_readAll_55 ⟨rfl, rfl⟩ (by rfl) (Nat.zero_le _) (Nat.zero_le _) ?_
            subst hQ
            obtain ⟨q0, hq0⟩ := okR_e h51
            exact ⟨_, _, _, rfl, rfl, rfl, RGq.er (hRg.trans (go_er (s := (tok n f (nxE n f s3)).1) hq (by omega) hq0)) (hU2 q0 hq0) hB48⟩
        · have h35 : ¬ (kdT n f s3) = 3 := fun q => h35 ((nI_eq (by omega) (by omega)).mpr q)
          refine V_aload_n (i := 0) dX10_readAll_38 rfl 0 rfl ?_
          refine M_callVq (As := []) (st := []) dX10_readAll_39 lv_X10_199 ⟨by decide, by decide⟩ ⟨rfl, rfl⟩ rfl (ci := 7) hb.1 rfl rfl (Nat.le_of_ble_eq_true rfl) (r_wrong hb hk3.2.1) (fun w39 iv39 lw39 q39 => ?_)
          obtain ⟨rfl, e1, e2⟩ := q39
          subst e1
          subst e2
          refine V_zret dX10_readAll_42 ⟨rfl, rfl⟩ (by rfl) (Nat.zero_le _) (Nat.zero_le _) ?_
          subst hQ
          have hkn := kn_s h27 h35
          exact ⟨_, _, _, rfl, rfl, rfl, RGq.er (hR.trans (cp_no hkn.1 hkn.2)) up2_s (hB3.up (by omega))⟩
    refine V_sub [0] rfl ?_
    exact M_at (lp23 0 (Nat.zero_le _) iv15 x0.1 x0.2.1 hvx.1 (hS1 x0 hx0).1 (hS1 x0 hx0).2.1 hB15 h3115 (Nat.zero_le _) hR0) (rfl) rfl (rfl) (rfl)
  · have h18 : ¬ (okR (rdSt n f V (tok n f 0).1 (nxE n f (tok n f 0).1)) = true) := bI_eq0.mp h18
    refine V_iconst (v := nI 0) dX10_readAll_21 rfl ?_
    refine V_zret dX10_readAll_22 ⟨rfl, rfl⟩ (by rfl) (Nat.zero_le _) (Nat.zero_le _) ?_
    subst hQ
    obtain ⟨q0, hq0⟩ := okR_e h18
    exact ⟨_, _, _, rfl, rfl, rfl, RGq.er (go_er hq (by omega) hq0) (hS2 q0 hq0) hB15⟩
set_option maxRecDepth 20000 in
theorem r_copied6 {g : Ev} {S : St} {iv : IV} {lw : LW} {p q : Nat} (hp : KD S p (1, 6)) (hq : KD S q (1, 6)) (hd : ¬ p = q) : CN g mX10_copied [.ref (p), .ref (q)] S iv lw (fun iv2 lw2 => lw = lw2 ∧ (∀ i, i < 6 → iv2 q i = iv p i) ∧ ∀ a, ¬ a = q → iv2 a = iv a) := by
  refine CT_ofQ rfl (by decide) (Nat.le_of_ble_eq_true rfl) (lv := [(0, .ref (p)), (1, .ref (q))]) rfl (fun Q hQ => ?_)
  refine V_iconst (v := nI 0) dX10_copied_0 rfl ?_
  refine V_istore_n (lv2 := [(2, .int (nI 0)), (0, .ref (p)), (1, .ref (q))]) dX10_copied_1 rfl (by decide) rfl ?_
  have lp2 : ∀ j, j ≤ 6 → ∀ iv2 : IV, (∀ i, i < j → iv2 q i = iv p i) → (∀ a, ¬ a = q → iv2 a = iv a) → VM g mX10_copied 2 [(2, .int (nI j)), (0, .ref (p)), (1, .ref (q))] [] S iv2 lw Q := by
    refine up_ind fun j hj ih2 => ?_
    intro iv2 hc hO
    refine V_iload_n (i := 2) dX10_copied_2 rfl 0 rfl ?_
    refine V_aload_n (i := 0) dX10_copied_3 rfl 1 rfl ?_
    refine M_alen (t := 0) dX10_copied_4 (by decide) hp ?_
    refine V_icmp_ge (tgt := 20) dX10_copied_5 rfl (fun h5 => ?_) (fun h5 => ?_)
    · have h5 : 6 ≤ j := (nI_leI (by omega) (by omega)).mp h5
      refine V_vret dX10_copied_20 ⟨rfl, rfl⟩ (Nat.zero_le _) (Nat.zero_le _) ?_
      subst hQ
      exact ⟨_, _, rfl, rfl, rfl, fun i hi => hc i (by omega), hO⟩
    · have h5 : ¬ 6 ≤ j := fun q => h5 ((nI_leI (by omega) (by omega)).mpr q)
      refine V_aload_n (i := 1) dX10_copied_8 rfl 2 rfl ?_
      refine V_iload_n (i := 2) dX10_copied_9 rfl 0 rfl ?_
      refine V_aload_n (i := 0) dX10_copied_10 rfl 1 rfl ?_
      refine V_iload_n (i := 2) dX10_copied_11 rfl 0 rfl ?_
      refine M_ialdn (j := j) (x := iv p j) dX10_copied_12 hp (by decide) (by omega) (congrFun (hO p hd) j) ?_
      refine M_iastn (j := j) dX10_copied_13 hq (by decide) (by omega) ?_
      refine V_iinc (v := nI (j + 1)) (lv2 := [(2, .int (nI (j + 1))), (0, .ref (p)), (1, .ref (q))]) dX10_copied_14 0 rfl (nI_inc _) (by decide) rfl ?_
      refine V_goto (tgt := 2) dX10_copied_17 rfl ?_
      refine V_sub [0, 1, 2] rfl ?_
      exact M_at (ih2 (by omega) _ (rowAdd (f := fun i => iv p i) hc rfl rfl) (fun a ha => (up2_a ha).trans (hO a ha))) (rfl) rfl (rfl) (rfl)
  refine V_sub [0, 1, 2] rfl ?_
  exact M_at (lp2 0 (Nat.zero_le _) iv (fun i hi => absurd hi (by omega)) (fun _ _ => rfl)) (rfl) rfl (rfl) (rfl)
set_option maxRecDepth 20000 in
theorem r_copied8 {g : Ev} {S : St} {iv : IV} {lw : LW} {p q : Nat} (hp : KD S p (1, 8)) (hq : KD S q (1, 8)) (hd : ¬ p = q) : CN g mX10_copied [.ref (p), .ref (q)] S iv lw (fun iv2 lw2 => lw = lw2 ∧ (∀ i, i < 8 → iv2 q i = iv p i) ∧ ∀ a, ¬ a = q → iv2 a = iv a) := by
  refine CT_ofQ rfl (by decide) (Nat.le_of_ble_eq_true rfl) (lv := [(0, .ref (p)), (1, .ref (q))]) rfl (fun Q hQ => ?_)
  refine V_iconst (v := nI 0) dX10_copied_0 rfl ?_
  refine V_istore_n (lv2 := [(2, .int (nI 0)), (0, .ref (p)), (1, .ref (q))]) dX10_copied_1 rfl (by decide) rfl ?_
  have lp2 : ∀ j, j ≤ 8 → ∀ iv2 : IV, (∀ i, i < j → iv2 q i = iv p i) → (∀ a, ¬ a = q → iv2 a = iv a) → VM g mX10_copied 2 [(2, .int (nI j)), (0, .ref (p)), (1, .ref (q))] [] S iv2 lw Q := by
    refine up_ind fun j hj ih2 => ?_
    intro iv2 hc hO
    refine V_iload_n (i := 2) dX10_copied_2 rfl 0 rfl ?_
    refine V_aload_n (i := 0) dX10_copied_3 rfl 1 rfl ?_
    refine M_alen (t := 0) dX10_copied_4 (by decide) hp ?_
    refine V_icmp_ge (tgt := 20) dX10_copied_5 rfl (fun h5 => ?_) (fun h5 => ?_)
    · have h5 : 8 ≤ j := (nI_leI (by omega) (by omega)).mp h5
      refine V_vret dX10_copied_20 ⟨rfl, rfl⟩ (Nat.zero_le _) (Nat.zero_le _) ?_
      subst hQ
      exact ⟨_, _, rfl, rfl, rfl, fun i hi => hc i (by omega), hO⟩
    · have h5 : ¬ 8 ≤ j := fun q => h5 ((nI_leI (by omega) (by omega)).mpr q)
      refine V_aload_n (i := 1) dX10_copied_8 rfl 2 rfl ?_
      refine V_iload_n (i := 2) dX10_copied_9 rfl 0 rfl ?_
      refine V_aload_n (i := 0) dX10_copied_10 rfl 1 rfl ?_
      refine V_iload_n (i := 2) dX10_copied_11 rfl 0 rfl ?_
      refine M_ialdn (j := j) (x := iv p j) dX10_copied_12 hp (by decide) (by omega) (congrFun (hO p hd) j) ?_
      refine M_iastn (j := j) dX10_copied_13 hq (by decide) (by omega) ?_
      refine V_iinc (v := nI (j + 1)) (lv2 := [(2, .int (nI (j + 1))), (0, .ref (p)), (1, .ref (q))]) dX10_copied_14 0 rfl (nI_inc _) (by decide) rfl ?_
      refine V_goto (tgt := 2) dX10_copied_17 rfl ?_
      refine V_sub [0, 1, 2] rfl ?_
      exact M_at (ih2 (by omega) _ (rowAdd (f := fun i => iv p i) hc rfl rfl) (fun a ha => (up2_a ha).trans (hO a ha))) (rfl) rfl (rfl) (rfl)
  refine V_sub [0, 1, 2] rfl ?_
  exact M_at (lp2 0 (Nat.zero_le _) iv (fun i hi => absurd hi (by omega)) (fun _ _ => rfl)) (rfl) rfl (rfl) (rfl)
set_option maxRecDepth 20000 in
theorem r_copied12 {g : Ev} {S : St} {iv : IV} {lw : LW} {p q : Nat} (hp : KD S p (1, 12)) (hq : KD S q (1, 12)) (hd : ¬ p = q) : CN g mX10_copied [.ref (p), .ref (q)] S iv lw (fun iv2 lw2 => lw = lw2 ∧ (∀ i, i < 12 → iv2 q i = iv p i) ∧ ∀ a, ¬ a = q → iv2 a = iv a) := by
  refine CT_ofQ rfl (by decide) (Nat.le_of_ble_eq_true rfl) (lv := [(0, .ref (p)), (1, .ref (q))]) rfl (fun Q hQ => ?_)
  refine V_iconst (v := nI 0) dX10_copied_0 rfl ?_
  refine V_istore_n (lv2 := [(2, .int (nI 0)), (0, .ref (p)), (1, .ref (q))]) dX10_copied_1 rfl (by decide) rfl ?_
  have lp2 : ∀ j, j ≤ 12 → ∀ iv2 : IV, (∀ i, i < j → iv2 q i = iv p i) → (∀ a, ¬ a = q → iv2 a = iv a) → VM g mX10_copied 2 [(2, .int (nI j)), (0, .ref (p)), (1, .ref (q))] [] S iv2 lw Q := by
    refine up_ind fun j hj ih2 => ?_
    intro iv2 hc hO
    refine V_iload_n (i := 2) dX10_copied_2 rfl 0 rfl ?_
    refine V_aload_n (i := 0) dX10_copied_3 rfl 1 rfl ?_
    refine M_alen (t := 0) dX10_copied_4 (by decide) hp ?_
    refine V_icmp_ge (tgt := 20) dX10_copied_5 rfl (fun h5 => ?_) (fun h5 => ?_)
    · have h5 : 12 ≤ j := (nI_leI (by omega) (by omega)).mp h5
      refine V_vret dX10_copied_20 ⟨rfl, rfl⟩ (Nat.zero_le _) (Nat.zero_le _) ?_
      subst hQ
      exact ⟨_, _, rfl, rfl, rfl, fun i hi => hc i (by omega), hO⟩
    · have h5 : ¬ 12 ≤ j := fun q => h5 ((nI_leI (by omega) (by omega)).mpr q)
      refine V_aload_n (i := 1) dX10_copied_8 rfl 2 rfl ?_
      refine V_iload_n (i := 2) dX10_copied_9 rfl 0 rfl ?_
      refine V_aload_n (i := 0) dX10_copied_10 rfl 1 rfl ?_
      refine V_iload_n (i := 2) dX10_copied_11 rfl 0 rfl ?_
      refine M_ialdn (j := j) (x := iv p j) dX10_copied_12 hp (by decide) (by omega) (congrFun (hO p hd) j) ?_
      refine M_iastn (j := j) dX10_copied_13 hq (by decide) (by omega) ?_
      refine V_iinc (v := nI (j + 1)) (lv2 := [(2, .int (nI (j + 1))), (0, .ref (p)), (1, .ref (q))]) dX10_copied_14 0 rfl (nI_inc _) (by decide) rfl ?_
      refine V_goto (tgt := 2) dX10_copied_17 rfl ?_
      refine V_sub [0, 1, 2] rfl ?_
      exact M_at (ih2 (by omega) _ (rowAdd (f := fun i => iv p i) hc rfl rfl) (fun a ha => (up2_a ha).trans (hO a ha))) (rfl) rfl (rfl) (rfl)
  refine V_sub [0, 1, 2] rfl ?_
  exact M_at (lp2 0 (Nat.zero_le _) iv (fun i hi => absurd hi (by omega)) (fun _ _ => rfl)) (rfl) rfl (rfl) (rfl)
set_option maxRecDepth 20000 in
theorem r_takeFrom {g : Ev} {S : St} {iv : IV} {lw : LW} {b s : Nat} (hb : IsMod S b) (hs : IsMod S s) (hd : b + 42 ≤ s ∨ s + 42 ≤ b) {V : Cv} (hV : MC iv s V) (hv : VOK V) : CN g mX10_takeFrom [.ref (b), .ref (s)] S iv lw (fun iv2 lw2 => lw = lw2 ∧ MC iv2 b V ∧ MBt b iv iv2) := by
  refine CT_ofQ rfl (by decide) (Nat.le_of_ble_eq_true rfl) (lv := [(0, .ref (b)), (1, .ref (s))]) rfl (fun Q hQ => ?_)
  have hnc := hv.nc
  have hne := hv.ne
  have hnm := hv.nm
  have hbr : ∀ c, c < 12 → S.2 (b + 17) c = some (b + 18 + c) ∧ KD S (b + 18 + c) (1, 8) := hb.2.2.2.2.2.2.2.2.2.2.2.2.2.2.2.2.2.2.2.2.2.2.2
  have hsr : ∀ c, c < 12 → S.2 (s + 17) c = some (s + 18 + c) ∧ KD S (s + 18 + c) (1, 8) := hs.2.2.2.2.2.2.2.2.2.2.2.2.2.2.2.2.2.2.2.2.2.2.2
  refine V_aload_n (i := 0) dX10_takeFrom_0 rfl 0 rfl ?_
  refine V_aload_n (i := 1) dX10_takeFrom_1 rfl 1 rfl ?_
  refine M_getI (x := nI (v_nc V)) dX10_takeFrom_2 lf_X10_88 rfl hs.1 (hV.nc) ?_
  refine M_putI dX10_takeFrom_5 lf_X10_88 rfl hb.1 ⟨rfl, rfl⟩ ?_
  refine V_iconst (v := nI 0) dX10_takeFrom_8 rfl ?_
  refine V_istore_n (lv2 := [(2, .int (nI 0)), (0, .ref (b)), (1, .ref (s))]) dX10_takeFrom_9 rfl (by decide) rfl ?_
  have lp10 : ∀ j, j ≤ 12 → ∀ iv2 : IV, (∀ c, c < j → ∀ i, i < 8 → iv2 (b + 18 + c) i = iv (s + 18 + c) i) → (∀ a, (a < b + 18 ∨ b + 30 ≤ a) → iv2 a = (up2 iv b 9 (nI (v_nc V))) a) → VM g mX10_takeFrom 10 [(2, .int (nI j)), (0, .ref (b)), (1, .ref (s))] [] S iv2 lw Q := by
    refine up_ind fun j hj ih10 => ?_
    intro iv2 hrw hO2
    refine V_iload_n (i := 2) dX10_takeFrom_10 rfl 0 rfl ?_
    refine V_bipush (v := nI 12) dX10_takeFrom_11 rfl ?_
    refine V_icmp_ge (tgt := 37) dX10_takeFrom_13 rfl (fun h13 => ?_) (fun h13 => ?_)
    · have h13 : 12 ≤ j := (nI_leI (by omega) (by omega)).mp h13
      have hS0 : ∀ a, (a < b ∨ b + 42 ≤ a) → iv2 a = iv a := fun a ha => (hO2 a (by omega)).trans (up2_a (by omega))
      refine V_aload_n (i := 1) dX10_takeFrom_37 rfl 2 rfl ?_
      refine M_getR dX10_takeFrom_38 lf_X10_42 rfl hs.1 hs.2.2.2.2.2.2.2.2.2.2.1.1 ?_
      refine V_aload_n (i := 0) dX10_takeFrom_41 rfl 1 rfl ?_
      refine M_getR dX10_takeFrom_42 lf_X10_42 rfl hb.1 hb.2.2.2.2.2.2.2.2.2.2.1.1 ?_
      refine M_callSn (As := [.ref (s + 30), .ref (b + 30)]) (st := []) dX10_takeFrom_45 ls_X10_342 ⟨by decide, by decide⟩ ⟨rfl, rfl⟩ rfl (Nat.le_of_ble_eq_true rfl) (r_copied12 hs.2.2.2.2.2.2.2.2.2.2.1.2 hb.2.2.2.2.2.2.2.2.2.2.1.2 (by omega)) (fun iv45 lw45 q45 => ?_)
      obtain ⟨e1, hC45, hO45⟩ := q45
      subst e1
      have hS45 : ∀ a, (a < b ∨ b + 42 ≤ a) → iv45 a = iv a := fun a ha => (hO45 a (by omega)).trans (hS0 a ha)
      refine V_aload_n (i := 1) dX10_takeFrom_48 rfl 2 rfl ?_
      refine M_getR dX10_takeFrom_49 lf_X10_45 rfl hs.1 hs.2.2.2.2.2.2.2.2.2.2.2.1.1 ?_
      refine V_aload_n (i := 0) dX10_takeFrom_52 rfl 1 rfl ?_
      refine M_getR dX10_takeFrom_53 lf_X10_45 rfl hb.1 hb.2.2.2.2.2.2.2.2.2.2.2.1.1 ?_
      refine M_callSn (As := [.ref (s + 31), .ref (b + 31)]) (st := []) dX10_takeFrom_56 ls_X10_342 ⟨by decide, by decide⟩ ⟨rfl, rfl⟩ rfl (Nat.le_of_ble_eq_true rfl) (r_copied12 hs.2.2.2.2.2.2.2.2.2.2.2.1.2 hb.2.2.2.2.2.2.2.2.2.2.2.1.2 (by omega)) (fun iv56 lw56 q56 => ?_)
      obtain ⟨e1, hC56, hO56⟩ := q56
      subst e1
      have hS56 : ∀ a, (a < b ∨ b + 42 ≤ a) → iv56 a = iv a := fun a ha => (hO56 a (by omega)).trans (hS45 a ha)
      refine V_aload_n (i := 1) dX10_takeFrom_59 rfl 2 rfl ?_
      refine M_getR dX10_takeFrom_60 lf_X10_48 rfl hs.1 hs.2.2.2.2.2.2.2.2.2.2.2.2.1.1 ?_
      refine V_aload_n (i := 0) dX10_takeFrom_63 rfl 1 rfl ?_
      refine M_getR dX10_takeFrom_64 lf_X10_48 rfl hb.1 hb.2.2.2.2.2.2.2.2.2.2.2.2.1.1 ?_
      refine M_callSn (As := [.ref (s + 32), .ref (b + 32)]) (st := []) dX10_takeFrom_67 ls_X10_342 ⟨by decide, by decide⟩ ⟨rfl, rfl⟩ rfl (Nat.le_of_ble_eq_true rfl) (r_copied12 hs.2.2.2.2.2.2.2.2.2.2.2.2.1.2 hb.2.2.2.2.2.2.2.2.2.2.2.2.1.2 (by omega)) (fun iv67 lw67 q67 => ?_)
      obtain ⟨e1, hC67, hO67⟩ := q67
      subst e1
      have hS67 : ∀ a, (a < b ∨ b + 42 ≤ a) → iv67 a = iv a := fun a ha => (hO67 a (by omega)).trans (hS56 a ha)
      refine V_aload_n (i := 0) dX10_takeFrom_70 rfl 1 rfl ?_
      refine V_aload_n (i := 1) dX10_takeFrom_71 rfl 2 rfl ?_
      refine M_getI (x := nI (v_ne V)) dX10_takeFrom_72 lf_X10_95 rfl hs.1 ((congrFun (hS67 s (by omega)) _).trans hV.ne) ?_
      refine M_putI dX10_takeFrom_75 lf_X10_95 rfl hb.1 ⟨rfl, rfl⟩ ?_
      refine V_aload_n (i := 1) dX10_takeFrom_78 rfl 2 rfl ?_
      refine M_getR dX10_takeFrom_79 lf_X10_51 rfl hs.1 hs.2.2.2.2.2.2.2.2.2.2.2.2.2.1.1 ?_
      refine V_aload_n (i := 0) dX10_takeFrom_82 rfl 1 rfl ?_
      refine M_getR dX10_takeFrom_83 lf_X10_51 rfl hb.1 hb.2.2.2.2.2.2.2.2.2.2.2.2.2.1.1 ?_
      refine M_callSn (As := [.ref (s + 33), .ref (b + 33)]) (st := []) dX10_takeFrom_86 ls_X10_342 ⟨by decide, by decide⟩ ⟨rfl, rfl⟩ rfl (Nat.le_of_ble_eq_true rfl) (r_copied6 hs.2.2.2.2.2.2.2.2.2.2.2.2.2.1.2 hb.2.2.2.2.2.2.2.2.2.2.2.2.2.1.2 (by omega)) (fun iv86 lw86 q86 => ?_)
      obtain ⟨e1, hC86, hO86⟩ := q86
      subst e1
      have hS86 : ∀ a, (a < b ∨ b + 42 ≤ a) → iv86 a = iv a := fun a ha => (hO86 a (by omega)).trans ((up2_a (by omega)).trans (hS67 a ha))
      refine V_aload_n (i := 1) dX10_takeFrom_89 rfl 2 rfl ?_
      refine M_getR dX10_takeFrom_90 lf_X10_54 rfl hs.1 hs.2.2.2.2.2.2.2.2.2.2.2.2.2.2.1.1 ?_
      refine V_aload_n (i := 0) dX10_takeFrom_93 rfl 1 rfl ?_
      refine M_getR dX10_takeFrom_94 lf_X10_54 rfl hb.1 hb.2.2.2.2.2.2.2.2.2.2.2.2.2.2.1.1 ?_
      refine M_callSn (As := [.ref (s + 34), .ref (b + 34)]) (st := []) dX10_takeFrom_97 ls_X10_342 ⟨by decide, by decide⟩ ⟨rfl, rfl⟩ rfl (Nat.le_of_ble_eq_true rfl) (r_copied6 hs.2.2.2.2.2.2.2.2.2.2.2.2.2.2.1.2 hb.2.2.2.2.2.2.2.2.2.2.2.2.2.2.1.2 (by omega)) (fun iv97 lw97 q97 => ?_)
      obtain ⟨e1, hC97, hO97⟩ := q97
      subst e1
      have hS97 : ∀ a, (a < b ∨ b + 42 ≤ a) → iv97 a = iv a := fun a ha => (hO97 a (by omega)).trans (hS86 a ha)
      refine V_aload_n (i := 0) dX10_takeFrom_100 rfl 1 rfl ?_
      refine V_aload_n (i := 1) dX10_takeFrom_101 rfl 2 rfl ?_
      refine M_getI (x := nI (v_nm V)) dX10_takeFrom_102 lf_X10_98 rfl hs.1 ((congrFun (hS97 s (by omega)) _).trans hV.nm) ?_
      refine M_putI dX10_takeFrom_105 lf_X10_98 rfl hb.1 ⟨rfl, rfl⟩ ?_
      refine V_aload_n (i := 1) dX10_takeFrom_108 rfl 2 rfl ?_
      refine M_getR dX10_takeFrom_109 lf_X10_57 rfl hs.1 hs.2.2.2.2.2.2.2.2.2.2.2.2.2.2.2.1.1 ?_
      refine V_aload_n (i := 0) dX10_takeFrom_112 rfl 1 rfl ?_
      refine M_getR dX10_takeFrom_113 lf_X10_57 rfl hb.1 hb.2.2.2.2.2.2.2.2.2.2.2.2.2.2.2.1.1 ?_
      refine M_callSn (As := [.ref (s + 35), .ref (b + 35)]) (st := []) dX10_takeFrom_116 ls_X10_342 ⟨by decide, by decide⟩ ⟨rfl, rfl⟩ rfl (Nat.le_of_ble_eq_true rfl) (r_copied8 hs.2.2.2.2.2.2.2.2.2.2.2.2.2.2.2.1.2 hb.2.2.2.2.2.2.2.2.2.2.2.2.2.2.2.1.2 (by omega)) (fun iv116 lw116 q116 => ?_)
      obtain ⟨e1, hC116, hO116⟩ := q116
      subst e1
      have hS116 : ∀ a, (a < b ∨ b + 42 ≤ a) → iv116 a = iv a := fun a ha => (hO116 a (by omega)).trans ((up2_a (by omega)).trans (hS97 a ha))
      refine V_aload_n (i := 1) dX10_takeFrom_119 rfl 2 rfl ?_
      refine M_getR dX10_takeFrom_120 lf_X10_60 rfl hs.1 hs.2.2.2.2.2.2.2.2.2.2.2.2.2.2.2.2.1.1 ?_
      refine V_aload_n (i := 0) dX10_takeFrom_123 rfl 1 rfl ?_
      refine M_getR dX10_takeFrom_124 lf_X10_60 rfl hb.1 hb.2.2.2.2.2.2.2.2.2.2.2.2.2.2.2.2.1.1 ?_
      refine M_callSn (As := [.ref (s + 36), .ref (b + 36)]) (st := []) dX10_takeFrom_127 ls_X10_342 ⟨by decide, by decide⟩ ⟨rfl, rfl⟩ rfl (Nat.le_of_ble_eq_true rfl) (r_copied8 hs.2.2.2.2.2.2.2.2.2.2.2.2.2.2.2.2.1.2 hb.2.2.2.2.2.2.2.2.2.2.2.2.2.2.2.2.1.2 (by omega)) (fun iv127 lw127 q127 => ?_)
      obtain ⟨e1, hC127, hO127⟩ := q127
      subst e1
      have hS127 : ∀ a, (a < b ∨ b + 42 ≤ a) → iv127 a = iv a := fun a ha => (hO127 a (by omega)).trans (hS116 a ha)
      refine V_aload_n (i := 0) dX10_takeFrom_130 rfl 1 rfl ?_
      refine V_aload_n (i := 1) dX10_takeFrom_131 rfl 2 rfl ?_
      refine M_getI (x := nI (v_su V)) dX10_takeFrom_132 lf_X10_63 rfl hs.1 ((congrFun (hS127 s (by omega)) _).trans hV.su) ?_
      refine M_putI dX10_takeFrom_135 lf_X10_63 rfl hb.1 ⟨rfl, rfl⟩ ?_
      refine V_aload_n (i := 0) dX10_takeFrom_138 rfl 1 rfl ?_
      refine V_aload_n (i := 1) dX10_takeFrom_139 rfl 2 rfl ?_
      refine M_getI (x := nI (v_lo V)) dX10_takeFrom_140 lf_X10_67 rfl hs.1 ((up2_ne (by omega)).trans ((congrFun (hS127 s (by omega)) _).trans hV.lo)) ?_
      refine M_putI dX10_takeFrom_143 lf_X10_67 rfl hb.1 ⟨rfl, rfl⟩ ?_
      refine V_aload_n (i := 0) dX10_takeFrom_146 rfl 1 rfl ?_
      refine V_aload_n (i := 1) dX10_takeFrom_147 rfl 2 rfl ?_
      refine M_getI (x := v_se V) dX10_takeFrom_148 lf_X10_70 rfl hs.1 ((up2_ne (by omega)).trans ((up2_ne (by omega)).trans ((congrFun (hS127 s (by omega)) _).trans hV.se))) ?_
      refine M_putI dX10_takeFrom_151 lf_X10_70 rfl hb.1 ⟨rfl, rfl⟩ ?_
      refine V_vret dX10_takeFrom_154 ⟨rfl, rfl⟩ (Nat.zero_le _) (Nat.zero_le _) ?_
      subst hQ
      refine ⟨_, _, rfl, rfl, rfl, ⟨⟨(up2_k (by decide)).trans ((up2_k (by decide)).trans ((up2_k (by decide)).trans ((congrFun (hO127 _ (by omega)) _).trans ((congrFun (hO116 _ (by omega)) _).trans ((up2_k (by decide)).trans ((congrFun (hO97 _ (by omega)) _).trans ((congrFun (hO86 _ (by omega)) _).trans ((up2_k (by decide)).trans ((congrFun (hO67 _ (by omega)) _).trans ((congrFun (hO56 _ (by omega)) _).trans ((congrFun (hO45 _ (by omega)) _).trans ((congrFun (hO2 _ (by omega)) _).trans up2_s)))))))))))), (up2_k (by decide)).trans ((up2_k (by decide)).trans ((up2_k (by decide)).trans ((congrFun (hO127 _ (by omega)) _).trans ((congrFun (hO116 _ (by omega)) _).trans ((up2_k (by decide)).trans ((congrFun (hO97 _ (by omega)) _).trans ((congrFun (hO86 _ (by omega)) _).trans (up2_s)))))))), (up2_k (by decide)).trans ((up2_k (by decide)).trans ((up2_k (by decide)).trans ((congrFun (hO127 _ (by omega)) _).trans ((congrFun (hO116 _ (by omega)) _).trans (up2_s))))), (up2_k (by decide)).trans ((up2_k (by decide)).trans (up2_s)), (up2_k (by decide)).trans (up2_s), up2_s⟩, fun c hc => ⟨(up2_ne (by omega)).trans ((up2_ne (by omega)).trans ((up2_ne (by omega)).trans ((congrFun (hO127 _ (by omega)) _).trans ((congrFun (hO116 _ (by omega)) _).trans ((up2_ne (by omega)).trans ((congrFun (hO97 _ (by omega)) _).trans ((congrFun (hO86 _ (by omega)) _).trans ((up2_ne (by omega)).trans ((congrFun (hO67 _ (by omega)) _).trans ((congrFun (hO56 _ (by omega)) _).trans ((hC45 _ (by omega)).trans ((congrFun (hS0 _ (by omega)) _).trans (hV.sz hc))))))))))))), (up2_ne (by omega)).trans ((up2_ne (by omega)).trans ((up2_ne (by omega)).trans ((congrFun (hO127 _ (by omega)) _).trans ((congrFun (hO116 _ (by omega)) _).trans ((up2_ne (by omega)).trans ((congrFun (hO97 _ (by omega)) _).trans ((congrFun (hO86 _ (by omega)) _).trans ((up2_ne (by omega)).trans ((congrFun (hO67 _ (by omega)) _).trans ((hC56 _ (by omega)).trans ((congrFun (hS45 _ (by omega)) _).trans (hV.us hc)))))))))))), (up2_ne (by omega)).trans ((up2_ne (by omega)).trans ((up2_ne (by omega)).trans ((congrFun (hO127 _ (by omega)) _).trans ((congrFun (hO116 _ (by omega)) _).trans ((up2_ne (by omega)).trans ((congrFun (hO97 _ (by omega)) _).trans ((congrFun (hO86 _ (by omega)) _).trans ((up2_ne (by omega)).trans ((hC67 _ (by omega)).trans ((congrFun (hS56 _ (by omega)) _).trans (hV.co hc)))))))))))⟩, fun c hc i hi => ?_, fun e he => ⟨(up2_ne (by omega)).trans ((up2_ne (by omega)).trans ((up2_ne (by omega)).trans ((congrFun (hO127 _ (by omega)) _).trans ((congrFun (hO116 _ (by omega)) _).trans ((up2_ne (by omega)).trans ((congrFun (hO97 _ (by omega)) _).trans ((hC86 _ (by omega)).trans (((up2_ne (by omega)).trans (congrFun (hS67 _ (by omega)) _)).trans (hV.kd he))))))))), (up2_ne (by omega)).trans ((up2_ne (by omega)).trans ((up2_ne (by omega)).trans ((congrFun (hO127 _ (by omega)) _).trans ((congrFun (hO116 _ (by omega)) _).trans ((up2_ne (by omega)).trans ((hC97 _ (by omega)).trans ((congrFun (hS86 _ (by omega)) _).trans (hV.by he))))))))⟩, fun m hm => ⟨(up2_ne (by omega)).trans ((up2_ne (by omega)).trans ((up2_ne (by omega)).trans ((congrFun (hO127 _ (by omega)) _).trans ((hC116 _ (by omega)).trans (((up2_ne (by omega)).trans (congrFun (hS97 _ (by omega)) _)).trans (hV.eo hm)))))), (up2_ne (by omega)).trans ((up2_ne (by omega)).trans ((up2_ne (by omega)).trans ((hC127 _ (by omega)).trans ((congrFun (hS116 _ (by omega)) _).trans (hV.lk hm)))))⟩⟩, fun a k p1 p2 => ?_⟩
      · have hs8 := hv.sz hc
        exact (up2_ne (by omega)).trans ((up2_ne (by omega)).trans ((up2_ne (by omega)).trans ((congrFun (hO127 _ (by omega)) _).trans ((congrFun (hO116 _ (by omega)) _).trans ((up2_ne (by omega)).trans ((congrFun (hO97 _ (by omega)) _).trans ((congrFun (hO86 _ (by omega)) _).trans ((up2_ne (by omega)).trans ((congrFun (hO67 _ (by omega)) _).trans ((congrFun (hO56 _ (by omega)) _).trans ((congrFun (hO45 _ (by omega)) _).trans ((hrw c (by omega) i (by omega)).trans (hV.nt hc hi)))))))))))))
      · by_cases e : a = b
        · subst e; have p3 := p1 rfl; exact (up2_k (by omega)).trans ((up2_k (by omega)).trans ((up2_k (by omega)).trans ((congrFun (hO127 _ (by omega)) _).trans ((congrFun (hO116 _ (by omega)) _).trans ((up2_k (by omega)).trans ((congrFun (hO97 _ (by omega)) _).trans ((congrFun (hO86 _ (by omega)) _).trans ((up2_k (by omega)).trans ((congrFun (hO67 _ (by omega)) _).trans ((congrFun (hO56 _ (by omega)) _).trans ((congrFun (hO45 _ (by omega)) _).trans ((congrFun (hO2 _ (by omega)) _).trans (up2_k (by omega))))))))))))))
        · exact (up2_ne e).trans ((up2_ne e).trans ((up2_ne e).trans ((congrFun (hO127 _ (by omega)) _).trans ((congrFun (hO116 _ (by omega)) _).trans ((up2_ne e).trans ((congrFun (hO97 _ (by omega)) _).trans ((congrFun (hO86 _ (by omega)) _).trans ((up2_ne e).trans ((congrFun (hO67 _ (by omega)) _).trans ((congrFun (hO56 _ (by omega)) _).trans ((congrFun (hO45 _ (by omega)) _).trans ((congrFun (hO2 _ (by omega)) _).trans (up2_ne e)))))))))))))
    · have h13 : ¬ 12 ≤ j := fun q => h13 ((nI_leI (by omega) (by omega)).mpr q)
      refine V_aload_n (i := 1) dX10_takeFrom_16 rfl 2 rfl ?_
      refine M_getR dX10_takeFrom_17 lf_X10_39 rfl hs.1 hs.2.2.2.2.2.2.2.2.2.1.1 ?_
      refine V_iload_n (i := 2) dX10_takeFrom_20 rfl 0 rfl ?_
      refine M_aaldn (t := 1) (j := j) dX10_takeFrom_21 (by decide) hs.2.2.2.2.2.2.2.2.2.1.2 (by decide) (by omega) ((hs.2.2.2.2.2.2.2.2.2.2.2.2.2.2.2.2.2.2.2.2.2.2.2 j (by omega)).1) ?_
      refine V_aload_n (i := 0) dX10_takeFrom_22 rfl 1 rfl ?_
      refine M_getR dX10_takeFrom_23 lf_X10_39 rfl hb.1 hb.2.2.2.2.2.2.2.2.2.1.1 ?_
      refine V_iload_n (i := 2) dX10_takeFrom_26 rfl 0 rfl ?_
      refine M_aaldn (t := 1) (j := j) dX10_takeFrom_27 (by decide) hb.2.2.2.2.2.2.2.2.2.1.2 (by decide) (by omega) ((hb.2.2.2.2.2.2.2.2.2.2.2.2.2.2.2.2.2.2.2.2.2.2.2 j (by omega)).1) ?_
      refine M_callSn (As := [.ref (s + 18 + j), .ref (b + 18 + j)]) (st := []) dX10_takeFrom_28 ls_X10_342 ⟨by decide, by decide⟩ ⟨rfl, rfl⟩ rfl (Nat.le_of_ble_eq_true rfl) (r_copied8 (hsr j (by omega)).2 (hbr j (by omega)).2 (by omega)) (fun iv28 lw28 q28 => ?_)
      obtain ⟨e1, hC28, hO28⟩ := q28
      subst e1
      refine V_iinc (v := nI (j + 1)) (lv2 := [(2, .int (nI (j + 1))), (0, .ref (b)), (1, .ref (s))]) dX10_takeFrom_31 0 rfl (nI_inc _) (by decide) rfl ?_
      refine V_goto (tgt := 10) dX10_takeFrom_34 rfl ?_
      refine V_sub [0, 1, 2] rfl ?_
      exact M_at (ih10 (by omega) iv28 (fun c hc i hi => if e : c = j then by rw [e]; exact (hC28 i hi).trans ((congrFun (hO2 _ (by omega)) i).trans (up2_ne (by omega))) else (congrFun (hO28 _ (by omega)) i).trans (hrw c (by omega) i hi)) (fun a ha => (hO28 a (by omega)).trans (hO2 a ha))) (rfl) rfl (rfl) (rfl)
  refine V_sub [0, 1, 2] rfl ?_
  exact M_at (lp10 0 (Nat.zero_le _) (up2 iv b 9 (nI (v_nc V))) (fun c hc => absurd hc (by omega)) (fun _ _ => rfl)) (rfl) rfl (rfl) (rfl)
