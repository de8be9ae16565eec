/-! the reference reads statements -/
theorem r_inF {g : Ev} {S : St} {iv : IV} {lw : LW} {x lo hi : Nat} {L M : Int32} (hx : x < 2 ^ 31) (hL : L.toInt = lo) (hM : M.toInt = (hi : Int) - 1) : CP g mX10_in [.long (nI x).toInt64, .long L.toInt64, .long M.toInt64] S iv lw (.int (bI (lo ≤ x ∧ x < hi))) := r_in.eq (congrArg Value.int (bI_congr (by rw [i64, i64, i64, nI_toInt hx, hL, hM]; omega)))
theorem k2_dig {n s : Nat} {f : Nat → Nat} : kdT n f s = 2 ↔ digB n f s = true := by
  have hk := k_eq (n := n) (s := s) (f := f)
  constructor
  · intro h
    rcases hk with h1 | h1 | h1 | h1 | h1
    · omega
    · omega
    · exact h1.2.1
    · omega
    · omega
  · intro h
    have h2 := of_decide_eq_true h
    exact k_2 h2.1 (fun z => by have := of_decide_eq_true z; omega) h
theorem fig_le {n s : Nat} {f : Nat → Nat} (h : kdT n f s = 2) : figT n f s ≤ 100000 := by
  unfold figT figK
  split
  · rename_i h4
    have h2 := numTo_lt (f := f) (s := s) (nxE n f s - s) (fun i hi => (of_decide_eq_true (nx_dig (k2_dig.mp h) (s + i) (by omega) (by omega))).2.2)
    have h5 : 10 ^ (nxE n f s - s) ≤ 10 ^ 4 := Nat.pow_le_pow_right (by decide) h4
    omega
  · omega
theorem num_y {n s lo hi : Nat} {f : Nat → Nat} (h : kdT n f s = 2) (h1 : lo ≤ figT n f s ∧ figT n f s < hi) (hh : hi ≤ 2000) : rdNum lo hi (nhO n f s (nxE n f s)) = some (figT n f s) := by
  have h4 : nxE n f s - s ≤ 4 := by
    apply Decidable.byContradiction
    intro z
    have : figT n f s = 100000 := if_neg z
    omega
  have h5 : nhO n f s (nxE n f s) = some (figT n f s) := by
    unfold nhO
    rw [if_pos ⟨k2_dig.mp h, h4⟩]
    unfold figT figK
    rw [if_pos h4]
  rw [h5]
  exact if_pos h1
theorem num_n {n s lo hi : Nat} {f : Nat → Nat} (h : ¬ (kdT n f s = 2 ∧ lo ≤ figT n f s ∧ figT n f s < hi)) : rdNum lo hi (nhO n f s (nxE n f s)) = none := by
  by_cases h2 : kdT n f s = 2
  · unfold nhO
    by_cases h4 : nxE n f s - s ≤ 4
    · rw [if_pos ⟨k2_dig.mp h2, h4⟩]
      have : figT n f s = numTo f s (nxE n f s - s) := by unfold figT figK; rw [if_pos h4]
      exact if_neg (by rw [← this]; exact fun z => h ⟨h2, z⟩)
    · rw [if_neg (fun z => h4 z.2)]
      rfl
  · unfold nhO
    rw [if_neg (fun z => h2 (k2_dig.mpr z.1))]
    rfl
/-- a number has been wanted at s -/
def NMq (b n : Nat) (f : Nat → Nat) (s i lo hi : Nat) (iv : IV) (w : Value) (iv2 : IV) : Prop := w = .int (bI ((rdNum lo hi (nhO n f s (nxE n f s))).isSome = true)) ∧ (∀ v, rdNum lo hi (nhO n f s (nxE n f s)) = some v → iv2 (b + 37) i = nI v ∧ MTk iv2 b n f (tok n f (nxE n f s)).1) ∧ (rdNum lo hi (nhO n f s (nxE n f s)) = none → iv2 b 29 = nI s) ∧ ∀ a k, ¬ (a = b ∧ 25 ≤ k ∧ k ≤ 29) → ¬ (a = b + 37 ∧ k = i) → iv2 a k = iv a k
theorem NMq.mb {b n s i lo hi : Nat} {f : Nat → Nat} {iv iv2 : IV} {w : Value} (h : NMq b n f s i lo hi iv w iv2) : MA b iv iv2 := fun a k p q => h.2.2.2 a k (fun z => by have := p z.1; omega) (by omega)
theorem MTt.ma {b : Nat} {iv iv2 : IV} (h : MTt b iv iv2) : MA b iv iv2 := fun a k p q => h a k (fun z => by have := p z.1; omega)
theorem MA.mt {b n : Nat} {f : Nat → Nat} {iv iv2 : IV} (h : MA b iv iv2) (hT : MT iv b n f) : MT iv2 b n f := hT.fr (h _ _ (by omega) (by omega)) (fun k => h _ _ (by omega) (by omega))
theorem MB.mt {b n : Nat} {f : Nat → Nat} {iv iv2 : IV} (h : MB b iv iv2) (hT : MT iv b n f) : MT iv2 b n f := hT.fr (h _ _ (by omega) (by omega)) (fun k => h _ _ (by omega) (by omega))
theorem so_t {o : Option Nat} (h : o.isSome = true) : ∃ v, o = some v := Option.isSome_iff_exists.mp h
theorem so_f {o : Option Nat} (h : ¬ o.isSome = true) : o = none := by
  cases o with
  | none => rfl
  | some v => exact absurd rfl h
/-- a statement has been read -/
def STq (b n : Nat) (f : Nat → Nat) (iv : IV) (r : Rs) (w : Value) (iv2 : IV) : Prop := w = .int (bI (okR r = true)) ∧ (∀ x, r = .ok x → MC iv2 b x.1 ∧ MTk iv2 b n f x.2.1 ∧ x.2.2 = nxE n f x.2.1) ∧ (∀ q, r = .error q → iv2 b 29 = nI q) ∧ MB b iv iv2 ∧ iv2 b 31 = iv b 31
theorem STq.er {b n q : Nat} {f : Nat → Nat} {iv iv2 : IV} {r : Rs} (hr : r = .error q) (h29 : iv2 b 29 = nI q) (hB : MB b iv iv2) (h31 : iv2 b 31 = iv b 31) : STq b n f iv r (.int (nI 0)) iv2 := by
  subst hr
  exact ⟨(congrArg Value.int (bI_f (fun z => Bool.noConfusion z))).symm, fun x z => (by cases z), fun q2 z => (by cases z; exact h29), hB, h31⟩
theorem STq.ok {b n : Nat} {f : Nat → Nat} {iv iv2 : IV} {r : Rs} {x : Cv × (Nat × Nat)} (hr : r = .ok x) (hC : MC iv2 b x.1) (hk : MTk iv2 b n f x.2.1) (h2 : x.2.2 = nxE n f x.2.1) (hB : MB b iv iv2) (h31 : iv2 b 31 = iv b 31) : STq b n f iv r (.int (nI 1)) iv2 := by
  subst hr
  exact ⟨(congrArg Value.int (bI_t (rfl : okR (.ok x) = true))).symm, fun y z => (by cases z; exact ⟨hC, hk, h2⟩), fun q2 z => (by cases z), hB, h31⟩
theorem rdSet_n {lo hi n e : Nat} {f : Nat → Nat} {F : Nat → Cv} (h : rdNum lo hi (nhO n f (tok n f e).1 (nxE n f (tok n f e).1)) = none) : rdSet lo hi F n f (tok n f e) = .error (tok n f e).1 := by
  unfold rdSet
  rw [show nhT n f (tok n f e) = nhO n f (tok n f e).1 (nxE n f (tok n f e).1) from rfl, h]
theorem rdSet_s {lo hi n e v : Nat} {f : Nat → Nat} {F : Nat → Cv} (h : rdNum lo hi (nhO n f (tok n f e).1 (nxE n f (tok n f e).1)) = some v) : rdSet lo hi F n f (tok n f e) = .ok (F v, tok n f (nxE n f (tok n f e).1)) := by
  unfold rdSet
  rw [show nhT n f (tok n f e) = nhO n f (tok n f e).1 (nxE n f (tok n f e).1) from rfl, h]
  rfl
theorem rdTwo_n {lo hi lo2 hi2 n e : Nat} {f : Nat → Nat} {F : Nat → Nat → Cv} (h : rdNum lo hi (nhO n f (tok n f e).1 (nxE n f (tok n f e).1)) = none) : rdTwo lo hi lo2 hi2 F n f (tok n f e) = .error (tok n f e).1 := by
  unfold rdTwo
  rw [show nhT n f (tok n f e) = nhO n f (tok n f e).1 (nxE n f (tok n f e).1) from rfl, h]
theorem rdTwo_s {lo hi lo2 hi2 n e v : Nat} {f : Nat → Nat} {F : Nat → Nat → Cv} (h : rdNum lo hi (nhO n f (tok n f e).1 (nxE n f (tok n f e).1)) = some v) : rdTwo lo hi lo2 hi2 F n f (tok n f e) = rdSet lo2 hi2 (F v) n f (tok n f (nxE n f (tok n f e).1)) := by
  unfold rdTwo
  rw [show nhT n f (tok n f e) = nhO n f (tok n f e).1 (nxE n f (tok n f e).1) from rfl, h]
  rfl
theorem rdNum_in {lo hi v : Nat} {o : Option Nat} (h : rdNum lo hi o = some v) : lo ≤ v ∧ v < hi := by
  cases o with
  | none => cases h
  | some x =>
    unfold rdNum at h
    simp only at h
    split at h
    · cases h; assumption
    · cases h
theorem nx_let {n : Nat} {f : Nat → Nat} {s : Nat} (h : letB n f s = true) : ∀ k, s ≤ k → k < nxE n f s → letB n f k = true := fun k h1 h2 => by
  unfold nxE at h2
  rw [if_pos h] at h2
  exact runTo_all h1 h2
theorem ct_let {n s : Nat} {f : Nat → Nat} (h : ¬ ctN n f s (nxE n f s) = 0) : letB n f s = true := by
  obtain ⟨h1, h2⟩ := ct_in h
  have h3 := of_decide_eq_true (h2 0 (by omega))
  rw [Nat.add_zero] at h3
  unfold letB
  rw [decide_eq_true_eq]
  omega
theorem addNs_nTo {V : Cv} {f : Nat → Nat} {s : Nat} : ∀ k, addNs V f s k = nTo (v_addC V 1 0) (fun i => f (s + i) - 97) k
  | 0 => rfl
  | k + 1 => by
    show v_addN (addNs V f s k) _ = v_addN (nTo _ _ k) _
    rw [addNs_nTo k]
theorem addc_set {V W : Cv} {n u k u2 k2 : Nat} {h : Nat → Nat} (hA : AddC V W n h u2 k2) : AddC V (v_setK (v_setU W (v_nc V) u) (v_nc V) k) n h u k := by
  obtain ⟨⟨a1, a2, a3, a4, a5, a6⟩, ⟨b1, b2, b3, b4⟩, c1, d1, e1⟩ := hA
  have hu : ∀ c, v_us (v_setK (v_setU W (v_nc V) u) (v_nc V) k) c = if c = v_nc V then u else v_us W c := fun c => by
    have h1 : v_us (v_setK (v_setU W (v_nc V) u) (v_nc V) k) c = v_us (v_setU W (v_nc V) u) c := by
      show ((if c = v_nc V then (((v_setU W (v_nc V) u).2.2.2.1 c).1, k) else (v_setU W (v_nc V) u).2.2.2.1 c) : Nat × Nat).1 = _
      split <;> rfl
    rw [h1]
    exact ite_fst
  have hc : ∀ c, v_co (v_setK (v_setU W (v_nc V) u) (v_nc V) k) c = if c = v_nc V then k else v_co W c := fun c => by
    have h1 : v_co (v_setU W (v_nc V) u) c = v_co W c := by
      show ((if c = v_nc V then (u, (W.2.2.2.1 c).2) else W.2.2.2.1 c) : Nat × Nat).2 = _
      split <;> rfl
    rw [← h1]
    exact ite_snd
  refine ⟨⟨a1, a2, a3, a4, a5, a6⟩, ⟨b1, b2, by rw [hu, if_pos rfl], by rw [hc, if_pos rfl]⟩, fun c hcc => ⟨(c1 c hcc).1, (c1 c hcc).2.1, ?_, ?_⟩, d1, e1⟩
  · rw [hu, if_neg (by omega)]; exact (c1 c hcc).2.2.1
  · rw [hc, if_neg (by omega)]; exact (c1 c hcc).2.2.2
theorem addNs_add {V : Cv} {f : Nat → Nat} {s N u k : Nat} : AddC V (v_setK (v_setU (addNs V f s N) (v_nc V) u) (v_nc V) k) N (fun i => f (s + i) - 97) u k := by
  rw [addNs_nTo]
  exact addc_set (nTo_add N)
theorem w_ne {n s i j : Nat} {f : Nat → Nat} (h : wordB n f s (nxE n f s) i = true) (hi : i < 6) (hj : j < 6) (hne : ¬ i = j) : ¬ wordB n f s (nxE n f s) j = true := fun h2 => by
  unfold wordB at h h2
  rw [Bool.and_eq_true] at h h2
  have a1 := of_decide_eq_true ((allTo_iff (sl i)).mp h.2 0 (by have := sl_3 i hi; omega))
  have a2 := of_decide_eq_true ((allTo_iff (sl j)).mp h2.2 0 (by have := sl_3 j hj; omega))
  have a3 := a1.symm.trans a2
  have : ∀ i, i < 6 → ∀ j, j < 6 → wch i 0 = wch j 0 → i = j := by decide +kernel
  exact hne (this i hi j hj a3)
theorem ct_z {x : Nat} (h : ¬ ¬ x = 0) : x = 0 := Decidable.not_not.mp h
theorem ct_n8 (n : Nat) (f : Nat → Nat) (s e : Nat) : ctN n f s e ≤ 8 := by unfold ctN; split <;> omega
theorem ct_y {n s e : Nat} {f : Nat → Nat} (h : e - s ≤ 8) (h2 : ∀ i, i < e - s → tnB n f (s + i) = true) : ctN n f s e = e - s := if_pos ⟨h, (allTo_iff (e - s)).mpr h2⟩
theorem rdCall_e {n : Nat} {f : Nat → Nat} {V : Cv} {t : Nat × Nat} (h : ctN n f t.1 t.2 = 0) : rdCall n f V t = .error t.1 := if_pos h
theorem rdCall_g {n N : Nat} {f : Nat → Nat} {V : Cv} {t : Nat × Nat} (h : ctN n f t.1 t.2 = N) (h0 : ¬ N = 0) : rdCall n f V t = rdTwo 1 100 0 100 (fun u k => v_setK (v_setU (addNs V f t.1 N) (v_nc V) u) (v_nc V) k) n f (tok n f t.2) := by
  subst h
  exact if_neg h0
theorem told_ab {iv : IV} {b v1 v2 : Nat} (h1 : iv (b + 37) 0 = nI v1) (h2 : iv (b + 37) 1 = nI v2) (i : Nat) (hi : i < 2) : iv (b + 37) i = nI (if i = 0 then v1 else v2) := by
  by_cases e : i = 0
  · rw [if_pos e, e]; exact h1
  · rw [if_neg e, show i = 1 by omega]; exact h2
theorem nx_pos {n s : Nat} {f : Nat → Nat} (h : letB n f s = true) : s < nxE n f s := by
  have h1 := (of_decide_eq_true h).1
  have h2 : nxE n f s = runTo (letB n f) n s := by unfold nxE; rw [if_pos h]
  apply Decidable.byContradiction
  intro z
  have h3 := nx_le (f := f) (Nat.le_of_lt h1)
  have h4 : fstTo (fun i => !letB n f (s + i)) (n - s) = 0 := by unfold runTo at h2; omega
  have h5 : ∀ m, 0 < m → fstTo (fun i => !letB n f (s + i)) m = 0 → letB n f s = false := by
    intro m
    induction m with
    | zero => intro q; omega
    | succ m ih =>
      intro _ q
      unfold fstTo at q
      split at q
      · rename_i q2
        exact ih (by omega) q
      · split at q
        · rename_i q3
          subst q
          have q4 : (!letB n f (s + 0)) = true := q3
          rw [Nat.add_zero] at q4
          cases hl : letB n f s
          · rfl
          · rw [hl] at q4; cases q4
        · omega
  have h6 := h5 (n - s) (by omega) h4
  rw [h] at h6
  cases h6
set_option maxRecDepth 20000 in
theorem r_number {g : Ev} {S : St} {iv : IV} {lw : LW} {b : Nat} (hb : IsMod S b) {n : Nat} {f : Nat → Nat} (hT : MT iv b n f) (hq : tpQ n f) {s : Nat} (hk : MTk iv b n f s) {i lo hi : Nat} {L M : Int32} (hi2 : i < 2) (hL : L.toInt = lo) (hM : M.toInt = (hi : Int) - 1) (hh : hi ≤ 2000) : CQ g mX10_number [.ref (b), .int (nI i), .int (L), .int (M)] S iv lw (fun w iv2 lw2 => lw = lw2 ∧ NMq b n f s i lo hi iv w iv2) := by
  refine CT_ofQ rfl (by decide) (Nat.le_of_ble_eq_true rfl) (lv := [(0, .ref (b)), (1, .int (nI i)), (2, .int (L)), (3, .int (M))]) rfl (fun Q hQ => ?_)
  have hn250 := hq.1
  have hkk := k_eq (n := n) (s := s) (f := f)
  have hk4 : kdT n f s ≤ 4 := by omega
  have hnx := nx_le (f := f) hk.1
  refine V_aload_n (i := 0) dX10_number_0 rfl 0 rfl ?_
  refine M_getI (x := nI (kdT n f s)) dX10_number_1 lf_X10_176 rfl hb.1 (hk.2.2.1) ?_
  refine V_iconst (v := nI 2) dX10_number_4 rfl ?_
  refine V_icmp_ne (tgt := 23) dX10_number_5 rfl (fun h5 => ?_) (fun h5 => ?_)
  · have h5 : ¬ (kdT n f s) = 2 := fun q => h5 ((nI_eq (by omega) (by omega)).mpr q)
    refine V_aload_n (i := 0) dX10_number_23 rfl 0 rfl ?_
    refine M_callVq (As := []) (st := []) dX10_number_24 lv_X10_199 ⟨by decide, by decide⟩ ⟨rfl, rfl⟩ rfl (ci := 7) hb.1 rfl rfl (Nat.le_of_ble_eq_true rfl) (r_wrong hb hk.2.1) (fun w24 iv24 lw24 q24 => ?_)
    obtain ⟨rfl, e1, e2⟩ := q24
    subst e1
    subst e2
    refine V_zret dX10_number_27 ⟨rfl, rfl⟩ (by rfl) (Nat.zero_le _) (Nat.zero_le _) ?_
    subst hQ
    have hr9 := num_n (lo := lo) (hi := hi) (fun z => h5 z.1)
    exact ⟨_, _, _, rfl, rfl, rfl, by rw [hr9]; rfl, fun v z => (by rw [hr9] at z; cases z), fun _ => up2_s, fun a k p q => up2_o (by omega)⟩
  · have h5 : (kdT n f s) = 2 := (nI_eq (by omega) (by omega)).mp h5
    have hfg := hk.2.2.2.2 (by omega)
    have hfl := fig_le (show kdT n f s = 2 by omega)
    refine V_aload_n (i := 0) dX10_number_8 rfl 0 rfl ?_
    refine M_getI (x := nI (figT n f s)) dX10_number_9 lf_X10_173 rfl hb.1 (hfg) ?_
    refine V_i2l dX10_number_12 ?_
    refine V_iload_n (i := 2) dX10_number_13 rfl 2 rfl ?_
    refine V_i2l dX10_number_14 ?_
    refine V_iload_n (i := 3) dX10_number_15 rfl 3 rfl ?_
    refine V_i2l dX10_number_16 ?_
    refine M_callSp (As := [.long ((nI (figT n f s)).toInt64), .long ((L).toInt64), .long ((M).toInt64)]) (st := []) dX10_number_17 ls_X10_91 ⟨by decide, by decide⟩ ⟨rfl, rfl⟩ rfl (Nat.le_of_ble_eq_true rfl) (r_inF (by omega) hL hM) ?_
    refine V_if_ne (tgt := 28) dX10_number_20 rfl (fun h20 => ?_) (fun h20 => ?_)
    · have h20 : lo ≤ figT n f s ∧ figT n f s < hi := bI_ne.mp h20
      refine V_aload_n (i := 0) dX10_number_28 rfl 0 rfl ?_
      refine M_getR dX10_number_29 lf_X10_73 rfl hb.1 hb.2.2.2.2.2.2.2.2.2.2.2.2.2.2.2.2.2.1.1 ?_
      refine V_iload_n (i := 1) dX10_number_32 rfl 1 rfl ?_
      refine V_aload_n (i := 0) dX10_number_33 rfl 0 rfl ?_
      refine M_getI (x := nI (figT n f s)) dX10_number_34 lf_X10_173 rfl hb.1 (hfg) ?_
      refine M_iastn (j := i) dX10_number_37 hb.2.2.2.2.2.2.2.2.2.2.2.2.2.2.2.2.2.1.2 (by decide) (by omega) ?_
      refine V_aload_n (i := 0) dX10_number_38 rfl 0 rfl ?_
      have hr9 := num_y (by omega) h20 hh
      have h25 : up2 iv (b + 37) i (nI (figT n f s)) b 25 = nI (nxE n f s) := (up2_ne (by omega)).trans (hk.2.2.2.1.trans (by rw [at_n (by omega)]))
      have hT2 : MT (up2 iv (b + 37) i (nI (figT n f s))) b n f := hT.fr (up2_ne (by omega)) (fun k => up2_ne (by omega))
      refine M_callVn (As := []) (st := []) dX10_number_39 lv_X10_203 ⟨by decide, by decide⟩ ⟨rfl, rfl⟩ rfl (ci := 7) hb.1 rfl rfl (Nat.le_of_ble_eq_true rfl) (r_token hb hT2 hq hnx.2 h25) (fun iv39 lw39 q39 => ?_)
      obtain ⟨e1, hK39, hO39⟩ := q39
      subst e1
      refine V_iconst (v := nI 1) dX10_number_42 rfl ?_
      refine V_zret dX10_number_43 ⟨rfl, rfl⟩ (by rfl) (Nat.zero_le _) (Nat.zero_le _) ?_
      subst hQ
      exact ⟨_, _, _, rfl, rfl, rfl, by rw [hr9]; rfl, fun v z => (by rw [hr9] at z; cases z; exact ⟨(hO39 _ _ (by omega)).trans up2_s, hK39⟩), fun z => (by rw [hr9] at z; cases z), fun a k p q => (hO39 a k (by omega)).trans (up2_o q)⟩
    · have h20 : ¬ (lo ≤ figT n f s ∧ figT n f s < hi) := bI_eq0.mp h20
      refine V_aload_n (i := 0) dX10_number_23 rfl 0 rfl ?_
      refine M_callVq (As := []) (st := []) dX10_number_24 lv_X10_199 ⟨by decide, by decide⟩ ⟨rfl, rfl⟩ rfl (ci := 7) hb.1 rfl rfl (Nat.le_of_ble_eq_true rfl) (r_wrong hb hk.2.1) (fun w24 iv24 lw24 q24 => ?_)
      obtain ⟨rfl, e1, e2⟩ := q24
      subst e1
      subst e2
      refine V_zret dX10_number_27 ⟨rfl, rfl⟩ (by rfl) (Nat.zero_le _) (Nat.zero_le _) ?_
      subst hQ
      have hr9 := num_n (lo := lo) (hi := hi) (fun z => h20 z.2)
      exact ⟨_, _, _, rfl, rfl, rfl, by rw [hr9]; rfl, fun v z => (by rw [hr9] at z; cases z), fun _ => up2_s, fun a k p q => up2_o (by omega)⟩
set_option maxRecDepth 20000 in
theorem r_tells {g : Ev} {S : St} {iv : IV} {lw : LW} {b : Nat} (hb : IsMod S b) {n : Nat} {f : Nat → Nat} (hT : MT iv b n f) (hq : tpQ n f) {e : Nat} (he : e ≤ n) (h25 : iv b 25 = nI e) {lo hi : Nat} {L M : Int32} (hL : L.toInt = lo) (hM : M.toInt = (hi : Int) - 1) (hh : hi ≤ 2000) : CQ g mX10_tells [.ref (b), .int (L), .int (M)] S iv lw (fun w iv2 lw2 => lw = lw2 ∧ NMq b n f (tok n f e).1 0 lo hi iv w iv2) := by
  refine CT_ofQ rfl (by decide) (Nat.le_of_ble_eq_true rfl) (lv := [(0, .ref (b)), (1, .int (L)), (2, .int (M))]) rfl (fun Q hQ => ?_)
  refine V_aload_n (i := 0) dX10_tells_0 rfl 0 rfl ?_
  refine M_callVn (As := []) (st := []) dX10_tells_1 lv_X10_203 ⟨by decide, by decide⟩ ⟨rfl, rfl⟩ rfl (ci := 7) hb.1 rfl rfl (Nat.le_of_ble_eq_true rfl) (r_token hb hT hq he h25) (fun iv1 lw1 q1 => ?_)
  obtain ⟨e1, hK1, hO1⟩ := q1
  subst e1
  refine V_aload_n (i := 0) dX10_tells_4 rfl 0 rfl ?_
  refine V_iconst (v := nI 0) dX10_tells_5 rfl ?_
  refine V_iload_n (i := 1) dX10_tells_6 rfl 1 rfl ?_
  refine V_iload_n (i := 2) dX10_tells_7 rfl 2 rfl ?_
  refine M_callVq (As := [.int (nI 0), .int (L), .int (M)]) (st := []) dX10_tells_8 lv_X10_205 ⟨by decide, by decide⟩ ⟨rfl, rfl⟩ rfl (ci := 7) hb.1 rfl rfl (Nat.le_of_ble_eq_true rfl) (r_number hb (hO1.mt hT) hq hK1 (i := 0) (by decide) hL hM hh) (fun w8 iv8 lw8 q8 => ?_)
  obtain ⟨e1, rfl, hN1, hN2, hN3⟩ := q8
  subst e1
  refine V_zret dX10_tells_11 ⟨rfl, rfl⟩ (bI_nar) (Nat.zero_le _) (Nat.zero_le _) ?_
  subst hQ
  exact ⟨_, _, _, rfl, rfl, rfl, rfl, hN1, hN2, fun a k p q => (hN3 a k p q).trans (hO1 a k (by omega))⟩
set_option maxRecDepth 20000 in
theorem r_callTold {g : Ev} {S : St} {iv : IV} {lw : LW} {b : Nat} (hb : IsMod S b) {n : Nat} {f : Nat → Nat} (hT : MT iv b n f) (hq : tpQ n f) {V : Cv} (hV : MC iv b V) (hv : VOK V) (hn12 : v_nc V < 12) {e : Nat} (he : e ≤ n) (h25 : iv b 25 = nI e) : CQ g mX10_callTold [.ref (b)] S iv lw (fun w iv2 lw2 => lw = lw2 ∧ STq b n f iv (rdCall n f V (tok n f e)) w iv2) := by
  refine CT_ofQ rfl (by decide) (Nat.le_of_ble_eq_true rfl) (lv := [(0, .ref (b))]) rfl (fun Q hQ => ?_)
  have hn250 := hq.1
  have hnc := hv.nc
  refine V_aload_n (i := 0) dX10_callTold_0 rfl 0 rfl ?_
  refine M_callVn (As := []) (st := []) dX10_callTold_1 lv_X10_203 ⟨by decide, by decide⟩ ⟨rfl, rfl⟩ rfl (ci := 7) hb.1 rfl rfl (Nat.le_of_ble_eq_true rfl) (r_token hb hT hq he h25) (fun iv1 lw1 q1 => ?_)
  obtain ⟨e1, hk, hO1⟩ := q1
  subst e1
  have hT1 := hO1.mt hT
  have hkk := k_eq (n := n) (s := (tok n f e).1) (f := f)
  have hnx := nx_le (f := f) hk.1
  have hV1 := hV.ma hv hO1.ma
  have hat9 : (tok n f e).1 ≤ atT n f (tok n f e).1 := by unfold atT; split <;> omega
  refine V_aload_n (i := 0) dX10_callTold_4 rfl 0 rfl ?_
  refine M_getI (x := nI (atT n f (tok n f e).1)) dX10_callTold_5 lf_X10_167 rfl hb.1 (hk.2.2.2.1) ?_
  refine V_aload_n (i := 0) dX10_callTold_8 rfl 0 rfl ?_
  refine M_getI (x := nI (tok n f e).1) dX10_callTold_9 lf_X10_170 rfl hb.1 (hk.2.1) ?_
  refine V_isub dX10_callTold_12 ?_
  refine M_top (x2 := nI (atT n f (tok n f e).1 - (tok n f e).1)) (nI_sub hat9) ?_
  refine V_istore_n (lv2 := [(1, .int (nI (atT n f (tok n f e).1 - (tok n f e).1))), (0, .ref (b))]) dX10_callTold_13 rfl (by decide) rfl ?_
  refine V_aload_n (i := 0) dX10_callTold_14 rfl 1 rfl ?_
  refine M_getI (x := nI (kdT n f (tok n f e).1)) dX10_callTold_15 lf_X10_176 rfl hb.1 (hk.2.2.1) ?_
  refine V_iconst (v := nI 1) dX10_callTold_18 rfl ?_
  have hk4 : kdT n f (tok n f e).1 ≤ 4 := by omega
  have hat5 : atT n f (tok n f e).1 ≤ n + 1 := by unfold atT; split <;> omega
  refine V_icmp_ne (tgt := 28) dX10_callTold_19 rfl (fun h19 => ?_) (fun h19 => ?_)
  · have h19 : ¬ (kdT n f (tok n f e).1) = 1 := fun q => h19 ((nI_eq (by omega) (by omega)).mpr q)
    refine V_aload_n (i := 0) dX10_callTold_28 rfl 1 rfl ?_
    refine M_callVq (As := []) (st := []) dX10_callTold_29 lv_X10_199 ⟨by decide, by decide⟩ ⟨rfl, rfl⟩ rfl (ci := 7) hb.1 rfl rfl (Nat.le_of_ble_eq_true rfl) (r_wrong hb hk.2.1) (fun w29 iv29 lw29 q29 => ?_)
    obtain ⟨rfl, e1, e2⟩ := q29
    subst e1
    subst e2
    refine V_zret dX10_callTold_32 ⟨rfl, rfl⟩ (by rfl) (Nat.zero_le _) (Nat.zero_le _) ?_
    subst hQ
    exact ⟨_, _, _, rfl, rfl, rfl, STq.er (rdCall_e (t := tok n f e) (show ctN n f (tok n f e).1 (nxE n f (tok n f e).1) = 0 from ct_z (fun z => h19 (let_k (ct_let z))))) up2_s ((hO1.ma.mb).up (by omega)) ((up2_k (by decide)).trans (hO1 _ _ (by omega)))⟩
  · have h19 : (kdT n f (tok n f e).1) = 1 := (nI_eq (by omega) (by omega)).mp h19
    have hle9 : letB n f (tok n f e).1 = true := by rcases hkk with z | z | z | z | z <;> first | exact z.2 | omega
    refine M_at (lv2 := [(1, .int (nI ((nxE n f (tok n f e).1) - (tok n f e).1))), (0, .ref (b))]) (st2 := []) ?_ (by rw [at_n (by omega)]) rfl rfl rfl
    refine V_iload_n (i := 1) dX10_callTold_22 rfl 0 rfl ?_
    refine V_bipush (v := nI 8) dX10_callTold_23 rfl ?_
    refine V_icmp_le (tgt := 33) dX10_callTold_25 rfl (fun h25 => ?_) (fun h25 => ?_)
    · have h25 : ((nxE n f (tok n f e).1) - (tok n f e).1) ≤ 8 := (nI_leI (by omega) (by omega)).mp h25
      refine V_iconst (v := nI 0) dX10_callTold_33 rfl ?_
      refine V_istore_n (lv2 := [(2, .int (nI 0)), (1, .int (nI ((nxE n f (tok n f e).1) - (tok n f e).1))), (0, .ref (b))]) dX10_callTold_34 rfl (by decide) rfl ?_
      have lp35 : ∀ j, j ≤ ((nxE n f (tok n f e).1) - (tok n f e).1) → ∀ iv2 : IV, (∀ q, q < j → iv2 (b + 18 + v_nc V) q = nI (f ((tok n f e).1 + q) - 97)) → (∀ a, ¬ a = (b + 18 + v_nc V) → iv2 a = iv1 a) → (∀ q, q < j → tnB n f ((tok n f e).1 + q) = true) → VM g mX10_callTold 35 [(2, .int (nI j)), (0, .ref (b)), (1, .int (nI (((nxE n f (tok n f e).1) - (tok n f e).1))))] [] S iv2 lw Q := by
        refine up_ind fun j hj ih35 => ?_
        intro iv2 hrw hO2 htn
        refine V_iload_n (i := 2) dX10_callTold_35 rfl 0 rfl ?_
        refine V_iload_n (i := 1) dX10_callTold_36 rfl 2 rfl ?_
        refine V_icmp_ge (tgt := 92) dX10_callTold_37 rfl (fun h37 => ?_) (fun h37 => ?_)
        · have h37 : (((nxE n f (tok n f e).1) - (tok n f e).1)) ≤ j := (nI_leI (by omega) (by omega)).mp h37
          refine V_aload_n (i := 0) dX10_callTold_92 rfl 1 rfl ?_
          have hj9 : j = ((nxE n f (tok n f e).1) - (tok n f e).1) := by omega
          have hct : ctN n f (tok n f e).1 (nxE n f (tok n f e).1) = ((nxE n f (tok n f e).1) - (tok n f e).1) := ct_y (by omega) (fun i hi => htn i (by omega))
          have hN0 : ¬ ((nxE n f (tok n f e).1) - (tok n f e).1) = 0 := fun z => by have := nx_pos hle9; omega
          have hrc := rdCall_g (V := V) (t := tok n f e) hct hN0
          have hT2 : MT iv2 b n f := hT1.fr (congrFun (hO2 _ (by omega)) _) (fun k => congrFun (hO2 _ (by omega)) _)
          have h252 : iv2 b 25 = nI (nxE n f (tok n f e).1) := (congrFun (hO2 _ (by omega)) _).trans (hk.2.2.2.1.trans (by rw [at_n (by omega)]))
          have hBc : MB b iv iv2 := fun a q p1 p2 => (congrFun (hO2 a (by omega)) q).trans (hO1.ma.mb a q p1 p2)
          refine M_callVn (As := []) (st := []) dX10_callTold_93 lv_X10_203 ⟨by decide, by decide⟩ ⟨rfl, rfl⟩ rfl (ci := 7) hb.1 rfl rfl (Nat.le_of_ble_eq_true rfl) (r_token hb hT2 hq hnx.2 h252) (fun iv93 lw93 q93 => ?_)
          obtain ⟨e1, hk93, hO93⟩ := q93
          subst e1
          have hT93 := hO93.mt hT2
          refine V_aload_n (i := 0) dX10_callTold_96 rfl 1 rfl ?_
          refine V_iconst (v := nI 0) dX10_callTold_97 rfl ?_
          refine V_iconst (v := nI 1) dX10_callTold_98 rfl ?_
          refine V_bipush (v := nI 99) dX10_callTold_99 rfl ?_
          refine M_callVq (As := [.int (nI 0), .int (nI 1), .int (nI 99)]) (st := []) dX10_callTold_101 lv_X10_205 ⟨by decide, by decide⟩ ⟨rfl, rfl⟩ rfl (ci := 7) hb.1 rfl rfl (Nat.le_of_ble_eq_true rfl) (r_number hb hT93 hq hk93 (i := 0) (lo := 1) (hi := 100) (by decide) (by decide) (by decide) (by omega)) (fun w101 iv101 lw101 q101 => ?_)
          obtain ⟨e1, hn101⟩ := q101
          subst e1
          obtain ⟨rfl, hN101, hE101, hO101⟩ := hn101
          refine V_if_eq (tgt := 118) dX10_callTold_104 rfl (fun h104 => ?_) (fun h104 => ?_)
          · have h104 : ¬ ((rdNum (1) (100) (nhO n f (tok n f (nxE n f (tok n f e).1)).1 (nxE n f (tok n f (nxE n f (tok n f e).1)).1))).isSome = true) := bI_eq0.mp h104
            have h104 := so_f h104
            refine V_iconst (v := nI 0) dX10_callTold_118 rfl ?_
            refine V_zret dX10_callTold_119 ⟨rfl, rfl⟩ (by rfl) (Nat.zero_le _) (Nat.zero_le _) ?_
            subst hQ
            have hB9 : MB b iv iv101 := fun a q p1 p2 => (hO101 a q (fun z => by have := p1 z.1; omega) (by omega)).trans ((hO93.ma.mb a q p1 p2).trans (hBc a q p1 p2))
            have h319 : iv101 b 31 = iv b 31 := (hO101 _ _ (by omega) (by omega)).trans ((hO93 _ _ (by omega)).trans ((congrFun (hO2 _ (by omega)) _).trans (hO1 _ _ (by omega))))
            exact ⟨_, _, _, rfl, rfl, rfl, STq.er (hrc.trans (rdTwo_n h104)) (hE101 h104) hB9 h319⟩
          · have h104 : (rdNum (1) (100) (nhO n f (tok n f (nxE n f (tok n f e).1)).1 (nxE n f (tok n f (nxE n f (tok n f e).1)).1))).isSome = true := bI_ne.mp h104
            obtain ⟨v1, h104⟩ := so_t h104
            refine V_aload_n (i := 0) dX10_callTold_107 rfl 1 rfl ?_
            refine V_iconst (v := nI 1) dX10_callTold_108 rfl ?_
            refine V_iconst (v := nI 0) dX10_callTold_109 rfl ?_
            refine V_bipush (v := nI 99) dX10_callTold_110 rfl ?_
            obtain ⟨hv1, hk101⟩ := hN101 v1 h104
            have hT101 : MT iv101 b n f := hT93.fr (hO101 _ _ (by omega) (by omega)) (fun k => hO101 _ _ (by omega) (by omega))
            refine M_callVq (As := [.int (nI 1), .int (nI 0), .int (nI 99)]) (st := []) dX10_callTold_112 lv_X10_205 ⟨by decide, by decide⟩ ⟨rfl, rfl⟩ rfl (ci := 7) hb.1 rfl rfl (Nat.le_of_ble_eq_true rfl) (r_number hb hT101 hq hk101 (i := 1) (lo := 0) (hi := 100) (by decide) (by decide) (by decide) (by omega)) (fun w112 iv112 lw112 q112 => ?_)
            obtain ⟨e1, hn112⟩ := q112
            subst e1
            obtain ⟨rfl, hN112, hE112, hO112⟩ := hn112
            refine V_if_ne (tgt := 120) dX10_callTold_115 rfl (fun h115 => ?_) (fun h115 => ?_)
            · have h115 : (rdNum 0 100 (nhO n f (tok n f (nxE n f (tok n f (nxE n f (tok n f e).1)).1)).1 (nxE n f (tok n f (nxE n f (tok n f (nxE n f (tok n f e).1)).1)).1))).isSome = true := bI_ne.mp h115
              obtain ⟨v2, h115⟩ := so_t h115
              refine V_aload_n (i := 0) dX10_callTold_120 rfl 1 rfl ?_
              obtain ⟨hv2, hk112⟩ := hN112 v2 h115
              have hv1c : iv112 (b + 37) 0 = nI v1 := (hO112 _ _ (by omega) (by omega)).trans hv1
              have hoth : ∀ a q, ¬ (a = b ∧ 25 ≤ q ∧ q ≤ 29) → ¬ a = b + 37 → ¬ a = (b + 18 + v_nc V) → iv112 a q = iv a q := fun a q p1 p2 p3 => (hO112 a q p1 (by omega)).trans ((hO101 a q p1 (by omega)).trans ((hO93 a q (by omega)).trans ((congrFun (hO2 a p3) q).trans (hO1 a q (by omega)))))
              have h9c : iv112 b 9 = nI (v_nc V) := (hoth _ _ (by omega) (by omega) (by omega)).trans hV.nc
              refine V_iload_n (i := 1) dX10_callTold_121 rfl 2 rfl ?_
              refine V_aload_n (i := 0) dX10_callTold_122 rfl 1 rfl ?_
              refine M_getR dX10_callTold_123 lf_X10_73 rfl hb.1 hb.2.2.2.2.2.2.2.2.2.2.2.2.2.2.2.2.2.1.1 ?_
              refine V_iconst (v := nI 0) dX10_callTold_126 rfl ?_
              refine M_ialdn (j := 0) (x := nI v1) dX10_callTold_127 hb.2.2.2.2.2.2.2.2.2.2.2.2.2.2.2.2.2.1.2 (by decide) (by omega) (hv1c) ?_
              refine V_aload_n (i := 0) dX10_callTold_128 rfl 1 rfl ?_
              refine M_getR dX10_callTold_129 lf_X10_73 rfl hb.1 hb.2.2.2.2.2.2.2.2.2.2.2.2.2.2.2.2.2.1.1 ?_
              refine V_iconst (v := nI 1) dX10_callTold_132 rfl ?_
              refine M_ialdn (j := 1) (x := nI v2) dX10_callTold_133 hb.2.2.2.2.2.2.2.2.2.2.2.2.2.2.2.2.2.1.2 (by decide) (by omega) (hv2) ?_
              refine M_callVn (As := [.int (nI (((nxE n f (tok n f e).1) - (tok n f e).1))), .int (nI v1), .int (nI v2)]) (st := []) dX10_callTold_134 lv_X10_143 ⟨by decide, by decide⟩ ⟨rfl, rfl⟩ rfl (ci := 7) hb.1 rfl rfl (Nat.le_of_ble_eq_true rfl) (r_addCall hb (q := v_nc V) (m := ((nxE n f (tok n f e).1) - (tok n f e).1)) (u := v1) (k := v2) h9c hn12) (fun iv134 lw134 q134 => ?_)
              obtain ⟨e1, e2⟩ := q134
              subst e1
              subst e2
              refine V_iconst (v := nI 1) dX10_callTold_137 rfl ?_
              refine V_zret dX10_callTold_138 ⟨rfl, rfl⟩ (by rfl) (Nat.zero_le _) (Nat.zero_le _) ?_
              subst hQ
              have hB9 : MB b iv (up2 (up2 (up2 (up2 iv112 (b + 30) (v_nc V) (nI ((nxE n f (tok n f e).1) - (tok n f e).1))) (b + 31) (v_nc V) (nI v1)) (b + 32) (v_nc V) (nI v2)) b 9 (nI (v_nc V + 1))) := ((((MB.up (fun a q p1 p2 => hoth a q (fun z => by have := p1 z.1; omega) (by omega) (by omega)) (by omega)).up (by omega)).up (by omega)).up (by omega))
              have hu1 := rdNum_in h104
              have hu2 := rdNum_in h115
              have hMCn := mc_add (iv := iv) (iv2 := (up2 (up2 (up2 (up2 iv112 (b + 30) (v_nc V) (nI ((nxE n f (tok n f e).1) - (tok n f e).1))) (b + 31) (v_nc V) (nI v1)) (b + 32) (v_nc V) (nI v2)) b 9 (nI (v_nc V + 1)))) (h := fun i => f ((tok n f e).1 + i) - 97) (addNs_add (V := V) (f := f) (s := (tok n f e).1) (N := ((nxE n f (tok n f e).1) - (tok n f e).1)) (u := v1) (k := v2)) hv hn12 hV up2_s ((up2_ne (by omega)).trans ((up2_ne (by omega)).trans ((up2_ne (by omega)).trans up2_s))) ((up2_ne (by omega)).trans ((up2_ne (by omega)).trans up2_s)) ((up2_ne (by omega)).trans up2_s) (fun i hi => by rw [up2_ne (by omega), up2_ne (by omega), up2_ne (by omega), up2_ne (by omega)]; exact (hO112 _ _ (by omega) (by omega)).trans ((hO101 _ _ (by omega) (by omega)).trans ((hO93 _ _ (by omega)).trans (hrw i (by omega))))) (fun a q g1 g2 g3 g4 g5 => by rw [up2_o (by omega), up2_o (by omega), up2_o (by omega), up2_o (by omega)]; exact hoth a q (fun z => by have := g4 z.1; omega) (by omega) g3)
              have hk9 : MTk (up2 (up2 (up2 (up2 iv112 (b + 30) (v_nc V) (nI ((nxE n f (tok n f e).1) - (tok n f e).1))) (b + 31) (v_nc V) (nI v1)) (b + 32) (v_nc V) (nI v2)) b 9 (nI (v_nc V + 1))) b n f (tok n f (nxE n f (tok n f (nxE n f (tok n f (nxE n f (tok n f e).1)).1)).1)).1 := ⟨hk112.1, (up2_k (by decide)).trans ((up2_ne (by omega)).trans ((up2_ne (by omega)).trans ((up2_ne (by omega)).trans hk112.2.1))), (up2_k (by decide)).trans ((up2_ne (by omega)).trans ((up2_ne (by omega)).trans ((up2_ne (by omega)).trans hk112.2.2.1))), (up2_k (by decide)).trans ((up2_ne (by omega)).trans ((up2_ne (by omega)).trans ((up2_ne (by omega)).trans hk112.2.2.2.1))), fun z => (up2_k (by decide)).trans ((up2_ne (by omega)).trans ((up2_ne (by omega)).trans ((up2_ne (by omega)).trans (hk112.2.2.2.2 z))))⟩
              exact ⟨_, _, _, rfl, rfl, rfl, STq.ok (hrc.trans ((rdTwo_s h104).trans (rdSet_s h115))) hMCn hk9 rfl hB9 ((up2_k (by decide)).trans ((up2_ne (by omega)).trans ((up2_ne (by omega)).trans ((up2_ne (by omega)).trans (hoth _ _ (by omega) (by omega) (by omega))))))⟩
            · have h115 : ¬ ((rdNum 0 100 (nhO n f (tok n f (nxE n f (tok n f (nxE n f (tok n f e).1)).1)).1 (nxE n f (tok n f (nxE n f (tok n f (nxE n f (tok n f e).1)).1)).1))).isSome = true) := bI_eq0.mp h115
              have h115 := so_f h115
              refine V_iconst (v := nI 0) dX10_callTold_118 rfl ?_
              refine V_zret dX10_callTold_119 ⟨rfl, rfl⟩ (by rfl) (Nat.zero_le _) (Nat.zero_le _) ?_
              subst hQ
              have hB9 : MB b iv iv101 := fun a q p1 p2 => (hO101 a q (fun z => by have := p1 z.1; omega) (by omega)).trans ((hO93.ma.mb a q p1 p2).trans (hBc a q p1 p2))
              have h319 : iv101 b 31 = iv b 31 := (hO101 _ _ (by omega) (by omega)).trans ((hO93 _ _ (by omega)).trans ((congrFun (hO2 _ (by omega)) _).trans (hO1 _ _ (by omega))))
              exact ⟨_, _, _, rfl, rfl, rfl, STq.er (hrc.trans ((rdTwo_s h104).trans (rdSet_n h115))) (hE112 h115) (fun a q p1 p2 => (hO112 a q (fun z => by have := p1 z.1; omega) (by omega)).trans (hB9 a q p1 p2)) ((hO112 _ _ (by omega) (by omega)).trans h319)⟩
        · have h37 : ¬ (((nxE n f (tok n f e).1) - (tok n f e).1)) ≤ j := fun q => h37 ((nI_leI (by omega) (by omega)).mpr q)
          refine V_aload_n (i := 0) dX10_callTold_40 rfl 1 rfl ?_
          refine M_getR dX10_callTold_41 lf_X10_31 rfl hb.1 hb.2.2.2.2.2.2.2.1.1 ?_
          refine V_aload_n (i := 0) dX10_callTold_44 rfl 1 rfl ?_
          refine M_getI (x := nI (tok n f e).1) dX10_callTold_45 lf_X10_170 rfl hb.1 ((congrFun (hO2 _ (by omega)) _).trans hk.2.1) ?_
          refine V_iload_n (i := 2) dX10_callTold_48 rfl 0 rfl ?_
          refine V_iadd dX10_callTold_49 ?_
          refine M_top (nI_add _ _) ?_
          have hlj := of_decide_eq_true (nx_let hle9 ((tok n f e).1 + j) (by omega) (by omega))
          refine M_ialdn (j := ((tok n f e).1 + j)) (x := nI (f ((tok n f e).1 + j))) dX10_callTold_50 hb.2.2.2.2.2.2.2.1.2 (by decide) (by omega) ((congrFun (hO2 _ (by omega)) _).trans (hT1.2 ((tok n f e).1 + j) (by omega))) ?_
          refine V_bipush (v := nI 101) dX10_callTold_51 rfl ?_
          refine V_icmp_le (tgt := 61) dX10_callTold_53 rfl (fun h53 => ?_) (fun h53 => ?_)
          · have h53 : (f ((tok n f e).1 + j)) ≤ 101 := (nI_leI (by omega) (by omega)).mp h53
            refine V_aload_n (i := 0) dX10_callTold_61 rfl 1 rfl ?_
            refine M_getR dX10_callTold_62 lf_X10_39 rfl hb.1 hb.2.2.2.2.2.2.2.2.2.1.1 ?_
            refine V_aload_n (i := 0) dX10_callTold_65 rfl 1 rfl ?_
            refine M_getI (x := nI (v_nc V)) dX10_callTold_66 lf_X10_88 rfl hb.1 ((congrFun (hO2 _ (by omega)) _).trans hV1.nc) ?_
            refine M_aaldn (t := 1) (j := (v_nc V)) dX10_callTold_69 (by decide) hb.2.2.2.2.2.2.2.2.2.1.2 (by decide) (by omega) ((hb.2.2.2.2.2.2.2.2.2.2.2.2.2.2.2.2.2.2.2.2.2.2.2 (v_nc V) (by omega)).1) ?_
            refine V_iload_n (i := 2) dX10_callTold_70 rfl 0 rfl ?_
            refine V_aload_n (i := 0) dX10_callTold_71 rfl 1 rfl ?_
            refine M_getR dX10_callTold_72 lf_X10_31 rfl hb.1 hb.2.2.2.2.2.2.2.1.1 ?_
            refine V_aload_n (i := 0) dX10_callTold_75 rfl 1 rfl ?_
            refine M_getI (x := nI (tok n f e).1) dX10_callTold_76 lf_X10_170 rfl hb.1 ((congrFun (hO2 _ (by omega)) _).trans hk.2.1) ?_
            refine V_iload_n (i := 2) dX10_callTold_79 rfl 0 rfl ?_
            refine V_iadd dX10_callTold_80 ?_
            refine M_top (nI_add _ _) ?_
            refine M_ialdn (j := ((tok n f e).1 + j)) (x := nI (f ((tok n f e).1 + j))) dX10_callTold_81 hb.2.2.2.2.2.2.2.1.2 (by decide) (by omega) ((congrFun (hO2 _ (by omega)) _).trans (hT1.2 ((tok n f e).1 + j) (by omega))) ?_
            refine V_bipush (v := nI 97) dX10_callTold_82 rfl ?_
            refine V_isub dX10_callTold_84 ?_
            refine M_top (x2 := nI (f ((tok n f e).1 + j) - 97)) (nI_sub (by omega)) ?_
            refine M_iastn (j := j) dX10_callTold_85 (hb.2.2.2.2.2.2.2.2.2.2.2.2.2.2.2.2.2.2.2.2.2.2.2 (v_nc V) (by omega)).2 (by decide) (by omega) ?_
            refine V_iinc (v := nI (j + 1)) (lv2 := [(2, .int (nI (j + 1))), (0, .ref (b)), (1, .int (nI (((nxE n f (tok n f e).1) - (tok n f e).1))))]) dX10_callTold_86 0 rfl (nI_inc _) (by decide) rfl ?_
            refine V_goto (tgt := 35) dX10_callTold_89 rfl ?_
            refine V_sub [0, 1, 2] rfl ?_
            exact M_at (ih35 (by omega) _ (rowAdd (f := fun q => nI (f ((tok n f e).1 + q) - 97)) hrw rfl rfl) (fun a ha => (up2_a ha).trans (hO2 a ha)) (fun q hq => if e9 : q = j then e9 ▸ decide_eq_true ⟨by omega, by omega, by omega⟩ else htn q (by omega))) (rfl) rfl (rfl) (rfl)
          · have h53 : ¬ (f ((tok n f e).1 + j)) ≤ 101 := fun q => h53 ((nI_leI (by omega) (by omega)).mpr q)
            refine V_aload_n (i := 0) dX10_callTold_56 rfl 1 rfl ?_
            refine M_callVq (As := []) (st := []) dX10_callTold_57 lv_X10_199 ⟨by decide, by decide⟩ ⟨rfl, rfl⟩ rfl (ci := 7) hb.1 rfl rfl (Nat.le_of_ble_eq_true rfl) (r_wrong hb ((congrFun (hO2 _ (by omega)) _).trans hk.2.1)) (fun w57 iv57 lw57 q57 => ?_)
            obtain ⟨rfl, e1, e2⟩ := q57
            subst e1
            subst e2
            refine V_zret dX10_callTold_60 ⟨rfl, rfl⟩ (by rfl) (Nat.zero_le _) (Nat.zero_le _) ?_
            subst hQ
            have hBc : MB b iv iv2 := fun a q p1 p2 => (congrFun (hO2 a (by omega)) q).trans (hO1.ma.mb a q p1 p2)
            exact ⟨_, _, _, rfl, rfl, rfl, STq.er (rdCall_e (t := tok n f e) (show ctN n f (tok n f e).1 (nxE n f (tok n f e).1) = 0 from ct_z (fun z => by have h9 := of_decide_eq_true ((ct_in z).2 j (by have := (ct_in z).1; omega)); omega))) up2_s (hBc.up (by omega)) ((up2_k (by decide)).trans ((congrFun (hO2 _ (by omega)) _).trans (hO1 _ _ (by omega))))⟩
      refine V_sub [0, 2, 1] rfl ?_
      exact M_at (lp35 0 (Nat.zero_le _) iv1 (fun q hq => absurd hq (by omega)) (fun _ _ => rfl) (fun q hq => absurd hq (by omega))) (rfl) rfl (rfl) (rfl)
    · have h25 : ¬ ((nxE n f (tok n f e).1) - (tok n f e).1) ≤ 8 := fun q => h25 ((nI_leI (by omega) (by omega)).mpr q)
      refine V_aload_n (i := 0) dX10_callTold_28 rfl 1 rfl ?_
      refine M_callVq (As := []) (st := []) dX10_callTold_29 lv_X10_199 ⟨by decide, by decide⟩ ⟨rfl, rfl⟩ rfl (ci := 7) hb.1 rfl rfl (Nat.le_of_ble_eq_true rfl) (r_wrong hb hk.2.1) (fun w29 iv29 lw29 q29 => ?_)
      obtain ⟨rfl, e1, e2⟩ := q29
      subst e1
      subst e2
      refine V_zret dX10_callTold_32 ⟨rfl, rfl⟩ (by rfl) (Nat.zero_le _) (Nat.zero_le _) ?_
      subst hQ
      exact ⟨_, _, _, rfl, rfl, rfl, STq.er (rdCall_e (t := tok n f e) (show ctN n f (tok n f e).1 (nxE n f (tok n f e).1) = 0 from ct_z (fun z => by have := (ct_in z).1; have := ct_n8 n f (tok n f e).1 (nxE n f (tok n f e).1); omega))) up2_s ((hO1.ma.mb).up (by omega)) ((up2_k (by decide)).trans (hO1 _ _ (by omega)))⟩
