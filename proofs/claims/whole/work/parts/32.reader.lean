/-! Reader -/
theorem fst_lt {p : Nat → Bool} : ∀ n i, i < fstTo p n → p i = false
  | 0, i, h => by have h2 : i < 0 := h; omega
  | n + 1, i, h => by
    unfold fstTo at h
    split at h
    · exact fst_lt n i h
    · rename_i h2
      have h3 := fstTo_le p n
      have h4 : fstTo p n = n := by omega
      split at h
      · exact fst_lt n i (by omega)
      · rename_i h5
        by_cases e : i = n
        · subst e; exact Bool.eq_false_iff.mpr h5
        · exact fst_lt n i (by omega)
theorem runTo_all {p : Nat → Bool} {n k j : Nat} (h1 : k ≤ j) (h2 : j < runTo p n k) : p j = true := by
  have h := fst_lt (n - k) (j - k) (show j - k < fstTo (fun i => !p (k + i)) (n - k) by unfold runTo at h2; omega)
  have h3 : (!p (k + (j - k))) = false := h
  rw [show k + (j - k) = j by omega] at h3
  cases hp : p j
  · rw [hp] at h3; cases h3
  · rfl
theorem nx_dig {n : Nat} {f : Nat → Nat} {s : Nat} (h : digB n f s = true) : ∀ k, s ≤ k → k < nxE n f s → digB n f k = true := fun k h1 h2 => by
  have h3 := of_decide_eq_true h
  have h4 : ¬ letB n f s = true := fun z => by have := of_decide_eq_true z; omega
  unfold nxE at h2
  rw [if_neg h4, if_pos h] at h2
  exact runTo_all h1 h2
def tok (n : Nat) (f : Nat → Nat) (e : Nat) : Nat × Nat := (runTo (spB n f) n e, nxE n f (runTo (spB n f) n e))
def nhT (n : Nat) (f : Nat → Nat) (t : Nat × Nat) : Option Nat := nhO n f t.1 t.2
theorem nh_lt {n : Nat} {f : Nat → Nat} {e : Nat} : ∀ v, nhT n f (tok n f e) = some v → v < 10000 := fun v h => by
  have h9 : nhO n f (tok n f e).1 (tok n f e).2 = some v := h
  unfold nhO at h9
  split at h9
  · rename_i h2
    cases h9
    have h3 := nx_dig h2.1
    have h4 : numTo f (tok n f e).1 ((tok n f e).2 - (tok n f e).1) < 10 ^ ((tok n f e).2 - (tok n f e).1) := numTo_lt _ (fun i hi => (of_decide_eq_true (h3 ((tok n f e).1 + i) (by omega) (show (tok n f e).1 + i < (tok n f e).2 by omega))).2.2)
    have h5 : 10 ^ ((tok n f e).2 - (tok n f e).1) ≤ 10 ^ 4 := Nat.pow_le_pow_right (by decide) h2.2
    omega
  · cases h9
theorem t_next {g : Ev} {S : St} {iv : IV} {lw : LW} {b : Nat} (hb : IsTape S b) {n : Nat} {f : Nat → Nat} {s e : Nat} (hT : XTp iv b n f s e) : CN g mX8_toNextToken [.ref b] S iv lw (fun iv2 lw2 => lw = lw2 ∧ XTp iv2 b n f (tok n f e).1 (tok n f e).2 ∧ Off b 1 iv iv2) := t_toNextToken hb hT.1 hT.2.1.2 hT.2.2.2
theorem t_num {g : Ev} {S : St} {iv : IV} {lw : LW} {b : Nat} (hb : IsTape S b) {n : Nat} {f : Nat → Nat} {e : Nat} (hT : XTp iv b n f (tok n f e).1 (tok n f e).2) : CP g mX8_numberHere [.ref b] S iv lw (.int (oI (nhT n f (tok n f e)))) := t_numberHere hb hT nx_dig
def rdNum (lo hi : Nat) (o : Option Nat) : Option Nat := match o with
  | none => none
  | some v => if lo ≤ v ∧ v < hi then some v else none
theorem num_in {o : Option Nat} (h : ∀ v, o = some v → v < 10000) (h0 : 0 ≤ (oI o).toInt) : ∃ v, o = some v ∧ (oI o).toInt = v := by
  cases o with
  | none => exact absurd h0 (by decide)
  | some v =>
    have := h v rfl
    exact ⟨v, rfl, nI_toInt (by omega)⟩
theorem rd_t {lo hi v : Nat} {o : Option Nat} (h : o = some v) (h2 : lo ≤ v ∧ v < hi) : rdNum lo hi o = some v := by subst h; exact if_pos h2
theorem rd_f {lo hi : Nat} {o : Option Nat} (h : ∀ v, o = some v → v < 10000) (h2 : ¬ ((lo : Int) ≤ (oI o).toInt ∧ (oI o).toInt < hi)) : rdNum lo hi o = none := by
  cases o with
  | none => rfl
  | some v =>
    have h3 := h v rfl
    have h4 : (oI (some v)).toInt = v := nI_toInt (by omega)
    rw [h4] at h2
    exact if_neg (by omega)
abbrev Rs := Except Nat (Cv × (Nat × Nat))
def RP (iv2 : IV) (b c n : Nat) (f : Nat → Nat) (w : Value) (r : Rs) : Prop := match r with
  | .error s => w = .int (nI 0) ∧ ∃ e, XTp iv2 b n f s e
  | .ok x => w = .int (nI 1) ∧ XTp iv2 b n f x.2.1 x.2.2 ∧ XC iv2 c x.1
def rdSet (lo hi : Nat) (F : Nat → Cv) (n : Nat) (f : Nat → Nat) (t : Nat × Nat) : Rs := match rdNum lo hi (nhT n f t) with
  | none => .error t.1
  | some v => .ok (F v, tok n f t.2)
/-- two numbers -/
def rdTwo (lo hi lo2 hi2 : Nat) (F : Nat → Nat → Cv) (n : Nat) (f : Nat → Nat) (t : Nat × Nat) : Rs := match rdNum lo hi (nhT n f t) with
  | none => .error t.1
  | some v => rdSet lo2 hi2 (F v) n f (tok n f t.2)
def addNs (V : Cv) (f : Nat → Nat) (s : Nat) : Nat → Cv
  | 0 => v_addC V 1 0
  | k + 1 => v_addN (addNs V f s k) (f (s + k) - 97)
theorem addNs_nc {V : Cv} {f : Nat → Nat} {s : Nat} : ∀ k, v_nc (addNs V f s k) = v_nc V + 1
  | 0 => rfl
  | k + 1 => addNs_nc k
theorem addNs_sz {V : Cv} {f : Nat → Nat} {s : Nat} : ∀ k, v_sz (addNs V f s k) (v_nc V) = k
  | 0 => if_pos rfl
  | k + 1 => by
    show (if v_nc V + 1 = v_nc (addNs V f s k) then v_sz (addNs V f s k) (v_nc V) + 1 else v_sz (addNs V f s k) (v_nc V)) = k + 1
    rw [addNs_nc, if_pos rfl, addNs_sz k]
def rdCall (n : Nat) (f : Nat → Nat) (V : Cv) (t : Nat × Nat) : Rs := if ctN n f t.1 t.2 = 0 then .error t.1 else rdTwo 1 100 0 100 (fun u k => v_setK (v_setU (addNs V f t.1 (ctN n f t.1 t.2)) (v_nc V) u) (v_nc V) k) n f (tok n f t.2)
def rdSt (n : Nat) (f : Nat → Nat) (V : Cv) (s e : Nat) : Rs :=
  if wordB n f s e 0 = true then (if v_nc V < 12 then rdCall n f V (tok n f e) else .error s)
  else if wordB n f s e 1 = true then (if v_ne V < 6 then rdTwo 0 6 0 10 (fun k a => v_addE V k a) n f (tok n f e) else .error s)
  else if wordB n f s e 2 = true then (if v_nm V < 8 then rdTwo 0 (v_ne V) 0 2 (fun k a => v_addM V k a) n f (tok n f e) else .error s)
  else if wordB n f s e 3 = true then rdSet 0 1001 (fun v => v_setS V v) n f (tok n f e)
  else if wordB n f s e 4 = true then rdSet 0 101 (fun v => v_setL V v) n f (tok n f e)
  else if wordB n f s e 5 = true then rdTwo 0 (v_nc V) 1 100 (fun c u => v_setU V c u) n f (tok n f e)
  else .error s
def rdGo (n : Nat) (f : Nat → Nat) : Nat → Nat → Cv → Nat × Nat → Except Nat (Nat × Cv)
  | 0, _, _, t => .error t.1
  | k + 1, m, V, t => match rdSt n f V t.1 t.2 with
    | .error s => .error s
    | .ok x => if n ≤ x.2.1 then .ok (m, x.1) else if sgB n f x.2.1 = true then rdGo n f k (m + 1) x.1 (tok n f x.2.2) else .error x.2.1
theorem Of2.rf {b n q m : Nat} {iv : IV} : Of2 b n q m iv iv := fun _ _ _ => rfl
theorem ct_in {n : Nat} {f : Nat → Nat} {s e : Nat} (h : ¬ ctN n f s e = 0) : e - s = ctN n f s e ∧ ∀ i, i < ctN n f s e → tnB n f (s + i) = true := by
  by_cases h2 : e - s ≤ 8 ∧ allTo (fun i => tnB n f (s + i)) (e - s) = true
  · have h3 : ctN n f s e = e - s := if_pos h2
    rw [h3]
    exact ⟨rfl, fun i hi => (allTo_iff (e - s)).mp h2.2 i hi⟩
  · exact absurd (if_neg h2) h
set_option maxRecDepth 20000 in
theorem t_isSureRead {g : Ev} {S : St} {iv : IV} {lw : LW} {b : Nat} (hb : IsTape S b) {c : Nat} (hc : IsCamp S c) {V : Cv} (hV : XC iv c V) (hd : c + 8 < b) {n : Nat} {f : Nat → Nat} {s e : Nat} (hT : XTp iv b n f s e) : CQ g mX5_isSureRead [.ref (b), .ref (c)] S iv lw (fun w iv2 lw2 => lw = lw2 ∧ RP iv2 b c n f w (rdSet 0 1001 (fun v => v_setS V v) n f (tok n f e)) ∧ Of2 c 9 b 1 iv iv2) := by
  refine CT_ofQ rfl (by decide) (Nat.le_of_ble_eq_true rfl) (lv := [(0, .ref (b)), (1, .ref (c))]) rfl (fun Q hQ => ?_)
  refine V_aload_n (i := 0) dX5_isSureRead_0 rfl 0 rfl ?_
  refine M_callVn (As := []) (st := []) dX5_isSureRead_1 lv_X5_32 ⟨by decide, by decide⟩ ⟨rfl, rfl⟩ rfl (ci := 5) hb.1 rfl rfl (Nat.le_of_ble_eq_true rfl) (t_next hb (hT)) (fun iv1 lw1 q1 => ?_)
  obtain ⟨e1, hX1, hP1⟩ := q1
  subst e1
  have hV1 := (hV).of (fun a h1 h2 => hP1 a (by omega))
  have hO1 : Of2 c 9 b 1 iv iv1 := (Of2.rf).r hP1
  refine V_aload_n (i := 0) dX5_isSureRead_4 rfl 0 rfl ?_
  refine M_callVp (As := []) (st := []) dX5_isSureRead_5 lv_X5_96 ⟨by decide, by decide⟩ ⟨rfl, rfl⟩ rfl (ci := 5) hb.1 rfl rfl (Nat.le_of_ble_eq_true rfl) (t_num hb hX1) ?_
  refine V_istore_n (lv2 := [(2, .int (oI (nhT n f (tok n f e)))), (0, .ref (b)), (1, .ref (c))]) dX5_isSureRead_8 rfl (by decide) rfl ?_
  refine V_iload_n (i := 2) dX5_isSureRead_9 rfl 0 rfl ?_
  refine M_callSp (As := [.int (oI (nhT n f (tok n f e)))]) (st := []) dX5_isSureRead_10 ls_X5_132 ⟨by decide, by decide⟩ ⟨rfl, rfl⟩ rfl (Nat.le_of_ble_eq_true rfl) (t_X0_isSure) ?_
  refine V_if_ne (tgt := 18) dX5_isSureRead_13 rfl (fun h13 => ?_) (fun h13 => ?_)
  · have h13 : (0 : Int) ≤ (oI (nhT n f (tok n f e))).toInt ∧ (oI (nhT n f (tok n f e))).toInt ≤ 1000 := bI_ne.mp h13
    obtain ⟨v1, hv1, hi1⟩ := num_in nh_lt (show 0 ≤ (oI (nhT n f (tok n f e))).toInt by omega)
    have hr1 : rdNum 0 1001 (nhT n f (tok n f e)) = some v1 := rd_t hv1 (by omega)
    refine M_at (lv2 := [(2, .int (nI v1)), (0, .ref (b)), (1, .ref (c))]) (st2 := []) ?_ (by rw [hv1]; rfl) rfl rfl rfl
    refine V_aload_n (i := 1) dX5_isSureRead_18 rfl 2 rfl ?_
    refine V_iload_n (i := 2) dX5_isSureRead_19 rfl 0 rfl ?_
    refine M_putI dX5_isSureRead_20 lf_X5_135 rfl hc.1 ⟨rfl, rfl⟩ ?_
    refine V_aload_n (i := 0) dX5_isSureRead_23 rfl 1 rfl ?_
    refine M_callVn (As := []) (st := []) dX5_isSureRead_24 lv_X5_32 ⟨by decide, by decide⟩ ⟨rfl, rfl⟩ rfl (ci := 5) hb.1 rfl rfl (Nat.le_of_ble_eq_true rfl) (t_next hb (hX1.of (up2_a (by omega)) (up2_a (by omega)))) (fun iv24 lw24 q24 => ?_)
    obtain ⟨e1, hX24, hP24⟩ := q24
    subst e1
    have hV24 := (xc_setS hV1 (s := v1) (by omega)).of (fun a h1 h2 => hP24 a (by omega))
    have hO24 : Of2 c 9 b 1 iv iv24 := (hO1.l (Off.up Off.rf (by omega) (by omega))).r hP24
    refine V_iconst (v := nI 1) dX5_isSureRead_27 rfl ?_
    refine V_zret dX5_isSureRead_28 ⟨rfl, rfl⟩ (by rfl) (Nat.zero_le _) (Nat.zero_le _) ?_
    subst hQ
    exact ⟨_, _, _, rfl, rfl, rfl, by unfold rdSet; rw [hr1]; exact ⟨rfl, hX24, hV24⟩, hO24⟩
  · have h13 : ¬ ((0 : Int) ≤ (oI (nhT n f (tok n f e))).toInt ∧ (oI (nhT n f (tok n f e))).toInt ≤ 1000) := bI_eq0.mp h13
    have hr1 : rdNum 0 1001 (nhT n f (tok n f e)) = none := rd_f nh_lt (fun z => h13 (by omega))
    refine V_iconst (v := nI 0) dX5_isSureRead_16 rfl ?_
    refine V_zret dX5_isSureRead_17 ⟨rfl, rfl⟩ (by rfl) (Nat.zero_le _) (Nat.zero_le _) ?_
    subst hQ
    exact ⟨_, _, _, rfl, rfl, rfl, by unfold rdSet; rw [hr1]; exact ⟨rfl, _, hX1⟩, hO1⟩
set_option maxRecDepth 20000 in
theorem t_isLostRead {g : Ev} {S : St} {iv : IV} {lw : LW} {b : Nat} (hb : IsTape S b) {c : Nat} (hc : IsCamp S c) {V : Cv} (hV : XC iv c V) (hd : c + 8 < b) {n : Nat} {f : Nat → Nat} {s e : Nat} (hT : XTp iv b n f s e) : CQ g mX5_isLostRead [.ref (b), .ref (c)] S iv lw (fun w iv2 lw2 => lw = lw2 ∧ RP iv2 b c n f w (rdSet 0 101 (fun v => v_setL V v) n f (tok n f e)) ∧ Of2 c 9 b 1 iv iv2) := by
  refine CT_ofQ rfl (by decide) (Nat.le_of_ble_eq_true rfl) (lv := [(0, .ref (b)), (1, .ref (c))]) rfl (fun Q hQ => ?_)
  refine V_aload_n (i := 0) dX5_isLostRead_0 rfl 0 rfl ?_
  refine M_callVn (As := []) (st := []) dX5_isLostRead_1 lv_X5_32 ⟨by decide, by decide⟩ ⟨rfl, rfl⟩ rfl (ci := 5) hb.1 rfl rfl (Nat.le_of_ble_eq_true rfl) (t_next hb (hT)) (fun iv1 lw1 q1 => ?_)
  obtain ⟨e1, hX1, hP1⟩ := q1
  subst e1
  have hV1 := (hV).of (fun a h1 h2 => hP1 a (by omega))
  have hO1 : Of2 c 9 b 1 iv iv1 := (Of2.rf).r hP1
  refine V_aload_n (i := 0) dX5_isLostRead_4 rfl 0 rfl ?_
  refine M_callVp (As := []) (st := []) dX5_isLostRead_5 lv_X5_96 ⟨by decide, by decide⟩ ⟨rfl, rfl⟩ rfl (ci := 5) hb.1 rfl rfl (Nat.le_of_ble_eq_true rfl) (t_num hb hX1) ?_
  refine V_istore_n (lv2 := [(2, .int (oI (nhT n f (tok n f e)))), (0, .ref (b)), (1, .ref (c))]) dX5_isLostRead_8 rfl (by decide) rfl ?_
  refine V_iload_n (i := 2) dX5_isLostRead_9 rfl 0 rfl ?_
  refine M_callSp (As := [.int (oI (nhT n f (tok n f e)))]) (st := []) dX5_isLostRead_10 ls_X5_137 ⟨by decide, by decide⟩ ⟨rfl, rfl⟩ rfl (Nat.le_of_ble_eq_true rfl) (t_X0_isLost) ?_
  refine V_if_ne (tgt := 18) dX5_isLostRead_13 rfl (fun h13 => ?_) (fun h13 => ?_)
  · have h13 : (0 : Int) ≤ (oI (nhT n f (tok n f e))).toInt ∧ (oI (nhT n f (tok n f e))).toInt ≤ 100 := bI_ne.mp h13
    obtain ⟨v1, hv1, hi1⟩ := num_in nh_lt (show 0 ≤ (oI (nhT n f (tok n f e))).toInt by omega)
    have hr1 : rdNum 0 101 (nhT n f (tok n f e)) = some v1 := rd_t hv1 (by omega)
    refine M_at (lv2 := [(2, .int (nI v1)), (0, .ref (b)), (1, .ref (c))]) (st2 := []) ?_ (by rw [hv1]; rfl) rfl rfl rfl
    refine V_aload_n (i := 1) dX5_isLostRead_18 rfl 2 rfl ?_
    refine V_iload_n (i := 2) dX5_isLostRead_19 rfl 0 rfl ?_
    refine M_putI dX5_isLostRead_20 lf_X5_140 rfl hc.1 ⟨rfl, rfl⟩ ?_
    refine V_aload_n (i := 0) dX5_isLostRead_23 rfl 1 rfl ?_
    refine M_callVn (As := []) (st := []) dX5_isLostRead_24 lv_X5_32 ⟨by decide, by decide⟩ ⟨rfl, rfl⟩ rfl (ci := 5) hb.1 rfl rfl (Nat.le_of_ble_eq_true rfl) (t_next hb (hX1.of (up2_a (by omega)) (up2_a (by omega)))) (fun iv24 lw24 q24 => ?_)
    obtain ⟨e1, hX24, hP24⟩ := q24
    subst e1
    have hV24 := (xc_setL hV1 (s := v1) (by omega)).of (fun a h1 h2 => hP24 a (by omega))
    have hO24 : Of2 c 9 b 1 iv iv24 := (hO1.l (Off.up Off.rf (by omega) (by omega))).r hP24
    refine V_iconst (v := nI 1) dX5_isLostRead_27 rfl ?_
    refine V_zret dX5_isLostRead_28 ⟨rfl, rfl⟩ (by rfl) (Nat.zero_le _) (Nat.zero_le _) ?_
    subst hQ
    exact ⟨_, _, _, rfl, rfl, rfl, by unfold rdSet; rw [hr1]; exact ⟨rfl, hX24, hV24⟩, hO24⟩
  · have h13 : ¬ ((0 : Int) ≤ (oI (nhT n f (tok n f e))).toInt ∧ (oI (nhT n f (tok n f e))).toInt ≤ 100) := bI_eq0.mp h13
    have hr1 : rdNum 0 101 (nhT n f (tok n f e)) = none := rd_f nh_lt (fun z => h13 (by omega))
    refine V_iconst (v := nI 0) dX5_isLostRead_16 rfl ?_
    refine V_zret dX5_isLostRead_17 ⟨rfl, rfl⟩ (by rfl) (Nat.zero_le _) (Nat.zero_le _) ?_
    subst hQ
    exact ⟨_, _, _, rfl, rfl, rfl, by unfold rdSet; rw [hr1]; exact ⟨rfl, _, hX1⟩, hO1⟩
set_option maxRecDepth 20000 in
theorem t_isEarRead {g : Ev} {S : St} {iv : IV} {lw : LW} {b : Nat} (hb : IsTape S b) {c : Nat} (hc : IsCamp S c) {V : Cv} (hV : XC iv c V) (hd : c + 8 < b) {n : Nat} {f : Nat → Nat} {s e : Nat} (hT : XTp iv b n f s e) (hr6 : v_ne V < 6) : CQ g mX5_isEarRead [.ref (b), .ref (c)] S iv lw (fun w iv2 lw2 => lw = lw2 ∧ RP iv2 b c n f w (rdTwo 0 6 0 10 (fun k a => v_addE V k a) n f (tok n f e)) ∧ Of2 c 9 b 1 iv iv2) := by
  refine CT_ofQ rfl (by decide) (Nat.le_of_ble_eq_true rfl) (lv := [(0, .ref (b)), (1, .ref (c))]) rfl (fun Q hQ => ?_)
  have hnc := hV.ok.nc
  have hne := hV.ok.ne
  have hnm := hV.ok.nm
  refine V_aload_n (i := 0) dX5_isEarRead_0 rfl 0 rfl ?_
  refine M_callVn (As := []) (st := []) dX5_isEarRead_1 lv_X5_32 ⟨by decide, by decide⟩ ⟨rfl, rfl⟩ rfl (ci := 5) hb.1 rfl rfl (Nat.le_of_ble_eq_true rfl) (t_next hb (hT)) (fun iv1 lw1 q1 => ?_)
  obtain ⟨e1, hX1, hP1⟩ := q1
  subst e1
  have hV1 := (hV).of (fun a h1 h2 => hP1 a (by omega))
  have hO1 : Of2 c 9 b 1 iv iv1 := (Of2.rf).r hP1
  refine V_aload_n (i := 0) dX5_isEarRead_4 rfl 0 rfl ?_
  refine M_callVp (As := []) (st := []) dX5_isEarRead_5 lv_X5_96 ⟨by decide, by decide⟩ ⟨rfl, rfl⟩ rfl (ci := 5) hb.1 rfl rfl (Nat.le_of_ble_eq_true rfl) (t_num hb hX1) ?_
  refine V_istore_n (lv2 := [(2, .int (oI (nhT n f (tok n f e)))), (0, .ref (b)), (1, .ref (c))]) dX5_isEarRead_8 rfl (by decide) rfl ?_
  refine V_iload_n (i := 2) dX5_isEarRead_9 rfl 0 rfl ?_
  refine M_callSp (As := [.int (oI (nhT n f (tok n f e)))]) (st := []) dX5_isEarRead_10 ls_X5_112 ⟨by decide, by decide⟩ ⟨rfl, rfl⟩ rfl (Nat.le_of_ble_eq_true rfl) (t_X3_isKind) ?_
  refine V_if_ne (tgt := 18) dX5_isEarRead_13 rfl (fun h13 => ?_) (fun h13 => ?_)
  · have h13 : (0 : Int) ≤ (oI (nhT n f (tok n f e))).toInt ∧ (oI (nhT n f (tok n f e))).toInt ≤ 5 := bI_ne.mp h13
    obtain ⟨v1, hv1, hi1⟩ := num_in nh_lt (show 0 ≤ (oI (nhT n f (tok n f e))).toInt by omega)
    have hr1 : rdNum 0 6 (nhT n f (tok n f e)) = some v1 := rd_t hv1 (by omega)
    refine M_at (lv2 := [(2, .int (nI v1)), (0, .ref (b)), (1, .ref (c))]) (st2 := []) ?_ (by rw [hv1]; rfl) rfl rfl rfl
    refine V_aload_n (i := 0) dX5_isEarRead_18 rfl 1 rfl ?_
    refine M_callVn (As := []) (st := []) dX5_isEarRead_19 lv_X5_32 ⟨by decide, by decide⟩ ⟨rfl, rfl⟩ rfl (ci := 5) hb.1 rfl rfl (Nat.le_of_ble_eq_true rfl) (t_next hb (hX1)) (fun iv19 lw19 q19 => ?_)
    obtain ⟨e1, hX19, hP19⟩ := q19
    subst e1
    have hV19 := (hV1).of (fun a h1 h2 => hP19 a (by omega))
    have hO19 : Of2 c 9 b 1 iv iv19 := (hO1).r hP19
    refine V_aload_n (i := 0) dX5_isEarRead_22 rfl 1 rfl ?_
    refine M_callVp (As := []) (st := []) dX5_isEarRead_23 lv_X5_96 ⟨by decide, by decide⟩ ⟨rfl, rfl⟩ rfl (ci := 5) hb.1 rfl rfl (Nat.le_of_ble_eq_true rfl) (t_num hb hX19) ?_
    refine V_istore_n (lv2 := [(3, .int (oI (nhT n f (tok n f (tok n f e).2)))), (2, .int (nI v1)), (0, .ref (b)), (1, .ref (c))]) dX5_isEarRead_26 rfl (by decide) rfl ?_
    refine V_iload_n (i := 3) dX5_isEarRead_27 rfl 0 rfl ?_
    refine M_callSp (As := [.int (oI (nhT n f (tok n f (tok n f e).2)))]) (st := []) dX5_isEarRead_28 ls_X5_117 ⟨by decide, by decide⟩ ⟨rfl, rfl⟩ rfl (Nat.le_of_ble_eq_true rfl) (t_X3_isStrength) ?_
    refine V_if_ne (tgt := 36) dX5_isEarRead_31 rfl (fun h31 => ?_) (fun h31 => ?_)
    · have h31 : (0 : Int) ≤ (oI (nhT n f (tok n f (tok n f e).2))).toInt ∧ (oI (nhT n f (tok n f (tok n f e).2))).toInt ≤ 9 := bI_ne.mp h31
      obtain ⟨v2, hv2, hi2⟩ := num_in nh_lt (show 0 ≤ (oI (nhT n f (tok n f (tok n f e).2))).toInt by omega)
      have hr2 : rdNum 0 10 (nhT n f (tok n f (tok n f e).2)) = some v2 := rd_t hv2 (by omega)
      refine M_at (lv2 := [(3, .int (nI v2)), (2, .int (nI v1)), (0, .ref (b)), (1, .ref (c))]) (st2 := []) ?_ (by rw [hv2]; rfl) rfl rfl rfl
      refine V_aload_n (i := 1) dX5_isEarRead_36 rfl 3 rfl ?_
      refine V_iload_n (i := 2) dX5_isEarRead_37 rfl 1 rfl ?_
      refine V_iload_n (i := 3) dX5_isEarRead_38 rfl 0 rfl ?_
      refine M_callVq (As := [.int (nI v1), .int (nI v2)]) (st := []) dX5_isEarRead_39 lv_X5_120 ⟨by decide, by decide⟩ ⟨rfl, rfl⟩ rfl (ci := 0) hc.1 rfl rfl (Nat.le_of_ble_eq_true rfl) (t_addEar hc hV19 hr6 (k := v1) (a := v2) (by omega) (by omega)) (fun w39 iv39 lw39 q39 => ?_)
      obtain ⟨rfl, e1, hV39, hP39⟩ := q39
      subst e1
      refine V_pop dX5_isEarRead_42 rfl ?_
      refine V_aload_n (i := 0) dX5_isEarRead_43 rfl 2 rfl ?_
      refine M_callVn (As := []) (st := []) dX5_isEarRead_44 lv_X5_32 ⟨by decide, by decide⟩ ⟨rfl, rfl⟩ rfl (ci := 5) hb.1 rfl rfl (Nat.le_of_ble_eq_true rfl) (t_next hb (hX19.of (hP39 _ (by omega)) (hP39 _ (by omega)))) (fun iv44 lw44 q44 => ?_)
      obtain ⟨e1, hX44, hP44⟩ := q44
      subst e1
      have hV44 := (hV39).of (fun a h1 h2 => hP44 a (by omega))
      have hO44 : Of2 c 9 b 1 iv iv44 := (hO19.l hP39).r hP44
      refine V_iconst (v := nI 1) dX5_isEarRead_47 rfl ?_
      refine V_zret dX5_isEarRead_48 ⟨rfl, rfl⟩ (by rfl) (Nat.zero_le _) (Nat.zero_le _) ?_
      subst hQ
      exact ⟨_, _, _, rfl, rfl, rfl, by unfold rdTwo; rw [hr1]; unfold rdSet; rw [hr2]; exact ⟨rfl, hX44, hV44⟩, hO44⟩
    · have h31 : ¬ ((0 : Int) ≤ (oI (nhT n f (tok n f (tok n f e).2))).toInt ∧ (oI (nhT n f (tok n f (tok n f e).2))).toInt ≤ 9) := bI_eq0.mp h31
      have hr2 : rdNum 0 10 (nhT n f (tok n f (tok n f e).2)) = none := rd_f nh_lt (fun z => h31 (by omega))
      refine V_iconst (v := nI 0) dX5_isEarRead_34 rfl ?_
      refine V_zret dX5_isEarRead_35 ⟨rfl, rfl⟩ (by rfl) (Nat.zero_le _) (Nat.zero_le _) ?_
      subst hQ
      exact ⟨_, _, _, rfl, rfl, rfl, by unfold rdTwo; rw [hr1]; unfold rdSet; rw [hr2]; exact ⟨rfl, _, hX19⟩, hO19⟩
  · have h13 : ¬ ((0 : Int) ≤ (oI (nhT n f (tok n f e))).toInt ∧ (oI (nhT n f (tok n f e))).toInt ≤ 5) := bI_eq0.mp h13
    have hr1 : rdNum 0 6 (nhT n f (tok n f e)) = none := rd_f nh_lt (fun z => h13 (by omega))
    refine V_iconst (v := nI 0) dX5_isEarRead_16 rfl ?_
    refine V_zret dX5_isEarRead_17 ⟨rfl, rfl⟩ (by rfl) (Nat.zero_le _) (Nat.zero_le _) ?_
    subst hQ
    exact ⟨_, _, _, rfl, rfl, rfl, by unfold rdTwo; rw [hr1]; exact ⟨rfl, _, hX1⟩, hO1⟩
set_option maxRecDepth 20000 in
theorem t_isManRead {g : Ev} {S : St} {iv : IV} {lw : LW} {b : Nat} (hb : IsTape S b) {c : Nat} (hc : IsCamp S c) {V : Cv} (hV : XC iv c V) (hd : c + 8 < b) {n : Nat} {f : Nat → Nat} {s e : Nat} (hT : XTp iv b n f s e) (hr8 : v_nm V < 8) : CQ g mX5_isManRead [.ref (b), .ref (c)] S iv lw (fun w iv2 lw2 => lw = lw2 ∧ RP iv2 b c n f w (rdTwo 0 (v_ne V) 0 2 (fun k a => v_addM V k a) n f (tok n f e)) ∧ Of2 c 9 b 1 iv iv2) := by
  refine CT_ofQ rfl (by decide) (Nat.le_of_ble_eq_true rfl) (lv := [(0, .ref (b)), (1, .ref (c))]) rfl (fun Q hQ => ?_)
  have hnc := hV.ok.nc
  have hne := hV.ok.ne
  have hnm := hV.ok.nm
  refine V_aload_n (i := 0) dX5_isManRead_0 rfl 0 rfl ?_
  refine M_callVn (As := []) (st := []) dX5_isManRead_1 lv_X5_32 ⟨by decide, by decide⟩ ⟨rfl, rfl⟩ rfl (ci := 5) hb.1 rfl rfl (Nat.le_of_ble_eq_true rfl) (t_next hb (hT)) (fun iv1 lw1 q1 => ?_)
  obtain ⟨e1, hX1, hP1⟩ := q1
  subst e1
  have hV1 := (hV).of (fun a h1 h2 => hP1 a (by omega))
  have hO1 : Of2 c 9 b 1 iv iv1 := (Of2.rf).r hP1
  refine V_aload_n (i := 0) dX5_isManRead_4 rfl 0 rfl ?_
  refine M_callVp (As := []) (st := []) dX5_isManRead_5 lv_X5_96 ⟨by decide, by decide⟩ ⟨rfl, rfl⟩ rfl (ci := 5) hb.1 rfl rfl (Nat.le_of_ble_eq_true rfl) (t_num hb hX1) ?_
  refine V_istore_n (lv2 := [(2, .int (oI (nhT n f (tok n f e)))), (0, .ref (b)), (1, .ref (c))]) dX5_isManRead_8 rfl (by decide) rfl ?_
  refine V_aload_n (i := 1) dX5_isManRead_9 rfl 2 rfl ?_
  refine V_iload_n (i := 2) dX5_isManRead_10 rfl 0 rfl ?_
  refine M_callVp (As := [.int (oI (nhT n f (tok n f e)))]) (st := []) dX5_isManRead_11 lv_X5_123 ⟨by decide, by decide⟩ ⟨rfl, rfl⟩ rfl (ci := 0) hc.1 rfl rfl (Nat.le_of_ble_eq_true rfl) (t_X0_isEar hc hV1) ?_
  refine V_if_ne (tgt := 19) dX5_isManRead_14 rfl (fun h14 => ?_) (fun h14 => ?_)
  · have h14 : 0 ≤ (oI (nhT n f (tok n f e))).toInt ∧ (oI (nhT n f (tok n f e))).toInt < v_ne V := bI_ne.mp h14
    obtain ⟨v1, hv1, hi1⟩ := num_in nh_lt (show 0 ≤ (oI (nhT n f (tok n f e))).toInt by omega)
    have hr1 : rdNum 0 (v_ne V) (nhT n f (tok n f e)) = some v1 := rd_t hv1 (by omega)
    refine M_at (lv2 := [(2, .int (nI v1)), (0, .ref (b)), (1, .ref (c))]) (st2 := []) ?_ (by rw [hv1]; rfl) rfl rfl rfl
    refine V_aload_n (i := 0) dX5_isManRead_19 rfl 1 rfl ?_
    refine M_callVn (As := []) (st := []) dX5_isManRead_20 lv_X5_32 ⟨by decide, by decide⟩ ⟨rfl, rfl⟩ rfl (ci := 5) hb.1 rfl rfl (Nat.le_of_ble_eq_true rfl) (t_next hb (hX1)) (fun iv20 lw20 q20 => ?_)
    obtain ⟨e1, hX20, hP20⟩ := q20
    subst e1
    have hV20 := (hV1).of (fun a h1 h2 => hP20 a (by omega))
    have hO20 : Of2 c 9 b 1 iv iv20 := (hO1).r hP20
    refine V_aload_n (i := 0) dX5_isManRead_23 rfl 1 rfl ?_
    refine M_callVp (As := []) (st := []) dX5_isManRead_24 lv_X5_96 ⟨by decide, by decide⟩ ⟨rfl, rfl⟩ rfl (ci := 5) hb.1 rfl rfl (Nat.le_of_ble_eq_true rfl) (t_num hb hX20) ?_
    refine V_istore_n (lv2 := [(3, .int (oI (nhT n f (tok n f (tok n f e).2)))), (2, .int (nI v1)), (0, .ref (b)), (1, .ref (c))]) dX5_isManRead_27 rfl (by decide) rfl ?_
    refine V_iload_n (i := 3) dX5_isManRead_28 rfl 0 rfl ?_
    refine M_callSp (As := [.int (oI (nhT n f (tok n f (tok n f e).2)))]) (st := []) dX5_isManRead_29 ls_X5_126 ⟨by decide, by decide⟩ ⟨rfl, rfl⟩ rfl (Nat.le_of_ble_eq_true rfl) (t_X0_isLook) ?_
    refine V_if_ne (tgt := 37) dX5_isManRead_32 rfl (fun h32 => ?_) (fun h32 => ?_)
    · have h32 : (oI (nhT n f (tok n f (tok n f e).2))).toInt = 0 ∨ (oI (nhT n f (tok n f (tok n f e).2))).toInt = 1 := bI_ne.mp h32
      obtain ⟨v2, hv2, hi2⟩ := num_in nh_lt (show 0 ≤ (oI (nhT n f (tok n f (tok n f e).2))).toInt by omega)
      have hr2 : rdNum 0 2 (nhT n f (tok n f (tok n f e).2)) = some v2 := rd_t hv2 (by omega)
      refine M_at (lv2 := [(3, .int (nI v2)), (2, .int (nI v1)), (0, .ref (b)), (1, .ref (c))]) (st2 := []) ?_ (by rw [hv2]; rfl) rfl rfl rfl
      refine V_aload_n (i := 1) dX5_isManRead_37 rfl 3 rfl ?_
      refine V_iload_n (i := 2) dX5_isManRead_38 rfl 1 rfl ?_
      refine V_iload_n (i := 3) dX5_isManRead_39 rfl 0 rfl ?_
      refine M_callVq (As := [.int (nI v1), .int (nI v2)]) (st := []) dX5_isManRead_40 lv_X5_129 ⟨by decide, by decide⟩ ⟨rfl, rfl⟩ rfl (ci := 0) hc.1 rfl rfl (Nat.le_of_ble_eq_true rfl) (t_addMan hc hV20 hr8 (k := v1) (a := v2) (by omega) (by omega)) (fun w40 iv40 lw40 q40 => ?_)
      obtain ⟨rfl, e1, hV40, hP40⟩ := q40
      subst e1
      refine V_pop dX5_isManRead_43 rfl ?_
      refine V_aload_n (i := 0) dX5_isManRead_44 rfl 2 rfl ?_
      refine M_callVn (As := []) (st := []) dX5_isManRead_45 lv_X5_32 ⟨by decide, by decide⟩ ⟨rfl, rfl⟩ rfl (ci := 5) hb.1 rfl rfl (Nat.le_of_ble_eq_true rfl) (t_next hb (hX20.of (hP40 _ (by omega)) (hP40 _ (by omega)))) (fun iv45 lw45 q45 => ?_)
      obtain ⟨e1, hX45, hP45⟩ := q45
      subst e1
      have hV45 := (hV40).of (fun a h1 h2 => hP45 a (by omega))
      have hO45 : Of2 c 9 b 1 iv iv45 := (hO20.l hP40).r hP45
      refine V_iconst (v := nI 1) dX5_isManRead_48 rfl ?_
      refine V_zret dX5_isManRead_49 ⟨rfl, rfl⟩ (by rfl) (Nat.zero_le _) (Nat.zero_le _) ?_
      subst hQ
      exact ⟨_, _, _, rfl, rfl, rfl, by unfold rdTwo; rw [hr1]; unfold rdSet; rw [hr2]; exact ⟨rfl, hX45, hV45⟩, hO45⟩
    · have h32 : ¬ ((oI (nhT n f (tok n f (tok n f e).2))).toInt = 0 ∨ (oI (nhT n f (tok n f (tok n f e).2))).toInt = 1) := bI_eq0.mp h32
      have hr2 : rdNum 0 2 (nhT n f (tok n f (tok n f e).2)) = none := rd_f nh_lt (fun z => h32 (by omega))
      refine V_iconst (v := nI 0) dX5_isManRead_35 rfl ?_
      refine V_zret dX5_isManRead_36 ⟨rfl, rfl⟩ (by rfl) (Nat.zero_le _) (Nat.zero_le _) ?_
      subst hQ
      exact ⟨_, _, _, rfl, rfl, rfl, by unfold rdTwo; rw [hr1]; unfold rdSet; rw [hr2]; exact ⟨rfl, _, hX20⟩, hO20⟩
  · have h14 : ¬ (0 ≤ (oI (nhT n f (tok n f e))).toInt ∧ (oI (nhT n f (tok n f e))).toInt < v_ne V) := bI_eq0.mp h14
    have hr1 : rdNum 0 (v_ne V) (nhT n f (tok n f e)) = none := rd_f nh_lt (fun z => h14 (by omega))
    refine V_iconst (v := nI 0) dX5_isManRead_17 rfl ?_
    refine V_zret dX5_isManRead_18 ⟨rfl, rfl⟩ (by rfl) (Nat.zero_le _) (Nat.zero_le _) ?_
    subst hQ
    exact ⟨_, _, _, rfl, rfl, rfl, by unfold rdTwo; rw [hr1]; exact ⟨rfl, _, hX1⟩, hO1⟩
set_option maxRecDepth 20000 in
theorem t_isUseRead {g : Ev} {S : St} {iv : IV} {lw : LW} {b : Nat} (hb : IsTape S b) {c : Nat} (hc : IsCamp S c) {V : Cv} (hV : XC iv c V) (hd : c + 8 < b) {n : Nat} {f : Nat → Nat} {s e : Nat} (hT : XTp iv b n f s e) : CQ g mX5_isUseRead [.ref (b), .ref (c)] S iv lw (fun w iv2 lw2 => lw = lw2 ∧ RP iv2 b c n f w (rdTwo 0 (v_nc V) 1 100 (fun c u => v_setU V c u) n f (tok n f e)) ∧ Of2 c 9 b 1 iv iv2) := by
  refine CT_ofQ rfl (by decide) (Nat.le_of_ble_eq_true rfl) (lv := [(0, .ref (b)), (1, .ref (c))]) rfl (fun Q hQ => ?_)
  have hnc := hV.ok.nc
  have hne := hV.ok.ne
  have hnm := hV.ok.nm
  refine V_aload_n (i := 0) dX5_isUseRead_0 rfl 0 rfl ?_
  refine M_callVn (As := []) (st := []) dX5_isUseRead_1 lv_X5_32 ⟨by decide, by decide⟩ ⟨rfl, rfl⟩ rfl (ci := 5) hb.1 rfl rfl (Nat.le_of_ble_eq_true rfl) (t_next hb (hT)) (fun iv1 lw1 q1 => ?_)
  obtain ⟨e1, hX1, hP1⟩ := q1
  subst e1
  have hV1 := (hV).of (fun a h1 h2 => hP1 a (by omega))
  have hO1 : Of2 c 9 b 1 iv iv1 := (Of2.rf).r hP1
  refine V_aload_n (i := 0) dX5_isUseRead_4 rfl 0 rfl ?_
  refine M_callVp (As := []) (st := []) dX5_isUseRead_5 lv_X5_96 ⟨by decide, by decide⟩ ⟨rfl, rfl⟩ rfl (ci := 5) hb.1 rfl rfl (Nat.le_of_ble_eq_true rfl) (t_num hb hX1) ?_
  refine V_istore_n (lv2 := [(2, .int (oI (nhT n f (tok n f e)))), (0, .ref (b)), (1, .ref (c))]) dX5_isUseRead_8 rfl (by decide) rfl ?_
  refine V_aload_n (i := 1) dX5_isUseRead_9 rfl 2 rfl ?_
  refine V_iload_n (i := 2) dX5_isUseRead_10 rfl 0 rfl ?_
  refine M_callVp (As := [.int (oI (nhT n f (tok n f e)))]) (st := []) dX5_isUseRead_11 lv_X5_142 ⟨by decide, by decide⟩ ⟨rfl, rfl⟩ rfl (ci := 0) hc.1 rfl rfl (Nat.le_of_ble_eq_true rfl) (t_X0_isCall hc hV1) ?_
  refine V_if_ne (tgt := 19) dX5_isUseRead_14 rfl (fun h14 => ?_) (fun h14 => ?_)
  · have h14 : 0 ≤ (oI (nhT n f (tok n f e))).toInt ∧ (oI (nhT n f (tok n f e))).toInt < v_nc V := bI_ne.mp h14
    obtain ⟨v1, hv1, hi1⟩ := num_in nh_lt (show 0 ≤ (oI (nhT n f (tok n f e))).toInt by omega)
    have hr1 : rdNum 0 (v_nc V) (nhT n f (tok n f e)) = some v1 := rd_t hv1 (by omega)
    refine M_at (lv2 := [(2, .int (nI v1)), (0, .ref (b)), (1, .ref (c))]) (st2 := []) ?_ (by rw [hv1]; rfl) rfl rfl rfl
    refine V_aload_n (i := 0) dX5_isUseRead_19 rfl 1 rfl ?_
    refine M_callVn (As := []) (st := []) dX5_isUseRead_20 lv_X5_32 ⟨by decide, by decide⟩ ⟨rfl, rfl⟩ rfl (ci := 5) hb.1 rfl rfl (Nat.le_of_ble_eq_true rfl) (t_next hb (hX1)) (fun iv20 lw20 q20 => ?_)
    obtain ⟨e1, hX20, hP20⟩ := q20
    subst e1
    have hV20 := (hV1).of (fun a h1 h2 => hP20 a (by omega))
    have hO20 : Of2 c 9 b 1 iv iv20 := (hO1).r hP20
    refine V_aload_n (i := 0) dX5_isUseRead_23 rfl 1 rfl ?_
    refine M_callVp (As := []) (st := []) dX5_isUseRead_24 lv_X5_96 ⟨by decide, by decide⟩ ⟨rfl, rfl⟩ rfl (ci := 5) hb.1 rfl rfl (Nat.le_of_ble_eq_true rfl) (t_num hb hX20) ?_
    refine V_istore_n (lv2 := [(3, .int (oI (nhT n f (tok n f (tok n f e).2)))), (2, .int (nI v1)), (0, .ref (b)), (1, .ref (c))]) dX5_isUseRead_27 rfl (by decide) rfl ?_
    refine V_iload_n (i := 3) dX5_isUseRead_28 rfl 0 rfl ?_
    refine M_callSp (As := [.int (oI (nhT n f (tok n f (tok n f e).2)))]) (st := []) dX5_isUseRead_29 ls_X5_99 ⟨by decide, by decide⟩ ⟨rfl, rfl⟩ rfl (Nat.le_of_ble_eq_true rfl) (t_X0_isUse) ?_
    refine V_if_ne (tgt := 37) dX5_isUseRead_32 rfl (fun h32 => ?_) (fun h32 => ?_)
    · have h32 : (1 : Int) ≤ (oI (nhT n f (tok n f (tok n f e).2))).toInt ∧ (oI (nhT n f (tok n f (tok n f e).2))).toInt ≤ 99 := bI_ne.mp h32
      obtain ⟨v2, hv2, hi2⟩ := num_in nh_lt (show 0 ≤ (oI (nhT n f (tok n f (tok n f e).2))).toInt by omega)
      have hr2 : rdNum 1 100 (nhT n f (tok n f (tok n f e).2)) = some v2 := rd_t hv2 (by omega)
      refine M_at (lv2 := [(3, .int (nI v2)), (2, .int (nI v1)), (0, .ref (b)), (1, .ref (c))]) (st2 := []) ?_ (by rw [hv2]; rfl) rfl rfl rfl
      refine V_aload_n (i := 1) dX5_isUseRead_37 rfl 3 rfl ?_
      refine V_iload_n (i := 2) dX5_isUseRead_38 rfl 1 rfl ?_
      refine V_iload_n (i := 3) dX5_isUseRead_39 rfl 0 rfl ?_
      refine M_callVq (As := [.int (nI v1), .int (nI v2)]) (st := []) dX5_isUseRead_40 lv_X5_103 ⟨by decide, by decide⟩ ⟨rfl, rfl⟩ rfl (ci := 0) hc.1 rfl rfl (Nat.le_of_ble_eq_true rfl) (t_changeUse hc hV20 (c := v1) (u := v2) (by omega) (by omega)) (fun w40 iv40 lw40 q40 => ?_)
      obtain ⟨rfl, e1, hV40, hP40⟩ := q40
      subst e1
      refine V_pop dX5_isUseRead_43 rfl ?_
      refine V_aload_n (i := 0) dX5_isUseRead_44 rfl 2 rfl ?_
      refine M_callVn (As := []) (st := []) dX5_isUseRead_45 lv_X5_32 ⟨by decide, by decide⟩ ⟨rfl, rfl⟩ rfl (ci := 5) hb.1 rfl rfl (Nat.le_of_ble_eq_true rfl) (t_next hb (hX20.of (hP40 _ (by omega)) (hP40 _ (by omega)))) (fun iv45 lw45 q45 => ?_)
      obtain ⟨e1, hX45, hP45⟩ := q45
      subst e1
      have hV45 := (hV40).of (fun a h1 h2 => hP45 a (by omega))
      have hO45 : Of2 c 9 b 1 iv iv45 := (hO20.l hP40).r hP45
      refine V_iconst (v := nI 1) dX5_isUseRead_48 rfl ?_
      refine V_zret dX5_isUseRead_49 ⟨rfl, rfl⟩ (by rfl) (Nat.zero_le _) (Nat.zero_le _) ?_
      subst hQ
      exact ⟨_, _, _, rfl, rfl, rfl, by unfold rdTwo; rw [hr1]; unfold rdSet; rw [hr2]; exact ⟨rfl, hX45, hV45⟩, hO45⟩
    · have h32 : ¬ ((1 : Int) ≤ (oI (nhT n f (tok n f (tok n f e).2))).toInt ∧ (oI (nhT n f (tok n f (tok n f e).2))).toInt ≤ 99) := bI_eq0.mp h32
      have hr2 : rdNum 1 100 (nhT n f (tok n f (tok n f e).2)) = none := rd_f nh_lt (fun z => h32 (by omega))
      refine V_iconst (v := nI 0) dX5_isUseRead_35 rfl ?_
      refine V_zret dX5_isUseRead_36 ⟨rfl, rfl⟩ (by rfl) (Nat.zero_le _) (Nat.zero_le _) ?_
      subst hQ
      exact ⟨_, _, _, rfl, rfl, rfl, by unfold rdTwo; rw [hr1]; unfold rdSet; rw [hr2]; exact ⟨rfl, _, hX20⟩, hO20⟩
  · have h14 : ¬ (0 ≤ (oI (nhT n f (tok n f e))).toInt ∧ (oI (nhT n f (tok n f e))).toInt < v_nc V) := bI_eq0.mp h14
    have hr1 : rdNum 0 (v_nc V) (nhT n f (tok n f e)) = none := rd_f nh_lt (fun z => h14 (by omega))
    refine V_iconst (v := nI 0) dX5_isUseRead_17 rfl ?_
    refine V_zret dX5_isUseRead_18 ⟨rfl, rfl⟩ (by rfl) (Nat.zero_le _) (Nat.zero_le _) ?_
    subst hQ
    exact ⟨_, _, _, rfl, rfl, rfl, by unfold rdTwo; rw [hr1]; exact ⟨rfl, _, hX1⟩, hO1⟩
set_option maxRecDepth 20000 in
theorem t_isCallRead {g : Ev} {S : St} {iv : IV} {lw : LW} {b : Nat} (hb : IsTape S b) {c : Nat} (hc : IsCamp S c) {V : Cv} (hV : XC iv c V) (hd : c + 8 < b) {n : Nat} {f : Nat → Nat} {s e : Nat} (hT : XTp iv b n f s e) (hr12 : v_nc V < 12) : CQ g mX5_isCallRead [.ref (b), .ref (c)] S iv lw (fun w iv2 lw2 => lw = lw2 ∧ RP iv2 b c n f w (rdCall n f V (tok n f e)) ∧ Of2 c 9 b 1 iv iv2) := by
  refine CT_ofQ rfl (by decide) (Nat.le_of_ble_eq_true rfl) (lv := [(0, .ref (b)), (1, .ref (c))]) rfl (fun Q hQ => ?_)
  have hn := hT.1.1.1
  have hf := hT.1.1.2
  refine V_aload_n (i := 0) dX5_isCallRead_0 rfl 0 rfl ?_
  refine M_callVn (As := []) (st := []) dX5_isCallRead_1 lv_X5_32 ⟨by decide, by decide⟩ ⟨rfl, rfl⟩ rfl (ci := 5) hb.1 rfl rfl (Nat.le_of_ble_eq_true rfl) (t_next hb (hT)) (fun iv1 lw1 q1 => ?_)
  obtain ⟨e1, hX1, hP1⟩ := q1
  subst e1
  have hV1 := (hV).of (fun a h1 h2 => hP1 a (by omega))
  have hO1 : Of2 c 9 b 1 iv iv1 := (Of2.rf).r hP1
  refine V_aload_n (i := 0) dX5_isCallRead_4 rfl 0 rfl ?_
  refine M_callVp (As := []) (st := []) dX5_isCallRead_5 lv_X5_80 ⟨by decide, by decide⟩ ⟨rfl, rfl⟩ rfl (ci := 5) hb.1 rfl rfl (Nat.le_of_ble_eq_true rfl) (t_countTextNotes hb hX1) ?_
  refine V_istore_n (lv2 := [(2, .int (nI (ctN n f (tok n f e).1 (tok n f e).2))), (0, .ref (b)), (1, .ref (c))]) dX5_isCallRead_8 rfl (by decide) rfl ?_
  refine V_iload_n (i := 2) dX5_isCallRead_9 rfl 0 rfl ?_
  have hct : ctN n f (tok n f e).1 (tok n f e).2 ≤ 8 := by unfold ctN; split <;> omega
  refine V_if_ne (tgt := 15) dX5_isCallRead_10 rfl (fun h10 => ?_) (fun h10 => ?_)
  · have h10 : ¬ (ctN n f (tok n f e).1 (tok n f e).2) = 0 := fun q => h10 ((nI_eq (b := 0) (by omega) (by omega)).mpr q)
    refine V_aload_n (i := 1) dX5_isCallRead_15 rfl 2 rfl ?_
    refine V_iconst (v := nI 1) dX5_isCallRead_16 rfl ?_
    refine V_iconst (v := nI 0) dX5_isCallRead_17 rfl ?_
    have hcq : (tok n f e).2 - (tok n f e).1 = ctN n f (tok n f e).1 (tok n f e).2 ∧ ∀ i, i < ctN n f (tok n f e).1 (tok n f e).2 → tnB n f ((tok n f e).1 + i) = true := ct_in h10
    refine M_callVq (As := [.int (nI 1), .int (nI 0)]) (st := []) dX5_isCallRead_18 lv_X5_84 ⟨by decide, by decide⟩ ⟨rfl, rfl⟩ rfl (ci := 0) hc.1 rfl rfl (Nat.le_of_ble_eq_true rfl) (t_addCall hc hV1 (u := 1) (k := 0) hr12 (by omega) (by omega)) (fun w18 iv18 lw18 q18 => ?_)
    obtain ⟨rfl, e1, hV18, hP18⟩ := q18
    subst e1
    have hO18 := hO1.l hP18
    have hX18 := hX1.of (hP18 _ (by omega)) (hP18 _ (by omega))
    refine V_istore_n (lv2 := [(3, .int (nI (v_nc V))), (2, .int (nI (ctN n f (tok n f e).1 (tok n f e).2))), (0, .ref (b)), (1, .ref (c))]) dX5_isCallRead_21 rfl (by decide) rfl ?_
    refine V_iconst (v := nI 0) dX5_isCallRead_22 rfl ?_
    refine V_istore (lv2 := [(4, .int (nI 0)), (3, .int (nI (v_nc V))), (2, .int (nI (ctN n f (tok n f e).1 (tok n f e).2))), (0, .ref (b)), (1, .ref (c))]) dX5_isCallRead_23 (by decide) rfl ?_
    have lp25 : ∀ k, k ≤ (ctN n f (tok n f e).1 (tok n f e).2) → ∀ iv2 : IV, XC iv2 c (addNs V f (tok n f e).1  k) → XTp iv2 b n f (tok n f e).1 (tok n f e).2 → Of2 c 9 b 1 iv iv2 → VM g mX5_isCallRead 25 [(4, .int (nI k)), (2, .int (nI (ctN n f (tok n f e).1 (tok n f e).2))), (3, .int (nI (v_nc V))), (0, .ref (b)), (1, .ref (c))] [] S iv2 lw Q := by
      refine up_ind fun k hk ih25 => ?_
      intro iv2 hV2 hX2 hO2
      refine V_iload dX5_isCallRead_25 0 rfl ?_
      refine V_iload_n (i := 2) dX5_isCallRead_27 rfl 1 rfl ?_
      refine V_icmp_ge (tgt := 47) dX5_isCallRead_28 rfl (fun h28 => ?_) (fun h28 => ?_)
      · have h28 : (ctN n f (tok n f e).1 (tok n f e).2) ≤ k := (nI_leI (by omega) (by omega)).mp h28
        have hk9 : k = ctN n f (tok n f e).1 (tok n f e).2 := by omega
        refine V_aload_n (i := 0) dX5_isCallRead_47 rfl 3 rfl ?_
        refine M_callVn (As := []) (st := []) dX5_isCallRead_48 lv_X5_32 ⟨by decide, by decide⟩ ⟨rfl, rfl⟩ rfl (ci := 5) hb.1 rfl rfl (Nat.le_of_ble_eq_true rfl) (t_next hb (hX2)) (fun iv48 lw48 q48 => ?_)
        obtain ⟨e1, hX48, hP48⟩ := q48
        subst e1
        have hV48 := (hV2).of (fun a h1 h2 => hP48 a (by omega))
        have hO48 : Of2 c 9 b 1 iv iv48 := (hO2).r hP48
        refine V_aload_n (i := 0) dX5_isCallRead_51 rfl 3 rfl ?_
        refine M_callVp (As := []) (st := []) dX5_isCallRead_52 lv_X5_96 ⟨by decide, by decide⟩ ⟨rfl, rfl⟩ rfl (ci := 5) hb.1 rfl rfl (Nat.le_of_ble_eq_true rfl) (t_num hb hX48) ?_
        refine V_istore (lv2 := [(4, .int (oI (nhT n f (tok n f (tok n f e).2)))), (2, .int (nI (ctN n f (tok n f e).1 (tok n f e).2))), (3, .int (nI (v_nc V))), (0, .ref (b)), (1, .ref (c))]) dX5_isCallRead_55 (by decide) rfl ?_
        refine V_iload dX5_isCallRead_57 0 rfl ?_
        refine M_callSp (As := [.int (oI (nhT n f (tok n f (tok n f e).2)))]) (st := []) dX5_isCallRead_59 ls_X5_99 ⟨by decide, by decide⟩ ⟨rfl, rfl⟩ rfl (Nat.le_of_ble_eq_true rfl) (t_X0_isUse) ?_
        refine V_if_ne (tgt := 67) dX5_isCallRead_62 rfl (fun h62 => ?_) (fun h62 => ?_)
        · have h62 : (1 : Int) ≤ (oI (nhT n f (tok n f (tok n f e).2))).toInt ∧ (oI (nhT n f (tok n f (tok n f e).2))).toInt ≤ 99 := bI_ne.mp h62
          obtain ⟨v1, hv1, hi1⟩ := num_in nh_lt (show 0 ≤ (oI (nhT n f (tok n f (tok n f e).2))).toInt by omega)
          have hr1 : rdNum 1 100 (nhT n f (tok n f (tok n f e).2)) = some v1 := rd_t hv1 (by omega)
          refine M_at (lv2 := [(4, .int (nI v1)), (2, .int (nI (ctN n f (tok n f e).1 (tok n f e).2))), (3, .int (nI (v_nc V))), (0, .ref (b)), (1, .ref (c))]) (st2 := []) ?_ (by rw [hv1]; rfl) rfl rfl rfl
          refine V_aload_n (i := 1) dX5_isCallRead_67 rfl 4 rfl ?_
          refine V_iload_n (i := 3) dX5_isCallRead_68 rfl 2 rfl ?_
          refine V_iload dX5_isCallRead_69 0 rfl ?_
          refine M_callVq (As := [.int (nI (v_nc V)), .int (nI v1)]) (st := []) dX5_isCallRead_71 lv_X5_103 ⟨by decide, by decide⟩ ⟨rfl, rfl⟩ rfl (ci := 0) hc.1 rfl rfl (Nat.le_of_ble_eq_true rfl) (t_changeUse hc hV48 (c := v_nc V) (u := v1) (by rw [addNs_nc]; omega) (by omega)) (fun w71 iv71 lw71 q71 => ?_)
          obtain ⟨rfl, e1, hV71, hP71⟩ := q71
          subst e1
          refine V_pop dX5_isCallRead_74 rfl ?_
          refine V_aload_n (i := 0) dX5_isCallRead_75 rfl 3 rfl ?_
          refine M_callVn (As := []) (st := []) dX5_isCallRead_76 lv_X5_32 ⟨by decide, by decide⟩ ⟨rfl, rfl⟩ rfl (ci := 5) hb.1 rfl rfl (Nat.le_of_ble_eq_true rfl) (t_next hb (hX48.of (hP71 _ (by omega)) (hP71 _ (by omega)))) (fun iv76 lw76 q76 => ?_)
          obtain ⟨e1, hX76, hP76⟩ := q76
          subst e1
          have hV76 := (hV71).of (fun a h1 h2 => hP76 a (by omega))
          have hO76 : Of2 c 9 b 1 iv iv76 := (hO48.l hP71).r hP76
          refine V_aload_n (i := 0) dX5_isCallRead_79 rfl 3 rfl ?_
          refine M_callVp (As := []) (st := []) dX5_isCallRead_80 lv_X5_96 ⟨by decide, by decide⟩ ⟨rfl, rfl⟩ rfl (ci := 5) hb.1 rfl rfl (Nat.le_of_ble_eq_true rfl) (t_num hb hX76) ?_
          refine V_istore (lv2 := [(5, .int (oI (nhT n f (tok n f (tok n f (tok n f e).2).2)))), (4, .int (nI v1)), (2, .int (nI (ctN n f (tok n f e).1 (tok n f e).2))), (3, .int (nI (v_nc V))), (0, .ref (b)), (1, .ref (c))]) dX5_isCallRead_83 (by decide) rfl ?_
          refine V_iload dX5_isCallRead_85 0 rfl ?_
          refine M_callSp (As := [.int (oI (nhT n f (tok n f (tok n f (tok n f e).2).2)))]) (st := []) dX5_isCallRead_87 ls_X5_106 ⟨by decide, by decide⟩ ⟨rfl, rfl⟩ rfl (Nat.le_of_ble_eq_true rfl) (t_X0_isCost) ?_
          refine V_if_ne (tgt := 95) dX5_isCallRead_90 rfl (fun h90 => ?_) (fun h90 => ?_)
          · have h90 : (0 : Int) ≤ (oI (nhT n f (tok n f (tok n f (tok n f e).2).2))).toInt ∧ (oI (nhT n f (tok n f (tok n f (tok n f e).2).2))).toInt ≤ 99 := bI_ne.mp h90
            obtain ⟨v2, hv2, hi2⟩ := num_in nh_lt (show 0 ≤ (oI (nhT n f (tok n f (tok n f (tok n f e).2).2))).toInt by omega)
            have hr2 : rdNum 0 100 (nhT n f (tok n f (tok n f (tok n f e).2).2)) = some v2 := rd_t hv2 (by omega)
            refine M_at (lv2 := [(5, .int (nI v2)), (4, .int (nI v1)), (2, .int (nI (ctN n f (tok n f e).1 (tok n f e).2))), (3, .int (nI (v_nc V))), (0, .ref (b)), (1, .ref (c))]) (st2 := []) ?_ (by rw [hv2]; rfl) rfl rfl rfl
            refine V_aload_n (i := 1) dX5_isCallRead_95 rfl 5 rfl ?_
            refine V_iload_n (i := 3) dX5_isCallRead_96 rfl 3 rfl ?_
            refine V_iload dX5_isCallRead_97 0 rfl ?_
            refine M_callVq (As := [.int (nI (v_nc V)), .int (nI v2)]) (st := []) dX5_isCallRead_99 lv_X5_109 ⟨by decide, by decide⟩ ⟨rfl, rfl⟩ rfl (ci := 0) hc.1 rfl rfl (Nat.le_of_ble_eq_true rfl) (t_changeCost hc hV76 (c := v_nc V) (u := v2) (by show v_nc V < v_nc (addNs V f (tok n f e).1  k); rw [addNs_nc]; omega) (by omega)) (fun w99 iv99 lw99 q99 => ?_)
            obtain ⟨rfl, e1, hV99, hP99⟩ := q99
            subst e1
            refine V_pop dX5_isCallRead_102 rfl ?_
            refine V_aload_n (i := 0) dX5_isCallRead_103 rfl 4 rfl ?_
            refine M_callVn (As := []) (st := []) dX5_isCallRead_104 lv_X5_32 ⟨by decide, by decide⟩ ⟨rfl, rfl⟩ rfl (ci := 5) hb.1 rfl rfl (Nat.le_of_ble_eq_true rfl) (t_next hb (hX76.of (hP99 _ (by omega)) (hP99 _ (by omega)))) (fun iv104 lw104 q104 => ?_)
            obtain ⟨e1, hX104, hP104⟩ := q104
            subst e1
            have hV104 := (hV99).of (fun a h1 h2 => hP104 a (by omega))
            have hO104 : Of2 c 9 b 1 iv iv104 := (hO76.l hP99).r hP104
            refine V_iconst (v := nI 1) dX5_isCallRead_107 rfl ?_
            refine V_zret dX5_isCallRead_108 ⟨rfl, rfl⟩ (by rfl) (Nat.zero_le _) (Nat.zero_le _) ?_
            subst hQ
            exact ⟨_, _, _, rfl, rfl, rfl, by unfold rdCall; rw [if_neg h10]; unfold rdTwo; rw [hr1]; unfold rdSet; rw [hr2]; rw [hk9] at hV104; exact ⟨rfl, hX104, hV104⟩, hO104⟩
          · have h90 : ¬ ((0 : Int) ≤ (oI (nhT n f (tok n f (tok n f (tok n f e).2).2))).toInt ∧ (oI (nhT n f (tok n f (tok n f (tok n f e).2).2))).toInt ≤ 99) := bI_eq0.mp h90
            have hr2 : rdNum 0 100 (nhT n f (tok n f (tok n f (tok n f e).2).2)) = none := rd_f nh_lt (fun z => h90 (by omega))
            refine V_iconst (v := nI 0) dX5_isCallRead_93 rfl ?_
            refine V_zret dX5_isCallRead_94 ⟨rfl, rfl⟩ (by rfl) (Nat.zero_le _) (Nat.zero_le _) ?_
            subst hQ
            exact ⟨_, _, _, rfl, rfl, rfl, by unfold rdCall; rw [if_neg h10]; unfold rdTwo; rw [hr1]; unfold rdSet; rw [hr2]; exact ⟨rfl, _, hX76⟩, hO76⟩
        · have h62 : ¬ ((1 : Int) ≤ (oI (nhT n f (tok n f (tok n f e).2))).toInt ∧ (oI (nhT n f (tok n f (tok n f e).2))).toInt ≤ 99) := bI_eq0.mp h62
          have hr1 : rdNum 1 100 (nhT n f (tok n f (tok n f e).2)) = none := rd_f nh_lt (fun z => h62 (by omega))
          refine V_iconst (v := nI 0) dX5_isCallRead_65 rfl ?_
          refine V_zret dX5_isCallRead_66 ⟨rfl, rfl⟩ (by rfl) (Nat.zero_le _) (Nat.zero_le _) ?_
          subst hQ
          exact ⟨_, _, _, rfl, rfl, rfl, by unfold rdCall; rw [if_neg h10]; unfold rdTwo; rw [hr1]; exact ⟨rfl, _, hX48⟩, hO48⟩
      · have h28 : ¬ (ctN n f (tok n f e).1 (tok n f e).2) ≤ k := fun q => h28 ((nI_leI (by omega) (by omega)).mpr q)
        refine V_aload_n (i := 1) dX5_isCallRead_31 rfl 4 rfl ?_
        refine V_aload_n (i := 0) dX5_isCallRead_32 rfl 3 rfl ?_
        refine V_iload dX5_isCallRead_33 0 rfl ?_
        have htn := of_decide_eq_true (hcq.2 k (by omega))
        have hfk := hf _ htn.1
        refine M_callVp (As := [.int (nI k)]) (st := [.ref (c)]) dX5_isCallRead_35 lv_X5_88 ⟨by decide, by decide⟩ ⟨rfl, rfl⟩ rfl (ci := 5) hb.1 rfl rfl (Nat.le_of_ble_eq_true rfl) (t_textNote hb hX2 (k := k) htn.1) ?_
        refine M_top (x2 := nI (f ((tok n f e).1 + k) - 97)) (nI_sub htn.2.1) ?_
        refine M_callVn (As := [.int (nI (f ((tok n f e).1 + k) - 97))]) (st := []) dX5_isCallRead_38 lv_X5_92 ⟨by decide, by decide⟩ ⟨rfl, rfl⟩ rfl (ci := 0) hc.1 rfl rfl (Nat.le_of_ble_eq_true rfl) (t_addNote hc hV2 (t := f ((tok n f e).1 + k) - 97) (by rw [addNs_nc]; omega) (by rw [addNs_nc, Nat.add_sub_cancel, addNs_sz]; omega) (by omega)) (fun iv38 lw38 q38 => ?_)
        obtain ⟨e1, hV38, hP38⟩ := q38
        subst e1
        have hO38 := hO2.l hP38
        have hX38 := hX2.of (hP38 _ (by omega)) (hP38 _ (by omega))
        refine V_iinc (v := nI (k + 1)) (lv2 := [(4, .int (nI (k + 1))), (2, .int (nI (ctN n f (tok n f e).1 (tok n f e).2))), (3, .int (nI (v_nc V))), (0, .ref (b)), (1, .ref (c))]) dX5_isCallRead_41 0 rfl (nI_inc _) (by decide) rfl ?_
        refine V_goto (tgt := 25) dX5_isCallRead_44 rfl ?_
        refine V_sub [0, 1, 2, 3, 4] rfl ?_
        exact M_at (ih25 (by omega) iv38 hV38 hX38 hO38) (rfl) rfl (rfl) (rfl)
    refine V_sub [0, 2, 1, 3, 4] rfl ?_
    exact M_at (lp25 0 (Nat.zero_le _) iv18 hV18 hX18 hO18) (rfl) rfl (rfl) (rfl)
  · have h10 : (ctN n f (tok n f e).1 (tok n f e).2) = 0 := (nI_eq (b := 0) (by omega) (by omega)).mp h10
    refine V_iconst (v := nI 0) dX5_isCallRead_13 rfl ?_
    refine V_zret dX5_isCallRead_14 ⟨rfl, rfl⟩ (by rfl) (Nat.zero_le _) (Nat.zero_le _) ?_
    subst hQ
    exact ⟨_, _, _, rfl, rfl, rfl, by unfold rdCall; rw [if_pos (by omega)]; exact ⟨rfl, _, hX1⟩, hO1⟩
