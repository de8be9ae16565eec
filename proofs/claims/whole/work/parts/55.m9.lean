/-! the reference reads a camp -/
/-- cells that hold a camp of the class: what they keep well formed serves here too -/
theorem xc_ex {V : Cv} (h : VOK V) : ∃ iv, XC iv 0 V := by
  refine ⟨fun a k => if a = 0 then (if k = 8 then nI (v_nc V) else if k = 9 then nI (v_ne V) else if k = 10 then nI (v_nm V) else if k = 11 then nI (v_su V) else if k = 12 then nI (v_lo V) else v_se V) else if a = 1 then nI (v_sz V k) else if a = 2 then nI (v_pk V k) else if a = 3 then nI (v_us V k) else if a = 4 then nI (v_co V k) else if a = 5 then nI (v_kd V k) else if a = 6 then nI (v_by V k) else if a = 7 then nI (v_eo V k) else nI (v_lk V k), h, ⟨rfl, rfl, rfl, rfl, rfl, rfl⟩, fun c _ => ⟨rfl, rfl, rfl, rfl⟩, fun e _ => ⟨rfl, rfl⟩, fun m _ => ⟨rfl, rfl⟩⟩
theorem vok_addC {V : Cv} {u k : Nat} (h : VOK V) (hn : v_nc V < 12) (hu : 1 ≤ u ∧ u ≤ 99) (hk : k ≤ 99) : VOK (v_addC V u k) := by obtain ⟨iv, hx⟩ := xc_ex h; exact (xc_addC hx hn hu hk).ok
theorem vok_addN {V : Cv} {t : Nat} (h : VOK V) (hn : 0 < v_nc V) (hs : v_sz V (v_nc V - 1) < 8) (ht : t ≤ 4) : VOK (v_addN V t) := by obtain ⟨iv, hx⟩ := xc_ex h; exact (xc_addN hx hn hs ht).ok
theorem vok_setU {V : Cv} {d u : Nat} (h : VOK V) (hu : 1 ≤ u ∧ u ≤ 99) : VOK (v_setU V d u) := by obtain ⟨iv, hx⟩ := xc_ex h; exact (xc_setU (d := d) hx hu).ok
theorem vok_setK {V : Cv} {d u : Nat} (h : VOK V) (hu : u ≤ 99) : VOK (v_setK V d u) := by obtain ⟨iv, hx⟩ := xc_ex h; exact (xc_setK (d := d) hx hu).ok
theorem vok_setS {V : Cv} {s : Nat} (h : VOK V) (hs : s ≤ 1000) : VOK (v_setS V s) := by obtain ⟨iv, hx⟩ := xc_ex h; exact (xc_setS hx hs).ok
theorem vok_setL {V : Cv} {s : Nat} (h : VOK V) (hs : s ≤ 100) : VOK (v_setL V s) := by obtain ⟨iv, hx⟩ := xc_ex h; exact (xc_setL hx hs).ok
theorem vok_addE {V : Cv} {k a : Nat} (h : VOK V) (hn : v_ne V < 6) (hk : k ≤ 5) (ha : a ≤ 9) : VOK (v_addE V k a) := by obtain ⟨iv, hx⟩ := xc_ex h; exact (xc_addE hx hn hk ha).ok
theorem vok_addM {V : Cv} {k a : Nat} (h : VOK V) (hn : v_nm V < 8) (hk : k < v_ne V) (ha : a ≤ 1) : VOK (v_addM V k a) := by obtain ⟨iv, hx⟩ := xc_ex h; exact (xc_addM hx hn hk ha).ok
theorem vok_addNs {V : Cv} {f : Nat → Nat} {s : Nat} (h : VOK V) (hn : v_nc V < 12) : ∀ k, k ≤ 8 → (∀ i, i < k → f (s + i) - 97 ≤ 4) → VOK (addNs V f s k)
  | 0, _, _ => vok_addC h hn ⟨by decide, by decide⟩ (by decide)
  | k + 1, hk, hf => vok_addN (vok_addNs h hn k (by omega) (fun i hi => hf i (by omega))) (by rw [addNs_nc]; omega) (by rw [addNs_nc, Nat.add_sub_cancel, addNs_sz]; omega) (hf k (by omega))
def rsV (s : Nat) (r : Rs) : Prop := ∀ x, r = .ok x → VOK x.1 ∧ s ≤ x.2.1
theorem tok_ge {n e : Nat} {f : Nat → Nat} (h : e ≤ n) : e ≤ (tok n f e).1 ∧ (tok n f e).1 ≤ (tok n f e).2 := by
  have h1 : e ≤ runTo (spB n f) n e := by unfold runTo; omega
  have h2 := nx_le (f := f) (s := runTo (spB n f) n e) (n := n) (runTo_le h)
  exact ⟨h1, h2.1⟩
theorem rdSet_V {n s lo hi : Nat} {F : Nat → Cv} {f : Nat → Nat} {t : Nat × Nat} (h1 : s ≤ t.2) (h2 : t.2 ≤ n) (hF : ∀ v, lo ≤ v → v < hi → VOK (F v)) : rsV s (rdSet lo hi F n f t) := fun x h => by
  unfold rdSet at h
  split at h
  · cases h
  · rename_i v hv
    have := rdNum_in hv
    cases h
    exact ⟨hF v this.1 this.2, Nat.le_trans h1 (tok_ge h2).1⟩
theorem rdTwo_V {n s lo hi lo2 hi2 : Nat} {F : Nat → Nat → Cv} {f : Nat → Nat} {t : Nat × Nat} (h1 : s ≤ t.2) (h2 : t.2 ≤ n) (hF : ∀ v w, lo ≤ v → v < hi → lo2 ≤ w → w < hi2 → VOK (F v w)) : rsV s (rdTwo lo hi lo2 hi2 F n f t) := by
  unfold rdTwo
  split
  · exact fun x h => by cases h
  · rename_i v hv
    have h3 := rdNum_in hv
    exact rdSet_V (Nat.le_trans h1 (Nat.le_trans (tok_ge h2).1 (tok_ge h2).2)) (tok_le h2).2 (fun w a b => hF v w h3.1 h3.2 a b)
theorem rdSt_V {n : Nat} {f : Nat → Nat} {V : Cv} {s e : Nat} (hv : VOK V) (h1 : s ≤ e) (h2 : e ≤ n) : rsV s (rdSt n f V s e) := by
  have hge := tok_ge (f := f) h2
  have ht := tok_le (f := f) h2
  have hse : s ≤ (tok n f e).2 := by omega
  have hn : rsV s (.error s) := fun x h => by cases h
  unfold rdSt
  split
  · split
    · rename_i hn12
      unfold rdCall
      split
      · exact fun x h => by cases h
      · rename_i h0
        have hge2 := tok_ge (f := f) ht.2
        obtain ⟨c1, c2⟩ := ct_in h0
        have c8 := ct_n8 n f (tok n f e).1 (tok n f e).2
        exact rdTwo_V (by omega) (tok_le ht.2).2 (fun v w a b c d => vok_setK (vok_setU (vok_addNs hv hn12 _ c8 (fun i hi => by have := of_decide_eq_true (c2 i hi); omega)) ⟨a, by omega⟩) (by omega))
    · exact hn
  · split
    · split
      · rename_i h6
        exact rdTwo_V hse ht.2 (fun v w a b c d => vok_addE hv h6 (by omega) (by omega))
      · exact hn
    · split
      · split
        · rename_i h6
          exact rdTwo_V hse ht.2 (fun v w a b c d => vok_addM hv h6 b (by omega))
        · exact hn
      · split
        · exact rdSet_V hse ht.2 (fun v a b => vok_setS hv (by omega))
        · split
          · exact rdSet_V hse ht.2 (fun v a b => vok_setL hv (by omega))
          · split
            · exact rdTwo_V hse ht.2 (fun v w a b c d => vok_setU hv ⟨c, by omega⟩)
            · exact hn
/-- what a statement is, told by its word -/
theorem st_w {n : Nat} {f : Nat → Nat} {V : Cv} {s : Nat} (h : ∀ i, i < 6 → ¬ wordB n f s (nxE n f s) i = true) : rdSt n f V s (nxE n f s) = .error s := by
  unfold rdSt
  rw [if_neg (h 0 (by decide)), if_neg (h 1 (by decide)), if_neg (h 2 (by decide)), if_neg (h 3 (by decide)), if_neg (h 4 (by decide)), if_neg (h 5 (by decide))]
abbrev okG (r : Rg) : Bool := match r with
  | .error _ => false
  | .ok _ => true
/-- what comes behind a statement -/
def contP (n : Nat) (f : Nat → Nat) (k m : Nat) (V : Cv) (s : Nat) : Rg := if n ≤ s then .ok (m, V) else if sgB n f s = true then rdGo n f k (m + 1) V (tok n f (nxE n f s)) else .error s
theorem go_ok {n k m : Nat} {f : Nat → Nat} {V : Cv} {t : Nat × Nat} {x : Cv × (Nat × Nat)} (h : rdSt n f V t.1 t.2 = .ok x) (h2 : x.2.2 = nxE n f x.2.1) : rdGo n f (k + 1) m V t = contP n f k m x.1 x.2.1 := by
  unfold contP
  by_cases c1 : n ≤ x.2.1
  · rw [rdGo_end h c1, if_pos c1]
  · by_cases c2 : sgB n f x.2.1 = true
    · rw [rdGo_go h c1 c2, if_neg c1, if_pos c2, h2]
    · rw [rdGo_no h c1 c2, if_neg c1, if_neg c2]
theorem st_end {n : Nat} {f : Nat → Nat} {V : Cv} {s : Nat} (h : n ≤ s) (hq : tpQ n f) : rdSt n f V s (nxE n f s) = .error s := st_w (fun i hi z => by have := (of_decide_eq_true (word_k hi hq z)).1; omega)
theorem mtk_fr {iv iv2 : IV} {b n s : Nat} {f : Nat → Nat} (h : MTk iv b n f s) (he : ∀ k, 25 ≤ k ∧ k ≤ 28 → iv2 b k = iv b k) : MTk iv2 b n f s := ⟨h.1, (he _ (by omega)).trans h.2.1, (he _ (by omega)).trans h.2.2.1, (he _ (by omega)).trans h.2.2.2.1, fun z => (he _ (by omega)).trans (h.2.2.2.2 z)⟩
/-- only the camp, and no helping field -/
def MBp (b : Nat) (iv iv2 : IV) : Prop := MB b iv iv2 ∧ ∀ a k, (a = b → 25 ≤ k) → (a < b + 18 ∨ b + 37 ≤ a) → iv2 a k = iv a k
set_option maxRecDepth 20000 in
theorem r_addEar2 {g : Ev} {S : St} {iv : IV} {lw : LW} {b : Nat} (hb : IsMod S b) {V : Cv} (hV : MC iv b V) (hv : VOK V) {k a : Nat} (hn : v_ne V < 6) : CN g mX10_addEar [.ref (b), .int (nI k), .int (nI a)] S iv lw (fun iv2 lw2 => lw = lw2 ∧ MC iv2 b (v_addE V k a) ∧ MBp b iv iv2) := by
  refine CT_ofQ rfl (by decide) (Nat.le_of_ble_eq_true rfl) (lv := [(0, .ref (b)), (1, .int (nI k)), (2, .int (nI a))]) rfl (fun Q hQ => ?_)
  refine V_aload_n (i := 0) dX10_addEar_0 rfl 0 rfl ?_
  refine M_getR dX10_addEar_1 lf_X10_51 rfl hb.1 hb.2.2.2.2.2.2.2.2.2.2.2.2.2.1.1 ?_
  refine V_aload_n (i := 0) dX10_addEar_4 rfl 0 rfl ?_
  refine M_getI (x := nI (v_ne V)) dX10_addEar_5 lf_X10_95 rfl hb.1 (hV.ne) ?_
  refine V_iload_n (i := 1) dX10_addEar_8 rfl 1 rfl ?_
  refine M_iastn (j := (v_ne V)) dX10_addEar_9 hb.2.2.2.2.2.2.2.2.2.2.2.2.2.1.2 (by decide) (by omega) ?_
  refine V_aload_n (i := 0) dX10_addEar_10 rfl 0 rfl ?_
  refine M_getR dX10_addEar_11 lf_X10_54 rfl hb.1 hb.2.2.2.2.2.2.2.2.2.2.2.2.2.2.1.1 ?_
  refine V_aload_n (i := 0) dX10_addEar_14 rfl 0 rfl ?_
  refine M_getI (x := nI (v_ne V)) dX10_addEar_15 lf_X10_95 rfl hb.1 ((up2_ne (by omega)).trans (hV.ne)) ?_
  refine V_iload_n (i := 2) dX10_addEar_18 rfl 2 rfl ?_
  refine M_iastn (j := (v_ne V)) dX10_addEar_19 hb.2.2.2.2.2.2.2.2.2.2.2.2.2.2.1.2 (by decide) (by omega) ?_
  refine V_aload_n (i := 0) dX10_addEar_20 rfl 0 rfl ?_
  refine V_dup dX10_addEar_21 rfl ?_
  refine M_getI (x := nI (v_ne V)) dX10_addEar_22 lf_X10_95 rfl hb.1 ((up2_ne (by omega)).trans ((up2_ne (by omega)).trans (hV.ne))) ?_
  refine V_iconst (v := nI 1) dX10_addEar_25 rfl ?_
  refine V_iadd dX10_addEar_26 ?_
  refine M_top (nI_add _ _) ?_
  refine M_putI dX10_addEar_27 lf_X10_95 rfl hb.1 ⟨rfl, rfl⟩ ?_
  refine V_vret dX10_addEar_30 ⟨rfl, rfl⟩ (Nat.zero_le _) (Nat.zero_le _) ?_
  subst hQ
  exact ⟨_, _, rfl, rfl, rfl, mc_addE hV hv, ((MB.rf.up (by omega)).up (by omega)).up (by omega), fun a k p q => by rw [up2_o (by omega), up2_o (by omega), up2_o (by omega)]⟩
set_option maxRecDepth 20000 in
theorem r_addMan2 {g : Ev} {S : St} {iv : IV} {lw : LW} {b : Nat} (hb : IsMod S b) {V : Cv} (hV : MC iv b V) (hv : VOK V) {k a : Nat} (hn : v_nm V < 8) : CN g mX10_addMan [.ref (b), .int (nI k), .int (nI a)] S iv lw (fun iv2 lw2 => lw = lw2 ∧ MC iv2 b (v_addM V k a) ∧ MBp b iv iv2) := by
  refine CT_ofQ rfl (by decide) (Nat.le_of_ble_eq_true rfl) (lv := [(0, .ref (b)), (1, .int (nI k)), (2, .int (nI a))]) rfl (fun Q hQ => ?_)
  refine V_aload_n (i := 0) dX10_addMan_0 rfl 0 rfl ?_
  refine M_getR dX10_addMan_1 lf_X10_57 rfl hb.1 hb.2.2.2.2.2.2.2.2.2.2.2.2.2.2.2.1.1 ?_
  refine V_aload_n (i := 0) dX10_addMan_4 rfl 0 rfl ?_
  refine M_getI (x := nI (v_nm V)) dX10_addMan_5 lf_X10_98 rfl hb.1 (hV.nm) ?_
  refine V_iload_n (i := 1) dX10_addMan_8 rfl 1 rfl ?_
  refine M_iastn (j := (v_nm V)) dX10_addMan_9 hb.2.2.2.2.2.2.2.2.2.2.2.2.2.2.2.1.2 (by decide) (by omega) ?_
  refine V_aload_n (i := 0) dX10_addMan_10 rfl 0 rfl ?_
  refine M_getR dX10_addMan_11 lf_X10_60 rfl hb.1 hb.2.2.2.2.2.2.2.2.2.2.2.2.2.2.2.2.1.1 ?_
  refine V_aload_n (i := 0) dX10_addMan_14 rfl 0 rfl ?_
  refine M_getI (x := nI (v_nm V)) dX10_addMan_15 lf_X10_98 rfl hb.1 ((up2_ne (by omega)).trans (hV.nm)) ?_
  refine V_iload_n (i := 2) dX10_addMan_18 rfl 2 rfl ?_
  refine M_iastn (j := (v_nm V)) dX10_addMan_19 hb.2.2.2.2.2.2.2.2.2.2.2.2.2.2.2.2.1.2 (by decide) (by omega) ?_
  refine V_aload_n (i := 0) dX10_addMan_20 rfl 0 rfl ?_
  refine V_dup dX10_addMan_21 rfl ?_
  refine M_getI (x := nI (v_nm V)) dX10_addMan_22 lf_X10_98 rfl hb.1 ((up2_ne (by omega)).trans ((up2_ne (by omega)).trans (hV.nm))) ?_
  refine V_iconst (v := nI 1) dX10_addMan_25 rfl ?_
  refine V_iadd dX10_addMan_26 ?_
  refine M_top (nI_add _ _) ?_
  refine M_putI dX10_addMan_27 lf_X10_98 rfl hb.1 ⟨rfl, rfl⟩ ?_
  refine V_vret dX10_addMan_30 ⟨rfl, rfl⟩ (Nat.zero_le _) (Nat.zero_le _) ?_
  subst hQ
  exact ⟨_, _, rfl, rfl, rfl, mc_addM hV hv, ((MB.rf.up (by omega)).up (by omega)).up (by omega), fun a k p q => by rw [up2_o (by omega), up2_o (by omega), up2_o (by omega)]⟩
set_option maxRecDepth 20000 in
theorem r_statement {g : Ev} {S : St} {iv : IV} {lw : LW} {b : Nat} (hb : IsMod S b) {n : Nat} {f : Nat → Nat} (hT : MT iv b n f) (hq : tpQ n f) {V : Cv} (hV : MC iv b V) (hv : VOK V) {s : Nat} (hk : MTk iv b n f s) : CQ g mX10_statement [.ref (b)] S iv lw (fun w iv2 lw2 => lw = lw2 ∧ STq b n f iv (rdSt n f V s (nxE n f s)) w iv2) := by
  refine CT_ofQ rfl (by decide) (Nat.le_of_ble_eq_true rfl) (lv := [(0, .ref (b))]) rfl (fun Q hQ => ?_)
  have hnc := hv.nc
  have hne := hv.ne
  have hnm := hv.nm
  have hn250 := hq.1
  have hnx := nx_le (f := f) hk.1
  have hwat : ∀ i, i < 6 → wordB n f s (nxE n f s) i = true → iv b 25 = nI (nxE n f s) := fun i hi z => hk.2.2.2.1.trans (by rw [at_n (by rw [let_k (word_k hi hq z)]; decide)])
  refine V_aload_n (i := 0) dX10_statement_0 rfl 0 rfl ?_
  refine V_ldcS (i := 0) dX10_statement_1 (List.mem_of_getElem? (i := 6) rfl) ?_
  refine M_callVp (As := [.ref (100000 + (1 + 0))]) (st := []) dX10_statement_3 lv_X10_210 ⟨by decide, by decide⟩ ⟨rfl, rfl⟩ rfl (ci := 7) hb.1 rfl rfl (Nat.le_of_ble_eq_true rfl) (r_isWord hb hT hq hk (i := 0) (by decide)) ?_
  refine V_if_eq (tgt := 23) dX10_statement_6 rfl (fun h6 => ?_) (fun h6 => ?_)
  · have h6 : ¬ (wordB n f s (nxE n f s) 0 = true) := bI_eq0.mp h6
    refine V_aload_n (i := 0) dX10_statement_23 rfl 0 rfl ?_
    refine V_ldcS (i := 1) dX10_statement_24 (List.mem_of_getElem? (i := 7) rfl) ?_
    refine M_callVp (As := [.ref (100000 + (1 + 1))]) (st := []) dX10_statement_26 lv_X10_210 ⟨by decide, by decide⟩ ⟨rfl, rfl⟩ rfl (ci := 7) hb.1 rfl rfl (Nat.le_of_ble_eq_true rfl) (r_isWord hb hT hq hk (i := 1) (by decide)) ?_
    refine V_if_eq (tgt := 81) dX10_statement_29 rfl (fun h29 => ?_) (fun h29 => ?_)
    · have h29 : ¬ (wordB n f s (nxE n f s) 1 = true) := bI_eq0.mp h29
      refine V_aload_n (i := 0) dX10_statement_81 rfl 0 rfl ?_
      refine V_ldcS (i := 2) dX10_statement_82 (List.mem_of_getElem? (i := 8) rfl) ?_
      refine M_callVp (As := [.ref (100000 + (1 + 2))]) (st := []) dX10_statement_84 lv_X10_210 ⟨by decide, by decide⟩ ⟨rfl, rfl⟩ rfl (ci := 7) hb.1 rfl rfl (Nat.le_of_ble_eq_true rfl) (r_isWord hb hT hq hk (i := 2) (by decide)) ?_
      refine V_if_eq (tgt := 143) dX10_statement_87 rfl (fun h87 => ?_) (fun h87 => ?_)
      · have h87 : ¬ (wordB n f s (nxE n f s) 2 = true) := bI_eq0.mp h87
        refine V_aload_n (i := 0) dX10_statement_143 rfl 0 rfl ?_
        refine V_ldcS (i := 3) dX10_statement_144 (List.mem_of_getElem? (i := 9) rfl) ?_
        refine M_callVp (As := [.ref (100000 + (1 + 3))]) (st := []) dX10_statement_146 lv_X10_210 ⟨by decide, by decide⟩ ⟨rfl, rfl⟩ rfl (ci := 7) hb.1 rfl rfl (Nat.le_of_ble_eq_true rfl) (r_isWord hb hT hq hk (i := 3) (by decide)) ?_
        refine V_if_eq (tgt := 184) dX10_statement_149 rfl (fun h149 => ?_) (fun h149 => ?_)
        · have h149 : ¬ (wordB n f s (nxE n f s) 3 = true) := bI_eq0.mp h149
          refine V_aload_n (i := 0) dX10_statement_184 rfl 0 rfl ?_
          refine V_ldcS (i := 4) dX10_statement_185 (List.mem_of_getElem? (i := 10) rfl) ?_
          refine M_callVp (As := [.ref (100000 + (1 + 4))]) (st := []) dX10_statement_187 lv_X10_210 ⟨by decide, by decide⟩ ⟨rfl, rfl⟩ rfl (ci := 7) hb.1 rfl rfl (Nat.le_of_ble_eq_true rfl) (r_isWord hb hT hq hk (i := 4) (by decide)) ?_
          refine V_if_eq (tgt := 224) dX10_statement_190 rfl (fun h190 => ?_) (fun h190 => ?_)
          · have h190 : ¬ (wordB n f s (nxE n f s) 4 = true) := bI_eq0.mp h190
            refine V_aload_n (i := 0) dX10_statement_224 rfl 0 rfl ?_
            refine V_ldcS (i := 5) dX10_statement_225 (List.mem_of_getElem? (i := 11) rfl) ?_
            refine M_callVp (As := [.ref (100000 + (1 + 5))]) (st := []) dX10_statement_227 lv_X10_210 ⟨by decide, by decide⟩ ⟨rfl, rfl⟩ rfl (ci := 7) hb.1 rfl rfl (Nat.le_of_ble_eq_true rfl) (r_isWord hb hT hq hk (i := 5) (by decide)) ?_
            refine V_if_eq (tgt := 279) dX10_statement_230 rfl (fun h230 => ?_) (fun h230 => ?_)
            · have h230 : ¬ (wordB n f s (nxE n f s) 5 = true) := bI_eq0.mp h230
              refine V_aload_n (i := 0) dX10_statement_279 rfl 0 rfl ?_
              refine M_callVq (As := []) (st := []) dX10_statement_280 lv_X10_199 ⟨by decide, by decide⟩ ⟨rfl, rfl⟩ rfl (ci := 7) hb.1 rfl rfl (Nat.le_of_ble_eq_true rfl) (r_wrong hb hk.2.1) (fun w280 iv280 lw280 q280 => ?_)
              obtain ⟨rfl, e1, e2⟩ := q280
              subst e1
              subst e2
              refine V_zret dX10_statement_283 ⟨rfl, rfl⟩ (by rfl) (Nat.zero_le _) (Nat.zero_le _) ?_
              subst hQ
              exact ⟨_, _, _, rfl, rfl, rfl, STq.er (by unfold rdSt; rw [if_neg h6, if_neg h29, if_neg h87, if_neg h149, if_neg h190, if_neg h230]) up2_s (MB.rf.up (by omega)) (up2_k (by decide))⟩
            · have h230 : wordB n f s (nxE n f s) 5 = true := bI_ne.mp h230
              refine V_aload_n (i := 0) dX10_statement_233 rfl 0 rfl ?_
              refine V_iconst (v := nI 0) dX10_statement_234 rfl ?_
              refine V_aload_n (i := 0) dX10_statement_235 rfl 0 rfl ?_
              refine M_getI (x := nI (v_nc V)) dX10_statement_236 lf_X10_88 rfl hb.1 (hV.nc) ?_
              refine V_iconst (v := nI 1) dX10_statement_239 rfl ?_
              refine V_isub dX10_statement_240 ?_
              have h25 := hwat 5 (by decide) h230
              refine M_callVq (As := [.int (nI 0), .int ((nI (v_nc V) - nI 1))]) (st := []) dX10_statement_241 lv_X10_219 ⟨by decide, by decide⟩ ⟨rfl, rfl⟩ rfl (ci := 7) hb.1 rfl rfl (Nat.le_of_ble_eq_true rfl) (r_tells hb hT hq hnx.2 h25 (lo := 0) (hi := (v_nc V)) (by decide) (by rw [pk_sub_toInt (by omega) (by omega)]; omega) (by omega)) (fun w241 iv241 lw241 q241 => ?_)
              obtain ⟨e1, hnA⟩ := q241
              subst e1
              have hMa := hnA.mb
              obtain ⟨rfl, hNA, hEA, hOA⟩ := hnA
              have hVA := hV.ma hv hMa
              refine V_if_eq (tgt := 258) dX10_statement_244 rfl (fun h244 => ?_) (fun h244 => ?_)
              · have h244 : ¬ ((rdNum (0) ((v_nc V)) (nhO n f (tok n f (nxE n f s)).1 (nxE n f (tok n f (nxE n f s)).1))).isSome = true) := bI_eq0.mp h244
                have h244 := so_f h244
                refine V_iconst (v := nI 0) dX10_statement_258 rfl ?_
                refine V_zret dX10_statement_259 ⟨rfl, rfl⟩ (by rfl) (Nat.zero_le _) (Nat.zero_le _) ?_
                subst hQ
                exact ⟨_, _, _, rfl, rfl, rfl, STq.er (by unfold rdSt; rw [if_neg h6, if_neg h29, if_neg h87, if_neg h149, if_neg h190, if_pos h230]; exact rdTwo_n h244) (hEA h244) hMa.mb (hOA _ _ (by omega) (by omega))⟩
              · have h244 : (rdNum (0) ((v_nc V)) (nhO n f (tok n f (nxE n f s)).1 (nxE n f (tok n f (nxE n f s)).1))).isSome = true := bI_ne.mp h244
                obtain ⟨v1, h244⟩ := so_t h244
                refine V_aload_n (i := 0) dX10_statement_247 rfl 0 rfl ?_
                refine V_iconst (v := nI 1) dX10_statement_248 rfl ?_
                refine V_iconst (v := nI 1) dX10_statement_249 rfl ?_
                refine V_bipush (v := nI 99) dX10_statement_250 rfl ?_
                obtain ⟨hv1, hkA⟩ := hNA v1 h244
                have hTA : MT iv241 b n f := hMa.mt hT
                refine M_callVq (As := [.int (nI 1), .int (nI 1), .int (nI 99)]) (st := []) dX10_statement_252 lv_X10_205 ⟨by decide, by decide⟩ ⟨rfl, rfl⟩ rfl (ci := 7) hb.1 rfl rfl (Nat.le_of_ble_eq_true rfl) (r_number hb hTA hq hkA (i := 1) (lo := 1) (hi := 100) (by decide) (by decide) (by decide) (by omega)) (fun w252 iv252 lw252 q252 => ?_)
                obtain ⟨e1, hnB⟩ := q252
                subst e1
                have hMb := hnB.mb
                obtain ⟨rfl, hNB, hEB, hOB⟩ := hnB
                have hVB := hVA.ma hv hMb
                refine V_if_ne (tgt := 260) dX10_statement_255 rfl (fun h255 => ?_) (fun h255 => ?_)
                · have h255 : (rdNum (1) (100) (nhO n f (tok n f (nxE n f (tok n f (nxE n f s)).1)).1 (nxE n f (tok n f (nxE n f (tok n f (nxE n f s)).1)).1))).isSome = true := bI_ne.mp h255
                  obtain ⟨v2, h255⟩ := so_t h255
                  obtain ⟨hv2, hkB⟩ := hNB v2 h255
                  have hv1b := (hOB _ _ (by omega) (by omega)).trans hv1
                  have hu1 := rdNum_in h244
                  have hu2 := rdNum_in h255
                  refine V_aload_n (i := 0) dX10_statement_260 rfl 0 rfl ?_
                  refine M_getR dX10_statement_261 lf_X10_45 rfl hb.1 hb.2.2.2.2.2.2.2.2.2.2.2.1.1 ?_
                  refine V_aload_n (i := 0) dX10_statement_264 rfl 0 rfl ?_
                  refine M_getR dX10_statement_265 lf_X10_73 rfl hb.1 hb.2.2.2.2.2.2.2.2.2.2.2.2.2.2.2.2.2.1.1 ?_
                  refine V_iconst (v := nI 0) dX10_statement_268 rfl ?_
                  refine M_ialdn (j := 0) (x := nI v1) dX10_statement_269 hb.2.2.2.2.2.2.2.2.2.2.2.2.2.2.2.2.2.1.2 (by decide) (by omega) (hv1b) ?_
                  refine V_aload_n (i := 0) dX10_statement_270 rfl 0 rfl ?_
                  refine M_getR dX10_statement_271 lf_X10_73 rfl hb.1 hb.2.2.2.2.2.2.2.2.2.2.2.2.2.2.2.2.2.1.1 ?_
                  refine V_iconst (v := nI 1) dX10_statement_274 rfl ?_
                  refine M_ialdn (j := 1) (x := nI v2) dX10_statement_275 hb.2.2.2.2.2.2.2.2.2.2.2.2.2.2.2.2.2.1.2 (by decide) (by omega) (hv2) ?_
                  refine M_iastn (j := v1) dX10_statement_276 hb.2.2.2.2.2.2.2.2.2.2.2.1.2 (by decide) (by omega) ?_
                  refine V_iconst (v := nI 1) dX10_statement_277 rfl ?_
                  refine V_zret dX10_statement_278 ⟨rfl, rfl⟩ (by rfl) (Nat.zero_le _) (Nat.zero_le _) ?_
                  subst hQ
                  exact ⟨_, _, _, rfl, rfl, rfl, STq.ok (by unfold rdSt; rw [if_neg h6, if_neg h29, if_neg h87, if_neg h149, if_neg h190, if_pos h230]; exact (rdTwo_s h244).trans (rdSet_s h255)) (mc_setU hVB hv) (mtk_fr hkB (fun k hk => up2_ne (by omega))) rfl ((MB.tr hMa.mb hMb.mb).up (by omega)) ((up2_ne (by omega)).trans ((hOB _ _ (by omega) (by omega)).trans (hOA _ _ (by omega) (by omega))))⟩
                · have h255 : ¬ ((rdNum (1) (100) (nhO n f (tok n f (nxE n f (tok n f (nxE n f s)).1)).1 (nxE n f (tok n f (nxE n f (tok n f (nxE n f s)).1)).1))).isSome = true) := bI_eq0.mp h255
                  have h255 := so_f h255
                  refine V_iconst (v := nI 0) dX10_statement_258 rfl ?_
                  refine V_zret dX10_statement_259 ⟨rfl, rfl⟩ (by rfl) (Nat.zero_le _) (Nat.zero_le _) ?_
                  subst hQ
                  exact ⟨_, _, _, rfl, rfl, rfl, STq.er (by unfold rdSt; rw [if_neg h6, if_neg h29, if_neg h87, if_neg h149, if_neg h190, if_pos h230]; exact (rdTwo_s h244).trans (rdSet_n h255)) (hEB h255) (hMa.mb.tr hMb.mb) ((hOB _ _ (by omega) (by omega)).trans (hOA _ _ (by omega) (by omega)))⟩
          · have h190 : wordB n f s (nxE n f s) 4 = true := bI_ne.mp h190
            refine V_aload_n (i := 0) dX10_statement_193 rfl 0 rfl ?_
            refine V_iconst (v := nI 0) dX10_statement_194 rfl ?_
            refine V_bipush (v := nI 100) dX10_statement_195 rfl ?_
            have h25 := hwat 4 (by decide) h190
            refine M_callVq (As := [.int (nI 0), .int (nI 100)]) (st := []) dX10_statement_197 lv_X10_219 ⟨by decide, by decide⟩ ⟨rfl, rfl⟩ rfl (ci := 7) hb.1 rfl rfl (Nat.le_of_ble_eq_true rfl) (r_tells hb hT hq hnx.2 h25 (lo := 0) (hi := 101) (by decide) (by decide) (by omega)) (fun w197 iv197 lw197 q197 => ?_)
            obtain ⟨e1, hnA⟩ := q197
            subst e1
            have hMa := hnA.mb
            obtain ⟨rfl, hNA, hEA, hOA⟩ := hnA
            have hVA := hV.ma hv hMa
            refine V_istore_n (lv2 := [(1, .int (bI ((rdNum (0) (101) (nhO n f (tok n f (nxE n f s)).1 (nxE n f (tok n f (nxE n f s)).1))).isSome = true))), (0, .ref (b))]) dX10_statement_200 rfl (by decide) rfl ?_
            refine V_aload_n (i := 0) dX10_statement_201 rfl 1 rfl ?_
            refine V_iload_n (i := 1) dX10_statement_202 rfl 0 rfl ?_
            refine V_if_eq (tgt := 215) dX10_statement_203 rfl (fun h203 => ?_) (fun h203 => ?_)
            · have h203 : ¬ ((rdNum (0) (101) (nhO n f (tok n f (nxE n f s)).1 (nxE n f (tok n f (nxE n f s)).1))).isSome = true) := bI_eq0.mp h203
              have h203 := so_f h203
              refine V_aload_n (i := 0) dX10_statement_215 rfl 1 rfl ?_
              refine M_getI (x := nI (v_lo V)) dX10_statement_216 lf_X10_67 rfl hb.1 (hVA.lo) ?_
              refine M_putI dX10_statement_219 lf_X10_67 rfl hb.1 ⟨rfl, rfl⟩ ?_
              refine V_iload_n (i := 1) dX10_statement_222 rfl 0 rfl ?_
              refine V_zret dX10_statement_223 ⟨rfl, rfl⟩ (bI_nar) (Nat.zero_le _) (Nat.zero_le _) ?_
              subst hQ
              refine ⟨_, _, _, rfl, rfl, rfl, ?_⟩
              rw [show (rdNum 0 101 (nhO n f (tok n f (nxE n f s)).1 (nxE n f (tok n f (nxE n f s)).1))) = none from h203]
              exact STq.er (by unfold rdSt; rw [if_neg h6, if_neg h29, if_neg h87, if_neg h149, if_pos h190]; exact rdSet_n h203) ((up2_k (by decide)).trans (hEA h203)) (hMa.mb.up (by omega)) ((up2_k (by decide)).trans (hOA _ _ (by omega) (by omega)))
            · have h203 : (rdNum (0) (101) (nhO n f (tok n f (nxE n f s)).1 (nxE n f (tok n f (nxE n f s)).1))).isSome = true := bI_ne.mp h203
              obtain ⟨v1, h203⟩ := so_t h203
              obtain ⟨hv1, hkA⟩ := hNA v1 h203
              refine V_aload_n (i := 0) dX10_statement_206 rfl 1 rfl ?_
              refine M_getR dX10_statement_207 lf_X10_73 rfl hb.1 hb.2.2.2.2.2.2.2.2.2.2.2.2.2.2.2.2.2.1.1 ?_
              refine V_iconst (v := nI 0) dX10_statement_210 rfl ?_
              refine M_ialdn (j := 0) (x := nI v1) dX10_statement_211 hb.2.2.2.2.2.2.2.2.2.2.2.2.2.2.2.2.2.1.2 (by decide) (by omega) (hv1) ?_
              refine V_goto (tgt := 219) dX10_statement_212 rfl ?_
              refine M_putI dX10_statement_219 lf_X10_67 rfl hb.1 ⟨rfl, rfl⟩ ?_
              refine V_iload_n (i := 1) dX10_statement_222 rfl 0 rfl ?_
              refine V_zret dX10_statement_223 ⟨rfl, rfl⟩ (bI_nar) (Nat.zero_le _) (Nat.zero_le _) ?_
              subst hQ
              refine ⟨_, _, _, rfl, rfl, rfl, ?_⟩
              rw [show (rdNum 0 101 (nhO n f (tok n f (nxE n f s)).1 (nxE n f (tok n f (nxE n f s)).1))) = some v1 from h203]
              exact STq.ok (by unfold rdSt; rw [if_neg h6, if_neg h29, if_neg h87, if_neg h149, if_pos h190]; exact rdSet_s h203) (mc_setL hVA hnc) (mtk_fr hkA (fun k hk => up2_k (by omega))) rfl (hMa.mb.up (by omega)) ((up2_k (by decide)).trans (hOA _ _ (by omega) (by omega)))
        · have h149 : wordB n f s (nxE n f s) 3 = true := bI_ne.mp h149
          refine V_aload_n (i := 0) dX10_statement_152 rfl 0 rfl ?_
          refine V_iconst (v := nI 0) dX10_statement_153 rfl ?_
          refine V_sipush (v := nI 1000) dX10_statement_154 rfl ?_
          have h25 := hwat 3 (by decide) h149
          refine M_callVq (As := [.int (nI 0), .int (nI 1000)]) (st := []) dX10_statement_157 lv_X10_219 ⟨by decide, by decide⟩ ⟨rfl, rfl⟩ rfl (ci := 7) hb.1 rfl rfl (Nat.le_of_ble_eq_true rfl) (r_tells hb hT hq hnx.2 h25 (lo := 0) (hi := 1001) (by decide) (by decide) (by omega)) (fun w157 iv157 lw157 q157 => ?_)
          obtain ⟨e1, hnA⟩ := q157
          subst e1
          have hMa := hnA.mb
          obtain ⟨rfl, hNA, hEA, hOA⟩ := hnA
          have hVA := hV.ma hv hMa
          refine V_istore_n (lv2 := [(1, .int (bI ((rdNum (0) (1001) (nhO n f (tok n f (nxE n f s)).1 (nxE n f (tok n f (nxE n f s)).1))).isSome = true))), (0, .ref (b))]) dX10_statement_160 rfl (by decide) rfl ?_
          refine V_aload_n (i := 0) dX10_statement_161 rfl 1 rfl ?_
          refine V_iload_n (i := 1) dX10_statement_162 rfl 0 rfl ?_
          refine V_if_eq (tgt := 175) dX10_statement_163 rfl (fun h163 => ?_) (fun h163 => ?_)
          · have h163 : ¬ ((rdNum (0) (1001) (nhO n f (tok n f (nxE n f s)).1 (nxE n f (tok n f (nxE n f s)).1))).isSome = true) := bI_eq0.mp h163
            have h163 := so_f h163
            refine V_aload_n (i := 0) dX10_statement_175 rfl 1 rfl ?_
            refine M_getI (x := nI (v_su V)) dX10_statement_176 lf_X10_63 rfl hb.1 (hVA.su) ?_
            refine M_putI dX10_statement_179 lf_X10_63 rfl hb.1 ⟨rfl, rfl⟩ ?_
            refine V_iload_n (i := 1) dX10_statement_182 rfl 0 rfl ?_
            refine V_zret dX10_statement_183 ⟨rfl, rfl⟩ (bI_nar) (Nat.zero_le _) (Nat.zero_le _) ?_
            subst hQ
            refine ⟨_, _, _, rfl, rfl, rfl, ?_⟩
            rw [show (rdNum 0 1001 (nhO n f (tok n f (nxE n f s)).1 (nxE n f (tok n f (nxE n f s)).1))) = none from h163]
            exact STq.er (by unfold rdSt; rw [if_neg h6, if_neg h29, if_neg h87, if_pos h149]; exact rdSet_n h163) ((up2_k (by decide)).trans (hEA h163)) (hMa.mb.up (by omega)) ((up2_k (by decide)).trans (hOA _ _ (by omega) (by omega)))
          · have h163 : (rdNum (0) (1001) (nhO n f (tok n f (nxE n f s)).1 (nxE n f (tok n f (nxE n f s)).1))).isSome = true := bI_ne.mp h163
            obtain ⟨v1, h163⟩ := so_t h163
            obtain ⟨hv1, hkA⟩ := hNA v1 h163
            refine V_aload_n (i := 0) dX10_statement_166 rfl 1 rfl ?_
            refine M_getR dX10_statement_167 lf_X10_73 rfl hb.1 hb.2.2.2.2.2.2.2.2.2.2.2.2.2.2.2.2.2.1.1 ?_
            refine V_iconst (v := nI 0) dX10_statement_170 rfl ?_
            refine M_ialdn (j := 0) (x := nI v1) dX10_statement_171 hb.2.2.2.2.2.2.2.2.2.2.2.2.2.2.2.2.2.1.2 (by decide) (by omega) (hv1) ?_
            refine V_goto (tgt := 179) dX10_statement_172 rfl ?_
            refine M_putI dX10_statement_179 lf_X10_63 rfl hb.1 ⟨rfl, rfl⟩ ?_
            refine V_iload_n (i := 1) dX10_statement_182 rfl 0 rfl ?_
            refine V_zret dX10_statement_183 ⟨rfl, rfl⟩ (bI_nar) (Nat.zero_le _) (Nat.zero_le _) ?_
            subst hQ
            refine ⟨_, _, _, rfl, rfl, rfl, ?_⟩
            rw [show (rdNum 0 1001 (nhO n f (tok n f (nxE n f s)).1 (nxE n f (tok n f (nxE n f s)).1))) = some v1 from h163]
            exact STq.ok (by unfold rdSt; rw [if_neg h6, if_neg h29, if_neg h87, if_pos h149]; exact rdSet_s h163) (mc_setS hVA hnc) (mtk_fr hkA (fun k hk => up2_k (by omega))) rfl (hMa.mb.up (by omega)) ((up2_k (by decide)).trans (hOA _ _ (by omega) (by omega)))
      · have h87 : wordB n f s (nxE n f s) 2 = true := bI_ne.mp h87
        refine V_aload_n (i := 0) dX10_statement_90 rfl 0 rfl ?_
        refine M_getI (x := nI (v_nm V)) dX10_statement_91 lf_X10_98 rfl hb.1 (hV.nm) ?_
        refine V_bipush (v := nI 8) dX10_statement_94 rfl ?_
        refine V_icmp_ge (tgt := 143) dX10_statement_96 rfl (fun h96 => ?_) (fun h96 => ?_)
        · have h96 : 8 ≤ (v_nm V) := (nI_leI (by omega) (by omega)).mp h96
          refine V_aload_n (i := 0) dX10_statement_143 rfl 0 rfl ?_
          refine V_ldcS (i := 3) dX10_statement_144 (List.mem_of_getElem? (i := 9) rfl) ?_
          refine M_callVp (As := [.ref (100000 + (1 + 3))]) (st := []) dX10_statement_146 lv_X10_210 ⟨by decide, by decide⟩ ⟨rfl, rfl⟩ rfl (ci := 7) hb.1 rfl rfl (Nat.le_of_ble_eq_true rfl) (r_isWord hb hT hq hk (i := 3) (by decide)) ?_
          refine V_if_eq (tgt := 184) dX10_statement_149 rfl (fun _ => ?_) (fun q => absurd (bI_f (w_ne h87 (by decide) (by decide) (by decide))) q)
          refine V_aload_n (i := 0) dX10_statement_184 rfl 0 rfl ?_
          refine V_ldcS (i := 4) dX10_statement_185 (List.mem_of_getElem? (i := 10) rfl) ?_
          refine M_callVp (As := [.ref (100000 + (1 + 4))]) (st := []) dX10_statement_187 lv_X10_210 ⟨by decide, by decide⟩ ⟨rfl, rfl⟩ rfl (ci := 7) hb.1 rfl rfl (Nat.le_of_ble_eq_true rfl) (r_isWord hb hT hq hk (i := 4) (by decide)) ?_
          refine V_if_eq (tgt := 224) dX10_statement_190 rfl (fun _ => ?_) (fun q => absurd (bI_f (w_ne h87 (by decide) (by decide) (by decide))) q)
          refine V_aload_n (i := 0) dX10_statement_224 rfl 0 rfl ?_
          refine V_ldcS (i := 5) dX10_statement_225 (List.mem_of_getElem? (i := 11) rfl) ?_
          refine M_callVp (As := [.ref (100000 + (1 + 5))]) (st := []) dX10_statement_227 lv_X10_210 ⟨by decide, by decide⟩ ⟨rfl, rfl⟩ rfl (ci := 7) hb.1 rfl rfl (Nat.le_of_ble_eq_true rfl) (r_isWord hb hT hq hk (i := 5) (by decide)) ?_
          refine V_if_eq (tgt := 279) dX10_statement_230 rfl (fun _ => ?_) (fun q => absurd (bI_f (w_ne h87 (by decide) (by decide) (by decide))) q)
          refine V_aload_n (i := 0) dX10_statement_279 rfl 0 rfl ?_
          refine M_callVq (As := []) (st := []) dX10_statement_280 lv_X10_199 ⟨by decide, by decide⟩ ⟨rfl, rfl⟩ rfl (ci := 7) hb.1 rfl rfl (Nat.le_of_ble_eq_true rfl) (r_wrong hb hk.2.1) (fun w280 iv280 lw280 q280 => ?_)
          obtain ⟨rfl, e1, e2⟩ := q280
          subst e1
          subst e2
          refine V_zret dX10_statement_283 ⟨rfl, rfl⟩ (by rfl) (Nat.zero_le _) (Nat.zero_le _) ?_
          subst hQ
          exact ⟨_, _, _, rfl, rfl, rfl, STq.er (by unfold rdSt; rw [if_neg h6, if_neg h29, if_pos h87, if_neg (show ¬ v_nm V < 8 by omega)]) up2_s (MB.rf.up (by omega)) (up2_k (by decide))⟩
        · have h96 : ¬ 8 ≤ (v_nm V) := fun q => h96 ((nI_leI (by omega) (by omega)).mpr q)
          refine V_aload_n (i := 0) dX10_statement_99 rfl 0 rfl ?_
          refine V_iconst (v := nI 0) dX10_statement_100 rfl ?_
          refine V_aload_n (i := 0) dX10_statement_101 rfl 0 rfl ?_
          refine M_getI (x := nI (v_ne V)) dX10_statement_102 lf_X10_95 rfl hb.1 (hV.ne) ?_
          refine V_iconst (v := nI 1) dX10_statement_105 rfl ?_
          refine V_isub dX10_statement_106 ?_
          have h25 := hwat 2 (by decide) h87
          refine M_callVq (As := [.int (nI 0), .int ((nI (v_ne V) - nI 1))]) (st := []) dX10_statement_107 lv_X10_219 ⟨by decide, by decide⟩ ⟨rfl, rfl⟩ rfl (ci := 7) hb.1 rfl rfl (Nat.le_of_ble_eq_true rfl) (r_tells hb hT hq hnx.2 h25 (lo := 0) (hi := (v_ne V)) (by decide) (by rw [pk_sub_toInt (by omega) (by omega)]; omega) (by omega)) (fun w107 iv107 lw107 q107 => ?_)
          obtain ⟨e1, hnA⟩ := q107
          subst e1
          have hMa := hnA.mb
          obtain ⟨rfl, hNA, hEA, hOA⟩ := hnA
          have hVA := hV.ma hv hMa
          refine V_if_eq (tgt := 123) dX10_statement_110 rfl (fun h110 => ?_) (fun h110 => ?_)
          · have h110 : ¬ ((rdNum (0) ((v_ne V)) (nhO n f (tok n f (nxE n f s)).1 (nxE n f (tok n f (nxE n f s)).1))).isSome = true) := bI_eq0.mp h110
            have h110 := so_f h110
            refine V_iconst (v := nI 0) dX10_statement_123 rfl ?_
            refine V_zret dX10_statement_124 ⟨rfl, rfl⟩ (by rfl) (Nat.zero_le _) (Nat.zero_le _) ?_
            subst hQ
            exact ⟨_, _, _, rfl, rfl, rfl, STq.er (by unfold rdSt; rw [if_neg h6, if_neg h29, if_pos h87]; rw [if_pos (show v_nm V < 8 by omega)]; exact rdTwo_n h110) (hEA h110) hMa.mb (hOA _ _ (by omega) (by omega))⟩
          · have h110 : (rdNum (0) ((v_ne V)) (nhO n f (tok n f (nxE n f s)).1 (nxE n f (tok n f (nxE n f s)).1))).isSome = true := bI_ne.mp h110
            obtain ⟨v1, h110⟩ := so_t h110
            refine V_aload_n (i := 0) dX10_statement_113 rfl 0 rfl ?_
            refine V_iconst (v := nI 1) dX10_statement_114 rfl ?_
            refine V_iconst (v := nI 0) dX10_statement_115 rfl ?_
            refine V_iconst (v := nI 1) dX10_statement_116 rfl ?_
            obtain ⟨hv1, hkA⟩ := hNA v1 h110
            have hTA : MT iv107 b n f := hMa.mt hT
            refine M_callVq (As := [.int (nI 1), .int (nI 0), .int (nI 1)]) (st := []) dX10_statement_117 lv_X10_205 ⟨by decide, by decide⟩ ⟨rfl, rfl⟩ rfl (ci := 7) hb.1 rfl rfl (Nat.le_of_ble_eq_true rfl) (r_number hb hTA hq hkA (i := 1) (lo := 0) (hi := 2) (by decide) (by decide) (by decide) (by omega)) (fun w117 iv117 lw117 q117 => ?_)
            obtain ⟨e1, hnB⟩ := q117
            subst e1
            have hMb := hnB.mb
            obtain ⟨rfl, hNB, hEB, hOB⟩ := hnB
            have hVB := hVA.ma hv hMb
            refine V_if_ne (tgt := 125) dX10_statement_120 rfl (fun h120 => ?_) (fun h120 => ?_)
            · have h120 : (rdNum (0) (2) (nhO n f (tok n f (nxE n f (tok n f (nxE n f s)).1)).1 (nxE n f (tok n f (nxE n f (tok n f (nxE n f s)).1)).1))).isSome = true := bI_ne.mp h120
              obtain ⟨v2, h120⟩ := so_t h120
              obtain ⟨hv2, hkB⟩ := hNB v2 h120
              have hv1b := (hOB _ _ (by omega) (by omega)).trans hv1
              have hu1 := rdNum_in h110
              have hu2 := rdNum_in h120
              refine V_aload_n (i := 0) dX10_statement_125 rfl 0 rfl ?_
              refine V_aload_n (i := 0) dX10_statement_126 rfl 0 rfl ?_
              refine M_getR dX10_statement_127 lf_X10_73 rfl hb.1 hb.2.2.2.2.2.2.2.2.2.2.2.2.2.2.2.2.2.1.1 ?_
              refine V_iconst (v := nI 0) dX10_statement_130 rfl ?_
              refine M_ialdn (j := 0) (x := nI v1) dX10_statement_131 hb.2.2.2.2.2.2.2.2.2.2.2.2.2.2.2.2.2.1.2 (by decide) (by omega) (hv1b) ?_
              refine V_aload_n (i := 0) dX10_statement_132 rfl 0 rfl ?_
              refine M_getR dX10_statement_133 lf_X10_73 rfl hb.1 hb.2.2.2.2.2.2.2.2.2.2.2.2.2.2.2.2.2.1.1 ?_
              refine V_iconst (v := nI 1) dX10_statement_136 rfl ?_
              refine M_ialdn (j := 1) (x := nI v2) dX10_statement_137 hb.2.2.2.2.2.2.2.2.2.2.2.2.2.2.2.2.2.1.2 (by decide) (by omega) (hv2) ?_
              refine M_callVn (As := [.int (nI v1), .int (nI v2)]) (st := []) dX10_statement_138 lv_X10_152 ⟨by decide, by decide⟩ ⟨rfl, rfl⟩ rfl (ci := 7) hb.1 rfl rfl (Nat.le_of_ble_eq_true rfl) (r_addMan2 hb hVB hv (k := v1) (a := v2) (by omega)) (fun iv138 lw138 q138 => ?_)
              obtain ⟨e1, hC9, hB9⟩ := q138
              subst e1
              refine V_iconst (v := nI 1) dX10_statement_141 rfl ?_
              refine V_zret dX10_statement_142 ⟨rfl, rfl⟩ (by rfl) (Nat.zero_le _) (Nat.zero_le _) ?_
              subst hQ
              exact ⟨_, _, _, rfl, rfl, rfl, STq.ok (by unfold rdSt; rw [if_neg h6, if_neg h29, if_pos h87]; rw [if_pos (show v_nm V < 8 by omega)]; exact (rdTwo_s h110).trans (rdSet_s h120)) hC9 (mtk_fr hkB (fun k hk => hB9.2 _ _ (by omega) (by omega))) rfl (fun a q p1 p2 => (hB9.1 a q p1 p2).trans ((hMb.mb a q p1 p2).trans (hMa.mb a q p1 p2))) ((hB9.2 _ _ (by omega) (by omega)).trans ((hOB _ _ (by omega) (by omega)).trans (hOA _ _ (by omega) (by omega))))⟩
            · have h120 : ¬ ((rdNum (0) (2) (nhO n f (tok n f (nxE n f (tok n f (nxE n f s)).1)).1 (nxE n f (tok n f (nxE n f (tok n f (nxE n f s)).1)).1))).isSome = true) := bI_eq0.mp h120
              have h120 := so_f h120
              refine V_iconst (v := nI 0) dX10_statement_123 rfl ?_
              refine V_zret dX10_statement_124 ⟨rfl, rfl⟩ (by rfl) (Nat.zero_le _) (Nat.zero_le _) ?_
              subst hQ
              exact ⟨_, _, _, rfl, rfl, rfl, STq.er (by unfold rdSt; rw [if_neg h6, if_neg h29, if_pos h87]; rw [if_pos (show v_nm V < 8 by omega)]; exact (rdTwo_s h110).trans (rdSet_n h120)) (hEB h120) (hMa.mb.tr hMb.mb) ((hOB _ _ (by omega) (by omega)).trans (hOA _ _ (by omega) (by omega)))⟩
    · have h29 : wordB n f s (nxE n f s) 1 = true := bI_ne.mp h29
      refine V_aload_n (i := 0) dX10_statement_32 rfl 0 rfl ?_
      refine M_getI (x := nI (v_ne V)) dX10_statement_33 lf_X10_95 rfl hb.1 (hV.ne) ?_
      refine V_bipush (v := nI 6) dX10_statement_36 rfl ?_
      refine V_icmp_ge (tgt := 81) dX10_statement_38 rfl (fun h38 => ?_) (fun h38 => ?_)
      · have h38 : 6 ≤ (v_ne V) := (nI_leI (by omega) (by omega)).mp h38
        refine V_aload_n (i := 0) dX10_statement_81 rfl 0 rfl ?_
        refine V_ldcS (i := 2) dX10_statement_82 (List.mem_of_getElem? (i := 8) rfl) ?_
        refine M_callVp (As := [.ref (100000 + (1 + 2))]) (st := []) dX10_statement_84 lv_X10_210 ⟨by decide, by decide⟩ ⟨rfl, rfl⟩ rfl (ci := 7) hb.1 rfl rfl (Nat.le_of_ble_eq_true rfl) (r_isWord hb hT hq hk (i := 2) (by decide)) ?_
        refine V_if_eq (tgt := 143) dX10_statement_87 rfl (fun _ => ?_) (fun q => absurd (bI_f (w_ne h29 (by decide) (by decide) (by decide))) q)
        refine V_aload_n (i := 0) dX10_statement_143 rfl 0 rfl ?_
        refine V_ldcS (i := 3) dX10_statement_144 (List.mem_of_getElem? (i := 9) rfl) ?_
        refine M_callVp (As := [.ref (100000 + (1 + 3))]) (st := []) dX10_statement_146 lv_X10_210 ⟨by decide, by decide⟩ ⟨rfl, rfl⟩ rfl (ci := 7) hb.1 rfl rfl (Nat.le_of_ble_eq_true rfl) (r_isWord hb hT hq hk (i := 3) (by decide)) ?_
        refine V_if_eq (tgt := 184) dX10_statement_149 rfl (fun _ => ?_) (fun q => absurd (bI_f (w_ne h29 (by decide) (by decide) (by decide))) q)
        refine V_aload_n (i := 0) dX10_statement_184 rfl 0 rfl ?_
        refine V_ldcS (i := 4) dX10_statement_185 (List.mem_of_getElem? (i := 10) rfl) ?_
        refine M_callVp (As := [.ref (100000 + (1 + 4))]) (st := []) dX10_statement_187 lv_X10_210 ⟨by decide, by decide⟩ ⟨rfl, rfl⟩ rfl (ci := 7) hb.1 rfl rfl (Nat.le_of_ble_eq_true rfl) (r_isWord hb hT hq hk (i := 4) (by decide)) ?_
        refine V_if_eq (tgt := 224) dX10_statement_190 rfl (fun _ => ?_) (fun q => absurd (bI_f (w_ne h29 (by decide) (by decide) (by decide))) q)
        refine V_aload_n (i := 0) dX10_statement_224 rfl 0 rfl ?_
        refine V_ldcS (i := 5) dX10_statement_225 (List.mem_of_getElem? (i := 11) rfl) ?_
        refine M_callVp (As := [.ref (100000 + (1 + 5))]) (st := []) dX10_statement_227 lv_X10_210 ⟨by decide, by decide⟩ ⟨rfl, rfl⟩ rfl (ci := 7) hb.1 rfl rfl (Nat.le_of_ble_eq_true rfl) (r_isWord hb hT hq hk (i := 5) (by decide)) ?_
        refine V_if_eq (tgt := 279) dX10_statement_230 rfl (fun _ => ?_) (fun q => absurd (bI_f (w_ne h29 (by decide) (by decide) (by decide))) q)
        refine V_aload_n (i := 0) dX10_statement_279 rfl 0 rfl ?_
        refine M_callVq (As := []) (st := []) dX10_statement_280 lv_X10_199 ⟨by decide, by decide⟩ ⟨rfl, rfl⟩ rfl (ci := 7) hb.1 rfl rfl (Nat.le_of_ble_eq_true rfl) (r_wrong hb hk.2.1) (fun w280 iv280 lw280 q280 => ?_)
        obtain ⟨rfl, e1, e2⟩ := q280
        subst e1
        subst e2
        refine V_zret dX10_statement_283 ⟨rfl, rfl⟩ (by rfl) (Nat.zero_le _) (Nat.zero_le _) ?_
        subst hQ
        exact ⟨_, _, _, rfl, rfl, rfl, STq.er (by unfold rdSt; rw [if_neg h6, if_pos h29, if_neg (show ¬ v_ne V < 6 by omega)]) up2_s (MB.rf.up (by omega)) (up2_k (by decide))⟩
      · have h38 : ¬ 6 ≤ (v_ne V) := fun q => h38 ((nI_leI (by omega) (by omega)).mpr q)
        refine V_aload_n (i := 0) dX10_statement_41 rfl 0 rfl ?_
        refine V_iconst (v := nI 0) dX10_statement_42 rfl ?_
        refine V_iconst (v := nI 5) dX10_statement_43 rfl ?_
        have h25 := hwat 1 (by decide) h29
        refine M_callVq (As := [.int (nI 0), .int (nI 5)]) (st := []) dX10_statement_44 lv_X10_219 ⟨by decide, by decide⟩ ⟨rfl, rfl⟩ rfl (ci := 7) hb.1 rfl rfl (Nat.le_of_ble_eq_true rfl) (r_tells hb hT hq hnx.2 h25 (lo := 0) (hi := 6) (by decide) (by decide) (by omega)) (fun w44 iv44 lw44 q44 => ?_)
        obtain ⟨e1, hnA⟩ := q44
        subst e1
        have hMa := hnA.mb
        obtain ⟨rfl, hNA, hEA, hOA⟩ := hnA
        have hVA := hV.ma hv hMa
        refine V_if_eq (tgt := 61) dX10_statement_47 rfl (fun h47 => ?_) (fun h47 => ?_)
        · have h47 : ¬ ((rdNum (0) (6) (nhO n f (tok n f (nxE n f s)).1 (nxE n f (tok n f (nxE n f s)).1))).isSome = true) := bI_eq0.mp h47
          have h47 := so_f h47
          refine V_iconst (v := nI 0) dX10_statement_61 rfl ?_
          refine V_zret dX10_statement_62 ⟨rfl, rfl⟩ (by rfl) (Nat.zero_le _) (Nat.zero_le _) ?_
          subst hQ
          exact ⟨_, _, _, rfl, rfl, rfl, STq.er (by unfold rdSt; rw [if_neg h6, if_pos h29]; rw [if_pos (show v_ne V < 6 by omega)]; exact rdTwo_n h47) (hEA h47) hMa.mb (hOA _ _ (by omega) (by omega))⟩
        · have h47 : (rdNum (0) (6) (nhO n f (tok n f (nxE n f s)).1 (nxE n f (tok n f (nxE n f s)).1))).isSome = true := bI_ne.mp h47
          obtain ⟨v1, h47⟩ := so_t h47
          refine V_aload_n (i := 0) dX10_statement_50 rfl 0 rfl ?_
          refine V_iconst (v := nI 1) dX10_statement_51 rfl ?_
          refine V_iconst (v := nI 0) dX10_statement_52 rfl ?_
          refine V_bipush (v := nI 9) dX10_statement_53 rfl ?_
          obtain ⟨hv1, hkA⟩ := hNA v1 h47
          have hTA : MT iv44 b n f := hMa.mt hT
          refine M_callVq (As := [.int (nI 1), .int (nI 0), .int (nI 9)]) (st := []) dX10_statement_55 lv_X10_205 ⟨by decide, by decide⟩ ⟨rfl, rfl⟩ rfl (ci := 7) hb.1 rfl rfl (Nat.le_of_ble_eq_true rfl) (r_number hb hTA hq hkA (i := 1) (lo := 0) (hi := 10) (by decide) (by decide) (by decide) (by omega)) (fun w55 iv55 lw55 q55 => ?_)
          obtain ⟨e1, hnB⟩ := q55
          subst e1
          have hMb := hnB.mb
          obtain ⟨rfl, hNB, hEB, hOB⟩ := hnB
          have hVB := hVA.ma hv hMb
          refine V_if_ne (tgt := 63) dX10_statement_58 rfl (fun h58 => ?_) (fun h58 => ?_)
          · have h58 : (rdNum (0) (10) (nhO n f (tok n f (nxE n f (tok n f (nxE n f s)).1)).1 (nxE n f (tok n f (nxE n f (tok n f (nxE n f s)).1)).1))).isSome = true := bI_ne.mp h58
            obtain ⟨v2, h58⟩ := so_t h58
            obtain ⟨hv2, hkB⟩ := hNB v2 h58
            have hv1b := (hOB _ _ (by omega) (by omega)).trans hv1
            have hu1 := rdNum_in h47
            have hu2 := rdNum_in h58
            refine V_aload_n (i := 0) dX10_statement_63 rfl 0 rfl ?_
            refine V_aload_n (i := 0) dX10_statement_64 rfl 0 rfl ?_
            refine M_getR dX10_statement_65 lf_X10_73 rfl hb.1 hb.2.2.2.2.2.2.2.2.2.2.2.2.2.2.2.2.2.1.1 ?_
            refine V_iconst (v := nI 0) dX10_statement_68 rfl ?_
            refine M_ialdn (j := 0) (x := nI v1) dX10_statement_69 hb.2.2.2.2.2.2.2.2.2.2.2.2.2.2.2.2.2.1.2 (by decide) (by omega) (hv1b) ?_
            refine V_aload_n (i := 0) dX10_statement_70 rfl 0 rfl ?_
            refine M_getR dX10_statement_71 lf_X10_73 rfl hb.1 hb.2.2.2.2.2.2.2.2.2.2.2.2.2.2.2.2.2.1.1 ?_
            refine V_iconst (v := nI 1) dX10_statement_74 rfl ?_
            refine M_ialdn (j := 1) (x := nI v2) dX10_statement_75 hb.2.2.2.2.2.2.2.2.2.2.2.2.2.2.2.2.2.1.2 (by decide) (by omega) (hv2) ?_
            refine M_callVn (As := [.int (nI v1), .int (nI v2)]) (st := []) dX10_statement_76 lv_X10_148 ⟨by decide, by decide⟩ ⟨rfl, rfl⟩ rfl (ci := 7) hb.1 rfl rfl (Nat.le_of_ble_eq_true rfl) (r_addEar2 hb hVB hv (k := v1) (a := v2) (by omega)) (fun iv76 lw76 q76 => ?_)
            obtain ⟨e1, hC9, hB9⟩ := q76
            subst e1
            refine V_iconst (v := nI 1) dX10_statement_79 rfl ?_
            refine V_zret dX10_statement_80 ⟨rfl, rfl⟩ (by rfl) (Nat.zero_le _) (Nat.zero_le _) ?_
            subst hQ
            exact ⟨_, _, _, rfl, rfl, rfl, STq.ok (by unfold rdSt; rw [if_neg h6, if_pos h29]; rw [if_pos (show v_ne V < 6 by omega)]; exact (rdTwo_s h47).trans (rdSet_s h58)) hC9 (mtk_fr hkB (fun k hk => hB9.2 _ _ (by omega) (by omega))) rfl (fun a q p1 p2 => (hB9.1 a q p1 p2).trans ((hMb.mb a q p1 p2).trans (hMa.mb a q p1 p2))) ((hB9.2 _ _ (by omega) (by omega)).trans ((hOB _ _ (by omega) (by omega)).trans (hOA _ _ (by omega) (by omega))))⟩
          · have h58 : ¬ ((rdNum (0) (10) (nhO n f (tok n f (nxE n f (tok n f (nxE n f s)).1)).1 (nxE n f (tok n f (nxE n f (tok n f (nxE n f s)).1)).1))).isSome = true) := bI_eq0.mp h58
            have h58 := so_f h58
            refine V_iconst (v := nI 0) dX10_statement_61 rfl ?_
            refine V_zret dX10_statement_62 ⟨rfl, rfl⟩ (by rfl) (Nat.zero_le _) (Nat.zero_le _) ?_
            subst hQ
            exact ⟨_, _, _, rfl, rfl, rfl, STq.er (by unfold rdSt; rw [if_neg h6, if_pos h29]; rw [if_pos (show v_ne V < 6 by omega)]; exact (rdTwo_s h47).trans (rdSet_n h58)) (hEB h58) (hMa.mb.tr hMb.mb) ((hOB _ _ (by omega) (by omega)).trans (hOA _ _ (by omega) (by omega)))⟩
  · have h6 : wordB n f s (nxE n f s) 0 = true := bI_ne.mp h6
    refine V_aload_n (i := 0) dX10_statement_9 rfl 0 rfl ?_
    refine M_getI (x := nI (v_nc V)) dX10_statement_10 lf_X10_88 rfl hb.1 (hV.nc) ?_
    refine V_bipush (v := nI 12) dX10_statement_13 rfl ?_
    refine V_icmp_ge (tgt := 23) dX10_statement_15 rfl (fun h15 => ?_) (fun h15 => ?_)
    · have h15 : 12 ≤ (v_nc V) := (nI_leI (by omega) (by omega)).mp h15
      refine V_aload_n (i := 0) dX10_statement_23 rfl 0 rfl ?_
      refine V_ldcS (i := 1) dX10_statement_24 (List.mem_of_getElem? (i := 7) rfl) ?_
      refine M_callVp (As := [.ref (100000 + (1 + 1))]) (st := []) dX10_statement_26 lv_X10_210 ⟨by decide, by decide⟩ ⟨rfl, rfl⟩ rfl (ci := 7) hb.1 rfl rfl (Nat.le_of_ble_eq_true rfl) (r_isWord hb hT hq hk (i := 1) (by decide)) ?_
      refine V_if_eq (tgt := 81) dX10_statement_29 rfl (fun _ => ?_) (fun q => absurd (bI_f (w_ne h6 (by decide) (by decide) (by decide))) q)
      refine V_aload_n (i := 0) dX10_statement_81 rfl 0 rfl ?_
      refine V_ldcS (i := 2) dX10_statement_82 (List.mem_of_getElem? (i := 8) rfl) ?_
      refine M_callVp (As := [.ref (100000 + (1 + 2))]) (st := []) dX10_statement_84 lv_X10_210 ⟨by decide, by decide⟩ ⟨rfl, rfl⟩ rfl (ci := 7) hb.1 rfl rfl (Nat.le_of_ble_eq_true rfl) (r_isWord hb hT hq hk (i := 2) (by decide)) ?_
      refine V_if_eq (tgt := 143) dX10_statement_87 rfl (fun _ => ?_) (fun q => absurd (bI_f (w_ne h6 (by decide) (by decide) (by decide))) q)
      refine V_aload_n (i := 0) dX10_statement_143 rfl 0 rfl ?_
      refine V_ldcS (i := 3) dX10_statement_144 (List.mem_of_getElem? (i := 9) rfl) ?_
      refine M_callVp (As := [.ref (100000 + (1 + 3))]) (st := []) dX10_statement_146 lv_X10_210 ⟨by decide, by decide⟩ ⟨rfl, rfl⟩ rfl (ci := 7) hb.1 rfl rfl (Nat.le_of_ble_eq_true rfl) (r_isWord hb hT hq hk (i := 3) (by decide)) ?_
      refine V_if_eq (tgt := 184) dX10_statement_149 rfl (fun _ => ?_) (fun q => absurd (bI_f (w_ne h6 (by decide) (by decide) (by decide))) q)
      refine V_aload_n (i := 0) dX10_statement_184 rfl 0 rfl ?_
      refine V_ldcS (i := 4) dX10_statement_185 (List.mem_of_getElem? (i := 10) rfl) ?_
      refine M_callVp (As := [.ref (100000 + (1 + 4))]) (st := []) dX10_statement_187 lv_X10_210 ⟨by decide, by decide⟩ ⟨rfl, rfl⟩ rfl (ci := 7) hb.1 rfl rfl (Nat.le_of_ble_eq_true rfl) (r_isWord hb hT hq hk (i := 4) (by decide)) ?_
      refine V_if_eq (tgt := 224) dX10_statement_190 rfl (fun _ => ?_) (fun q => absurd (bI_f (w_ne h6 (by decide) (by decide) (by decide))) q)
      refine V_aload_n (i := 0) dX10_statement_224 rfl 0 rfl ?_
      refine V_ldcS (i := 5) dX10_statement_225 (List.mem_of_getElem? (i := 11) rfl) ?_
      refine M_callVp (As := [.ref (100000 + (1 + 5))]) (st := []) dX10_statement_227 lv_X10_210 ⟨by decide, by decide⟩ ⟨rfl, rfl⟩ rfl (ci := 7) hb.1 rfl rfl (Nat.le_of_ble_eq_true rfl) (r_isWord hb hT hq hk (i := 5) (by decide)) ?_
      refine V_if_eq (tgt := 279) dX10_statement_230 rfl (fun _ => ?_) (fun q => absurd (bI_f (w_ne h6 (by decide) (by decide) (by decide))) q)
      refine V_aload_n (i := 0) dX10_statement_279 rfl 0 rfl ?_
      refine M_callVq (As := []) (st := []) dX10_statement_280 lv_X10_199 ⟨by decide, by decide⟩ ⟨rfl, rfl⟩ rfl (ci := 7) hb.1 rfl rfl (Nat.le_of_ble_eq_true rfl) (r_wrong hb hk.2.1) (fun w280 iv280 lw280 q280 => ?_)
      obtain ⟨rfl, e1, e2⟩ := q280
      subst e1
      subst e2
      refine V_zret dX10_statement_283 ⟨rfl, rfl⟩ (by rfl) (Nat.zero_le _) (Nat.zero_le _) ?_
      subst hQ
      exact ⟨_, _, _, rfl, rfl, rfl, STq.er (by unfold rdSt; rw [if_pos h6, if_neg (show ¬ v_nc V < 12 by omega)]) up2_s (MB.rf.up (by omega)) (up2_k (by decide))⟩
    · have h15 : ¬ 12 ≤ (v_nc V) := fun q => h15 ((nI_leI (by omega) (by omega)).mpr q)
      refine V_aload_n (i := 0) dX10_statement_18 rfl 0 rfl ?_
      have h25 := hwat 0 (by decide) h6
      refine M_callVq (As := []) (st := []) dX10_statement_19 lv_X10_214 ⟨by decide, by decide⟩ ⟨rfl, rfl⟩ rfl (ci := 7) hb.1 rfl rfl (Nat.le_of_ble_eq_true rfl) (r_callTold hb hT hq hV hv (by omega) hnx.2 h25) (fun w19 iv19 lw19 q19 => ?_)
      obtain ⟨e1, hS⟩ := q19
      subst e1
      obtain ⟨rfl, hS1, hS2, hS3, hS4⟩ := hS
      refine V_zret dX10_statement_22 ⟨rfl, rfl⟩ (bI_nar) (Nat.zero_le _) (Nat.zero_le _) ?_
      subst hQ
      have hrr : rdSt n f V s (nxE n f s) = rdCall n f V (tok n f (nxE n f s)) := by unfold rdSt; rw [if_pos h6, if_pos (show v_nc V < 12 by omega)]
      exact ⟨_, _, _, rfl, rfl, rfl, by rw [hrr]; exact ⟨rfl, hS1, hS2, hS3, hS4⟩⟩
