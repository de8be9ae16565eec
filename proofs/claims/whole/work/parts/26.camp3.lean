/-! Camp: what changes it -/
theorem mw_11 : (Cond.initialized "java/lang/System") ∈ WS := tb_1 (List.mem_of_getElem? (i := 11) (by decide +kernel)) (by decide +kernel)
abbrev cpRow (iv : IV) (s d n : Nat) : IV := rowU iv d (va_cpy (iv s) (iv d) (nI 0).toNatClampNeg (nI 0).toNatClampNeg (nI n).toNatClampNeg)
theorem cpRow_s {iv : IV} {s d n k : Nat} (hk : k < n) (hn : n < 100) : cpRow iv s d n d k = iv s k := by
  unfold cpRow
  rw [rowU_s, nI_clamp (show n < _ by omega), nI_clamp (show 0 < _ by decide)]
  show (if 0 ≤ k ∧ k < 0 + n then _ else _) = _
  rw [if_pos (by omega), Nat.zero_add, Nat.sub_zero]
theorem cpRow_n {iv : IV} {s d n a : Nat} (h : a ≠ d) : cpRow iv s d n a = iv a := rowU_n h
def copyAll (iv : IV) (s b : Nat) : IV := cpRow (cpRow (cpRow (cpRow (cpRow (cpRow (cpRow (cpRow iv (s + 1) (b + 1) 12) (s + 2) (b + 2) 12) (s + 3) (b + 3) 12) (s + 4) (b + 4) 12) (s + 5) (b + 5) 6) (s + 6) (b + 6) 6) (s + 7) (b + 7) 8) (s + 8) (b + 8) 8
theorem copyAll_off {iv : IV} {s b : Nat} : Off b 9 iv (copyAll iv s b) := fun a ha => by
  unfold copyAll
  rw [cpRow_n (by omega), cpRow_n (by omega), cpRow_n (by omega), cpRow_n (by omega), cpRow_n (by omega), cpRow_n (by omega), cpRow_n (by omega), cpRow_n (by omega)]
theorem copyAll_1 {iv : IV} {s b k : Nat} (hd : b + 8 < s ∨ s + 8 < b) (hk : k < 12) : copyAll iv s b (b + 1) k = iv (s + 1) k := by
  unfold copyAll
  rw [cpRow_n (by omega), cpRow_n (by omega), cpRow_n (by omega), cpRow_n (by omega), cpRow_n (by omega), cpRow_n (by omega), cpRow_n (by omega), cpRow_s hk (by decide)]
theorem copyAll_2 {iv : IV} {s b k : Nat} (hd : b + 8 < s ∨ s + 8 < b) (hk : k < 12) : copyAll iv s b (b + 2) k = iv (s + 2) k := by
  unfold copyAll
  rw [cpRow_n (by omega), cpRow_n (by omega), cpRow_n (by omega), cpRow_n (by omega), cpRow_n (by omega), cpRow_n (by omega), cpRow_s hk (by decide), cpRow_n (by omega)]
theorem copyAll_3 {iv : IV} {s b k : Nat} (hd : b + 8 < s ∨ s + 8 < b) (hk : k < 12) : copyAll iv s b (b + 3) k = iv (s + 3) k := by
  unfold copyAll
  rw [cpRow_n (by omega), cpRow_n (by omega), cpRow_n (by omega), cpRow_n (by omega), cpRow_n (by omega), cpRow_s hk (by decide), cpRow_n (by omega), cpRow_n (by omega)]
theorem copyAll_4 {iv : IV} {s b k : Nat} (hd : b + 8 < s ∨ s + 8 < b) (hk : k < 12) : copyAll iv s b (b + 4) k = iv (s + 4) k := by
  unfold copyAll
  rw [cpRow_n (by omega), cpRow_n (by omega), cpRow_n (by omega), cpRow_n (by omega), cpRow_s hk (by decide), cpRow_n (by omega), cpRow_n (by omega), cpRow_n (by omega)]
theorem copyAll_5 {iv : IV} {s b k : Nat} (hd : b + 8 < s ∨ s + 8 < b) (hk : k < 6) : copyAll iv s b (b + 5) k = iv (s + 5) k := by
  unfold copyAll
  rw [cpRow_n (by omega), cpRow_n (by omega), cpRow_n (by omega), cpRow_s hk (by decide), cpRow_n (by omega), cpRow_n (by omega), cpRow_n (by omega), cpRow_n (by omega)]
theorem copyAll_6 {iv : IV} {s b k : Nat} (hd : b + 8 < s ∨ s + 8 < b) (hk : k < 6) : copyAll iv s b (b + 6) k = iv (s + 6) k := by
  unfold copyAll
  rw [cpRow_n (by omega), cpRow_n (by omega), cpRow_s hk (by decide), cpRow_n (by omega), cpRow_n (by omega), cpRow_n (by omega), cpRow_n (by omega), cpRow_n (by omega)]
theorem copyAll_7 {iv : IV} {s b k : Nat} (hd : b + 8 < s ∨ s + 8 < b) (hk : k < 8) : copyAll iv s b (b + 7) k = iv (s + 7) k := by
  unfold copyAll
  rw [cpRow_n (by omega), cpRow_s hk (by decide), cpRow_n (by omega), cpRow_n (by omega), cpRow_n (by omega), cpRow_n (by omega), cpRow_n (by omega), cpRow_n (by omega)]
theorem copyAll_8 {iv : IV} {s b k : Nat} (hd : b + 8 < s ∨ s + 8 < b) (hk : k < 8) : copyAll iv s b (b + 8) k = iv (s + 8) k := by
  unfold copyAll
  rw [cpRow_s hk (by decide), cpRow_n (by omega), cpRow_n (by omega), cpRow_n (by omega), cpRow_n (by omega), cpRow_n (by omega), cpRow_n (by omega), cpRow_n (by omega)]
theorem xc_take {iv iv2 : IV} {s b : Nat} {V : Cv} (h : XC iv s V) (hd : b + 8 < s ∨ s + 8 < b) (h8 : iv2 b 8 = iv s 8) (h9 : iv2 b 9 = iv s 9) (h10 : iv2 b 10 = iv s 10) (h11 : iv2 b 11 = iv s 11) (h12 : iv2 b 12 = iv s 12) (h13 : iv2 b 13 = iv s 13)
    (hr : ∀ a, b < a → a ≤ b + 8 → iv2 a = copyAll iv s b a) : XC iv2 b V := by
  obtain ⟨h0, h1, h2, h3, h4⟩ := h
  have hnc := h0.nc
  have hne := h0.ne
  have hnm := h0.nm
  refine ⟨h0, ?_, fun c hc => ?_, fun e hc => ?_, fun m hc => ?_⟩
  · rw [h8, h9, h10, h11, h12, h13]; exact h1
  · rw [hr (b + 1) (by omega) (by omega), hr (b + 2) (by omega) (by omega), hr (b + 3) (by omega) (by omega), hr (b + 4) (by omega) (by omega), copyAll_1 hd (by omega), copyAll_2 hd (by omega), copyAll_3 hd (by omega), copyAll_4 hd (by omega)]; exact h2 c hc
  · rw [hr (b + 5) (by omega) (by omega), hr (b + 6) (by omega) (by omega), copyAll_5 hd (by omega), copyAll_6 hd (by omega)]; exact h3 e hc
  · rw [hr (b + 7) (by omega) (by omega), hr (b + 8) (by omega) (by omega), copyAll_7 hd (by omega), copyAll_8 hd (by omega)]; exact h4 m hc
theorem drw_m {s : Int32} {m : Nat} (h : 0 < m) : drw s % m < m := Nat.mod_lt _ h
set_option maxRecDepth 20000 in
theorem t_addCall {g : Ev} {S : St} {iv : IV} {lw : LW} {b : Nat} (hb : IsCamp S b) {V : Cv} (hV : XC iv b V) {u k : Nat} (hn : v_nc V < 12) (hu : 1 ≤ u ∧ u ≤ 99) (hk : k ≤ 99) : CQ g mX0_addCall [.ref (b), .int (nI u), .int (nI k)] S iv lw (fun w iv2 lw2 => w = .int (nI (v_nc V)) ∧ lw = lw2 ∧ XC iv2 b (v_addC V u k) ∧ Off b 9 iv iv2) := by
  refine CT_ofQ rfl (by decide) (Nat.le_of_ble_eq_true rfl) (lv := [(0, .ref (b)), (1, .int (nI u)), (2, .int (nI k))]) rfl (fun Q hQ => ?_)
  have hnc := hV.ok.nc
  have hne := hV.ok.ne
  have hnm := hV.ok.nm
  refine V_aload_n (i := 0) dX0_addCall_0 rfl 0 rfl ?_
  refine M_getI (x := nI (v_nc V)) dX0_addCall_1 lf_X0_36 rfl hb.1 (hV.nc) ?_
  refine V_if_lt (tgt := 16) dX0_addCall_4 rfl (fun q => absurd q (nI_pos (by omega))) (fun _ => ?_)
  refine V_aload_n (i := 0) dX0_addCall_7 rfl 0 rfl ?_
  refine M_getI (x := nI (v_nc V)) dX0_addCall_8 lf_X0_36 rfl hb.1 (hV.nc) ?_
  refine V_bipush (v := nI 12) dX0_addCall_11 rfl ?_
  refine V_icmp_lt (tgt := 18) dX0_addCall_13 rfl (fun h13 => ?_) (fun h13 => ?_)
  · have h13 : (v_nc V) < 12 := (nI_ltI (by omega) (by omega)).mp h13
    refine V_aload_n (i := 0) dX0_addCall_18 rfl 0 rfl ?_
    refine M_getR dX0_addCall_19 lf_X0_11 rfl hb.1 hb.2.1.1 ?_
    refine V_aload_n (i := 0) dX0_addCall_22 rfl 0 rfl ?_
    refine M_getI (x := nI (v_nc V)) dX0_addCall_23 lf_X0_36 rfl hb.1 (hV.nc) ?_
    refine V_iconst (v := nI 0) dX0_addCall_26 rfl ?_
    refine M_iastn (j := (v_nc V)) dX0_addCall_27 hb.2.1.2 (by decide) (by omega) ?_
    refine V_aload_n (i := 0) dX0_addCall_28 rfl 0 rfl ?_
    refine M_getR dX0_addCall_29 lf_X0_15 rfl hb.1 hb.2.2.1.1 ?_
    refine V_aload_n (i := 0) dX0_addCall_32 rfl 0 rfl ?_
    refine M_getI (x := nI (v_nc V)) dX0_addCall_33 lf_X0_36 rfl hb.1 ((up2_ne (by omega)).trans (hV.nc)) ?_
    refine V_iconst (v := nI 0) dX0_addCall_36 rfl ?_
    refine M_iastn (j := (v_nc V)) dX0_addCall_37 hb.2.2.1.2 (by decide) (by omega) ?_
    refine V_aload_n (i := 0) dX0_addCall_38 rfl 0 rfl ?_
    refine M_getR dX0_addCall_39 lf_X0_18 rfl hb.1 hb.2.2.2.1.1 ?_
    refine V_aload_n (i := 0) dX0_addCall_42 rfl 0 rfl ?_
    refine M_getI (x := nI (v_nc V)) dX0_addCall_43 lf_X0_36 rfl hb.1 ((up2_ne (by omega)).trans ((up2_ne (by omega)).trans (hV.nc))) ?_
    refine V_iload_n (i := 1) dX0_addCall_46 rfl 1 rfl ?_
    refine M_iastn (j := (v_nc V)) dX0_addCall_47 hb.2.2.2.1.2 (by decide) (by omega) ?_
    refine V_aload_n (i := 0) dX0_addCall_48 rfl 0 rfl ?_
    refine M_getR dX0_addCall_49 lf_X0_21 rfl hb.1 hb.2.2.2.2.1.1 ?_
    refine V_aload_n (i := 0) dX0_addCall_52 rfl 0 rfl ?_
    refine M_getI (x := nI (v_nc V)) dX0_addCall_53 lf_X0_36 rfl hb.1 ((up2_ne (by omega)).trans ((up2_ne (by omega)).trans ((up2_ne (by omega)).trans (hV.nc)))) ?_
    refine V_iload_n (i := 2) dX0_addCall_56 rfl 2 rfl ?_
    refine M_iastn (j := (v_nc V)) dX0_addCall_57 hb.2.2.2.2.1.2 (by decide) (by omega) ?_
    refine V_aload_n (i := 0) dX0_addCall_58 rfl 0 rfl ?_
    refine V_dup dX0_addCall_59 rfl ?_
    refine M_getI (x := nI (v_nc V)) dX0_addCall_60 lf_X0_36 rfl hb.1 ((up2_ne (by omega)).trans ((up2_ne (by omega)).trans ((up2_ne (by omega)).trans ((up2_ne (by omega)).trans (hV.nc))))) ?_
    refine V_iconst (v := nI 1) dX0_addCall_63 rfl ?_
    refine V_iadd dX0_addCall_64 ?_
    refine M_top (nI_add _ _) ?_
    refine M_putI dX0_addCall_65 lf_X0_36 rfl hb.1 ⟨rfl, rfl⟩ ?_
    refine V_aload_n (i := 0) dX0_addCall_68 rfl 0 rfl ?_
    refine M_getI (x := nI ((v_nc V) + 1)) dX0_addCall_69 lf_X0_36 rfl hb.1 (up2_s) ?_
    refine V_iconst (v := nI 1) dX0_addCall_72 rfl ?_
    refine V_isub dX0_addCall_73 ?_
    refine M_top (x2 := nI (v_nc V)) ((nI_sub (by omega)).trans rfl) ?_
    refine V_iret dX0_addCall_74 ⟨rfl, rfl⟩ (Nat.zero_le _) (Nat.zero_le _) ?_
    subst hQ
    exact ⟨_, _, _, rfl, rfl, rfl, rfl, xc_addC hV hn hu hk, (((((Off.rf.up (by omega) (by omega)).up (by omega) (by omega)).up (by omega) (by omega)).up (by omega) (by omega)).up (by omega) (by omega))⟩
  · have h13 : ¬ (v_nc V) < 12 := fun q => h13 ((nI_ltI (by omega) (by omega)).mpr q)
    exact absurd h13 (by omega)
set_option maxRecDepth 20000 in
theorem t_addNote {g : Ev} {S : St} {iv : IV} {lw : LW} {b : Nat} (hb : IsCamp S b) {V : Cv} (hV : XC iv b V) {t : Nat} (hn : 0 < v_nc V) (hs : v_sz V (v_nc V - 1) < 8) (ht : t ≤ 4) : CN g mX0_addNote [.ref (b), .int (nI t)] S iv lw (fun iv2 lw2 => lw = lw2 ∧ XC iv2 b (v_addN V t) ∧ Off b 9 iv iv2) := by
  refine CT_ofQ rfl (by decide) (Nat.le_of_ble_eq_true rfl) (lv := [(0, .ref (b)), (1, .int (nI t))]) rfl (fun Q hQ => ?_)
  have hnc := hV.ok.nc
  have hne := hV.ok.ne
  have hnm := hV.ok.nm
  refine V_aload_n (i := 0) dX0_addNote_0 rfl 0 rfl ?_
  refine M_getI (x := nI (v_nc V)) dX0_addNote_1 lf_X0_36 rfl hb.1 (hV.nc) ?_
  refine V_iconst (v := nI 1) dX0_addNote_4 rfl ?_
  refine V_isub dX0_addNote_5 ?_
  refine M_top (x2 := nI (v_nc V - 1)) (nI_sub (by omega)) ?_
  refine V_istore_n (lv2 := [(2, .int (nI (v_nc V - 1))), (0, .ref (b)), (1, .int (nI t))]) dX0_addNote_6 rfl (by decide) rfl ?_
  refine V_iload_n (i := 2) dX0_addNote_7 rfl 0 rfl ?_
  refine V_if_lt (tgt := 57) dX0_addNote_8 rfl (fun q => absurd q (nI_pos (by omega))) (fun _ => ?_)
  refine V_iload_n (i := 2) dX0_addNote_11 rfl 0 rfl ?_
  refine V_bipush (v := nI 12) dX0_addNote_12 rfl ?_
  refine V_icmp_ge (tgt := 57) dX0_addNote_14 rfl (fun h14 => ?_) (fun h14 => ?_)
  · have h14 : 12 ≤ (v_nc V - 1) := (nI_leI (by omega) (by omega)).mp h14
    exact absurd h14 (by omega)
  · have h14 : ¬ 12 ≤ (v_nc V - 1) := fun q => h14 ((nI_leI (by omega) (by omega)).mpr q)
    refine V_aload_n (i := 0) dX0_addNote_17 rfl 1 rfl ?_
    refine M_getR dX0_addNote_18 lf_X0_11 rfl hb.1 hb.2.1.1 ?_
    refine V_iload_n (i := 2) dX0_addNote_21 rfl 0 rfl ?_
    refine M_ialdn (j := (v_nc V - 1)) (x := nI (v_sz V (v_nc V - 1))) dX0_addNote_22 hb.2.1.2 (by decide) (by omega) (hV.sz (c := (v_nc V - 1)) (by omega)) ?_
    refine V_bipush (v := nI 8) dX0_addNote_23 rfl ?_
    refine V_icmp_ge (tgt := 57) dX0_addNote_25 rfl (fun h25 => ?_) (fun h25 => ?_)
    · have h25 : 8 ≤ (v_sz V (v_nc V - 1)) := (nI_leI (by omega) (by omega)).mp h25
      exact absurd h25 (by omega)
    · have h25 : ¬ 8 ≤ (v_sz V (v_nc V - 1)) := fun q => h25 ((nI_leI (by omega) (by omega)).mpr q)
      refine V_aload_n (i := 0) dX0_addNote_28 rfl 1 rfl ?_
      refine M_getR dX0_addNote_29 lf_X0_15 rfl hb.1 hb.2.2.1.1 ?_
      refine V_iload_n (i := 2) dX0_addNote_32 rfl 0 rfl ?_
      refine V_dup2_11 dX0_addNote_33 rfl rfl ?_
      refine M_ialdn (j := (v_nc V - 1)) (x := nI (v_pk V (v_nc V - 1))) dX0_addNote_34 hb.2.2.1.2 (by decide) (by omega) (hV.pk (c := (v_nc V - 1)) (by omega)) ?_
      refine V_iload_n (i := 1) dX0_addNote_35 rfl 2 rfl ?_
      refine V_aload_n (i := 0) dX0_addNote_36 rfl 1 rfl ?_
      refine M_getR dX0_addNote_37 lf_X0_11 rfl hb.1 hb.2.1.1 ?_
      refine V_iload_n (i := 2) dX0_addNote_40 rfl 0 rfl ?_
      refine M_ialdn (j := (v_nc V - 1)) (x := nI (v_sz V (v_nc V - 1))) dX0_addNote_41 hb.2.1.2 (by decide) (by omega) (hV.sz (c := (v_nc V - 1)) (by omega)) ?_
      refine M_callSp (As := [.int (nI t), .int (nI (v_sz V (v_nc V - 1)))]) (st := [.int (nI (v_pk V (v_nc V - 1))), .int (nI (v_nc V - 1)), .ref (b + 2)]) dX0_addNote_42 ls_X0_63 ⟨by decide, by decide⟩ ⟨rfl, rfl⟩ rfl (Nat.le_of_ble_eq_true rfl) (t_X0_packedNote hs) ?_
      refine V_ior dX0_addNote_45 ?_
      refine M_top (x2 := nI (v_pk V (v_nc V - 1) + (t + 1) * 8 ^ v_sz V (v_nc V - 1))) ((nI_or _ _).trans (by rw [or_pk (z_pk hV.ok (by omega))])) ?_
      refine M_iastn (j := (v_nc V - 1)) dX0_addNote_46 hb.2.2.1.2 (by decide) (by omega) ?_
      refine V_aload_n (i := 0) dX0_addNote_47 rfl 1 rfl ?_
      refine M_getR dX0_addNote_48 lf_X0_11 rfl hb.1 hb.2.1.1 ?_
      refine V_iload_n (i := 2) dX0_addNote_51 rfl 0 rfl ?_
      refine V_dup2_11 dX0_addNote_52 rfl rfl ?_
      refine M_ialdn (j := (v_nc V - 1)) (x := nI (v_sz V (v_nc V - 1))) dX0_addNote_53 hb.2.1.2 (by decide) (by omega) ((up2_ne (by omega)).trans (hV.sz (c := (v_nc V - 1)) (by omega))) ?_
      refine V_iconst (v := nI 1) dX0_addNote_54 rfl ?_
      refine V_iadd dX0_addNote_55 ?_
      refine M_top (nI_add _ _) ?_
      refine M_iastn (j := (v_nc V - 1)) dX0_addNote_56 hb.2.1.2 (by decide) (by omega) ?_
      refine V_vret dX0_addNote_57 ⟨rfl, rfl⟩ (Nat.zero_le _) (Nat.zero_le _) ?_
      subst hQ
      exact ⟨_, _, rfl, rfl, rfl, xc_addN hV hn hs ht, ((Off.rf.up (by omega) (by omega)).up (by omega) (by omega))⟩
set_option maxRecDepth 20000 in
theorem t_addEar {g : Ev} {S : St} {iv : IV} {lw : LW} {b : Nat} (hb : IsCamp S b) {V : Cv} (hV : XC iv b V) {k a : Nat} (hn : v_ne V < 6) (hk : k ≤ 5) (ha : a ≤ 9) : CQ g mX0_addEar [.ref (b), .int (nI k), .int (nI a)] S iv lw (fun w iv2 lw2 => w = .int (nI (v_ne V)) ∧ lw = lw2 ∧ XC iv2 b (v_addE V k a) ∧ Off b 9 iv iv2) := by
  refine CT_ofQ rfl (by decide) (Nat.le_of_ble_eq_true rfl) (lv := [(0, .ref (b)), (1, .int (nI k)), (2, .int (nI a))]) rfl (fun Q hQ => ?_)
  have hnc := hV.ok.nc
  have hne := hV.ok.ne
  have hnm := hV.ok.nm
  refine V_aload_n (i := 0) dX0_addEar_0 rfl 0 rfl ?_
  refine M_getI (x := nI (v_ne V)) dX0_addEar_1 lf_X0_40 rfl hb.1 (hV.ne) ?_
  refine V_if_lt (tgt := 16) dX0_addEar_4 rfl (fun q => absurd q (nI_pos (by omega))) (fun _ => ?_)
  refine V_aload_n (i := 0) dX0_addEar_7 rfl 0 rfl ?_
  refine M_getI (x := nI (v_ne V)) dX0_addEar_8 lf_X0_40 rfl hb.1 (hV.ne) ?_
  refine V_bipush (v := nI 6) dX0_addEar_11 rfl ?_
  refine V_icmp_lt (tgt := 18) dX0_addEar_13 rfl (fun h13 => ?_) (fun h13 => ?_)
  · have h13 : (v_ne V) < 6 := (nI_ltI (by omega) (by omega)).mp h13
    refine V_aload_n (i := 0) dX0_addEar_18 rfl 0 rfl ?_
    refine M_getR dX0_addEar_19 lf_X0_24 rfl hb.1 hb.2.2.2.2.2.1.1 ?_
    refine V_aload_n (i := 0) dX0_addEar_22 rfl 0 rfl ?_
    refine M_getI (x := nI (v_ne V)) dX0_addEar_23 lf_X0_40 rfl hb.1 (hV.ne) ?_
    refine V_iload_n (i := 1) dX0_addEar_26 rfl 1 rfl ?_
    refine M_iastn (j := (v_ne V)) dX0_addEar_27 hb.2.2.2.2.2.1.2 (by decide) (by omega) ?_
    refine V_aload_n (i := 0) dX0_addEar_28 rfl 0 rfl ?_
    refine M_getR dX0_addEar_29 lf_X0_27 rfl hb.1 hb.2.2.2.2.2.2.1.1 ?_
    refine V_aload_n (i := 0) dX0_addEar_32 rfl 0 rfl ?_
    refine M_getI (x := nI (v_ne V)) dX0_addEar_33 lf_X0_40 rfl hb.1 ((up2_ne (by omega)).trans (hV.ne)) ?_
    refine V_iload_n (i := 2) dX0_addEar_36 rfl 2 rfl ?_
    refine M_iastn (j := (v_ne V)) dX0_addEar_37 hb.2.2.2.2.2.2.1.2 (by decide) (by omega) ?_
    refine V_aload_n (i := 0) dX0_addEar_38 rfl 0 rfl ?_
    refine V_dup dX0_addEar_39 rfl ?_
    refine M_getI (x := nI (v_ne V)) dX0_addEar_40 lf_X0_40 rfl hb.1 ((up2_ne (by omega)).trans ((up2_ne (by omega)).trans (hV.ne))) ?_
    refine V_iconst (v := nI 1) dX0_addEar_43 rfl ?_
    refine V_iadd dX0_addEar_44 ?_
    refine M_top (nI_add _ _) ?_
    refine M_putI dX0_addEar_45 lf_X0_40 rfl hb.1 ⟨rfl, rfl⟩ ?_
    refine V_aload_n (i := 0) dX0_addEar_48 rfl 0 rfl ?_
    refine M_getI (x := nI ((v_ne V) + 1)) dX0_addEar_49 lf_X0_40 rfl hb.1 (up2_s) ?_
    refine V_iconst (v := nI 1) dX0_addEar_52 rfl ?_
    refine V_isub dX0_addEar_53 ?_
    refine M_top (x2 := nI (v_ne V)) ((nI_sub (by omega)).trans rfl) ?_
    refine V_iret dX0_addEar_54 ⟨rfl, rfl⟩ (Nat.zero_le _) (Nat.zero_le _) ?_
    subst hQ
    exact ⟨_, _, _, rfl, rfl, rfl, rfl, xc_addE hV hn hk ha, (((Off.rf.up (by omega) (by omega)).up (by omega) (by omega)).up (by omega) (by omega))⟩
  · have h13 : ¬ (v_ne V) < 6 := fun q => h13 ((nI_ltI (by omega) (by omega)).mpr q)
    exact absurd h13 (by omega)
set_option maxRecDepth 20000 in
theorem t_addMan {g : Ev} {S : St} {iv : IV} {lw : LW} {b : Nat} (hb : IsCamp S b) {V : Cv} (hV : XC iv b V) {k a : Nat} (hn : v_nm V < 8) (hk : k < v_ne V) (ha : a ≤ 1) : CQ g mX0_addMan [.ref (b), .int (nI k), .int (nI a)] S iv lw (fun w iv2 lw2 => w = .int (nI (v_nm V)) ∧ lw = lw2 ∧ XC iv2 b (v_addM V k a) ∧ Off b 9 iv iv2) := by
  refine CT_ofQ rfl (by decide) (Nat.le_of_ble_eq_true rfl) (lv := [(0, .ref (b)), (1, .int (nI k)), (2, .int (nI a))]) rfl (fun Q hQ => ?_)
  have hnc := hV.ok.nc
  have hne := hV.ok.ne
  have hnm := hV.ok.nm
  refine V_aload_n (i := 0) dX0_addMan_0 rfl 0 rfl ?_
  refine M_getI (x := nI (v_nm V)) dX0_addMan_1 lf_X0_43 rfl hb.1 (hV.nm) ?_
  refine V_if_lt (tgt := 16) dX0_addMan_4 rfl (fun q => absurd q (nI_pos (by omega))) (fun _ => ?_)
  refine V_aload_n (i := 0) dX0_addMan_7 rfl 0 rfl ?_
  refine M_getI (x := nI (v_nm V)) dX0_addMan_8 lf_X0_43 rfl hb.1 (hV.nm) ?_
  refine V_bipush (v := nI 8) dX0_addMan_11 rfl ?_
  refine V_icmp_lt (tgt := 18) dX0_addMan_13 rfl (fun h13 => ?_) (fun h13 => ?_)
  · have h13 : (v_nm V) < 8 := (nI_ltI (by omega) (by omega)).mp h13
    refine V_aload_n (i := 0) dX0_addMan_18 rfl 0 rfl ?_
    refine M_getR dX0_addMan_19 lf_X0_30 rfl hb.1 hb.2.2.2.2.2.2.2.1.1 ?_
    refine V_aload_n (i := 0) dX0_addMan_22 rfl 0 rfl ?_
    refine M_getI (x := nI (v_nm V)) dX0_addMan_23 lf_X0_43 rfl hb.1 (hV.nm) ?_
    refine V_iload_n (i := 1) dX0_addMan_26 rfl 1 rfl ?_
    refine M_iastn (j := (v_nm V)) dX0_addMan_27 hb.2.2.2.2.2.2.2.1.2 (by decide) (by omega) ?_
    refine V_aload_n (i := 0) dX0_addMan_28 rfl 0 rfl ?_
    refine M_getR dX0_addMan_29 lf_X0_33 rfl hb.1 hb.2.2.2.2.2.2.2.2.1 ?_
    refine V_aload_n (i := 0) dX0_addMan_32 rfl 0 rfl ?_
    refine M_getI (x := nI (v_nm V)) dX0_addMan_33 lf_X0_43 rfl hb.1 ((up2_ne (by omega)).trans (hV.nm)) ?_
    refine V_iload_n (i := 2) dX0_addMan_36 rfl 2 rfl ?_
    refine M_iastn (j := (v_nm V)) dX0_addMan_37 hb.2.2.2.2.2.2.2.2.2 (by decide) (by omega) ?_
    refine V_aload_n (i := 0) dX0_addMan_38 rfl 0 rfl ?_
    refine V_dup dX0_addMan_39 rfl ?_
    refine M_getI (x := nI (v_nm V)) dX0_addMan_40 lf_X0_43 rfl hb.1 ((up2_ne (by omega)).trans ((up2_ne (by omega)).trans (hV.nm))) ?_
    refine V_iconst (v := nI 1) dX0_addMan_43 rfl ?_
    refine V_iadd dX0_addMan_44 ?_
    refine M_top (nI_add _ _) ?_
    refine M_putI dX0_addMan_45 lf_X0_43 rfl hb.1 ⟨rfl, rfl⟩ ?_
    refine V_aload_n (i := 0) dX0_addMan_48 rfl 0 rfl ?_
    refine M_getI (x := nI ((v_nm V) + 1)) dX0_addMan_49 lf_X0_43 rfl hb.1 (up2_s) ?_
    refine V_iconst (v := nI 1) dX0_addMan_52 rfl ?_
    refine V_isub dX0_addMan_53 ?_
    refine M_top (x2 := nI (v_nm V)) ((nI_sub (by omega)).trans rfl) ?_
    refine V_iret dX0_addMan_54 ⟨rfl, rfl⟩ (Nat.zero_le _) (Nat.zero_le _) ?_
    subst hQ
    exact ⟨_, _, _, rfl, rfl, rfl, rfl, xc_addM hV hn hk ha, (((Off.rf.up (by omega) (by omega)).up (by omega) (by omega)).up (by omega) (by omega))⟩
  · have h13 : ¬ (v_nm V) < 8 := fun q => h13 ((nI_ltI (by omega) (by omega)).mpr q)
    exact absurd h13 (by omega)
set_option maxRecDepth 20000 in
theorem t_changeUse {g : Ev} {S : St} {iv : IV} {lw : LW} {b : Nat} (hb : IsCamp S b) {V : Cv} (hV : XC iv b V) {c u : Nat} (hc : c < v_nc V) (hu : 1 ≤ u ∧ u ≤ 99) : CQ g mX0_changeUse [.ref (b), .int (nI c), .int (nI u)] S iv lw (fun w iv2 lw2 => w = .int (nI (v_us V c)) ∧ lw = lw2 ∧ XC iv2 b (v_setU V c u) ∧ Off b 9 iv iv2) := by
  refine CT_ofQ rfl (by decide) (Nat.le_of_ble_eq_true rfl) (lv := [(0, .ref (b)), (1, .int (nI c)), (2, .int (nI u))]) rfl (fun Q hQ => ?_)
  have hnc := hV.ok.nc
  have hne := hV.ok.ne
  have hnm := hV.ok.nm
  refine V_aload_n (i := 0) dX0_changeUse_0 rfl 0 rfl ?_
  refine V_iload_n (i := 1) dX0_changeUse_1 rfl 1 rfl ?_
  refine M_callVp (As := [.int (nI c)]) (st := []) dX0_changeUse_2 lv_X0_75 ⟨by decide, by decide⟩ ⟨rfl, rfl⟩ rfl (ci := 0) hb.1 rfl rfl (Nat.le_of_ble_eq_true rfl) (t_X0_useOf hb hV hc) ?_
  refine V_istore_n (lv2 := [(3, .int (nI (v_us V c))), (0, .ref (b)), (1, .int (nI c)), (2, .int (nI u))]) dX0_changeUse_5 rfl (by decide) rfl ?_
  refine V_iload_n (i := 1) dX0_changeUse_6 rfl 2 rfl ?_
  refine V_if_lt (tgt := 34) dX0_changeUse_7 rfl (fun q => absurd q (nI_pos (by omega))) (fun _ => ?_)
  refine V_iload_n (i := 1) dX0_changeUse_10 rfl 2 rfl ?_
  refine V_aload_n (i := 0) dX0_changeUse_11 rfl 1 rfl ?_
  refine M_getI (x := nI (v_nc V)) dX0_changeUse_12 lf_X0_36 rfl hb.1 (hV.nc) ?_
  refine V_icmp_ge (tgt := 34) dX0_changeUse_15 rfl (fun h15 => ?_) (fun h15 => ?_)
  · have h15 : (v_nc V) ≤ c := (nI_leI (by omega) (by omega)).mp h15
    exact absurd h15 (by omega)
  · have h15 : ¬ (v_nc V) ≤ c := fun q => h15 ((nI_leI (by omega) (by omega)).mpr q)
    refine V_iload_n (i := 1) dX0_changeUse_18 rfl 2 rfl ?_
    refine V_aload_n (i := 0) dX0_changeUse_19 rfl 1 rfl ?_
    refine M_getR dX0_changeUse_20 lf_X0_18 rfl hb.1 hb.2.2.2.1.1 ?_
    refine M_alen (t := 0) dX0_changeUse_23 (by decide) hb.2.2.2.1.2 ?_
    refine V_icmp_ge (tgt := 34) dX0_changeUse_24 rfl (fun h24 => ?_) (fun h24 => ?_)
    · have h24 : 12 ≤ c := (nI_leI (by omega) (by omega)).mp h24
      exact absurd h24 (by omega)
    · have h24 : ¬ 12 ≤ c := fun q => h24 ((nI_leI (by omega) (by omega)).mpr q)
      refine V_aload_n (i := 0) dX0_changeUse_27 rfl 1 rfl ?_
      refine M_getR dX0_changeUse_28 lf_X0_18 rfl hb.1 hb.2.2.2.1.1 ?_
      refine V_iload_n (i := 1) dX0_changeUse_31 rfl 2 rfl ?_
      refine V_iload_n (i := 2) dX0_changeUse_32 rfl 3 rfl ?_
      refine M_iastn (j := c) dX0_changeUse_33 hb.2.2.2.1.2 (by decide) (by omega) ?_
      refine V_iload_n (i := 3) dX0_changeUse_34 rfl 0 rfl ?_
      refine V_iret dX0_changeUse_35 ⟨rfl, rfl⟩ (Nat.zero_le _) (Nat.zero_le _) ?_
      subst hQ
      exact ⟨_, _, _, rfl, rfl, rfl, rfl, xc_setU hV hu, (Off.rf.up (by omega) (by omega))⟩
set_option maxRecDepth 20000 in
theorem t_changeCost {g : Ev} {S : St} {iv : IV} {lw : LW} {b : Nat} (hb : IsCamp S b) {V : Cv} (hV : XC iv b V) {c u : Nat} (hc : c < v_nc V) (hu : u ≤ 99) : CQ g mX0_changeCost [.ref (b), .int (nI c), .int (nI u)] S iv lw (fun w iv2 lw2 => w = .int (nI (v_co V c)) ∧ lw = lw2 ∧ XC iv2 b (v_setK V c u) ∧ Off b 9 iv iv2) := by
  refine CT_ofQ rfl (by decide) (Nat.le_of_ble_eq_true rfl) (lv := [(0, .ref (b)), (1, .int (nI c)), (2, .int (nI u))]) rfl (fun Q hQ => ?_)
  have hnc := hV.ok.nc
  have hne := hV.ok.ne
  have hnm := hV.ok.nm
  refine V_aload_n (i := 0) dX0_changeCost_0 rfl 0 rfl ?_
  refine V_iload_n (i := 1) dX0_changeCost_1 rfl 1 rfl ?_
  refine M_callVp (As := [.int (nI c)]) (st := []) dX0_changeCost_2 lv_X0_78 ⟨by decide, by decide⟩ ⟨rfl, rfl⟩ rfl (ci := 0) hb.1 rfl rfl (Nat.le_of_ble_eq_true rfl) (t_X0_costOf hb hV hc) ?_
  refine V_istore_n (lv2 := [(3, .int (nI (v_co V c))), (0, .ref (b)), (1, .int (nI c)), (2, .int (nI u))]) dX0_changeCost_5 rfl (by decide) rfl ?_
  refine V_iload_n (i := 1) dX0_changeCost_6 rfl 2 rfl ?_
  refine V_if_lt (tgt := 34) dX0_changeCost_7 rfl (fun q => absurd q (nI_pos (by omega))) (fun _ => ?_)
  refine V_iload_n (i := 1) dX0_changeCost_10 rfl 2 rfl ?_
  refine V_aload_n (i := 0) dX0_changeCost_11 rfl 1 rfl ?_
  refine M_getI (x := nI (v_nc V)) dX0_changeCost_12 lf_X0_36 rfl hb.1 (hV.nc) ?_
  refine V_icmp_ge (tgt := 34) dX0_changeCost_15 rfl (fun h15 => ?_) (fun h15 => ?_)
  · have h15 : (v_nc V) ≤ c := (nI_leI (by omega) (by omega)).mp h15
    exact absurd h15 (by omega)
  · have h15 : ¬ (v_nc V) ≤ c := fun q => h15 ((nI_leI (by omega) (by omega)).mpr q)
    refine V_iload_n (i := 1) dX0_changeCost_18 rfl 2 rfl ?_
    refine V_aload_n (i := 0) dX0_changeCost_19 rfl 1 rfl ?_
    refine M_getR dX0_changeCost_20 lf_X0_21 rfl hb.1 hb.2.2.2.2.1.1 ?_
    refine M_alen (t := 0) dX0_changeCost_23 (by decide) hb.2.2.2.2.1.2 ?_
    refine V_icmp_ge (tgt := 34) dX0_changeCost_24 rfl (fun h24 => ?_) (fun h24 => ?_)
    · have h24 : 12 ≤ c := (nI_leI (by omega) (by omega)).mp h24
      exact absurd h24 (by omega)
    · have h24 : ¬ 12 ≤ c := fun q => h24 ((nI_leI (by omega) (by omega)).mpr q)
      refine V_aload_n (i := 0) dX0_changeCost_27 rfl 1 rfl ?_
      refine M_getR dX0_changeCost_28 lf_X0_21 rfl hb.1 hb.2.2.2.2.1.1 ?_
      refine V_iload_n (i := 1) dX0_changeCost_31 rfl 2 rfl ?_
      refine V_iload_n (i := 2) dX0_changeCost_32 rfl 3 rfl ?_
      refine M_iastn (j := c) dX0_changeCost_33 hb.2.2.2.2.1.2 (by decide) (by omega) ?_
      refine V_iload_n (i := 3) dX0_changeCost_34 rfl 0 rfl ?_
      refine V_iret dX0_changeCost_35 ⟨rfl, rfl⟩ (Nat.zero_le _) (Nat.zero_le _) ?_
      subst hQ
      exact ⟨_, _, _, rfl, rfl, rfl, rfl, xc_setK hV hu, (Off.rf.up (by omega) (by omega))⟩
set_option maxRecDepth 20000 in
theorem t_removeLastCall {g : Ev} {S : St} {iv : IV} {lw : LW} {b : Nat} (hb : IsCamp S b) {V : Cv} (hV : XC iv b V) (hn : 0 < v_nc V) : CQ g mX0_removeLastCall [.ref (b)] S iv lw (fun w iv2 lw2 => w = .int (nI (v_nc V - 1)) ∧ lw = lw2 ∧ XC iv2 b (v_drop V) ∧ Off b 9 iv iv2) := by
  refine CT_ofQ rfl (by decide) (Nat.le_of_ble_eq_true rfl) (lv := [(0, .ref (b))]) rfl (fun Q hQ => ?_)
  have hnc := hV.ok.nc
  have hne := hV.ok.ne
  have hnm := hV.ok.nm
  refine V_aload_n (i := 0) dX0_removeLastCall_0 rfl 0 rfl ?_
  refine M_getI (x := nI (v_nc V)) dX0_removeLastCall_1 lf_X0_36 rfl hb.1 (hV.nc) ?_
  refine V_if_le (tgt := 17) dX0_removeLastCall_4 rfl (fun h4 => ?_) (fun h4 => ?_)
  · have h4 : (v_nc V) ≤ 0 := (nI_leI (b := 0) (by omega) (by omega)).mp h4
    exact absurd h4 (by omega)
  · have h4 : ¬ (v_nc V) ≤ 0 := fun q => h4 ((nI_leI (b := 0) (by omega) (by omega)).mpr q)
    refine V_aload_n (i := 0) dX0_removeLastCall_7 rfl 0 rfl ?_
    refine V_dup dX0_removeLastCall_8 rfl ?_
    refine M_getI (x := nI (v_nc V)) dX0_removeLastCall_9 lf_X0_36 rfl hb.1 (hV.nc) ?_
    refine V_iconst (v := nI 1) dX0_removeLastCall_12 rfl ?_
    refine V_isub dX0_removeLastCall_13 ?_
    refine M_top (x2 := nI (v_nc V - 1)) (nI_sub (by omega)) ?_
    refine M_putI dX0_removeLastCall_14 lf_X0_36 rfl hb.1 ⟨rfl, rfl⟩ ?_
    refine V_aload_n (i := 0) dX0_removeLastCall_17 rfl 0 rfl ?_
    refine M_getI (x := nI (v_nc V - 1)) dX0_removeLastCall_18 lf_X0_36 rfl hb.1 (up2_s) ?_
    refine V_iret dX0_removeLastCall_21 ⟨rfl, rfl⟩ (Nat.zero_le _) (Nat.zero_le _) ?_
    subst hQ
    exact ⟨_, _, _, rfl, rfl, rfl, rfl, xc_drop hV hn, (Off.rf.up (by omega) (by omega))⟩
set_option maxRecDepth 20000 in
theorem t_learnedAt {g : Ev} {S : St} {iv : IV} {lw : LW} {b : Nat} (hb : IsCamp S b) {V : Cv} (hV : XC iv b V) {i : Nat} (hi : i < v_nc V) : CP g mX0_learnedAt [.ref (b), .int (nI i)] S iv lw (.int (oI (ffO (fun c => decide (aheadN V c = i)) (v_nc V)))) := by
  refine CT_ofQ rfl (by decide) (Nat.le_of_ble_eq_true rfl) (lv := [(0, .ref (b)), (1, .int (nI i))]) rfl (fun Q hQ => ?_)
  have hnc := hV.ok.nc
  have hne := hV.ok.ne
  have hnm := hV.ok.nm
  refine V_iconst (v := nI 0) dX0_learnedAt_0 rfl ?_
  refine V_istore_n (lv2 := [(2, .int (nI 0)), (0, .ref (b)), (1, .int (nI i))]) dX0_learnedAt_1 rfl (by decide) rfl ?_
  have lp2 : ∀ j, j ≤ (v_nc V) → (∀ k, k < j → (fun c => decide (aheadN V c = i)) k = false) → VM g mX0_learnedAt 2 [(2, .int (nI j)), (0, .ref (b)), (1, .int (nI i))] [] S iv lw Q := by
    refine up_ind fun j hj ih2 => ?_
    intro hal
    refine V_iload_n (i := 2) dX0_learnedAt_2 rfl 0 rfl ?_
    refine V_aload_n (i := 0) dX0_learnedAt_3 rfl 1 rfl ?_
    refine M_getI (x := nI (v_nc V)) dX0_learnedAt_4 lf_X0_36 rfl hb.1 (hV.nc) ?_
    refine V_icmp_ge (tgt := 27) dX0_learnedAt_7 rfl (fun h7 => ?_) (fun h7 => ?_)
    · have h7 : (v_nc V) ≤ j := (nI_leI (by omega) (by omega)).mp h7
      refine V_iconst (v := (-1)) dX0_learnedAt_27 rfl ?_
      refine V_iret dX0_learnedAt_28 ⟨rfl, rfl⟩ (Nat.zero_le _) (Nat.zero_le _) ?_
      subst hQ
      exact ⟨by rw [ffO_none (fun k hk => hal k (by omega))]; rfl, rfl⟩
    · have h7 : ¬ (v_nc V) ≤ j := fun q => h7 ((nI_leI (by omega) (by omega)).mpr q)
      refine V_aload_n (i := 0) dX0_learnedAt_10 rfl 1 rfl ?_
      refine V_iload_n (i := 2) dX0_learnedAt_11 rfl 0 rfl ?_
      refine M_callVp (As := [.int (nI j)]) (st := []) dX0_learnedAt_12 lv_X0_87 ⟨by decide, by decide⟩ ⟨rfl, rfl⟩ rfl (ci := 0) hb.1 rfl rfl (Nat.le_of_ble_eq_true rfl) (t_X0_countLearnedAhead hb hV (c := j) (by omega)) ?_
      refine V_iload_n (i := 1) dX0_learnedAt_15 rfl 2 rfl ?_
      have ha : aheadN V j ≤ v_nc V := cntTo_le _ _
      refine V_icmp_ne (tgt := 21) dX0_learnedAt_16 rfl (fun h16 => ?_) (fun h16 => ?_)
      · have h16 : ¬ (aheadN V j) = i := fun q => h16 ((nI_eq (by omega) (by omega)).mpr q)
        refine V_iinc (v := nI (j + 1)) (lv2 := [(2, .int (nI (j + 1))), (0, .ref (b)), (1, .int (nI i))]) dX0_learnedAt_21 0 rfl (nI_inc _) (by decide) rfl ?_
        refine V_goto (tgt := 2) dX0_learnedAt_24 rfl ?_
        refine V_sub [0, 1, 2] rfl ?_
        exact M_at (ih2 (by omega) (fun k hk => (Nat.lt_or_ge k j).elim (hal k) (fun z => by have e9 : k = j := (by omega); rw [e9]; simpa using h16))) (rfl) rfl (rfl) (rfl)
      · have h16 : (aheadN V j) = i := (nI_eq (by omega) (by omega)).mp h16
        refine V_iload_n (i := 2) dX0_learnedAt_19 rfl 0 rfl ?_
        refine V_iret dX0_learnedAt_20 ⟨rfl, rfl⟩ (Nat.zero_le _) (Nat.zero_le _) ?_
        subst hQ
        exact ⟨by rw [ffO_at (by omega) hal (decide_eq_true h16)]; rfl, rfl⟩
  refine V_sub [0, 1, 2] rfl ?_
  exact M_at (lp2 0 (Nat.zero_le _) (fun k hk => absurd hk (by omega))) (rfl) rfl (rfl) (rfl)
set_option maxRecDepth 20000 in
theorem t_drawBelow {g : Ev} {S : St} {iv : IV} {lw : LW} {b : Nat} (hb : IsCamp S b) {V : Cv} (hV : XC iv b V) {m : Nat} (hm : 0 < m) (hm2 : m ≤ 1000) : CQ g mX0_drawBelow [.ref (b), .int (nI m)] S iv lw (fun w iv2 lw2 => w = .int (nI (drw (v_se V) % m)) ∧ lw = lw2 ∧ XC iv2 b (v_setD V (nxt (v_se V))) ∧ Off b 9 iv iv2) := by
  refine CT_ofQ rfl (by decide) (Nat.le_of_ble_eq_true rfl) (lv := [(0, .ref (b)), (1, .int (nI m))]) rfl (fun Q hQ => ?_)
  have hdr := drw_lt (v_se V)
  refine V_aload_n (i := 0) dX0_drawBelow_0 rfl 0 rfl ?_
  refine V_aload_n (i := 0) dX0_drawBelow_1 rfl 0 rfl ?_
  refine M_getI (x := v_se V) dX0_drawBelow_2 lf_X0_52 rfl hb.1 (hV.se) ?_
  refine V_ldc (v := nI 1103515245) dX0_drawBelow_5 mw_1034 ?_
  refine V_imul dX0_drawBelow_7 ?_
  refine V_sipush (v := nI 12345) dX0_drawBelow_8 rfl ?_
  refine V_iadd dX0_drawBelow_11 ?_
  refine M_top (x2 := nxt (v_se V)) (rfl) ?_
  refine M_putI dX0_drawBelow_12 lf_X0_52 rfl hb.1 ⟨rfl, rfl⟩ ?_
  refine V_iload_n (i := 1) dX0_drawBelow_15 rfl 1 rfl ?_
  refine V_if_le (tgt := 31) dX0_drawBelow_16 rfl (fun h16 => ?_) (fun h16 => ?_)
  · have h16 : m ≤ 0 := (nI_leI (b := 0) (by omega) (by omega)).mp h16
    exact absurd h16 (by omega)
  · have h16 : ¬ m ≤ 0 := fun q => h16 ((nI_leI (b := 0) (by omega) (by omega)).mpr q)
    refine V_aload_n (i := 0) dX0_drawBelow_19 rfl 0 rfl ?_
    refine M_getI (x := nxt (v_se V)) dX0_drawBelow_20 lf_X0_52 rfl hb.1 (up2_s) ?_
    refine V_bipush (v := nI 16) dX0_drawBelow_23 rfl ?_
    refine V_iushr dX0_drawBelow_25 ?_
    refine M_top (x2 := nI (drw (v_se V))) ((u16 _).trans rfl) ?_
    refine V_iload_n (i := 1) dX0_drawBelow_26 rfl 1 rfl ?_
    refine V_irem dX0_drawBelow_27 (nI_ne0 (by omega) (by omega)) ?_
    refine M_top (x2 := nI (drw (v_se V) % m)) (pk_rem (by omega) (by omega) (by omega)) ?_
    refine V_goto (tgt := 32) dX0_drawBelow_28 rfl ?_
    refine V_iret dX0_drawBelow_32 ⟨rfl, rfl⟩ (Nat.zero_le _) (Nat.zero_le _) ?_
    subst hQ
    exact ⟨_, _, _, rfl, rfl, rfl, rfl, xc_setD hV, (Off.rf.up (by omega) (by omega))⟩
set_option maxRecDepth 20000 in
theorem t_takeAll {g : Ev} {S : St} {iv : IV} {lw : LW} {b s : Nat} (hb : IsCamp S b) (hs : IsCamp S s) (hd : b + 8 < s ∨ s + 8 < b) {V : Cv} (hV : XC iv s V) : CN g mX0_takeAll [.ref (b), .ref (s)] S iv lw (fun iv2 lw2 => lw = lw2 ∧ XC iv2 b V ∧ Off b 9 iv iv2) := by
  refine CT_ofQ rfl (by decide) (Nat.le_of_ble_eq_true rfl) (lv := [(0, .ref (b)), (1, .ref (s))]) rfl (fun Q hQ => ?_)
  refine V_aload_n (i := 1) dX0_takeAll_0 rfl 1 rfl ?_
  refine M_getR dX0_takeAll_1 lf_X0_11 rfl hs.1 hs.2.1.1 ?_
  refine V_iconst (v := nI 0) dX0_takeAll_4 rfl ?_
  refine V_aload_n (i := 0) dX0_takeAll_5 rfl 0 rfl ?_
  refine M_getR dX0_takeAll_6 lf_X0_11 rfl hb.1 hb.2.1.1 ?_
  refine V_iconst (v := nI 0) dX0_takeAll_9 rfl ?_
  refine V_bipush (v := nI 12) dX0_takeAll_10 rfl ?_
  refine M_acopyI dX0_takeAll_12 mw_478 mw_283 mw_282 mw_11 (by decide) (by decide) hs.2.1.2 hb.2.1.2 (by decide) (by decide) (by decide) (by decide) (by decide) ?_
  refine V_aload_n (i := 1) dX0_takeAll_15 rfl 1 rfl ?_
  refine M_getR dX0_takeAll_16 lf_X0_15 rfl hs.1 hs.2.2.1.1 ?_
  refine V_iconst (v := nI 0) dX0_takeAll_19 rfl ?_
  refine V_aload_n (i := 0) dX0_takeAll_20 rfl 0 rfl ?_
  refine M_getR dX0_takeAll_21 lf_X0_15 rfl hb.1 hb.2.2.1.1 ?_
  refine V_iconst (v := nI 0) dX0_takeAll_24 rfl ?_
  refine V_bipush (v := nI 12) dX0_takeAll_25 rfl ?_
  refine M_acopyI dX0_takeAll_27 mw_478 mw_283 mw_282 mw_11 (by decide) (by decide) hs.2.2.1.2 hb.2.2.1.2 (by decide) (by decide) (by decide) (by decide) (by decide) ?_
  refine V_aload_n (i := 1) dX0_takeAll_30 rfl 1 rfl ?_
  refine M_getR dX0_takeAll_31 lf_X0_18 rfl hs.1 hs.2.2.2.1.1 ?_
  refine V_iconst (v := nI 0) dX0_takeAll_34 rfl ?_
  refine V_aload_n (i := 0) dX0_takeAll_35 rfl 0 rfl ?_
  refine M_getR dX0_takeAll_36 lf_X0_18 rfl hb.1 hb.2.2.2.1.1 ?_
  refine V_iconst (v := nI 0) dX0_takeAll_39 rfl ?_
  refine V_bipush (v := nI 12) dX0_takeAll_40 rfl ?_
  refine M_acopyI dX0_takeAll_42 mw_478 mw_283 mw_282 mw_11 (by decide) (by decide) hs.2.2.2.1.2 hb.2.2.2.1.2 (by decide) (by decide) (by decide) (by decide) (by decide) ?_
  refine V_aload_n (i := 1) dX0_takeAll_45 rfl 1 rfl ?_
  refine M_getR dX0_takeAll_46 lf_X0_21 rfl hs.1 hs.2.2.2.2.1.1 ?_
  refine V_iconst (v := nI 0) dX0_takeAll_49 rfl ?_
  refine V_aload_n (i := 0) dX0_takeAll_50 rfl 0 rfl ?_
  refine M_getR dX0_takeAll_51 lf_X0_21 rfl hb.1 hb.2.2.2.2.1.1 ?_
  refine V_iconst (v := nI 0) dX0_takeAll_54 rfl ?_
  refine V_bipush (v := nI 12) dX0_takeAll_55 rfl ?_
  refine M_acopyI dX0_takeAll_57 mw_478 mw_283 mw_282 mw_11 (by decide) (by decide) hs.2.2.2.2.1.2 hb.2.2.2.2.1.2 (by decide) (by decide) (by decide) (by decide) (by decide) ?_
  refine V_aload_n (i := 1) dX0_takeAll_60 rfl 1 rfl ?_
  refine M_getR dX0_takeAll_61 lf_X0_24 rfl hs.1 hs.2.2.2.2.2.1.1 ?_
  refine V_iconst (v := nI 0) dX0_takeAll_64 rfl ?_
  refine V_aload_n (i := 0) dX0_takeAll_65 rfl 0 rfl ?_
  refine M_getR dX0_takeAll_66 lf_X0_24 rfl hb.1 hb.2.2.2.2.2.1.1 ?_
  refine V_iconst (v := nI 0) dX0_takeAll_69 rfl ?_
  refine V_bipush (v := nI 6) dX0_takeAll_70 rfl ?_
  refine M_acopyI dX0_takeAll_72 mw_478 mw_283 mw_282 mw_11 (by decide) (by decide) hs.2.2.2.2.2.1.2 hb.2.2.2.2.2.1.2 (by decide) (by decide) (by decide) (by decide) (by decide) ?_
  refine V_aload_n (i := 1) dX0_takeAll_75 rfl 1 rfl ?_
  refine M_getR dX0_takeAll_76 lf_X0_27 rfl hs.1 hs.2.2.2.2.2.2.1.1 ?_
  refine V_iconst (v := nI 0) dX0_takeAll_79 rfl ?_
  refine V_aload_n (i := 0) dX0_takeAll_80 rfl 0 rfl ?_
  refine M_getR dX0_takeAll_81 lf_X0_27 rfl hb.1 hb.2.2.2.2.2.2.1.1 ?_
  refine V_iconst (v := nI 0) dX0_takeAll_84 rfl ?_
  refine V_bipush (v := nI 6) dX0_takeAll_85 rfl ?_
  refine M_acopyI dX0_takeAll_87 mw_478 mw_283 mw_282 mw_11 (by decide) (by decide) hs.2.2.2.2.2.2.1.2 hb.2.2.2.2.2.2.1.2 (by decide) (by decide) (by decide) (by decide) (by decide) ?_
  refine V_aload_n (i := 1) dX0_takeAll_90 rfl 1 rfl ?_
  refine M_getR dX0_takeAll_91 lf_X0_30 rfl hs.1 hs.2.2.2.2.2.2.2.1.1 ?_
  refine V_iconst (v := nI 0) dX0_takeAll_94 rfl ?_
  refine V_aload_n (i := 0) dX0_takeAll_95 rfl 0 rfl ?_
  refine M_getR dX0_takeAll_96 lf_X0_30 rfl hb.1 hb.2.2.2.2.2.2.2.1.1 ?_
  refine V_iconst (v := nI 0) dX0_takeAll_99 rfl ?_
  refine V_bipush (v := nI 8) dX0_takeAll_100 rfl ?_
  refine M_acopyI dX0_takeAll_102 mw_478 mw_283 mw_282 mw_11 (by decide) (by decide) hs.2.2.2.2.2.2.2.1.2 hb.2.2.2.2.2.2.2.1.2 (by decide) (by decide) (by decide) (by decide) (by decide) ?_
  refine V_aload_n (i := 1) dX0_takeAll_105 rfl 1 rfl ?_
  refine M_getR dX0_takeAll_106 lf_X0_33 rfl hs.1 hs.2.2.2.2.2.2.2.2.1 ?_
  refine V_iconst (v := nI 0) dX0_takeAll_109 rfl ?_
  refine V_aload_n (i := 0) dX0_takeAll_110 rfl 0 rfl ?_
  refine M_getR dX0_takeAll_111 lf_X0_33 rfl hb.1 hb.2.2.2.2.2.2.2.2.1 ?_
  refine V_iconst (v := nI 0) dX0_takeAll_114 rfl ?_
  refine V_bipush (v := nI 8) dX0_takeAll_115 rfl ?_
  refine M_acopyI dX0_takeAll_117 mw_478 mw_283 mw_282 mw_11 (by decide) (by decide) hs.2.2.2.2.2.2.2.2.2 hb.2.2.2.2.2.2.2.2.2 (by decide) (by decide) (by decide) (by decide) (by decide) ?_
  refine V_aload_n (i := 0) dX0_takeAll_120 rfl 0 rfl ?_
  refine V_aload_n (i := 1) dX0_takeAll_121 rfl 1 rfl ?_
  refine M_getI (x := nI (v_nc V)) dX0_takeAll_122 lf_X0_36 rfl hs.1 ((rowU_ne (by omega)).trans ((rowU_ne (by omega)).trans ((rowU_ne (by omega)).trans ((rowU_ne (by omega)).trans ((rowU_ne (by omega)).trans ((rowU_ne (by omega)).trans ((rowU_ne (by omega)).trans ((rowU_ne (by omega)).trans (hV.nc))))))))) ?_
  refine M_putI dX0_takeAll_125 lf_X0_36 rfl hb.1 ⟨rfl, rfl⟩ ?_
  refine V_aload_n (i := 0) dX0_takeAll_128 rfl 0 rfl ?_
  refine V_aload_n (i := 1) dX0_takeAll_129 rfl 1 rfl ?_
  refine M_getI (x := nI (v_ne V)) dX0_takeAll_130 lf_X0_40 rfl hs.1 ((up2_ne (by omega)).trans ((rowU_ne (by omega)).trans ((rowU_ne (by omega)).trans ((rowU_ne (by omega)).trans ((rowU_ne (by omega)).trans ((rowU_ne (by omega)).trans ((rowU_ne (by omega)).trans ((rowU_ne (by omega)).trans ((rowU_ne (by omega)).trans (hV.ne)))))))))) ?_
  refine M_putI dX0_takeAll_133 lf_X0_40 rfl hb.1 ⟨rfl, rfl⟩ ?_
  refine V_aload_n (i := 0) dX0_takeAll_136 rfl 0 rfl ?_
  refine V_aload_n (i := 1) dX0_takeAll_137 rfl 1 rfl ?_
  refine M_getI (x := nI (v_nm V)) dX0_takeAll_138 lf_X0_43 rfl hs.1 ((up2_ne (by omega)).trans ((up2_ne (by omega)).trans ((rowU_ne (by omega)).trans ((rowU_ne (by omega)).trans ((rowU_ne (by omega)).trans ((rowU_ne (by omega)).trans ((rowU_ne (by omega)).trans ((rowU_ne (by omega)).trans ((rowU_ne (by omega)).trans ((rowU_ne (by omega)).trans (hV.nm))))))))))) ?_
  refine M_putI dX0_takeAll_141 lf_X0_43 rfl hb.1 ⟨rfl, rfl⟩ ?_
  refine V_aload_n (i := 0) dX0_takeAll_144 rfl 0 rfl ?_
  refine V_aload_n (i := 1) dX0_takeAll_145 rfl 1 rfl ?_
  refine M_getI (x := nI (v_su V)) dX0_takeAll_146 lf_X0_46 rfl hs.1 ((up2_ne (by omega)).trans ((up2_ne (by omega)).trans ((up2_ne (by omega)).trans ((rowU_ne (by omega)).trans ((rowU_ne (by omega)).trans ((rowU_ne (by omega)).trans ((rowU_ne (by omega)).trans ((rowU_ne (by omega)).trans ((rowU_ne (by omega)).trans ((rowU_ne (by omega)).trans ((rowU_ne (by omega)).trans (hV.su)))))))))))) ?_
  refine M_putI dX0_takeAll_149 lf_X0_46 rfl hb.1 ⟨rfl, rfl⟩ ?_
  refine V_aload_n (i := 0) dX0_takeAll_152 rfl 0 rfl ?_
  refine V_aload_n (i := 1) dX0_takeAll_153 rfl 1 rfl ?_
  refine M_getI (x := nI (v_lo V)) dX0_takeAll_154 lf_X0_49 rfl hs.1 ((up2_ne (by omega)).trans ((up2_ne (by omega)).trans ((up2_ne (by omega)).trans ((up2_ne (by omega)).trans ((rowU_ne (by omega)).trans ((rowU_ne (by omega)).trans ((rowU_ne (by omega)).trans ((rowU_ne (by omega)).trans ((rowU_ne (by omega)).trans ((rowU_ne (by omega)).trans ((rowU_ne (by omega)).trans ((rowU_ne (by omega)).trans (hV.lo))))))))))))) ?_
  refine M_putI dX0_takeAll_157 lf_X0_49 rfl hb.1 ⟨rfl, rfl⟩ ?_
  refine V_aload_n (i := 0) dX0_takeAll_160 rfl 0 rfl ?_
  refine V_aload_n (i := 1) dX0_takeAll_161 rfl 1 rfl ?_
  refine M_getI (x := v_se V) dX0_takeAll_162 lf_X0_52 rfl hs.1 ((up2_ne (by omega)).trans ((up2_ne (by omega)).trans ((up2_ne (by omega)).trans ((up2_ne (by omega)).trans ((up2_ne (by omega)).trans ((rowU_ne (by omega)).trans ((rowU_ne (by omega)).trans ((rowU_ne (by omega)).trans ((rowU_ne (by omega)).trans ((rowU_ne (by omega)).trans ((rowU_ne (by omega)).trans ((rowU_ne (by omega)).trans ((rowU_ne (by omega)).trans (hV.se)))))))))))))) ?_
  refine M_putI dX0_takeAll_165 lf_X0_52 rfl hb.1 ⟨rfl, rfl⟩ ?_
  refine V_vret dX0_takeAll_168 ⟨rfl, rfl⟩ (Nat.zero_le _) (Nat.zero_le _) ?_
  subst hQ
  refine ⟨_, _, rfl, rfl, rfl, xc_take hV hd (by rw [up2_k (by decide), up2_k (by decide), up2_k (by decide), up2_k (by decide), up2_k (by decide), up2_s]; exact hV.nc.symm) (by rw [up2_k (by decide), up2_k (by decide), up2_k (by decide), up2_k (by decide), up2_s]; exact hV.ne.symm) (by rw [up2_k (by decide), up2_k (by decide), up2_k (by decide), up2_s]; exact hV.nm.symm) (by rw [up2_k (by decide), up2_k (by decide), up2_s]; exact hV.su.symm) (by rw [up2_k (by decide), up2_s]; exact hV.lo.symm) (by rw [up2_s]; exact hV.se.symm) (fun a h1 h2 => by rw [up2_a (by omega), up2_a (by omega), up2_a (by omega), up2_a (by omega), up2_a (by omega), up2_a (by omega)]; rfl), ?_⟩
  exact ((((((Off.up (copyAll_off (s := s)) (by omega) (by omega)).up (by omega) (by omega)).up (by omega) (by omega)).up (by omega) (by omega)).up (by omega) (by omega)).up (by omega) (by omega))
