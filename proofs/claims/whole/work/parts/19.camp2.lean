theorem or_pk {a n c : Nat} (h : a < 8 ^ n) : a ||| c * 8 ^ n = a + c * 8 ^ n := by
  have e : 8 ^ n = 2 ^ (3 * n) := by rw [Nat.pow_mul]
  rw [e] at h ⊢
  have := Nat.two_pow_add_eq_or_of_lt h c
  rw [Nat.mul_comm c, Nat.or_comm, ← this, Nat.add_comm]
theorem z_pk {V : Cv} {c : Nat} (h : VOK V) (hc : c < v_nc V) : v_pk V c < 8 ^ v_sz V c := pkTo_bound _ (fun i hi => by have := h.nt hc hi; omega)
theorem z_pk8 {V : Cv} {c : Nat} (h : VOK V) (hc : c < v_nc V) : v_pk V c < 16777216 := Nat.lt_of_lt_of_le (z_pk h hc) (show 8 ^ v_sz V c ≤ 8 ^ 8 from Nat.pow_le_pow_right (by decide) (h.sz hc))
theorem nt_pk {V : Cv} {c i : Nat} (h : VOK V) (hc : c < v_nc V) (hi : i < v_sz V c) : v_pk V c / 8 ^ i % 8 = v_nt V c i + 1 := pkTo_get _ hi (fun i hi => by have := h.nt hc hi; omega)
theorem and7 (x : Nat) : x &&& 7 = x % 8 := Nat.and_two_pow_sub_one_eq_mod x 3
theorem p38 (i : Nat) : 2 ^ (3 * i) = 8 ^ i := by rw [Nat.pow_mul]
theorem mul_le {a b A B : Nat} (h : a ≤ A) (h2 : b ≤ B) : a * b ≤ A * B := Nat.mul_le_mul h h2
/-- a draw -/
def drw (s : Int32) : Nat := (s * 1103515245 + 12345).toUInt32.toNat / 65536
def nxt (s : Int32) : Int32 := s * 1103515245 + 12345
theorem drw_lt (s : Int32) : drw s < 65536 := by
  have := (s * 1103515245 + 12345).toUInt32.toNat_lt
  unfold drw
  omega
theorem u16 (x : Int32) : (x.toUInt32 >>> ((nI 16).toUInt32 &&& Int32.toUInt32 31)).toInt32 = nI (x.toUInt32.toNat / 65536) := by
  apply Int32.toBitVec_inj.1
  show x.toBitVec >>> (((nI 16).toUInt32 &&& Int32.toUInt32 31).toBitVec % 32).toNat = BitVec.ofNat 32 _
  rw [nI_u31 16 (by decide)]
  apply BitVec.eq_of_toNat_eq
  rw [BitVec.toNat_ushiftRight, BitVec.toNat_ofNat, Nat.shiftRight_eq_div_pow]
  have := x.toBitVec.isLt
  show x.toBitVec.toNat / 2 ^ 16 = (x.toBitVec.toNat / 65536) % 2 ^ 32
  rw [Nat.mod_eq_of_lt (by omega)]
def worth (V : Cv) (c : Nat) : Nat := v_us V c * v_co V c
def aheadB (V : Cv) (c o : Nat) : Bool := decide (worth V c < worth V o) || (decide (worth V o = worth V c) && decide (o < c))
def aheadN (V : Cv) (c : Nat) : Nat := cntTo (aheadB V c) (v_nc V)
theorem worth_le {V : Cv} (h : VOK V) {c : Nat} (hc : c < v_nc V) : worth V c ≤ 9801 := Nat.mul_le_mul (h.us hc) (h.co hc)
theorem cntTo_t {p : Nat → Bool} {n : Nat} (h : p n = true) : cntTo p (n + 1) = cntTo p n + 1 := by rw [cntTo_s, if_pos h]
theorem cntTo_f {p : Nat → Bool} {n : Nat} (h : p n = false) : cntTo p (n + 1) = cntTo p n := by rw [cntTo_s, if_neg (by rw [h]; decide)]; rfl
set_option maxRecDepth 20000 in
theorem t_X0_packedNote {g : Ev} {S : St} {iv : IV} {lw : LW} {t i : Nat} (hi : i < 8) : CP g mX0_packedNote [.int (nI t), .int (nI i)] S iv lw (.int (nI ((t + 1) * 8 ^ i))) := by
  refine CT_ofQ rfl (by decide) (Nat.le_of_ble_eq_true rfl) (lv := [(0, .int (nI t)), (1, .int (nI i))]) rfl (fun Q hQ => ?_)
  refine V_iload_n (i := 0) dX0_packedNote_0 rfl 0 rfl ?_
  refine V_iconst (v := nI 1) dX0_packedNote_1 rfl ?_
  refine V_iadd dX0_packedNote_2 ?_
  refine M_top (nI_add _ _) ?_
  refine V_iconst (v := nI 3) dX0_packedNote_3 rfl ?_
  refine V_iload_n (i := 1) dX0_packedNote_4 rfl 1 rfl ?_
  refine V_imul dX0_packedNote_5 ?_
  refine M_top (pk_mul _ _) ?_
  refine V_ishl dX0_packedNote_6 ?_
  refine M_top ((nI_shl (by omega) _).trans (by rw [p38])) ?_
  refine V_iret dX0_packedNote_7 ⟨rfl, rfl⟩ (Nat.zero_le _) (Nat.zero_le _) ?_
  subst hQ
  exact ⟨rfl, rfl⟩
set_option maxRecDepth 20000 in
theorem t_X0_noteAt {g : Ev} {S : St} {iv : IV} {lw : LW} {b : Nat} (hb : IsCamp S b) {V : Cv} (hV : XC iv b V) {c i : Nat} (hc : c < v_nc V) (hi : i < v_sz V c) : CP g mX0_noteAt [.ref (b), .int (nI c), .int (nI i)] S iv lw (.int (nI (v_nt V c i))) := by
  refine CT_ofQ rfl (by decide) (Nat.le_of_ble_eq_true rfl) (lv := [(0, .ref (b)), (1, .int (nI c)), (2, .int (nI i))]) rfl (fun Q hQ => ?_)
  have hnc := hV.ok.nc
  have hne := hV.ok.ne
  have hnm := hV.ok.nm
  have hsz := hV.ok.sz hc
  have hpk := z_pk8 hV.ok hc
  refine V_iload_n (i := 1) dX0_noteAt_0 rfl 1 rfl ?_
  refine V_if_lt (tgt := 32) dX0_noteAt_1 rfl (fun q => absurd q (nI_pos (by omega))) (fun _ => ?_)
  refine V_iload_n (i := 1) dX0_noteAt_4 rfl 1 rfl ?_
  refine V_aload_n (i := 0) dX0_noteAt_5 rfl 0 rfl ?_
  refine M_getI (x := nI (v_nc V)) dX0_noteAt_6 lf_X0_36 rfl hb.1 (hV.nc) ?_
  refine V_icmp_ge (tgt := 32) dX0_noteAt_9 rfl (fun h9 => ?_) (fun h9 => ?_)
  · have h9 : (v_nc V) ≤ c := (nI_leI (by omega) (by omega)).mp h9
    exact absurd h9 (by omega)
  · have h9 : ¬ (v_nc V) ≤ c := fun q => h9 ((nI_leI (by omega) (by omega)).mpr q)
    refine V_iload_n (i := 1) dX0_noteAt_12 rfl 1 rfl ?_
    refine V_bipush (v := nI 12) dX0_noteAt_13 rfl ?_
    refine V_icmp_ge (tgt := 32) dX0_noteAt_15 rfl (fun h15 => ?_) (fun h15 => ?_)
    · have h15 : 12 ≤ c := (nI_leI (by omega) (by omega)).mp h15
      exact absurd h15 (by omega)
    · have h15 : ¬ 12 ≤ c := fun q => h15 ((nI_leI (by omega) (by omega)).mpr q)
      refine V_iload_n (i := 2) dX0_noteAt_18 rfl 2 rfl ?_
      refine V_if_lt (tgt := 32) dX0_noteAt_19 rfl (fun q => absurd q (nI_pos (by omega))) (fun _ => ?_)
      refine V_iload_n (i := 2) dX0_noteAt_22 rfl 2 rfl ?_
      refine V_aload_n (i := 0) dX0_noteAt_23 rfl 0 rfl ?_
      refine M_getR dX0_noteAt_24 lf_X0_11 rfl hb.1 hb.2.1.1 ?_
      refine V_iload_n (i := 1) dX0_noteAt_27 rfl 1 rfl ?_
      refine M_ialdn (j := c) (x := nI (v_sz V c)) dX0_noteAt_28 hb.2.1.2 (by decide) (by omega) (hV.sz (c := c) (by omega)) ?_
      refine V_icmp_lt (tgt := 35) dX0_noteAt_29 rfl (fun h29 => ?_) (fun h29 => ?_)
      · have h29 : i < (v_sz V c) := (nI_ltI (by omega) (by omega)).mp h29
        refine V_aload_n (i := 0) dX0_noteAt_35 rfl 0 rfl ?_
        refine M_getR dX0_noteAt_36 lf_X0_15 rfl hb.1 hb.2.2.1.1 ?_
        refine V_iload_n (i := 1) dX0_noteAt_39 rfl 1 rfl ?_
        refine M_ialdn (j := c) (x := nI (v_pk V c)) dX0_noteAt_40 hb.2.2.1.2 (by decide) (by omega) (hV.pk (c := c) (by omega)) ?_
        refine V_iconst (v := nI 3) dX0_noteAt_41 rfl ?_
        refine V_iload_n (i := 2) dX0_noteAt_42 rfl 2 rfl ?_
        refine V_imul dX0_noteAt_43 ?_
        refine M_top (pk_mul _ _) ?_
        refine V_ishr dX0_noteAt_44 ?_
        refine M_top ((nI_shr (by omega) (by omega)).trans (by rw [p38])) ?_
        refine V_bipush (v := nI 7) dX0_noteAt_45 rfl ?_
        refine V_iand dX0_noteAt_47 ?_
        refine M_top ((nI_and _ _).trans (by rw [and7, nt_pk hV.ok hc hi])) ?_
        refine V_iconst (v := nI 1) dX0_noteAt_48 rfl ?_
        refine V_isub dX0_noteAt_49 ?_
        refine M_top ((nI_sub (by omega)).trans rfl) ?_
        refine V_iret dX0_noteAt_50 ⟨rfl, rfl⟩ (Nat.zero_le _) (Nat.zero_le _) ?_
        subst hQ
        exact ⟨rfl, rfl⟩
      · have h29 : ¬ i < (v_sz V c) := fun q => h29 ((nI_ltI (by omega) (by omega)).mpr q)
        exact absurd h29 (by omega)
set_option maxRecDepth 20000 in
theorem t_X0_isNoteOf {g : Ev} {S : St} {iv : IV} {lw : LW} {b : Nat} (hb : IsCamp S b) {V : Cv} (hV : XC iv b V) {c : Nat} {i : Int32} (hc : c < v_nc V) : CP g mX0_isNoteOf [.ref (b), .int (nI c), .int (i)] S iv lw (.int (bI (inR i (v_sz V c)))) := by
  refine CT_ofQ rfl (by decide) (Nat.le_of_ble_eq_true rfl) (lv := [(0, .ref (b)), (1, .int (nI c)), (2, .int (i))]) rfl (fun Q hQ => ?_)
  have hnc := hV.ok.nc
  have hne := hV.ok.ne
  have hnm := hV.ok.nm
  have hsz := hV.ok.sz hc
  refine V_iload_n (i := 2) dX0_isNoteOf_0 rfl 2 rfl ?_
  refine V_if_lt (tgt := 17) dX0_isNoteOf_1 rfl (fun h1 => ?_) (fun h1 => ?_)
  · have h1 : i.toInt < 0 := by have q := i_neg.mp h1; exact q
    refine V_iconst (v := nI 0) dX0_isNoteOf_17 rfl ?_
    refine V_zret dX0_isNoteOf_18 ⟨rfl, rfl⟩ (by rfl) (Nat.zero_le _) (Nat.zero_le _) ?_
    subst hQ
    exact ⟨by rw [bI_f (by unfold inR; omega)], rfl⟩
  · have h1 : ¬ i.toInt < 0 := fun r => h1 (i_neg.mpr (by exact r))
    refine V_iload_n (i := 2) dX0_isNoteOf_4 rfl 2 rfl ?_
    refine V_aload_n (i := 0) dX0_isNoteOf_5 rfl 0 rfl ?_
    refine V_iload_n (i := 1) dX0_isNoteOf_6 rfl 1 rfl ?_
    refine M_callVp (As := [.int (nI c)]) (st := [.int (i)]) dX0_isNoteOf_7 lv_X0_67 ⟨by decide, by decide⟩ ⟨rfl, rfl⟩ rfl (ci := 0) hb.1 rfl rfl (Nat.le_of_ble_eq_true rfl) (t_X0_sizeOf hb hV hc) ?_
    refine V_icmp_ge (tgt := 17) dX0_isNoteOf_10 rfl (fun h10 => ?_) (fun h10 => ?_)
    · have h10 : ((v_sz V c) : Int) ≤ i.toInt := by have q := Int32.le_iff_toInt_le.mp h10; rw [nI_toInt (n := (v_sz V c)) (by omega)] at q; exact q
      refine V_iconst (v := nI 0) dX0_isNoteOf_17 rfl ?_
      refine V_zret dX0_isNoteOf_18 ⟨rfl, rfl⟩ (by rfl) (Nat.zero_le _) (Nat.zero_le _) ?_
      subst hQ
      exact ⟨by rw [bI_f (by unfold inR; omega)], rfl⟩
    · have h10 : ¬ ((v_sz V c) : Int) ≤ i.toInt := fun r => h10 (Int32.le_iff_toInt_le.mpr (by rw [nI_toInt (n := (v_sz V c)) (by omega)]; exact r))
      refine V_iconst (v := nI 1) dX0_isNoteOf_13 rfl ?_
      refine V_goto (tgt := 18) dX0_isNoteOf_14 rfl ?_
      refine V_zret dX0_isNoteOf_18 ⟨rfl, rfl⟩ (by rfl) (Nat.zero_le _) (Nat.zero_le _) ?_
      subst hQ
      exact ⟨by rw [bI_t (by unfold inR; omega)], rfl⟩
set_option maxRecDepth 20000 in
theorem t_X0_countNotes {g : Ev} {S : St} {iv : IV} {lw : LW} {b : Nat} (hb : IsCamp S b) {V : Cv} (hV : XC iv b V) : CP g mX0_countNotes [.ref (b)] S iv lw (.int (nI (sumTo (v_sz V) (v_nc V)))) := by
  refine CT_ofQ rfl (by decide) (Nat.le_of_ble_eq_true rfl) (lv := [(0, .ref (b))]) rfl (fun Q hQ => ?_)
  have hnc := hV.ok.nc
  have hne := hV.ok.ne
  have hnm := hV.ok.nm
  refine V_iconst (v := nI 0) dX0_countNotes_0 rfl ?_
  refine V_istore_n (lv2 := [(1, .int (nI 0)), (0, .ref (b))]) dX0_countNotes_1 rfl (by decide) rfl ?_
  refine V_iconst (v := nI 0) dX0_countNotes_2 rfl ?_
  refine V_istore_n (lv2 := [(2, .int (nI 0)), (1, .int (nI 0)), (0, .ref (b))]) dX0_countNotes_3 rfl (by decide) rfl ?_
  have lp4 : ∀ j, j ≤ (v_nc V) → VM g mX0_countNotes 4 [(1, .int (nI (sumTo (v_sz V) j))), (2, .int (nI j)), (0, .ref (b))] [] S iv lw Q := by
    refine up_ind fun j hj ih4 => ?_
    refine V_iload_n (i := 2) dX0_countNotes_4 rfl 1 rfl ?_
    refine V_aload_n (i := 0) dX0_countNotes_5 rfl 2 rfl ?_
    refine M_getI (x := nI (v_nc V)) dX0_countNotes_6 lf_X0_36 rfl hb.1 (hV.nc) ?_
    refine V_icmp_ge (tgt := 26) dX0_countNotes_9 rfl (fun h9 => ?_) (fun h9 => ?_)
    · have h9 : (v_nc V) ≤ j := (nI_leI (by omega) (by omega)).mp h9
      refine V_iload_n (i := 1) dX0_countNotes_26 rfl 0 rfl ?_
      refine V_iret dX0_countNotes_27 ⟨rfl, rfl⟩ (Nat.zero_le _) (Nat.zero_le _) ?_
      subst hQ
      exact ⟨by rw [show j = v_nc V by omega], rfl⟩
    · have h9 : ¬ (v_nc V) ≤ j := fun q => h9 ((nI_leI (by omega) (by omega)).mpr q)
      refine V_iload_n (i := 1) dX0_countNotes_12 rfl 0 rfl ?_
      refine V_aload_n (i := 0) dX0_countNotes_13 rfl 2 rfl ?_
      refine V_iload_n (i := 2) dX0_countNotes_14 rfl 1 rfl ?_
      refine M_callVp (As := [.int (nI j)]) (st := [.int (nI (sumTo (v_sz V) j))]) dX0_countNotes_15 lv_X0_67 ⟨by decide, by decide⟩ ⟨rfl, rfl⟩ rfl (ci := 0) hb.1 rfl rfl (Nat.le_of_ble_eq_true rfl) (t_X0_sizeOf hb hV (c := j) (by omega)) ?_
      refine V_iadd dX0_countNotes_18 ?_
      refine M_top (nI_add _ _) ?_
      refine V_istore_n (lv2 := [(1, .int (nI ((sumTo (v_sz V) j) + (v_sz V j)))), (2, .int (nI j)), (0, .ref (b))]) dX0_countNotes_19 rfl (by decide) rfl ?_
      refine V_iinc (v := nI (j + 1)) (lv2 := [(2, .int (nI (j + 1))), (1, .int (nI ((sumTo (v_sz V) j) + (v_sz V j)))), (0, .ref (b))]) dX0_countNotes_20 1 rfl (nI_inc _) (by decide) rfl ?_
      refine V_goto (tgt := 4) dX0_countNotes_23 rfl ?_
      refine V_sub [1, 0, 2] rfl ?_
      exact M_at (ih4 (by omega)) (rfl) rfl (rfl) (rfl)
  refine V_sub [1, 0, 2] rfl ?_
  exact M_at (lp4 0 (Nat.zero_le _)) (rfl) rfl (rfl) (rfl)
set_option maxRecDepth 20000 in
theorem t_X0_sumUses {g : Ev} {S : St} {iv : IV} {lw : LW} {b : Nat} (hb : IsCamp S b) {V : Cv} (hV : XC iv b V) : CP g mX0_sumUses [.ref (b)] S iv lw (.int (nI (sumTo (v_us V) (v_nc V)))) := by
  refine CT_ofQ rfl (by decide) (Nat.le_of_ble_eq_true rfl) (lv := [(0, .ref (b))]) rfl (fun Q hQ => ?_)
  have hnc := hV.ok.nc
  have hne := hV.ok.ne
  have hnm := hV.ok.nm
  refine V_iconst (v := nI 0) dX0_sumUses_0 rfl ?_
  refine V_istore_n (lv2 := [(1, .int (nI 0)), (0, .ref (b))]) dX0_sumUses_1 rfl (by decide) rfl ?_
  refine V_iconst (v := nI 0) dX0_sumUses_2 rfl ?_
  refine V_istore_n (lv2 := [(2, .int (nI 0)), (1, .int (nI 0)), (0, .ref (b))]) dX0_sumUses_3 rfl (by decide) rfl ?_
  have lp4 : ∀ j, j ≤ (v_nc V) → VM g mX0_sumUses 4 [(1, .int (nI (sumTo (v_us V) j))), (2, .int (nI j)), (0, .ref (b))] [] S iv lw Q := by
    refine up_ind fun j hj ih4 => ?_
    refine V_iload_n (i := 2) dX0_sumUses_4 rfl 1 rfl ?_
    refine V_aload_n (i := 0) dX0_sumUses_5 rfl 2 rfl ?_
    refine M_getI (x := nI (v_nc V)) dX0_sumUses_6 lf_X0_36 rfl hb.1 (hV.nc) ?_
    refine V_icmp_ge (tgt := 26) dX0_sumUses_9 rfl (fun h9 => ?_) (fun h9 => ?_)
    · have h9 : (v_nc V) ≤ j := (nI_leI (by omega) (by omega)).mp h9
      refine V_iload_n (i := 1) dX0_sumUses_26 rfl 0 rfl ?_
      refine V_iret dX0_sumUses_27 ⟨rfl, rfl⟩ (Nat.zero_le _) (Nat.zero_le _) ?_
      subst hQ
      exact ⟨by rw [show j = v_nc V by omega], rfl⟩
    · have h9 : ¬ (v_nc V) ≤ j := fun q => h9 ((nI_leI (by omega) (by omega)).mpr q)
      refine V_iload_n (i := 1) dX0_sumUses_12 rfl 0 rfl ?_
      refine V_aload_n (i := 0) dX0_sumUses_13 rfl 2 rfl ?_
      refine V_iload_n (i := 2) dX0_sumUses_14 rfl 1 rfl ?_
      refine M_callVp (As := [.int (nI j)]) (st := [.int (nI (sumTo (v_us V) j))]) dX0_sumUses_15 lv_X0_75 ⟨by decide, by decide⟩ ⟨rfl, rfl⟩ rfl (ci := 0) hb.1 rfl rfl (Nat.le_of_ble_eq_true rfl) (t_X0_useOf hb hV (c := j) (by omega)) ?_
      refine V_iadd dX0_sumUses_18 ?_
      refine M_top (nI_add _ _) ?_
      refine V_istore_n (lv2 := [(1, .int (nI ((sumTo (v_us V) j) + (v_us V j)))), (2, .int (nI j)), (0, .ref (b))]) dX0_sumUses_19 rfl (by decide) rfl ?_
      refine V_iinc (v := nI (j + 1)) (lv2 := [(2, .int (nI (j + 1))), (1, .int (nI ((sumTo (v_us V) j) + (v_us V j)))), (0, .ref (b))]) dX0_sumUses_20 1 rfl (nI_inc _) (by decide) rfl ?_
      refine V_goto (tgt := 4) dX0_sumUses_23 rfl ?_
      refine V_sub [1, 0, 2] rfl ?_
      exact M_at (ih4 (by omega)) (rfl) rfl (rfl) (rfl)
  refine V_sub [1, 0, 2] rfl ?_
  exact M_at (lp4 0 (Nat.zero_le _)) (rfl) rfl (rfl) (rfl)
set_option maxRecDepth 20000 in
theorem t_X0_countLookers {g : Ev} {S : St} {iv : IV} {lw : LW} {b : Nat} (hb : IsCamp S b) {V : Cv} (hV : XC iv b V) : CP g mX0_countLookers [.ref (b)] S iv lw (.int (nI (sumTo (v_lk V) (v_nm V)))) := by
  refine CT_ofQ rfl (by decide) (Nat.le_of_ble_eq_true rfl) (lv := [(0, .ref (b))]) rfl (fun Q hQ => ?_)
  have hnc := hV.ok.nc
  have hne := hV.ok.ne
  have hnm := hV.ok.nm
  refine V_iconst (v := nI 0) dX0_countLookers_0 rfl ?_
  refine V_istore_n (lv2 := [(1, .int (nI 0)), (0, .ref (b))]) dX0_countLookers_1 rfl (by decide) rfl ?_
  refine V_iconst (v := nI 0) dX0_countLookers_2 rfl ?_
  refine V_istore_n (lv2 := [(2, .int (nI 0)), (1, .int (nI 0)), (0, .ref (b))]) dX0_countLookers_3 rfl (by decide) rfl ?_
  have lp4 : ∀ j, j ≤ (v_nm V) → VM g mX0_countLookers 4 [(1, .int (nI (sumTo (v_lk V) j))), (2, .int (nI j)), (0, .ref (b))] [] S iv lw Q := by
    refine up_ind fun j hj ih4 => ?_
    refine V_iload_n (i := 2) dX0_countLookers_4 rfl 1 rfl ?_
    refine V_aload_n (i := 0) dX0_countLookers_5 rfl 2 rfl ?_
    refine M_getI (x := nI (v_nm V)) dX0_countLookers_6 lf_X0_43 rfl hb.1 (hV.nm) ?_
    refine V_icmp_ge (tgt := 26) dX0_countLookers_9 rfl (fun h9 => ?_) (fun h9 => ?_)
    · have h9 : (v_nm V) ≤ j := (nI_leI (by omega) (by omega)).mp h9
      refine V_iload_n (i := 1) dX0_countLookers_26 rfl 0 rfl ?_
      refine V_iret dX0_countLookers_27 ⟨rfl, rfl⟩ (Nat.zero_le _) (Nat.zero_le _) ?_
      subst hQ
      exact ⟨by rw [show j = v_nm V by omega], rfl⟩
    · have h9 : ¬ (v_nm V) ≤ j := fun q => h9 ((nI_leI (by omega) (by omega)).mpr q)
      refine V_iload_n (i := 1) dX0_countLookers_12 rfl 0 rfl ?_
      refine V_aload_n (i := 0) dX0_countLookers_13 rfl 2 rfl ?_
      refine V_iload_n (i := 2) dX0_countLookers_14 rfl 1 rfl ?_
      refine M_callVp (As := [.int (nI j)]) (st := [.int (nI (sumTo (v_lk V) j))]) dX0_countLookers_15 lv_X0_84 ⟨by decide, by decide⟩ ⟨rfl, rfl⟩ rfl (ci := 0) hb.1 rfl rfl (Nat.le_of_ble_eq_true rfl) (t_X0_lookOf hb hV (m := j) (by omega)) ?_
      refine V_iadd dX0_countLookers_18 ?_
      refine M_top (nI_add _ _) ?_
      refine V_istore_n (lv2 := [(1, .int (nI ((sumTo (v_lk V) j) + (v_lk V j)))), (2, .int (nI j)), (0, .ref (b))]) dX0_countLookers_19 rfl (by decide) rfl ?_
      refine V_iinc (v := nI (j + 1)) (lv2 := [(2, .int (nI (j + 1))), (1, .int (nI ((sumTo (v_lk V) j) + (v_lk V j)))), (0, .ref (b))]) dX0_countLookers_20 1 rfl (nI_inc _) (by decide) rfl ?_
      refine V_goto (tgt := 4) dX0_countLookers_23 rfl ?_
      refine V_sub [1, 0, 2] rfl ?_
      exact M_at (ih4 (by omega)) (rfl) rfl (rfl) (rfl)
  refine V_sub [1, 0, 2] rfl ?_
  exact M_at (lp4 0 (Nat.zero_le _)) (rfl) rfl (rfl) (rfl)
set_option maxRecDepth 20000 in
theorem t_X0_countNote {g : Ev} {S : St} {iv : IV} {lw : LW} {b : Nat} (hb : IsCamp S b) {V : Cv} (hV : XC iv b V) {t : Nat} (ht : t ≤ 4) : CP g mX0_countNote [.ref (b), .int (nI t)] S iv lw (.int (nI (sumTo (fun c => cntTo (fun i => decide (v_nt V c i = t)) (v_sz V c)) (v_nc V)))) := by
  refine CT_ofQ rfl (by decide) (Nat.le_of_ble_eq_true rfl) (lv := [(0, .ref (b)), (1, .int (nI t))]) rfl (fun Q hQ => ?_)
  have hnc := hV.ok.nc
  have hne := hV.ok.ne
  have hnm := hV.ok.nm
  refine V_iconst (v := nI 0) dX0_countNote_0 rfl ?_
  refine V_istore_n (lv2 := [(2, .int (nI 0)), (0, .ref (b)), (1, .int (nI t))]) dX0_countNote_1 rfl (by decide) rfl ?_
  refine V_iconst (v := nI 0) dX0_countNote_2 rfl ?_
  refine V_istore_n (lv2 := [(3, .int (nI 0)), (2, .int (nI 0)), (0, .ref (b)), (1, .int (nI t))]) dX0_countNote_3 rfl (by decide) rfl ?_
  have lp4 : ∀ j, j ≤ (v_nc V) → VM g mX0_countNote 4 [(2, .int (nI (sumTo (fun c => cntTo (fun i => decide (v_nt V c i = t)) (v_sz V c)) j))), (3, .int (nI j)), (0, .ref (b)), (1, .int (nI t))] [] S iv lw Q := by
    refine up_ind fun j hj ih4 => ?_
    refine V_iload_n (i := 3) dX0_countNote_4 rfl 1 rfl ?_
    refine V_aload_n (i := 0) dX0_countNote_5 rfl 2 rfl ?_
    refine M_getI (x := nI (v_nc V)) dX0_countNote_6 lf_X0_36 rfl hb.1 (hV.nc) ?_
    refine V_icmp_ge (tgt := 51) dX0_countNote_9 rfl (fun h9 => ?_) (fun h9 => ?_)
    · have h9 : (v_nc V) ≤ j := (nI_leI (by omega) (by omega)).mp h9
      refine V_iload_n (i := 2) dX0_countNote_51 rfl 0 rfl ?_
      refine V_iret dX0_countNote_52 ⟨rfl, rfl⟩ (Nat.zero_le _) (Nat.zero_le _) ?_
      subst hQ
      exact ⟨by rw [show j = v_nc V by omega], rfl⟩
    · have h9 : ¬ (v_nc V) ≤ j := fun q => h9 ((nI_leI (by omega) (by omega)).mpr q)
      have hsz := hV.ok.sz (c := j) (by omega)
      refine V_iconst (v := nI 0) dX0_countNote_12 rfl ?_
      refine V_istore (lv2 := [(4, .int (nI 0)), (2, .int (nI (sumTo (fun c => cntTo (fun i => decide (v_nt V c i = t)) (v_sz V c)) j))), (3, .int (nI j)), (0, .ref (b)), (1, .int (nI t))]) dX0_countNote_13 (by decide) rfl ?_
      have lp15 : ∀ i, i ≤ (v_sz V j) → VM g mX0_countNote 15 [(2, .int (nI (sumTo (fun c => cntTo (fun i => decide (v_nt V c i = t)) (v_sz V c)) j + cntTo (fun i => decide (v_nt V j i = t)) i))), (4, .int (nI i)), (3, .int (nI j)), (0, .ref (b)), (1, .int (nI t))] [] S iv lw Q := by
        refine up_ind fun i hi ih15 => ?_
        refine V_iload dX0_countNote_15 1 rfl ?_
        refine V_aload_n (i := 0) dX0_countNote_17 rfl 3 rfl ?_
        refine V_iload_n (i := 3) dX0_countNote_18 rfl 2 rfl ?_
        refine M_callVp (As := [.int (nI j)]) (st := [.int (nI i)]) dX0_countNote_19 lv_X0_67 ⟨by decide, by decide⟩ ⟨rfl, rfl⟩ rfl (ci := 0) hb.1 rfl rfl (Nat.le_of_ble_eq_true rfl) (t_X0_sizeOf hb hV (c := j) (by omega)) ?_
        refine V_icmp_ge (tgt := 45) dX0_countNote_22 rfl (fun h22 => ?_) (fun h22 => ?_)
        · have h22 : (v_sz V j) ≤ i := (nI_leI (by omega) (by omega)).mp h22
          have hi2 : i = v_sz V j := by omega
          refine M_at (lv2 := [(2, .int (nI (sumTo (fun c => cntTo (fun i => decide (v_nt V c i = t)) (v_sz V c)) (j + 1)))), (4, .int (nI i)), (3, .int (nI j)), (0, .ref (b)), (1, .int (nI t))]) (st2 := []) ?_ (by rw [hi2]; rfl) rfl rfl rfl
          refine V_iinc (v := nI (j + 1)) (lv2 := [(3, .int (nI (j + 1))), (2, .int (nI (sumTo (fun c => cntTo (fun i => decide (v_nt V c i = t)) (v_sz V c)) (j + 1)))), (4, .int (nI i)), (0, .ref (b)), (1, .int (nI t))]) dX0_countNote_45 2 rfl (nI_inc _) (by decide) rfl ?_
          refine V_goto (tgt := 4) dX0_countNote_48 rfl ?_
          refine V_sub [1, 0, 3, 4] rfl ?_
          exact M_at (ih4 (by omega)) (rfl) rfl (rfl) (rfl)
        · have h22 : ¬ (v_sz V j) ≤ i := fun q => h22 ((nI_leI (by omega) (by omega)).mpr q)
          refine V_aload_n (i := 0) dX0_countNote_25 rfl 3 rfl ?_
          refine V_iload_n (i := 3) dX0_countNote_26 rfl 2 rfl ?_
          refine V_iload dX0_countNote_27 1 rfl ?_
          refine M_callVp (As := [.int (nI j), .int (nI i)]) (st := []) dX0_countNote_29 lv_X0_81 ⟨by decide, by decide⟩ ⟨rfl, rfl⟩ rfl (ci := 0) hb.1 rfl rfl (Nat.le_of_ble_eq_true rfl) (t_X0_noteAt hb hV (c := j) (i := i) (by omega) (by omega)) ?_
          refine V_iload_n (i := 1) dX0_countNote_32 rfl 4 rfl ?_
          have hnt := hV.ok.nt (c := j) (i := i) (by omega) (by omega)
          refine V_icmp_ne (tgt := 39) dX0_countNote_33 rfl (fun h33 => ?_) (fun h33 => ?_)
          · have h33 : ¬ (v_nt V j i) = t := fun q => h33 ((nI_eq (by omega) (by omega)).mpr q)
            refine V_iinc (v := nI (i + 1)) (lv2 := [(4, .int (nI (i + 1))), (2, .int (nI (sumTo (fun c => cntTo (fun i => decide (v_nt V c i = t)) (v_sz V c)) j + cntTo (fun i => decide (v_nt V j i = t)) i))), (3, .int (nI j)), (0, .ref (b)), (1, .int (nI t))]) dX0_countNote_39 1 rfl (nI_inc _) (by decide) rfl ?_
            refine V_goto (tgt := 15) dX0_countNote_42 rfl ?_
            refine V_sub [1, 0, 2, 3, 4] rfl ?_
            exact M_at (ih15 (by omega)) (by rw [cntTo_f (by simpa using h33)]; rfl) rfl (rfl) (rfl)
          · have h33 : (v_nt V j i) = t := (nI_eq (by omega) (by omega)).mp h33
            refine V_iinc (v := nI (sumTo (fun c => cntTo (fun i => decide (v_nt V c i = t)) (v_sz V c)) j + cntTo (fun i => decide (v_nt V j i = t)) i + 1)) (lv2 := [(2, .int (nI (sumTo (fun c => cntTo (fun i => decide (v_nt V c i = t)) (v_sz V c)) j + cntTo (fun i => decide (v_nt V j i = t)) i + 1))), (4, .int (nI i)), (3, .int (nI j)), (0, .ref (b)), (1, .int (nI t))]) dX0_countNote_36 0 rfl (nI_inc _) (by decide) rfl ?_
            refine V_iinc (v := nI (i + 1)) (lv2 := [(4, .int (nI (i + 1))), (2, .int (nI (sumTo (fun c => cntTo (fun i => decide (v_nt V c i = t)) (v_sz V c)) j + cntTo (fun i => decide (v_nt V j i = t)) i + 1))), (3, .int (nI j)), (0, .ref (b)), (1, .int (nI t))]) dX0_countNote_39 1 rfl (nI_inc _) (by decide) rfl ?_
            refine V_goto (tgt := 15) dX0_countNote_42 rfl ?_
            refine V_sub [1, 0, 2, 3, 4] rfl ?_
            exact M_at (ih15 (by omega)) (by rw [cntTo_t (by simpa using h33)]; rfl) rfl (rfl) (rfl)
      refine V_sub [1, 0, 2, 3, 4] rfl ?_
      exact M_at (lp15 0 (Nat.zero_le _)) (rfl) rfl (rfl) (rfl)
  refine V_sub [1, 0, 2, 3] rfl ?_
  exact M_at (lp4 0 (Nat.zero_le _)) (rfl) rfl (rfl) (rfl)
set_option maxRecDepth 20000 in
theorem t_X0_countLearnedAhead {g : Ev} {S : St} {iv : IV} {lw : LW} {b : Nat} (hb : IsCamp S b) {V : Cv} (hV : XC iv b V) {c : Nat} (hc : c < v_nc V) : CP g mX0_countLearnedAhead [.ref (b), .int (nI c)] S iv lw (.int (nI (aheadN V c))) := by
  refine CT_ofQ rfl (by decide) (Nat.le_of_ble_eq_true rfl) (lv := [(0, .ref (b)), (1, .int (nI c))]) rfl (fun Q hQ => ?_)
  have hnc := hV.ok.nc
  have hne := hV.ok.ne
  have hnm := hV.ok.nm
  have hw0 := worth_le hV.ok hc
  refine V_aload_n (i := 0) dX0_countLearnedAhead_0 rfl 0 rfl ?_
  refine V_iload_n (i := 1) dX0_countLearnedAhead_1 rfl 1 rfl ?_
  refine M_callVp (As := [.int (nI c)]) (st := []) dX0_countLearnedAhead_2 lv_X0_75 ⟨by decide, by decide⟩ ⟨rfl, rfl⟩ rfl (ci := 0) hb.1 rfl rfl (Nat.le_of_ble_eq_true rfl) (t_X0_useOf hb hV hc) ?_
  refine V_aload_n (i := 0) dX0_countLearnedAhead_5 rfl 0 rfl ?_
  refine V_iload_n (i := 1) dX0_countLearnedAhead_6 rfl 1 rfl ?_
  refine M_callVp (As := [.int (nI c)]) (st := [.int (nI (v_us V c))]) dX0_countLearnedAhead_7 lv_X0_78 ⟨by decide, by decide⟩ ⟨rfl, rfl⟩ rfl (ci := 0) hb.1 rfl rfl (Nat.le_of_ble_eq_true rfl) (t_X0_costOf hb hV hc) ?_
  refine V_imul dX0_countLearnedAhead_10 ?_
  refine M_top (pk_mul _ _) ?_
  refine V_istore_n (lv2 := [(2, .int (nI ((v_us V c) * (v_co V c)))), (0, .ref (b)), (1, .int (nI c))]) dX0_countLearnedAhead_11 rfl (by decide) rfl ?_
  refine V_iconst (v := nI 0) dX0_countLearnedAhead_12 rfl ?_
  refine V_istore_n (lv2 := [(3, .int (nI 0)), (2, .int (nI ((v_us V c) * (v_co V c)))), (0, .ref (b)), (1, .int (nI c))]) dX0_countLearnedAhead_13 rfl (by decide) rfl ?_
  refine V_iconst (v := nI 0) dX0_countLearnedAhead_14 rfl ?_
  refine V_istore (lv2 := [(4, .int (nI 0)), (3, .int (nI 0)), (2, .int (nI ((v_us V c) * (v_co V c)))), (0, .ref (b)), (1, .int (nI c))]) dX0_countLearnedAhead_15 (by decide) rfl ?_
  have lp17 : ∀ j, j ≤ (v_nc V) → VM g mX0_countLearnedAhead 17 [(3, .int (nI (cntTo (aheadB V c) j))), (4, .int (nI j)), (2, .int (nI (worth V c))), (0, .ref (b)), (1, .int (nI c))] [] S iv lw Q := by
    refine up_ind fun j hj ih17 => ?_
    refine V_iload dX0_countLearnedAhead_17 1 rfl ?_
    refine V_aload_n (i := 0) dX0_countLearnedAhead_19 rfl 3 rfl ?_
    refine M_getI (x := nI (v_nc V)) dX0_countLearnedAhead_20 lf_X0_36 rfl hb.1 (hV.nc) ?_
    refine V_icmp_ge (tgt := 68) dX0_countLearnedAhead_23 rfl (fun h23 => ?_) (fun h23 => ?_)
    · have h23 : (v_nc V) ≤ j := (nI_leI (by omega) (by omega)).mp h23
      refine V_iload_n (i := 3) dX0_countLearnedAhead_68 rfl 0 rfl ?_
      refine V_iret dX0_countLearnedAhead_69 ⟨rfl, rfl⟩ (Nat.zero_le _) (Nat.zero_le _) ?_
      subst hQ
      exact ⟨by rw [show j = v_nc V by omega]; rfl, rfl⟩
    · have h23 : ¬ (v_nc V) ≤ j := fun q => h23 ((nI_leI (by omega) (by omega)).mpr q)
      have hw1 := worth_le hV.ok (c := j) (by omega)
      refine V_aload_n (i := 0) dX0_countLearnedAhead_26 rfl 3 rfl ?_
      refine V_iload dX0_countLearnedAhead_27 1 rfl ?_
      refine M_callVp (As := [.int (nI j)]) (st := []) dX0_countLearnedAhead_29 lv_X0_75 ⟨by decide, by decide⟩ ⟨rfl, rfl⟩ rfl (ci := 0) hb.1 rfl rfl (Nat.le_of_ble_eq_true rfl) (t_X0_useOf hb hV (c := j) (by omega)) ?_
      refine V_aload_n (i := 0) dX0_countLearnedAhead_32 rfl 3 rfl ?_
      refine V_iload dX0_countLearnedAhead_33 1 rfl ?_
      refine M_callVp (As := [.int (nI j)]) (st := [.int (nI (v_us V j))]) dX0_countLearnedAhead_35 lv_X0_78 ⟨by decide, by decide⟩ ⟨rfl, rfl⟩ rfl (ci := 0) hb.1 rfl rfl (Nat.le_of_ble_eq_true rfl) (t_X0_costOf hb hV (c := j) (by omega)) ?_
      refine V_imul dX0_countLearnedAhead_38 ?_
      refine M_top (pk_mul _ _) ?_
      refine V_istore (lv2 := [(5, .int (nI (worth V j))), (3, .int (nI (cntTo (aheadB V c) j))), (4, .int (nI j)), (2, .int (nI (worth V c))), (0, .ref (b)), (1, .int (nI c))]) dX0_countLearnedAhead_39 (by decide) rfl ?_
      refine V_iload dX0_countLearnedAhead_41 0 rfl ?_
      refine V_iload_n (i := 2) dX0_countLearnedAhead_43 rfl 3 rfl ?_
      refine V_icmp_gt (tgt := 59) dX0_countLearnedAhead_44 rfl (fun h44 => ?_) (fun h44 => ?_)
      · have h44 : (worth V c) < (worth V j) := (nI_ltI (by omega) (by omega)).mp h44
        refine V_iinc (v := nI ((cntTo (aheadB V c) j) + 1)) (lv2 := [(3, .int (nI ((cntTo (aheadB V c) j) + 1))), (5, .int (nI (worth V j))), (4, .int (nI j)), (2, .int (nI (worth V c))), (0, .ref (b)), (1, .int (nI c))]) dX0_countLearnedAhead_59 1 rfl (nI_inc _) (by decide) rfl ?_
        refine V_iinc (v := nI (j + 1)) (lv2 := [(4, .int (nI (j + 1))), (3, .int (nI ((cntTo (aheadB V c) j) + 1))), (5, .int (nI (worth V j))), (2, .int (nI (worth V c))), (0, .ref (b)), (1, .int (nI c))]) dX0_countLearnedAhead_62 2 rfl (nI_inc _) (by decide) rfl ?_
        refine V_goto (tgt := 17) dX0_countLearnedAhead_65 rfl ?_
        refine V_sub [1, 0, 3, 4, 5] rfl ?_
        exact M_at (ih17 (by omega)) (by rw [cntTo_t (by unfold aheadB; simp; exact Or.inl h44)]; rfl) rfl (rfl) (rfl)
      · have h44 : ¬ (worth V c) < (worth V j) := fun q => h44 ((nI_ltI (by omega) (by omega)).mpr q)
        refine V_iload dX0_countLearnedAhead_47 0 rfl ?_
        refine V_iload_n (i := 2) dX0_countLearnedAhead_49 rfl 3 rfl ?_
        refine V_icmp_ne (tgt := 62) dX0_countLearnedAhead_50 rfl (fun h50 => ?_) (fun h50 => ?_)
        · have h50 : ¬ (worth V j) = (worth V c) := fun q => h50 ((nI_eq (by omega) (by omega)).mpr q)
          refine V_iinc (v := nI (j + 1)) (lv2 := [(4, .int (nI (j + 1))), (5, .int (nI (worth V j))), (3, .int (nI (cntTo (aheadB V c) j))), (2, .int (nI (worth V c))), (0, .ref (b)), (1, .int (nI c))]) dX0_countLearnedAhead_62 2 rfl (nI_inc _) (by decide) rfl ?_
          refine V_goto (tgt := 17) dX0_countLearnedAhead_65 rfl ?_
          refine V_sub [2, 0, 3, 4, 5] rfl ?_
          exact M_at (ih17 (by omega)) (by rw [cntTo_f (by unfold aheadB; simp; omega)]; rfl) rfl (rfl) (rfl)
        · have h50 : (worth V j) = (worth V c) := (nI_eq (by omega) (by omega)).mp h50
          refine V_iload dX0_countLearnedAhead_53 2 rfl ?_
          refine V_iload_n (i := 1) dX0_countLearnedAhead_55 rfl 5 rfl ?_
          refine V_icmp_ge (tgt := 62) dX0_countLearnedAhead_56 rfl (fun h56 => ?_) (fun h56 => ?_)
          · have h56 : c ≤ j := (nI_leI (by omega) (by omega)).mp h56
            refine V_iinc (v := nI (j + 1)) (lv2 := [(4, .int (nI (j + 1))), (5, .int (nI (worth V j))), (3, .int (nI (cntTo (aheadB V c) j))), (2, .int (nI (worth V c))), (0, .ref (b)), (1, .int (nI c))]) dX0_countLearnedAhead_62 2 rfl (nI_inc _) (by decide) rfl ?_
            refine V_goto (tgt := 17) dX0_countLearnedAhead_65 rfl ?_
            refine V_sub [2, 0, 3, 4, 5] rfl ?_
            exact M_at (ih17 (by omega)) (by rw [cntTo_f (by unfold aheadB; simp; omega)]; rfl) rfl (rfl) (rfl)
          · have h56 : ¬ c ≤ j := fun q => h56 ((nI_leI (by omega) (by omega)).mpr q)
            refine V_iinc (v := nI ((cntTo (aheadB V c) j) + 1)) (lv2 := [(3, .int (nI ((cntTo (aheadB V c) j) + 1))), (5, .int (nI (worth V j))), (4, .int (nI j)), (2, .int (nI (worth V c))), (0, .ref (b)), (1, .int (nI c))]) dX0_countLearnedAhead_59 1 rfl (nI_inc _) (by decide) rfl ?_
            refine V_iinc (v := nI (j + 1)) (lv2 := [(4, .int (nI (j + 1))), (3, .int (nI ((cntTo (aheadB V c) j) + 1))), (5, .int (nI (worth V j))), (2, .int (nI (worth V c))), (0, .ref (b)), (1, .int (nI c))]) dX0_countLearnedAhead_62 2 rfl (nI_inc _) (by decide) rfl ?_
            refine V_goto (tgt := 17) dX0_countLearnedAhead_65 rfl ?_
            refine V_sub [1, 0, 3, 4, 5] rfl ?_
            exact M_at (ih17 (by omega)) (by rw [cntTo_t (by unfold aheadB; simp; exact Or.inr ⟨h50, by omega⟩)]; rfl) rfl (rfl) (rfl)
  refine V_sub [1, 0, 2, 3, 4] rfl ?_
  exact M_at (lp17 0 (Nat.zero_le _)) (rfl) rfl (rfl) (rfl)
