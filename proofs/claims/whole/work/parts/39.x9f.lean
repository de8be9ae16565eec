/-! what is made of a hearing -/
theorem thW_none {X : Xs} {s m : Int32} {P : Prop} [Decidable P] (h : thW X s m P = none) : (inR s 8 ∧ 0 ≤ m.toInt ∧ m.toInt ≤ 8 ∧ P) ∧ rowQ (x_T X (iN s)) ∧ m.toInt ≤ (x_T X (iN s)).2.1 ∧ ffO (UHp (x_T X (iN s))) (iN m) = none := by
  unfold thW at h
  split at h
  · cases h
  · rename_i h1
    split at h
    · cases h
    · rename_i h2
      split at h
      · cases h
      · rename_i h3
        split at h
        · cases h
        · rename_i h4
          exact ⟨Decidable.not_not.mp h1, Decidable.not_not.mp h2, Decidable.not_not.mp h3, Decidable.not_not.mp h4⟩
def thR (X : Xs) (o : Option Nat) (a : Int32) : Ans := match o with
  | none => (a, X)
  | some k => rfA X k
abbrev hrX (X : Xs) (s m : Int32) (o : Bool) : Hv := hOf (x_T X (iN s)) (iN m) o
def o_fits (X : Xs) (s m : Int32) (o : Bool) (e c : Int32) : Ans := thR X (thW X s m (inR e (v_ne (x_A X)) ∧ inR c (v_nc (x_A X)))) (bI (fitB (x_A X) (hrX X s m o) (iN e) (iN c) = true))
def o_likely (X : Xs) (s m : Int32) (o : Bool) (e c : Int32) : Ans := thR X (thW X s m (inR e (v_ne (x_A X)) ∧ inR c (v_nc (x_A X)))) (nI (likeOf (x_A X) (hrX X s m o) (iN e) (iN c)))
def o_guess (X : Xs) (s m : Int32) (o : Bool) (e : Int32) : Ans := thR X (thW X s m (inR e (v_ne (x_A X)))) (oI (gsTo (x_A X) (hrX X s m o) (iN e) (v_nc (x_A X))))
def o_next (X : Xs) (s m e : Int32) : Ans := thR X (thW X s m (inR e (v_ne (x_A X)))) (nI (bitsTo (x_A X) (hrX X s m false) (iN e) (v_nc (x_A X))))
def o_when (X : Xs) (s m e : Int32) : Ans := thR X (thW X s m (inR e (v_ne (x_A X)))) (oI (whenV (x_A X) (hrX X s m false) (iN e)))
def nrV (V : Cv) (H : Hv) : Option Nat := bestLo (difV V H) (v_nc V)
def o_nearest (X : Xs) (s m what : Int32) : Ans := match thW X s m (what.toInt = 0 ∨ what.toInt = 1) with
  | some k => rfA X k
  | none => if v_nc (x_A X) = 0 then rfA X 3 else (if what.toInt = 0 then oI (nrV (x_A X) (hrX X s m true)) else nI (valO (difV (x_A X) (hrX X s m true)) (nrV (x_A X) (hrX X s m true))), X)
theorem OP.thr {iv iv2 : IV} {lw : LW} {X : Xs} {o : Option Nat} {a : Int32} (ho : o = none) (hX : CX iv lw X) (hO : Off 47 2 iv iv2) : OP iv lw (thR X o a) (.int a) iv2 lw := by subst ho; exact OP.hear hX hO
theorem OP.thk {iv iv2 iv3 : IV} {lw : LW} {X : Xs} {o : Option Nat} {a : Int32} {k : Nat} (ho : o = some k) (hX : CX iv3 lw (x_rf X k)) (hO : Off 47 2 iv iv2) (hO2 : Off 0 57 iv2 iv3) : OP iv lw (thR X o a) (.int (wy k)) iv3 lw := by subst ho; exact ⟨rfl, hX, (hO.wide (by omega) (by omega)).tr hO2, Off.rf⟩
set_option maxRecDepth 20000 in
theorem k_fits {g : Ev} {S : St} {iv : IV} {lw : LW} (hx : IsX S) {X : Xs} (hX : CX iv lw X) {s m zo : Int32} {o : Bool} (hz : zo = bI (o = true)) {e c : Int32} : CQ g mX9_fits [.ref (0), .int (s), .int (m), .int (zo), .int (e), .int (c)] S iv lw (fun w iv2 lw2 => OP iv lw (o_fits X s m o e c) w iv2 lw2) := by
  refine CT_ofQ rfl (by decide) (Nat.le_of_ble_eq_true rfl) (lv := [(0, .ref (0)), (1, .int (s)), (2, .int (m)), (3, .int (zo)), (4, .int (e)), (5, .int (c))]) rfl (fun Q hQ => ?_)
  have hA := hX.1
  have hnc := hA.ok.nc
  have hne := hA.ok.ne
  have hnm := hA.ok.nm
  refine V_aload_n (i := 0) dX9_fits_0 rfl 0 rfl ?_
  refine V_iload_n (i := 1) dX9_fits_1 rfl 1 rfl ?_
  refine V_iload_n (i := 2) dX9_fits_2 rfl 2 rfl ?_
  refine V_iload_n (i := 3) dX9_fits_3 rfl 3 rfl ?_
  refine V_aload_n (i := 0) dX9_fits_4 rfl 0 rfl ?_
  refine M_getR dX9_fits_5 lf_X9_10 rfl hx.1 hx.2.1.1 ?_
  refine V_iload dX9_fits_8 4 rfl ?_
  refine M_callVp (As := [.int (e)]) (st := [.int (zo), .int (m), .int (s), .ref (0)]) dX9_fits_10 lv_X9_108 ⟨by decide, by decide⟩ ⟨rfl, rfl⟩ rfl (ci := 0) hx.2.1.2.1 rfl rfl (Nat.le_of_ble_eq_true rfl) (t_X0_isEar hx.2.1.2 hA) ?_
  refine V_if_eq (tgt := 32) dX9_fits_13 rfl (fun h13 => ?_) (fun h13 => ?_)
  · have h13 : ¬ (inR e (v_ne (x_A X))) := bI_eq0.mp h13
    refine V_iconst (v := nI 0) dX9_fits_32 rfl ?_
    refine M_callVq (As := [.int (s), .int (m), .int (zo), .int (nI 0)]) (st := []) dX9_fits_33 lv_X9_250 ⟨by decide, by decide⟩ ⟨rfl, rfl⟩ rfl (ci := 6) hx.1 rfl rfl (Nat.le_of_ble_eq_true rfl) (t_takeHearing hx hX (s := s) (m := m) (P := inR e (v_ne (x_A X)) ∧ inR c (v_nc (x_A X))) ((bI_f (fun z => h13 z.1)).symm) (hz)) (fun w33 iv33 lw33 q33 => ?_)
    obtain ⟨rfl, e1, hH, hO⟩ := q33
    subst e1
    have hA2 := hA.off hO (by omega)
    have hX2 : CX iv33 lw X := hX.aux (fun a ha => hO a (by omega)) (fun _ _ => rfl)
    refine V_istore (lv2 := [(6, .int (thA (thW X s m (inR e (v_ne (x_A X)) ∧ inR c (v_nc (x_A X)))))), (0, .ref (0)), (1, .int (s)), (2, .int (m)), (3, .int (zo)), (4, .int (e)), (5, .int (c))]) dX9_fits_36 (by decide) rfl ?_
    refine V_iload dX9_fits_38 0 rfl ?_
    refine V_if_eq (tgt := 50) dX9_fits_40 rfl (fun h40 => ?_) (fun h40 => ?_)
    · have hW : thW X s m (inR e (v_ne (x_A X)) ∧ inR c (v_nc (x_A X))) = none := thA_0.mp h40
      have hWn := thW_none hW
      have hXh := hH hW
      have hPP := hWn.1.2.2.2
      have ce := iN_eq (k := e) (by omega)
      have cc := iN_eq (k := c) (by omega)
      have de := iN_i (k := e) (by omega)
      have dc := iN_i (k := c) (by omega)
      refine M_at (lv2 := [(6, .int (thA (thW X s m (inR e (v_ne (x_A X)) ∧ inR c (v_nc (x_A X)))))), (0, .ref (0)), (1, .int (s)), (2, .int (m)), (3, .int (zo)), (4, .int (nI (iN e))), (5, .int (nI (iN c)))]) (st2 := []) ?_ (by rw [← ce, ← cc]) rfl rfl rfl
      refine V_aload_n (i := 0) dX9_fits_50 rfl 1 rfl ?_
      refine M_getR dX9_fits_51 lf_X9_10 rfl hx.1 hx.2.1.1 ?_
      refine V_aload_n (i := 0) dX9_fits_54 rfl 1 rfl ?_
      refine M_getR dX9_fits_55 lf_X9_43 rfl hx.1 hx.2.2.2.2.2.1.1 ?_
      refine V_iload dX9_fits_58 5 rfl ?_
      refine V_iload dX9_fits_60 6 rfl ?_
      refine M_callSp (As := [.ref (1), .ref (47), .int (nI (iN e)), .int (nI (iN c))]) (st := []) dX9_fits_62 ls_X9_254 ⟨by decide, by decide⟩ ⟨rfl, rfl⟩ rfl (Nat.le_of_ble_eq_true rfl) (t_isFit hx.2.1.2 hA2 hx.2.2.2.2.2.1.2 hXh (e := iN e) (c := iN c) (by omega) (by omega)) ?_
      refine V_if_eq (tgt := 72) dX9_fits_65 rfl (fun h65 => ?_) (fun h65 => ?_)
      · have h65 : ¬ (fitB (x_A X) (hrX X s m o) (iN e) (iN c) = true) := bI_eq0.mp h65
        refine V_iconst (v := nI 0) dX9_fits_72 rfl ?_
        refine V_iret dX9_fits_73 ⟨rfl, rfl⟩ (Nat.zero_le _) (Nat.zero_le _) ?_
        subst hQ
        exact ⟨_, _, _, rfl, rfl, by rw [← bI_f h65]; exact OP.thr hW hX hO⟩
      · have h65 : fitB (x_A X) (hrX X s m o) (iN e) (iN c) = true := bI_ne.mp h65
        refine V_iconst (v := nI 1) dX9_fits_68 rfl ?_
        refine V_goto (tgt := 73) dX9_fits_69 rfl ?_
        refine V_iret dX9_fits_73 ⟨rfl, rfl⟩ (Nat.zero_le _) (Nat.zero_le _) ?_
        subst hQ
        exact ⟨_, _, _, rfl, rfl, by rw [← bI_t h65]; exact OP.thr hW hX hO⟩
    · obtain ⟨k0, hk0⟩ := Option.ne_none_iff_exists'.mp (fun z => h40 (thA_0.mpr z))
      refine V_aload_n (i := 0) dX9_fits_43 rfl 1 rfl ?_
      refine V_iload dX9_fits_44 0 rfl ?_
      refine M_callVq (As := [.int (thA (thW X s m (inR e (v_ne (x_A X)) ∧ inR c (v_nc (x_A X)))))]) (st := []) dX9_fits_46 lv_X9_69 ⟨by decide, by decide⟩ ⟨rfl, rfl⟩ rfl (ci := 6) hx.1 rfl rfl (Nat.le_of_ble_eq_true rfl) ((show CQ g mX9_refuse [.ref 0, .int (thA (thW X s m (inR e (v_ne (x_A X)) ∧ inR c (v_nc (x_A X)))))] S iv33 lw _ from by rw [hk0]; exact t_refuse hx hX2 (j := k0) (thW_lt hk0))) (fun w46 iv46 lw46 q46 => ?_)
      obtain ⟨rfl, e1, hXr, hOr⟩ := q46
      subst e1
      refine V_iret dX9_fits_49 ⟨rfl, rfl⟩ (Nat.zero_le _) (Nat.zero_le _) ?_
      subst hQ
      exact ⟨_, _, _, rfl, rfl, OP.thk hk0 hXr hO hOr⟩
  · have h13 : inR e (v_ne (x_A X)) := bI_ne.mp h13
    refine V_aload_n (i := 0) dX9_fits_16 rfl 0 rfl ?_
    refine M_getR dX9_fits_17 lf_X9_10 rfl hx.1 hx.2.1.1 ?_
    refine V_iload dX9_fits_20 5 rfl ?_
    refine M_callVp (As := [.int (c)]) (st := [.int (zo), .int (m), .int (s), .ref (0)]) dX9_fits_22 lv_X9_180 ⟨by decide, by decide⟩ ⟨rfl, rfl⟩ rfl (ci := 0) hx.2.1.2.1 rfl rfl (Nat.le_of_ble_eq_true rfl) (t_X0_isCall hx.2.1.2 hA) ?_
    refine V_if_eq (tgt := 32) dX9_fits_25 rfl (fun h25 => ?_) (fun h25 => ?_)
    · have h25 : ¬ (inR c (v_nc (x_A X))) := bI_eq0.mp h25
      refine V_iconst (v := nI 0) dX9_fits_32 rfl ?_
      refine M_callVq (As := [.int (s), .int (m), .int (zo), .int (nI 0)]) (st := []) dX9_fits_33 lv_X9_250 ⟨by decide, by decide⟩ ⟨rfl, rfl⟩ rfl (ci := 6) hx.1 rfl rfl (Nat.le_of_ble_eq_true rfl) (t_takeHearing hx hX (s := s) (m := m) (P := inR e (v_ne (x_A X)) ∧ inR c (v_nc (x_A X))) ((bI_f (fun z => h25 z.2)).symm) (hz)) (fun w33 iv33 lw33 q33 => ?_)
      obtain ⟨rfl, e1, hH, hO⟩ := q33
      subst e1
      have hA2 := hA.off hO (by omega)
      have hX2 : CX iv33 lw X := hX.aux (fun a ha => hO a (by omega)) (fun _ _ => rfl)
      refine V_istore (lv2 := [(6, .int (thA (thW X s m (inR e (v_ne (x_A X)) ∧ inR c (v_nc (x_A X)))))), (0, .ref (0)), (1, .int (s)), (2, .int (m)), (3, .int (zo)), (4, .int (e)), (5, .int (c))]) dX9_fits_36 (by decide) rfl ?_
      refine V_iload dX9_fits_38 0 rfl ?_
      refine V_if_eq (tgt := 50) dX9_fits_40 rfl (fun h40 => ?_) (fun h40 => ?_)
      · have hW : thW X s m (inR e (v_ne (x_A X)) ∧ inR c (v_nc (x_A X))) = none := thA_0.mp h40
        have hWn := thW_none hW
        have hXh := hH hW
        have hPP := hWn.1.2.2.2
        have ce := iN_eq (k := e) (by omega)
        have cc := iN_eq (k := c) (by omega)
        have de := iN_i (k := e) (by omega)
        have dc := iN_i (k := c) (by omega)
        refine M_at (lv2 := [(6, .int (thA (thW X s m (inR e (v_ne (x_A X)) ∧ inR c (v_nc (x_A X)))))), (0, .ref (0)), (1, .int (s)), (2, .int (m)), (3, .int (zo)), (4, .int (nI (iN e))), (5, .int (nI (iN c)))]) (st2 := []) ?_ (by rw [← ce, ← cc]) rfl rfl rfl
        refine V_aload_n (i := 0) dX9_fits_50 rfl 1 rfl ?_
        refine M_getR dX9_fits_51 lf_X9_10 rfl hx.1 hx.2.1.1 ?_
        refine V_aload_n (i := 0) dX9_fits_54 rfl 1 rfl ?_
        refine M_getR dX9_fits_55 lf_X9_43 rfl hx.1 hx.2.2.2.2.2.1.1 ?_
        refine V_iload dX9_fits_58 5 rfl ?_
        refine V_iload dX9_fits_60 6 rfl ?_
        refine M_callSp (As := [.ref (1), .ref (47), .int (nI (iN e)), .int (nI (iN c))]) (st := []) dX9_fits_62 ls_X9_254 ⟨by decide, by decide⟩ ⟨rfl, rfl⟩ rfl (Nat.le_of_ble_eq_true rfl) (t_isFit hx.2.1.2 hA2 hx.2.2.2.2.2.1.2 hXh (e := iN e) (c := iN c) (by omega) (by omega)) ?_
        refine V_if_eq (tgt := 72) dX9_fits_65 rfl (fun h65 => ?_) (fun h65 => ?_)
        · have h65 : ¬ (fitB (x_A X) (hrX X s m o) (iN e) (iN c) = true) := bI_eq0.mp h65
          refine V_iconst (v := nI 0) dX9_fits_72 rfl ?_
          refine V_iret dX9_fits_73 ⟨rfl, rfl⟩ (Nat.zero_le _) (Nat.zero_le _) ?_
          subst hQ
          exact ⟨_, _, _, rfl, rfl, by rw [← bI_f h65]; exact OP.thr hW hX hO⟩
        · have h65 : fitB (x_A X) (hrX X s m o) (iN e) (iN c) = true := bI_ne.mp h65
          refine V_iconst (v := nI 1) dX9_fits_68 rfl ?_
          refine V_goto (tgt := 73) dX9_fits_69 rfl ?_
          refine V_iret dX9_fits_73 ⟨rfl, rfl⟩ (Nat.zero_le _) (Nat.zero_le _) ?_
          subst hQ
          exact ⟨_, _, _, rfl, rfl, by rw [← bI_t h65]; exact OP.thr hW hX hO⟩
      · obtain ⟨k0, hk0⟩ := Option.ne_none_iff_exists'.mp (fun z => h40 (thA_0.mpr z))
        refine V_aload_n (i := 0) dX9_fits_43 rfl 1 rfl ?_
        refine V_iload dX9_fits_44 0 rfl ?_
        refine M_callVq (As := [.int (thA (thW X s m (inR e (v_ne (x_A X)) ∧ inR c (v_nc (x_A X)))))]) (st := []) dX9_fits_46 lv_X9_69 ⟨by decide, by decide⟩ ⟨rfl, rfl⟩ rfl (ci := 6) hx.1 rfl rfl (Nat.le_of_ble_eq_true rfl) ((show CQ g mX9_refuse [.ref 0, .int (thA (thW X s m (inR e (v_ne (x_A X)) ∧ inR c (v_nc (x_A X)))))] S iv33 lw _ from by rw [hk0]; exact t_refuse hx hX2 (j := k0) (thW_lt hk0))) (fun w46 iv46 lw46 q46 => ?_)
        obtain ⟨rfl, e1, hXr, hOr⟩ := q46
        subst e1
        refine V_iret dX9_fits_49 ⟨rfl, rfl⟩ (Nat.zero_le _) (Nat.zero_le _) ?_
        subst hQ
        exact ⟨_, _, _, rfl, rfl, OP.thk hk0 hXr hO hOr⟩
    · have h25 : inR c (v_nc (x_A X)) := bI_ne.mp h25
      refine V_iconst (v := nI 1) dX9_fits_28 rfl ?_
      refine V_goto (tgt := 33) dX9_fits_29 rfl ?_
      refine M_callVq (As := [.int (s), .int (m), .int (zo), .int (nI 1)]) (st := []) dX9_fits_33 lv_X9_250 ⟨by decide, by decide⟩ ⟨rfl, rfl⟩ rfl (ci := 6) hx.1 rfl rfl (Nat.le_of_ble_eq_true rfl) (t_takeHearing hx hX (s := s) (m := m) (P := inR e (v_ne (x_A X)) ∧ inR c (v_nc (x_A X))) ((bI_t ⟨h13, h25⟩).symm) (hz)) (fun w33 iv33 lw33 q33 => ?_)
      obtain ⟨rfl, e1, hH, hO⟩ := q33
      subst e1
      have hA2 := hA.off hO (by omega)
      have hX2 : CX iv33 lw X := hX.aux (fun a ha => hO a (by omega)) (fun _ _ => rfl)
      refine V_istore (lv2 := [(6, .int (thA (thW X s m (inR e (v_ne (x_A X)) ∧ inR c (v_nc (x_A X)))))), (0, .ref (0)), (1, .int (s)), (2, .int (m)), (3, .int (zo)), (4, .int (e)), (5, .int (c))]) dX9_fits_36 (by decide) rfl ?_
      refine V_iload dX9_fits_38 0 rfl ?_
      refine V_if_eq (tgt := 50) dX9_fits_40 rfl (fun h40 => ?_) (fun h40 => ?_)
      · have hW : thW X s m (inR e (v_ne (x_A X)) ∧ inR c (v_nc (x_A X))) = none := thA_0.mp h40
        have hWn := thW_none hW
        have hXh := hH hW
        have hPP := hWn.1.2.2.2
        have ce := iN_eq (k := e) (by omega)
        have cc := iN_eq (k := c) (by omega)
        have de := iN_i (k := e) (by omega)
        have dc := iN_i (k := c) (by omega)
        refine M_at (lv2 := [(6, .int (thA (thW X s m (inR e (v_ne (x_A X)) ∧ inR c (v_nc (x_A X)))))), (0, .ref (0)), (1, .int (s)), (2, .int (m)), (3, .int (zo)), (4, .int (nI (iN e))), (5, .int (nI (iN c)))]) (st2 := []) ?_ (by rw [← ce, ← cc]) rfl rfl rfl
        refine V_aload_n (i := 0) dX9_fits_50 rfl 1 rfl ?_
        refine M_getR dX9_fits_51 lf_X9_10 rfl hx.1 hx.2.1.1 ?_
        refine V_aload_n (i := 0) dX9_fits_54 rfl 1 rfl ?_
        refine M_getR dX9_fits_55 lf_X9_43 rfl hx.1 hx.2.2.2.2.2.1.1 ?_
        refine V_iload dX9_fits_58 5 rfl ?_
        refine V_iload dX9_fits_60 6 rfl ?_
        refine M_callSp (As := [.ref (1), .ref (47), .int (nI (iN e)), .int (nI (iN c))]) (st := []) dX9_fits_62 ls_X9_254 ⟨by decide, by decide⟩ ⟨rfl, rfl⟩ rfl (Nat.le_of_ble_eq_true rfl) (t_isFit hx.2.1.2 hA2 hx.2.2.2.2.2.1.2 hXh (e := iN e) (c := iN c) (by omega) (by omega)) ?_
        refine V_if_eq (tgt := 72) dX9_fits_65 rfl (fun h65 => ?_) (fun h65 => ?_)
        · have h65 : ¬ (fitB (x_A X) (hrX X s m o) (iN e) (iN c) = true) := bI_eq0.mp h65
          refine V_iconst (v := nI 0) dX9_fits_72 rfl ?_
          refine V_iret dX9_fits_73 ⟨rfl, rfl⟩ (Nat.zero_le _) (Nat.zero_le _) ?_
          subst hQ
          exact ⟨_, _, _, rfl, rfl, by rw [← bI_f h65]; exact OP.thr hW hX hO⟩
        · have h65 : fitB (x_A X) (hrX X s m o) (iN e) (iN c) = true := bI_ne.mp h65
          refine V_iconst (v := nI 1) dX9_fits_68 rfl ?_
          refine V_goto (tgt := 73) dX9_fits_69 rfl ?_
          refine V_iret dX9_fits_73 ⟨rfl, rfl⟩ (Nat.zero_le _) (Nat.zero_le _) ?_
          subst hQ
          exact ⟨_, _, _, rfl, rfl, by rw [← bI_t h65]; exact OP.thr hW hX hO⟩
      · obtain ⟨k0, hk0⟩ := Option.ne_none_iff_exists'.mp (fun z => h40 (thA_0.mpr z))
        refine V_aload_n (i := 0) dX9_fits_43 rfl 1 rfl ?_
        refine V_iload dX9_fits_44 0 rfl ?_
        refine M_callVq (As := [.int (thA (thW X s m (inR e (v_ne (x_A X)) ∧ inR c (v_nc (x_A X)))))]) (st := []) dX9_fits_46 lv_X9_69 ⟨by decide, by decide⟩ ⟨rfl, rfl⟩ rfl (ci := 6) hx.1 rfl rfl (Nat.le_of_ble_eq_true rfl) ((show CQ g mX9_refuse [.ref 0, .int (thA (thW X s m (inR e (v_ne (x_A X)) ∧ inR c (v_nc (x_A X)))))] S iv33 lw _ from by rw [hk0]; exact t_refuse hx hX2 (j := k0) (thW_lt hk0))) (fun w46 iv46 lw46 q46 => ?_)
        obtain ⟨rfl, e1, hXr, hOr⟩ := q46
        subst e1
        refine V_iret dX9_fits_49 ⟨rfl, rfl⟩ (Nat.zero_le _) (Nat.zero_le _) ?_
        subst hQ
        exact ⟨_, _, _, rfl, rfl, OP.thk hk0 hXr hO hOr⟩
set_option maxRecDepth 20000 in
theorem k_likely {g : Ev} {S : St} {iv : IV} {lw : LW} (hx : IsX S) {X : Xs} (hX : CX iv lw X) {s m zo : Int32} {o : Bool} (hz : zo = bI (o = true)) {e c : Int32} : CQ g mX9_likely [.ref (0), .int (s), .int (m), .int (zo), .int (e), .int (c)] S iv lw (fun w iv2 lw2 => OP iv lw (o_likely X s m o e c) w iv2 lw2) := by
  refine CT_ofQ rfl (by decide) (Nat.le_of_ble_eq_true rfl) (lv := [(0, .ref (0)), (1, .int (s)), (2, .int (m)), (3, .int (zo)), (4, .int (e)), (5, .int (c))]) rfl (fun Q hQ => ?_)
  have hA := hX.1
  have hnc := hA.ok.nc
  have hne := hA.ok.ne
  have hnm := hA.ok.nm
  refine V_aload_n (i := 0) dX9_likely_0 rfl 0 rfl ?_
  refine V_iload_n (i := 1) dX9_likely_1 rfl 1 rfl ?_
  refine V_iload_n (i := 2) dX9_likely_2 rfl 2 rfl ?_
  refine V_iload_n (i := 3) dX9_likely_3 rfl 3 rfl ?_
  refine V_aload_n (i := 0) dX9_likely_4 rfl 0 rfl ?_
  refine M_getR dX9_likely_5 lf_X9_10 rfl hx.1 hx.2.1.1 ?_
  refine V_iload dX9_likely_8 4 rfl ?_
  refine M_callVp (As := [.int (e)]) (st := [.int (zo), .int (m), .int (s), .ref (0)]) dX9_likely_10 lv_X9_108 ⟨by decide, by decide⟩ ⟨rfl, rfl⟩ rfl (ci := 0) hx.2.1.2.1 rfl rfl (Nat.le_of_ble_eq_true rfl) (t_X0_isEar hx.2.1.2 hA) ?_
  refine V_if_eq (tgt := 32) dX9_likely_13 rfl (fun h13 => ?_) (fun h13 => ?_)
  · have h13 : ¬ (inR e (v_ne (x_A X))) := bI_eq0.mp h13
    refine V_iconst (v := nI 0) dX9_likely_32 rfl ?_
    refine M_callVq (As := [.int (s), .int (m), .int (zo), .int (nI 0)]) (st := []) dX9_likely_33 lv_X9_250 ⟨by decide, by decide⟩ ⟨rfl, rfl⟩ rfl (ci := 6) hx.1 rfl rfl (Nat.le_of_ble_eq_true rfl) (t_takeHearing hx hX (s := s) (m := m) (P := inR e (v_ne (x_A X)) ∧ inR c (v_nc (x_A X))) ((bI_f (fun z => h13 z.1)).symm) (hz)) (fun w33 iv33 lw33 q33 => ?_)
    obtain ⟨rfl, e1, hH, hO⟩ := q33
    subst e1
    have hA2 := hA.off hO (by omega)
    have hX2 : CX iv33 lw X := hX.aux (fun a ha => hO a (by omega)) (fun _ _ => rfl)
    refine V_istore (lv2 := [(6, .int (thA (thW X s m (inR e (v_ne (x_A X)) ∧ inR c (v_nc (x_A X)))))), (0, .ref (0)), (1, .int (s)), (2, .int (m)), (3, .int (zo)), (4, .int (e)), (5, .int (c))]) dX9_likely_36 (by decide) rfl ?_
    refine V_iload dX9_likely_38 0 rfl ?_
    refine V_if_ne (tgt := 61) dX9_likely_40 rfl (fun h40 => ?_) (fun h40 => ?_)
    · obtain ⟨k0, hk0⟩ := Option.ne_none_iff_exists'.mp (fun z => h40 (thA_0.mpr z))
      refine V_aload_n (i := 0) dX9_likely_61 rfl 1 rfl ?_
      refine V_iload dX9_likely_62 0 rfl ?_
      refine M_callVq (As := [.int (thA (thW X s m (inR e (v_ne (x_A X)) ∧ inR c (v_nc (x_A X)))))]) (st := []) dX9_likely_64 lv_X9_69 ⟨by decide, by decide⟩ ⟨rfl, rfl⟩ rfl (ci := 6) hx.1 rfl rfl (Nat.le_of_ble_eq_true rfl) ((show CQ g mX9_refuse [.ref 0, .int (thA (thW X s m (inR e (v_ne (x_A X)) ∧ inR c (v_nc (x_A X)))))] S iv33 lw _ from by rw [hk0]; exact t_refuse hx hX2 (j := k0) (thW_lt hk0))) (fun w64 iv64 lw64 q64 => ?_)
      obtain ⟨rfl, e1, hXr, hOr⟩ := q64
      subst e1
      refine V_iret dX9_likely_67 ⟨rfl, rfl⟩ (Nat.zero_le _) (Nat.zero_le _) ?_
      subst hQ
      exact ⟨_, _, _, rfl, rfl, OP.thk hk0 hXr hO hOr⟩
    · have hW : thW X s m (inR e (v_ne (x_A X)) ∧ inR c (v_nc (x_A X))) = none := thA_0.mp h40
      have hWn := thW_none hW
      have hXh := hH hW
      have hPP := hWn.1.2.2.2
      have ce := iN_eq (k := e) (by omega)
      have cc := iN_eq (k := c) (by omega)
      have de := iN_i (k := e) (by omega)
      have dc := iN_i (k := c) (by omega)
      refine M_at (lv2 := [(6, .int (thA (thW X s m (inR e (v_ne (x_A X)) ∧ inR c (v_nc (x_A X)))))), (0, .ref (0)), (1, .int (s)), (2, .int (m)), (3, .int (zo)), (4, .int (nI (iN e))), (5, .int (nI (iN c)))]) (st2 := []) ?_ (by rw [← ce, ← cc]) rfl rfl rfl
      refine V_aload_n (i := 0) dX9_likely_43 rfl 1 rfl ?_
      refine M_getR dX9_likely_44 lf_X9_10 rfl hx.1 hx.2.1.1 ?_
      refine V_aload_n (i := 0) dX9_likely_47 rfl 1 rfl ?_
      refine M_getR dX9_likely_48 lf_X9_43 rfl hx.1 hx.2.2.2.2.2.1.1 ?_
      refine V_iload dX9_likely_51 5 rfl ?_
      refine V_iload dX9_likely_53 6 rfl ?_
      refine M_callSp (As := [.ref (1), .ref (47), .int (nI (iN e)), .int (nI (iN c))]) (st := []) dX9_likely_55 ls_X9_258 ⟨by decide, by decide⟩ ⟨rfl, rfl⟩ rfl (Nat.le_of_ble_eq_true rfl) (t_likelyOf hx.2.1.2 hA2 hx.2.2.2.2.2.1.2 hXh (e := iN e) (c := iN c) (by omega) (by omega)) ?_
      refine V_goto (tgt := 67) dX9_likely_58 rfl ?_
      refine V_iret dX9_likely_67 ⟨rfl, rfl⟩ (Nat.zero_le _) (Nat.zero_le _) ?_
      subst hQ
      exact ⟨_, _, _, rfl, rfl, OP.thr hW hX hO⟩
  · have h13 : inR e (v_ne (x_A X)) := bI_ne.mp h13
    refine V_aload_n (i := 0) dX9_likely_16 rfl 0 rfl ?_
    refine M_getR dX9_likely_17 lf_X9_10 rfl hx.1 hx.2.1.1 ?_
    refine V_iload dX9_likely_20 5 rfl ?_
    refine M_callVp (As := [.int (c)]) (st := [.int (zo), .int (m), .int (s), .ref (0)]) dX9_likely_22 lv_X9_180 ⟨by decide, by decide⟩ ⟨rfl, rfl⟩ rfl (ci := 0) hx.2.1.2.1 rfl rfl (Nat.le_of_ble_eq_true rfl) (t_X0_isCall hx.2.1.2 hA) ?_
    refine V_if_eq (tgt := 32) dX9_likely_25 rfl (fun h25 => ?_) (fun h25 => ?_)
    · have h25 : ¬ (inR c (v_nc (x_A X))) := bI_eq0.mp h25
      refine V_iconst (v := nI 0) dX9_likely_32 rfl ?_
      refine M_callVq (As := [.int (s), .int (m), .int (zo), .int (nI 0)]) (st := []) dX9_likely_33 lv_X9_250 ⟨by decide, by decide⟩ ⟨rfl, rfl⟩ rfl (ci := 6) hx.1 rfl rfl (Nat.le_of_ble_eq_true rfl) (t_takeHearing hx hX (s := s) (m := m) (P := inR e (v_ne (x_A X)) ∧ inR c (v_nc (x_A X))) ((bI_f (fun z => h25 z.2)).symm) (hz)) (fun w33 iv33 lw33 q33 => ?_)
      obtain ⟨rfl, e1, hH, hO⟩ := q33
      subst e1
      have hA2 := hA.off hO (by omega)
      have hX2 : CX iv33 lw X := hX.aux (fun a ha => hO a (by omega)) (fun _ _ => rfl)
      refine V_istore (lv2 := [(6, .int (thA (thW X s m (inR e (v_ne (x_A X)) ∧ inR c (v_nc (x_A X)))))), (0, .ref (0)), (1, .int (s)), (2, .int (m)), (3, .int (zo)), (4, .int (e)), (5, .int (c))]) dX9_likely_36 (by decide) rfl ?_
      refine V_iload dX9_likely_38 0 rfl ?_
      refine V_if_ne (tgt := 61) dX9_likely_40 rfl (fun h40 => ?_) (fun h40 => ?_)
      · obtain ⟨k0, hk0⟩ := Option.ne_none_iff_exists'.mp (fun z => h40 (thA_0.mpr z))
        refine V_aload_n (i := 0) dX9_likely_61 rfl 1 rfl ?_
        refine V_iload dX9_likely_62 0 rfl ?_
        refine M_callVq (As := [.int (thA (thW X s m (inR e (v_ne (x_A X)) ∧ inR c (v_nc (x_A X)))))]) (st := []) dX9_likely_64 lv_X9_69 ⟨by decide, by decide⟩ ⟨rfl, rfl⟩ rfl (ci := 6) hx.1 rfl rfl (Nat.le_of_ble_eq_true rfl) ((show CQ g mX9_refuse [.ref 0, .int (thA (thW X s m (inR e (v_ne (x_A X)) ∧ inR c (v_nc (x_A X)))))] S iv33 lw _ from by rw [hk0]; exact t_refuse hx hX2 (j := k0) (thW_lt hk0))) (fun w64 iv64 lw64 q64 => ?_)
        obtain ⟨rfl, e1, hXr, hOr⟩ := q64
        subst e1
        refine V_iret dX9_likely_67 ⟨rfl, rfl⟩ (Nat.zero_le _) (Nat.zero_le _) ?_
        subst hQ
        exact ⟨_, _, _, rfl, rfl, OP.thk hk0 hXr hO hOr⟩
      · have hW : thW X s m (inR e (v_ne (x_A X)) ∧ inR c (v_nc (x_A X))) = none := thA_0.mp h40
        have hWn := thW_none hW
        have hXh := hH hW
        have hPP := hWn.1.2.2.2
        have ce := iN_eq (k := e) (by omega)
        have cc := iN_eq (k := c) (by omega)
        have de := iN_i (k := e) (by omega)
        have dc := iN_i (k := c) (by omega)
        refine M_at (lv2 := [(6, .int (thA (thW X s m (inR e (v_ne (x_A X)) ∧ inR c (v_nc (x_A X)))))), (0, .ref (0)), (1, .int (s)), (2, .int (m)), (3, .int (zo)), (4, .int (nI (iN e))), (5, .int (nI (iN c)))]) (st2 := []) ?_ (by rw [← ce, ← cc]) rfl rfl rfl
        refine V_aload_n (i := 0) dX9_likely_43 rfl 1 rfl ?_
        refine M_getR dX9_likely_44 lf_X9_10 rfl hx.1 hx.2.1.1 ?_
        refine V_aload_n (i := 0) dX9_likely_47 rfl 1 rfl ?_
        refine M_getR dX9_likely_48 lf_X9_43 rfl hx.1 hx.2.2.2.2.2.1.1 ?_
        refine V_iload dX9_likely_51 5 rfl ?_
        refine V_iload dX9_likely_53 6 rfl ?_
        refine M_callSp (As := [.ref (1), .ref (47), .int (nI (iN e)), .int (nI (iN c))]) (st := []) dX9_likely_55 ls_X9_258 ⟨by decide, by decide⟩ ⟨rfl, rfl⟩ rfl (Nat.le_of_ble_eq_true rfl) (t_likelyOf hx.2.1.2 hA2 hx.2.2.2.2.2.1.2 hXh (e := iN e) (c := iN c) (by omega) (by omega)) ?_
        refine V_goto (tgt := 67) dX9_likely_58 rfl ?_
        refine V_iret dX9_likely_67 ⟨rfl, rfl⟩ (Nat.zero_le _) (Nat.zero_le _) ?_
        subst hQ
        exact ⟨_, _, _, rfl, rfl, OP.thr hW hX hO⟩
    · have h25 : inR c (v_nc (x_A X)) := bI_ne.mp h25
      refine V_iconst (v := nI 1) dX9_likely_28 rfl ?_
      refine V_goto (tgt := 33) dX9_likely_29 rfl ?_
      refine M_callVq (As := [.int (s), .int (m), .int (zo), .int (nI 1)]) (st := []) dX9_likely_33 lv_X9_250 ⟨by decide, by decide⟩ ⟨rfl, rfl⟩ rfl (ci := 6) hx.1 rfl rfl (Nat.le_of_ble_eq_true rfl) (t_takeHearing hx hX (s := s) (m := m) (P := inR e (v_ne (x_A X)) ∧ inR c (v_nc (x_A X))) ((bI_t ⟨h13, h25⟩).symm) (hz)) (fun w33 iv33 lw33 q33 => ?_)
      obtain ⟨rfl, e1, hH, hO⟩ := q33
      subst e1
      have hA2 := hA.off hO (by omega)
      have hX2 : CX iv33 lw X := hX.aux (fun a ha => hO a (by omega)) (fun _ _ => rfl)
      refine V_istore (lv2 := [(6, .int (thA (thW X s m (inR e (v_ne (x_A X)) ∧ inR c (v_nc (x_A X)))))), (0, .ref (0)), (1, .int (s)), (2, .int (m)), (3, .int (zo)), (4, .int (e)), (5, .int (c))]) dX9_likely_36 (by decide) rfl ?_
      refine V_iload dX9_likely_38 0 rfl ?_
      refine V_if_ne (tgt := 61) dX9_likely_40 rfl (fun h40 => ?_) (fun h40 => ?_)
      · obtain ⟨k0, hk0⟩ := Option.ne_none_iff_exists'.mp (fun z => h40 (thA_0.mpr z))
        refine V_aload_n (i := 0) dX9_likely_61 rfl 1 rfl ?_
        refine V_iload dX9_likely_62 0 rfl ?_
        refine M_callVq (As := [.int (thA (thW X s m (inR e (v_ne (x_A X)) ∧ inR c (v_nc (x_A X)))))]) (st := []) dX9_likely_64 lv_X9_69 ⟨by decide, by decide⟩ ⟨rfl, rfl⟩ rfl (ci := 6) hx.1 rfl rfl (Nat.le_of_ble_eq_true rfl) ((show CQ g mX9_refuse [.ref 0, .int (thA (thW X s m (inR e (v_ne (x_A X)) ∧ inR c (v_nc (x_A X)))))] S iv33 lw _ from by rw [hk0]; exact t_refuse hx hX2 (j := k0) (thW_lt hk0))) (fun w64 iv64 lw64 q64 => ?_)
        obtain ⟨rfl, e1, hXr, hOr⟩ := q64
        subst e1
        refine V_iret dX9_likely_67 ⟨rfl, rfl⟩ (Nat.zero_le _) (Nat.zero_le _) ?_
        subst hQ
        exact ⟨_, _, _, rfl, rfl, OP.thk hk0 hXr hO hOr⟩
      · have hW : thW X s m (inR e (v_ne (x_A X)) ∧ inR c (v_nc (x_A X))) = none := thA_0.mp h40
        have hWn := thW_none hW
        have hXh := hH hW
        have hPP := hWn.1.2.2.2
        have ce := iN_eq (k := e) (by omega)
        have cc := iN_eq (k := c) (by omega)
        have de := iN_i (k := e) (by omega)
        have dc := iN_i (k := c) (by omega)
        refine M_at (lv2 := [(6, .int (thA (thW X s m (inR e (v_ne (x_A X)) ∧ inR c (v_nc (x_A X)))))), (0, .ref (0)), (1, .int (s)), (2, .int (m)), (3, .int (zo)), (4, .int (nI (iN e))), (5, .int (nI (iN c)))]) (st2 := []) ?_ (by rw [← ce, ← cc]) rfl rfl rfl
        refine V_aload_n (i := 0) dX9_likely_43 rfl 1 rfl ?_
        refine M_getR dX9_likely_44 lf_X9_10 rfl hx.1 hx.2.1.1 ?_
        refine V_aload_n (i := 0) dX9_likely_47 rfl 1 rfl ?_
        refine M_getR dX9_likely_48 lf_X9_43 rfl hx.1 hx.2.2.2.2.2.1.1 ?_
        refine V_iload dX9_likely_51 5 rfl ?_
        refine V_iload dX9_likely_53 6 rfl ?_
        refine M_callSp (As := [.ref (1), .ref (47), .int (nI (iN e)), .int (nI (iN c))]) (st := []) dX9_likely_55 ls_X9_258 ⟨by decide, by decide⟩ ⟨rfl, rfl⟩ rfl (Nat.le_of_ble_eq_true rfl) (t_likelyOf hx.2.1.2 hA2 hx.2.2.2.2.2.1.2 hXh (e := iN e) (c := iN c) (by omega) (by omega)) ?_
        refine V_goto (tgt := 67) dX9_likely_58 rfl ?_
        refine V_iret dX9_likely_67 ⟨rfl, rfl⟩ (Nat.zero_le _) (Nat.zero_le _) ?_
        subst hQ
        exact ⟨_, _, _, rfl, rfl, OP.thr hW hX hO⟩
set_option maxRecDepth 20000 in
theorem k_guess {g : Ev} {S : St} {iv : IV} {lw : LW} (hx : IsX S) {X : Xs} (hX : CX iv lw X) {s m zo : Int32} {o : Bool} (hz : zo = bI (o = true)) {e : Int32} : CQ g mX9_guess [.ref (0), .int (s), .int (m), .int (zo), .int (e)] S iv lw (fun w iv2 lw2 => OP iv lw (o_guess X s m o e) w iv2 lw2) := by
  refine CT_ofQ rfl (by decide) (Nat.le_of_ble_eq_true rfl) (lv := [(0, .ref (0)), (1, .int (s)), (2, .int (m)), (3, .int (zo)), (4, .int (e))]) rfl (fun Q hQ => ?_)
  have hA := hX.1
  have hnc := hA.ok.nc
  have hne := hA.ok.ne
  have hnm := hA.ok.nm
  refine V_aload_n (i := 0) dX9_guess_0 rfl 0 rfl ?_
  refine V_iload_n (i := 1) dX9_guess_1 rfl 1 rfl ?_
  refine V_iload_n (i := 2) dX9_guess_2 rfl 2 rfl ?_
  refine V_iload_n (i := 3) dX9_guess_3 rfl 3 rfl ?_
  refine V_aload_n (i := 0) dX9_guess_4 rfl 0 rfl ?_
  refine M_getR dX9_guess_5 lf_X9_10 rfl hx.1 hx.2.1.1 ?_
  refine V_iload dX9_guess_8 4 rfl ?_
  refine M_callVp (As := [.int (e)]) (st := [.int (zo), .int (m), .int (s), .ref (0)]) dX9_guess_10 lv_X9_108 ⟨by decide, by decide⟩ ⟨rfl, rfl⟩ rfl (ci := 0) hx.2.1.2.1 rfl rfl (Nat.le_of_ble_eq_true rfl) (t_X0_isEar hx.2.1.2 hA) ?_
  refine M_callVq (As := [.int (s), .int (m), .int (zo), .int (bI (inR e (v_ne (x_A X))))]) (st := []) dX9_guess_13 lv_X9_250 ⟨by decide, by decide⟩ ⟨rfl, rfl⟩ rfl (ci := 6) hx.1 rfl rfl (Nat.le_of_ble_eq_true rfl) (t_takeHearing hx hX (s := s) (m := m) (P := inR e (v_ne (x_A X))) (rfl) (hz)) (fun w13 iv13 lw13 q13 => ?_)
  obtain ⟨rfl, e1, hH, hO⟩ := q13
  subst e1
  have hA2 := hA.off hO (by omega)
  have hX2 : CX iv13 lw X := hX.aux (fun a ha => hO a (by omega)) (fun _ _ => rfl)
  refine V_istore (lv2 := [(5, .int (thA (thW X s m (inR e (v_ne (x_A X)))))), (0, .ref (0)), (1, .int (s)), (2, .int (m)), (3, .int (zo)), (4, .int (e))]) dX9_guess_16 (by decide) rfl ?_
  refine V_iload dX9_guess_18 0 rfl ?_
  refine V_if_ne (tgt := 39) dX9_guess_20 rfl (fun h20 => ?_) (fun h20 => ?_)
  · obtain ⟨k0, hk0⟩ := Option.ne_none_iff_exists'.mp (fun z => h20 (thA_0.mpr z))
    refine V_aload_n (i := 0) dX9_guess_39 rfl 1 rfl ?_
    refine V_iload dX9_guess_40 0 rfl ?_
    refine M_callVq (As := [.int (thA (thW X s m (inR e (v_ne (x_A X)))))]) (st := []) dX9_guess_42 lv_X9_69 ⟨by decide, by decide⟩ ⟨rfl, rfl⟩ rfl (ci := 6) hx.1 rfl rfl (Nat.le_of_ble_eq_true rfl) ((show CQ g mX9_refuse [.ref 0, .int (thA (thW X s m (inR e (v_ne (x_A X)))))] S iv13 lw _ from by rw [hk0]; exact t_refuse hx hX2 (j := k0) (thW_lt hk0))) (fun w42 iv42 lw42 q42 => ?_)
    obtain ⟨rfl, e1, hXr, hOr⟩ := q42
    subst e1
    refine V_iret dX9_guess_45 ⟨rfl, rfl⟩ (Nat.zero_le _) (Nat.zero_le _) ?_
    subst hQ
    exact ⟨_, _, _, rfl, rfl, OP.thk hk0 hXr hO hOr⟩
  · have hW : thW X s m (inR e (v_ne (x_A X))) = none := thA_0.mp h20
    have hWn := thW_none hW
    have hXh := hH hW
    have hPP := hWn.1.2.2.2
    have ce := iN_eq (k := e) (by omega)
    have de := iN_i (k := e) (by omega)
    refine M_at (lv2 := [(5, .int (thA (thW X s m (inR e (v_ne (x_A X)))))), (0, .ref (0)), (1, .int (s)), (2, .int (m)), (3, .int (zo)), (4, .int (nI (iN e)))]) (st2 := []) ?_ (by rw [← ce]) rfl rfl rfl
    refine V_aload_n (i := 0) dX9_guess_23 rfl 1 rfl ?_
    refine M_getR dX9_guess_24 lf_X9_10 rfl hx.1 hx.2.1.1 ?_
    refine V_aload_n (i := 0) dX9_guess_27 rfl 1 rfl ?_
    refine M_getR dX9_guess_28 lf_X9_43 rfl hx.1 hx.2.2.2.2.2.1.1 ?_
    refine V_iload dX9_guess_31 5 rfl ?_
    refine M_callSp (As := [.ref (1), .ref (47), .int (nI (iN e))]) (st := []) dX9_guess_33 ls_X9_262 ⟨by decide, by decide⟩ ⟨rfl, rfl⟩ rfl (Nat.le_of_ble_eq_true rfl) (t_guessOf hx.2.1.2 hA2 hx.2.2.2.2.2.1.2 hXh (e := iN e) (by omega)) ?_
    refine V_goto (tgt := 45) dX9_guess_36 rfl ?_
    refine V_iret dX9_guess_45 ⟨rfl, rfl⟩ (Nat.zero_le _) (Nat.zero_le _) ?_
    subst hQ
    exact ⟨_, _, _, rfl, rfl, OP.thr hW hX hO⟩
set_option maxRecDepth 20000 in
theorem k_next {g : Ev} {S : St} {iv : IV} {lw : LW} (hx : IsX S) {X : Xs} (hX : CX iv lw X) {s m e : Int32} : CQ g mX9_next [.ref (0), .int (s), .int (m), .int (e)] S iv lw (fun w iv2 lw2 => OP iv lw (o_next X s m e) w iv2 lw2) := by
  refine CT_ofQ rfl (by decide) (Nat.le_of_ble_eq_true rfl) (lv := [(0, .ref (0)), (1, .int (s)), (2, .int (m)), (3, .int (e))]) rfl (fun Q hQ => ?_)
  have hA := hX.1
  have hnc := hA.ok.nc
  have hne := hA.ok.ne
  have hnm := hA.ok.nm
  refine V_aload_n (i := 0) dX9_next_0 rfl 0 rfl ?_
  refine V_iload_n (i := 1) dX9_next_1 rfl 1 rfl ?_
  refine V_iload_n (i := 2) dX9_next_2 rfl 2 rfl ?_
  refine V_iconst (v := nI 0) dX9_next_3 rfl ?_
  refine V_aload_n (i := 0) dX9_next_4 rfl 0 rfl ?_
  refine M_getR dX9_next_5 lf_X9_10 rfl hx.1 hx.2.1.1 ?_
  refine V_iload_n (i := 3) dX9_next_8 rfl 3 rfl ?_
  refine M_callVp (As := [.int (e)]) (st := [.int (nI 0), .int (m), .int (s), .ref (0)]) dX9_next_9 lv_X9_108 ⟨by decide, by decide⟩ ⟨rfl, rfl⟩ rfl (ci := 0) hx.2.1.2.1 rfl rfl (Nat.le_of_ble_eq_true rfl) (t_X0_isEar hx.2.1.2 hA) ?_
  refine M_callVq (As := [.int (s), .int (m), .int (nI 0), .int (bI (inR e (v_ne (x_A X))))]) (st := []) dX9_next_12 lv_X9_250 ⟨by decide, by decide⟩ ⟨rfl, rfl⟩ rfl (ci := 6) hx.1 rfl rfl (Nat.le_of_ble_eq_true rfl) (t_takeHearing hx hX (s := s) (m := m) (P := inR e (v_ne (x_A X))) (rfl) ((bI_f (show ¬ false = true by decide)).symm)) (fun w12 iv12 lw12 q12 => ?_)
  obtain ⟨rfl, e1, hH, hO⟩ := q12
  subst e1
  have hA2 := hA.off hO (by omega)
  have hX2 : CX iv12 lw X := hX.aux (fun a ha => hO a (by omega)) (fun _ _ => rfl)
  refine V_istore (lv2 := [(4, .int (thA (thW X s m (inR e (v_ne (x_A X)))))), (0, .ref (0)), (1, .int (s)), (2, .int (m)), (3, .int (e))]) dX9_next_15 (by decide) rfl ?_
  refine V_iload dX9_next_17 0 rfl ?_
  refine V_if_ne (tgt := 37) dX9_next_19 rfl (fun h19 => ?_) (fun h19 => ?_)
  · obtain ⟨k0, hk0⟩ := Option.ne_none_iff_exists'.mp (fun z => h19 (thA_0.mpr z))
    refine V_aload_n (i := 0) dX9_next_37 rfl 1 rfl ?_
    refine V_iload dX9_next_38 0 rfl ?_
    refine M_callVq (As := [.int (thA (thW X s m (inR e (v_ne (x_A X)))))]) (st := []) dX9_next_40 lv_X9_69 ⟨by decide, by decide⟩ ⟨rfl, rfl⟩ rfl (ci := 6) hx.1 rfl rfl (Nat.le_of_ble_eq_true rfl) ((show CQ g mX9_refuse [.ref 0, .int (thA (thW X s m (inR e (v_ne (x_A X)))))] S iv12 lw _ from by rw [hk0]; exact t_refuse hx hX2 (j := k0) (thW_lt hk0))) (fun w40 iv40 lw40 q40 => ?_)
    obtain ⟨rfl, e1, hXr, hOr⟩ := q40
    subst e1
    refine V_iret dX9_next_43 ⟨rfl, rfl⟩ (Nat.zero_le _) (Nat.zero_le _) ?_
    subst hQ
    exact ⟨_, _, _, rfl, rfl, OP.thk hk0 hXr hO hOr⟩
  · have hW : thW X s m (inR e (v_ne (x_A X))) = none := thA_0.mp h19
    have hWn := thW_none hW
    have hXh := hH hW
    have hPP := hWn.1.2.2.2
    have ce := iN_eq (k := e) (by omega)
    have de := iN_i (k := e) (by omega)
    refine M_at (lv2 := [(4, .int (thA (thW X s m (inR e (v_ne (x_A X)))))), (0, .ref (0)), (1, .int (s)), (2, .int (m)), (3, .int (nI (iN e)))]) (st2 := []) ?_ (by rw [← ce]) rfl rfl rfl
    refine V_aload_n (i := 0) dX9_next_22 rfl 1 rfl ?_
    refine M_getR dX9_next_23 lf_X9_10 rfl hx.1 hx.2.1.1 ?_
    refine V_aload_n (i := 0) dX9_next_26 rfl 1 rfl ?_
    refine M_getR dX9_next_27 lf_X9_43 rfl hx.1 hx.2.2.2.2.2.1.1 ?_
    refine V_iload_n (i := 3) dX9_next_30 rfl 4 rfl ?_
    refine M_callSp (As := [.ref (1), .ref (47), .int (nI (iN e))]) (st := []) dX9_next_31 ls_X9_290 ⟨by decide, by decide⟩ ⟨rfl, rfl⟩ rfl (Nat.le_of_ble_eq_true rfl) (t_nextBits hx.2.1.2 hA2 hx.2.2.2.2.2.1.2 hXh (e := iN e) (by omega)) ?_
    refine V_goto (tgt := 43) dX9_next_34 rfl ?_
    refine V_iret dX9_next_43 ⟨rfl, rfl⟩ (Nat.zero_le _) (Nat.zero_le _) ?_
    subst hQ
    exact ⟨_, _, _, rfl, rfl, OP.thr hW hX hO⟩
set_option maxRecDepth 20000 in
theorem k_when {g : Ev} {S : St} {iv : IV} {lw : LW} (hx : IsX S) {X : Xs} (hX : CX iv lw X) {s m e : Int32} : CQ g mX9_when [.ref (0), .int (s), .int (m), .int (e)] S iv lw (fun w iv2 lw2 => OP iv lw (o_when X s m e) w iv2 lw2) := by
  refine CT_ofQ rfl (by decide) (Nat.le_of_ble_eq_true rfl) (lv := [(0, .ref (0)), (1, .int (s)), (2, .int (m)), (3, .int (e))]) rfl (fun Q hQ => ?_)
  have hA := hX.1
  have hnc := hA.ok.nc
  have hne := hA.ok.ne
  have hnm := hA.ok.nm
  refine V_aload_n (i := 0) dX9_when_0 rfl 0 rfl ?_
  refine V_iload_n (i := 1) dX9_when_1 rfl 1 rfl ?_
  refine V_iload_n (i := 2) dX9_when_2 rfl 2 rfl ?_
  refine V_iconst (v := nI 0) dX9_when_3 rfl ?_
  refine V_aload_n (i := 0) dX9_when_4 rfl 0 rfl ?_
  refine M_getR dX9_when_5 lf_X9_10 rfl hx.1 hx.2.1.1 ?_
  refine V_iload_n (i := 3) dX9_when_8 rfl 3 rfl ?_
  refine M_callVp (As := [.int (e)]) (st := [.int (nI 0), .int (m), .int (s), .ref (0)]) dX9_when_9 lv_X9_108 ⟨by decide, by decide⟩ ⟨rfl, rfl⟩ rfl (ci := 0) hx.2.1.2.1 rfl rfl (Nat.le_of_ble_eq_true rfl) (t_X0_isEar hx.2.1.2 hA) ?_
  refine M_callVq (As := [.int (s), .int (m), .int (nI 0), .int (bI (inR e (v_ne (x_A X))))]) (st := []) dX9_when_12 lv_X9_250 ⟨by decide, by decide⟩ ⟨rfl, rfl⟩ rfl (ci := 6) hx.1 rfl rfl (Nat.le_of_ble_eq_true rfl) (t_takeHearing hx hX (s := s) (m := m) (P := inR e (v_ne (x_A X))) (rfl) ((bI_f (show ¬ false = true by decide)).symm)) (fun w12 iv12 lw12 q12 => ?_)
  obtain ⟨rfl, e1, hH, hO⟩ := q12
  subst e1
  have hA2 := hA.off hO (by omega)
  have hX2 : CX iv12 lw X := hX.aux (fun a ha => hO a (by omega)) (fun _ _ => rfl)
  refine V_istore (lv2 := [(4, .int (thA (thW X s m (inR e (v_ne (x_A X)))))), (0, .ref (0)), (1, .int (s)), (2, .int (m)), (3, .int (e))]) dX9_when_15 (by decide) rfl ?_
  refine V_iload dX9_when_17 0 rfl ?_
  refine V_if_ne (tgt := 37) dX9_when_19 rfl (fun h19 => ?_) (fun h19 => ?_)
  · obtain ⟨k0, hk0⟩ := Option.ne_none_iff_exists'.mp (fun z => h19 (thA_0.mpr z))
    refine V_aload_n (i := 0) dX9_when_37 rfl 1 rfl ?_
    refine V_iload dX9_when_38 0 rfl ?_
    refine M_callVq (As := [.int (thA (thW X s m (inR e (v_ne (x_A X)))))]) (st := []) dX9_when_40 lv_X9_69 ⟨by decide, by decide⟩ ⟨rfl, rfl⟩ rfl (ci := 6) hx.1 rfl rfl (Nat.le_of_ble_eq_true rfl) ((show CQ g mX9_refuse [.ref 0, .int (thA (thW X s m (inR e (v_ne (x_A X)))))] S iv12 lw _ from by rw [hk0]; exact t_refuse hx hX2 (j := k0) (thW_lt hk0))) (fun w40 iv40 lw40 q40 => ?_)
    obtain ⟨rfl, e1, hXr, hOr⟩ := q40
    subst e1
    refine V_iret dX9_when_43 ⟨rfl, rfl⟩ (Nat.zero_le _) (Nat.zero_le _) ?_
    subst hQ
    exact ⟨_, _, _, rfl, rfl, OP.thk hk0 hXr hO hOr⟩
  · have hW : thW X s m (inR e (v_ne (x_A X))) = none := thA_0.mp h19
    have hWn := thW_none hW
    have hXh := hH hW
    have hPP := hWn.1.2.2.2
    have ce := iN_eq (k := e) (by omega)
    have de := iN_i (k := e) (by omega)
    refine M_at (lv2 := [(4, .int (thA (thW X s m (inR e (v_ne (x_A X)))))), (0, .ref (0)), (1, .int (s)), (2, .int (m)), (3, .int (nI (iN e)))]) (st2 := []) ?_ (by rw [← ce]) rfl rfl rfl
    refine V_aload_n (i := 0) dX9_when_22 rfl 1 rfl ?_
    refine M_getR dX9_when_23 lf_X9_10 rfl hx.1 hx.2.1.1 ?_
    refine V_aload_n (i := 0) dX9_when_26 rfl 1 rfl ?_
    refine M_getR dX9_when_27 lf_X9_43 rfl hx.1 hx.2.2.2.2.2.1.1 ?_
    refine V_iload_n (i := 3) dX9_when_30 rfl 4 rfl ?_
    refine M_callSq (As := [.ref (1), .ref (47), .int (nI (iN e))]) (st := []) dX9_when_31 ls_X9_368 ⟨by decide, by decide⟩ ⟨rfl, rfl⟩ rfl (Nat.le_of_ble_eq_true rfl) (t_whenSure hx.2.1.2 hA2 hx.2.2.2.2.2.1.2 (by omega) hXh (e := iN e) (by omega)) (fun w31 iv31 lw31 q31 => ?_)
    obtain ⟨rfl, e1, hO31⟩ := q31
    subst e1
    refine V_goto (tgt := 43) dX9_when_34 rfl ?_
    refine V_iret dX9_when_43 ⟨rfl, rfl⟩ (Nat.zero_le _) (Nat.zero_le _) ?_
    subst hQ
    exact ⟨_, _, _, rfl, rfl, OP.thr hW hX (hO.tr hO31)⟩
