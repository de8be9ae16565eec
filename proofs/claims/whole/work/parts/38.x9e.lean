/-! what is asked of the class: hearings told by a shelf -/
def UHp (T : Sv) (i : Nat) : Bool := !decide (ntQ (T.2.2 i) ∨ (T.2.2 i).toInt = 9)
def thW (X : Xs) (s m : Int32) (P : Prop) [Decidable P] : Option Nat :=
  if ¬ (inR s 8 ∧ 0 ≤ m.toInt ∧ m.toInt ≤ 8 ∧ P) then some 0 else if ¬ rowQ (x_T X (iN s)) then some (whyJ (x_T X (iN s))) else if ¬ m.toInt ≤ (x_T X (iN s)).2.1 then some 0 else if ¬ ffO (UHp (x_T X (iN s))) (iN m) = none then some 3 else none
def thA (o : Option Nat) : Int32 := match o with
  | none => nI 0
  | some k => wy k
theorem wy_ne (k : Nat) : ¬ wy k = 0 := by
  match k with
  | 0 => exact (by decide : ¬ (-2 : Int32) = 0)
  | 1 => exact (by decide : ¬ (-3 : Int32) = 0)
  | 2 => exact (by decide : ¬ (-4 : Int32) = 0)
  | 3 => exact (by decide : ¬ (-5 : Int32) = 0)
  | _ + 4 => exact (by decide : ¬ (-6 : Int32) = 0)
theorem thA_0 {o : Option Nat} : thA o = 0 ↔ o = none := by
  cases o with
  | none => exact iff_of_true rfl rfl
  | some k => exact iff_of_false (wy_ne k) (fun z => by cases z)
theorem thW_lt {X : Xs} {s m : Int32} {P : Prop} [Decidable P] {k : Nat} (h : thW X s m P = some k) : k < 5 := by
  unfold thW at h
  split at h
  · cases h; omega
  · split at h
    · cases h; exact whyJ_lt
    · split at h
      · cases h; omega
      · split at h
        · cases h; omega
        · cases h
theorem ffO_all {p : Nat → Bool} {n : Nat} (h : ffO p n = none) : ∀ i, i < n → p i = false := fun i hi => by
  unfold ffO at h
  by_cases e : fstTo p n < n
  · rw [if_pos e] at h; cases h
  · exact fst_lt n i (by have := fstTo_le p n; omega)
theorem ffO_lt {p : Nat → Bool} {n : Nat} : ∀ k, ffO p n = some k → k < n := fun k h => by
  unfold ffO at h
  split at h
  · cases h; assumption
  · cases h
theorem uh_he {T : Sv} {n : Nat} (h : ffO (UHp T) n = none) : ∀ i, i < n → heQ (T.2.2 i) := fun i hi => by
  have h2 : (!decide (ntQ (T.2.2 i) ∨ (T.2.2 i).toInt = 9)) = false := ffO_all h i hi
  rw [Bool.not_eq_false'] at h2
  exact of_decide_eq_true h2
set_option maxRecDepth 20000 in
theorem t_takeHearing_in {g : Ev} {S : St} {iv : IV} {lw : LW} (hx : IsX S) {X : Xs} (hX : CX iv lw X) {j : Nat} (hj : j < 8) {P : Prop} [Decidable P] {r : Int32} (hr : r = bI P) {zo : Int32} {o : Bool} (hz : zo = bI (o = true)) {m : Int32} : CQ g mX9_takeHearing [.ref (0), .int (nI j), .int (m), .int (zo), .int (r)] S iv lw (fun w iv2 lw2 => w = .int (thA (thW X (nI j) m P)) ∧ lw = lw2 ∧ (thW X (nI j) m P = none → XH iv2 47 (hOf (x_T X (iN (nI j))) (iN m) o)) ∧ Off 47 2 iv iv2) := by
  refine CT_ofQ rfl (by decide) (Nat.le_of_ble_eq_true rfl) (lv := [(0, .ref (0)), (1, .int (nI j)), (2, .int (m)), (3, .int (zo)), (4, .int (r))]) rfl (fun Q hQ => ?_)
  have hA := hX.1
  have hnc := hA.ok.nc
  have hne := hA.ok.ne
  have hnm := hA.ok.nm
  have hTj := hX.2.2.2.1 j hj
  have hjn : iN (nI j) = j := iN_nI (by omega)
  have h8 := in8 hj
  have hk := hTj.1.1
  have hk2 := hTj.1.2.1
  have hk3 := hTj.1.2.2
  refine V_aload_n (i := 0) dX9_takeHearing_0 rfl 0 rfl ?_
  refine V_iload_n (i := 1) dX9_takeHearing_1 rfl 1 rfl ?_
  refine M_callVp (As := [.int (nI j)]) (st := []) dX9_takeHearing_2 lv_X9_65 ⟨by decide, by decide⟩ ⟨rfl, rfl⟩ rfl (ci := 6) hx.1 rfl rfl (Nat.le_of_ble_eq_true rfl) (t_shelfAt_in hx hj) ?_
  refine V_astore (lv2 := [(5, .ref (29 + 2 * j)), (0, .ref (0)), (1, .int (nI j)), (2, .int (m)), (3, .int (zo)), (4, .int (r))]) dX9_takeHearing_5 (by decide) rfl ?_
  refine V_aload dX9_takeHearing_7 0 rfl ?_
  refine V_ifnull dX9_takeHearing_9 ?_
  refine V_iload_n (i := 2) dX9_takeHearing_12 rfl 3 rfl ?_
  refine V_if_lt (tgt := 27) dX9_takeHearing_13 rfl (fun h13 => ?_) (fun h13 => ?_)
  · have h13 : m.toInt < 0 := by have q := i_neg.mp h13; exact q
    refine V_bipush (v := (-2)) dX9_takeHearing_27 rfl ?_
    refine V_iret dX9_takeHearing_29 ⟨rfl, rfl⟩ (Nat.zero_le _) (Nat.zero_le _) ?_
    subst hQ
    have hW : thW X (nI j) m P = some 0 := by unfold thW; rw [hjn, if_pos (fun z => by have := z.2; omega)]
    exact ⟨_, _, _, rfl, rfl, by rw [hW]; rfl, rfl, fun z => (by rw [hW] at z; cases z), Off.rf⟩
  · have h13 : ¬ m.toInt < 0 := fun r => h13 (i_neg.mpr (by exact r))
    refine V_iload_n (i := 2) dX9_takeHearing_16 rfl 3 rfl ?_
    refine V_bipush (v := nI 8) dX9_takeHearing_17 rfl ?_
    refine V_icmp_gt (tgt := 27) dX9_takeHearing_19 rfl (fun h19 => ?_) (fun h19 => ?_)
    · have h19 : (8 : Int) < m.toInt := by have q := Int32.lt_iff_toInt_lt.mp h19; rw [nI_toInt (n := 8) (by omega)] at q; exact q
      refine V_bipush (v := (-2)) dX9_takeHearing_27 rfl ?_
      refine V_iret dX9_takeHearing_29 ⟨rfl, rfl⟩ (Nat.zero_le _) (Nat.zero_le _) ?_
      subst hQ
      have hW : thW X (nI j) m P = some 0 := by unfold thW; rw [hjn, if_pos (fun z => by have := z.2; omega)]
      exact ⟨_, _, _, rfl, rfl, by rw [hW]; rfl, rfl, fun z => (by rw [hW] at z; cases z), Off.rf⟩
    · have h19 : ¬ (8 : Int) < m.toInt := fun r => h19 (Int32.lt_iff_toInt_lt.mpr (by rw [nI_toInt (n := 8) (by omega)]; exact r))
      refine V_iload dX9_takeHearing_22 5 rfl ?_
      refine V_if_ne (tgt := 30) dX9_takeHearing_24 rfl (fun h24 => ?_) (fun h24 => ?_)
      · have h24 : P := bI_ne.mp (by rw [← hr]; exact h24)
        refine V_aload dX9_takeHearing_30 0 rfl ?_
        refine M_callVp (As := []) (st := []) dX9_takeHearing_32 lv_X9_77 ⟨by decide, by decide⟩ ⟨rfl, rfl⟩ rfl (ci := 4) (sh_ok hx hj).1 rfl rfl (Nat.le_of_ble_eq_true rfl) (t_whyNoRow (sh_ok hx hj) hTj) ?_
        refine V_istore (lv2 := [(6, .int (whyV (x_T X j))), (5, .ref (29 + 2 * j)), (0, .ref (0)), (1, .int (nI j)), (2, .int (m)), (3, .int (zo)), (4, .int (r))]) dX9_takeHearing_35 (by decide) rfl ?_
        refine V_iload dX9_takeHearing_37 0 rfl ?_
        refine V_if_eq (tgt := 45) dX9_takeHearing_39 rfl (fun h39 => ?_) (fun h39 => ?_)
        · have hrw : rowQ (x_T X j) := whyV_0.mp h39
          refine V_iload_n (i := 2) dX9_takeHearing_45 rfl 4 rfl ?_
          refine V_aload dX9_takeHearing_46 1 rfl ?_
          refine M_getI (x := nI (x_T X j).2.1) dX9_takeHearing_48 lf_X9_146 rfl (sh_ok hx hj).1 (hTj.2.2.1) ?_
          refine V_icmp_le (tgt := 57) dX9_takeHearing_51 rfl (fun h51 => ?_) (fun h51 => ?_)
          · have h51 : m.toInt ≤ ((x_T X j).2.1 : Int) := by have q := Int32.le_iff_toInt_le.mp h51; rw [nI_toInt (n := (x_T X j).2.1) (by omega)] at q; exact q
            have cm := iN_eq (k := m) (by omega)
            have dm := iN_i (k := m) (by omega)
            refine M_at (lv2 := [(6, .int (whyV (x_T X j))), (5, .ref (29 + 2 * j)), (0, .ref (0)), (1, .int (nI j)), (2, .int (nI (iN m))), (3, .int (zo)), (4, .int (r))]) (st2 := []) ?_ (by rw [← cm]) rfl rfl rfl
            refine V_aload dX9_takeHearing_57 1 rfl ?_
            refine V_iload_n (i := 2) dX9_takeHearing_59 rfl 4 rfl ?_
            refine M_callVp (As := [.int (nI (iN m))]) (st := []) dX9_takeHearing_60 lv_X9_365 ⟨by decide, by decide⟩ ⟨rfl, rfl⟩ rfl (ci := 4) (sh_ok hx hj).1 rfl rfl (Nat.le_of_ble_eq_true rfl) (t_firstUnheard (sh_ok hx hj) hTj (m := iN m) hrw (by omega)) ?_
            refine V_iconst (v := (-1)) dX9_takeHearing_63 rfl ?_
            refine V_icmp_eq (tgt := 70) dX9_takeHearing_64 rfl (fun h64 => ?_) (fun h64 => ?_)
            · have h64 : ffO (UHp (x_T X j)) (iN m) = none := (oI_m1 ffO_lt (by omega)).mp h64
              refine V_aload_n (i := 0) dX9_takeHearing_70 rfl 2 rfl ?_
              refine M_getR dX9_takeHearing_71 lf_X9_43 rfl hx.1 hx.2.2.2.2.2.1.1 ?_
              refine V_aload dX9_takeHearing_74 1 rfl ?_
              refine V_iload_n (i := 2) dX9_takeHearing_76 rfl 4 rfl ?_
              refine V_iload_n (i := 3) dX9_takeHearing_77 rfl 5 rfl ?_
              refine M_callVn (As := [.ref (29 + 2 * j), .int (nI (iN m)), .int (zo)]) (st := []) dX9_takeHearing_78 lv_X9_403 ⟨by decide, by decide⟩ ⟨rfl, rfl⟩ rfl (ci := 2) hx.2.2.2.2.2.1.2.1 rfl rfl (Nat.le_of_ble_eq_true rfl) (t_takeShelf hx.2.2.2.2.2.1.2 (sh_ok hx hj) hTj (by omega) (m := iN m) hrw (by omega) (by omega) (uh_he h64) hz) (fun iv78 lw78 q78 => ?_)
              obtain ⟨e1, hXh, hO⟩ := q78
              subst e1
              refine V_iconst (v := nI 0) dX9_takeHearing_81 rfl ?_
              refine V_iret dX9_takeHearing_82 ⟨rfl, rfl⟩ (Nat.zero_le _) (Nat.zero_le _) ?_
              subst hQ
              have hW : thW X (nI j) m P = none := by unfold thW; rw [hjn, if_neg (fun z => z ⟨h8, by omega, by omega, h24⟩), if_neg (fun z => z hrw), if_neg (by omega), if_neg (fun z => z h64)]
              exact ⟨_, _, _, rfl, rfl, by rw [hW]; rfl, rfl, fun _ => (by rw [hjn]; exact hXh), hO⟩
            · have h64 : ¬ ffO (UHp (x_T X j)) (iN m) = none := fun z => h64 ((oI_m1 ffO_lt (by omega)).mpr z)
              refine V_bipush (v := (-5)) dX9_takeHearing_67 rfl ?_
              refine V_iret dX9_takeHearing_69 ⟨rfl, rfl⟩ (Nat.zero_le _) (Nat.zero_le _) ?_
              subst hQ
              have hW : thW X (nI j) m P = some 3 := by unfold thW; rw [hjn, if_neg (fun z => z ⟨h8, by omega, by omega, h24⟩), if_neg (fun z => z hrw), if_neg (by omega), if_pos h64]
              exact ⟨_, _, _, rfl, rfl, by rw [hW]; rfl, rfl, fun z => (by rw [hW] at z; cases z), Off.rf⟩
          · have h51 : ¬ m.toInt ≤ ((x_T X j).2.1 : Int) := fun r => h51 (Int32.le_iff_toInt_le.mpr (by rw [nI_toInt (n := (x_T X j).2.1) (by omega)]; exact r))
            refine V_bipush (v := (-2)) dX9_takeHearing_54 rfl ?_
            refine V_iret dX9_takeHearing_56 ⟨rfl, rfl⟩ (Nat.zero_le _) (Nat.zero_le _) ?_
            subst hQ
            have hW : thW X (nI j) m P = some 0 := by unfold thW; rw [hjn, if_neg (fun z => z ⟨h8, by omega, by omega, h24⟩), if_neg (fun z => z hrw), if_pos (by omega)]
            exact ⟨_, _, _, rfl, rfl, by rw [hW]; rfl, rfl, fun z => (by rw [hW] at z; cases z), Off.rf⟩
        · have hrw : ¬ rowQ (x_T X j) := fun z => h39 (whyV_0.mpr z)
          refine V_iload dX9_takeHearing_42 0 rfl ?_
          refine V_iret dX9_takeHearing_44 ⟨rfl, rfl⟩ (Nat.zero_le _) (Nat.zero_le _) ?_
          subst hQ
          have hW : thW X (nI j) m P = some (whyJ (x_T X j)) := by unfold thW; rw [hjn, if_neg (fun z => z ⟨h8, by omega, by omega, h24⟩), if_pos hrw]
          exact ⟨_, _, _, rfl, rfl, by rw [hW]; exact congrArg Value.int (whyV_w hrw), rfl, fun z => (by rw [hW] at z; cases z), Off.rf⟩
      · have h24 : ¬ P := bI_eq0.mp (by rw [← hr]; exact h24)
        refine V_bipush (v := (-2)) dX9_takeHearing_27 rfl ?_
        refine V_iret dX9_takeHearing_29 ⟨rfl, rfl⟩ (Nat.zero_le _) (Nat.zero_le _) ?_
        subst hQ
        have hW : thW X (nI j) m P = some 0 := by unfold thW; rw [hjn, if_pos (fun z => h24 z.2.2.2)]
        exact ⟨_, _, _, rfl, rfl, by rw [hW]; rfl, rfl, fun z => (by rw [hW] at z; cases z), Off.rf⟩
set_option maxRecDepth 20000 in
theorem t_takeHearing_no {g : Ev} {S : St} {iv : IV} {lw : LW} (hx : IsX S) {X : Xs} (hX : CX iv lw X) {s : Int32} (hs : ¬ inR s 8) {P : Prop} [Decidable P] {r : Int32} (hr : r = bI P) {zo : Int32} {o : Bool} (hz : zo = bI (o = true)) {m : Int32} : CQ g mX9_takeHearing [.ref (0), .int (s), .int (m), .int (zo), .int (r)] S iv lw (fun w iv2 lw2 => w = .int (thA (thW X (s) m P)) ∧ lw = lw2 ∧ (thW X (s) m P = none → XH iv2 47 (hOf (x_T X (iN (s))) (iN m) o)) ∧ Off 47 2 iv iv2) := by
  refine CT_ofQ rfl (by decide) (Nat.le_of_ble_eq_true rfl) (lv := [(0, .ref (0)), (1, .int (s)), (2, .int (m)), (3, .int (zo)), (4, .int (r))]) rfl (fun Q hQ => ?_)
  have hA := hX.1
  have hnc := hA.ok.nc
  have hne := hA.ok.ne
  have hnm := hA.ok.nm
  refine V_aload_n (i := 0) dX9_takeHearing_0 rfl 0 rfl ?_
  refine V_iload_n (i := 1) dX9_takeHearing_1 rfl 1 rfl ?_
  refine M_callVp (As := [.int (s)]) (st := []) dX9_takeHearing_2 lv_X9_65 ⟨by decide, by decide⟩ ⟨rfl, rfl⟩ rfl (ci := 6) hx.1 rfl rfl (Nat.le_of_ble_eq_true rfl) (t_shelfAt_no hx hs) ?_
  refine V_astoreN (lv2 := [(5, .null), (0, .ref (0)), (1, .int (s)), (2, .int (m)), (3, .int (zo)), (4, .int (r))]) dX9_takeHearing_5 (by decide) rfl ?_
  refine V_aloadN dX9_takeHearing_7 0 rfl ?_
  refine V_ifnullN (tgt := 27) dX9_takeHearing_9 rfl ?_
  refine V_bipush (v := (-2)) dX9_takeHearing_27 rfl ?_
  refine V_iret dX9_takeHearing_29 ⟨rfl, rfl⟩ (Nat.zero_le _) (Nat.zero_le _) ?_
  subst hQ
  have hW : thW X s m P = some 0 := by unfold thW; rw [if_pos (fun z => hs z.1)]
  exact ⟨_, _, _, rfl, rfl, by rw [hW]; rfl, rfl, fun z => (by rw [hW] at z; cases z), Off.rf⟩
theorem t_takeHearing {g : Ev} {S : St} {iv : IV} {lw : LW} (hx : IsX S) {X : Xs} (hX : CX iv lw X) {s : Int32} {P : Prop} [Decidable P] {r : Int32} (hr : r = bI P) {zo : Int32} {o : Bool} (hz : zo = bI (o = true)) {m : Int32} : CQ g mX9_takeHearing [.ref (0), .int (s), .int (m), .int (zo), .int (r)] S iv lw (fun w iv2 lw2 => w = .int (thA (thW X (s) m P)) ∧ lw = lw2 ∧ (thW X (s) m P = none → XH iv2 47 (hOf (x_T X (iN (s))) (iN m) o)) ∧ Off 47 2 iv iv2) := by
  by_cases hs : inR s 8
  · obtain ⟨j, hj, rfl⟩ := (inR_nI (by omega)).mp hs
    exact t_takeHearing_in hx hX hj hr hz
  · exact t_takeHearing_no hx hX hs hr hz
