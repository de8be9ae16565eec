/-! the reference: hearings, second part -/
theorem nxB_6 {V : Cv} {m e c : Nat} (h : ¬ m < v_sz V c) : nxB V m e c = 6 := if_neg h
theorem nxB_5 {V : Cv} {m e c : Nat} (h : m < v_sz V c) (h2 : noteBy V c e m = 9) : nxB V m e c = 5 := by unfold nxB; rw [if_pos h, if_pos h2]
theorem nxB_n {V : Cv} {m e c : Nat} (h : m < v_sz V c) (h2 : ¬ noteBy V c e m = 9) : nxB V m e c = noteBy V c e m := by unfold nxB; rw [if_pos h, if_neg h2]
theorem shl1 {k q : Nat} (hk : k < 32) (e : q = k) : nI 1 <<< (nI k &&& 31) = nI (2 ^ q) := by subst e; rw [nI_shl hk, Nat.one_mul]
theorem cnt_max {q : Nat → Bool} {a b : Nat} : cntTo (fun i => decide (¬ (i < a ∧ i < b)) || q i) (max a b) = (a - b) + (b - a) + cntTo q (min a b) := by
  have h1 : ∀ n, n ≤ min a b → cntTo (fun i => decide (¬ (i < a ∧ i < b)) || q i) n = cntTo q n := fun n hn => cntTo_congr n (fun i hi => by rw [decide_eq_false (fun z => z ⟨by omega, by omega⟩), Bool.false_or])
  have h2 : ∀ k, cntTo (fun i => decide (¬ (i < a ∧ i < b)) || q i) (min a b + k) = cntTo q (min a b) + k := by
    intro k
    induction k with
    | zero => exact h1 _ (Nat.le_refl _)
    | succ k ih =>
      show cntTo (fun i => decide (¬ (i < a ∧ i < b)) || q i) (min a b + k + 1) = _
      rw [cntTo_s, ih, decide_eq_true (show ¬ (min a b + k < a ∧ min a b + k < b) by omega), Bool.true_or, if_pos rfl]
      omega
  have h3 := h2 (max a b - min a b)
  rw [show min a b + (max a b - min a b) = max a b by omega] at h3
  rw [h3]
  omega
theorem pD_t1 {a b i : Nat} {q : Bool} (h : ¬ (i < a ∧ i < b)) : (decide (¬ (i < a ∧ i < b)) || q) = true := by rw [decide_eq_true h]; rfl
theorem pD_t2 {p : Bool} {x y : Nat} (h : ¬ x = 9) (h2 : ¬ x = y) : (p || (!decide (x = 9) && !decide (x = y))) = true := by rw [decide_eq_false h, decide_eq_false h2]; cases p <;> rfl
theorem pD_f {a b i x y : Nat} (h : i < a ∧ i < b) (h2 : x = 9 ∨ x = y) : (decide (¬ (i < a ∧ i < b)) || (!decide (x = 9) && !decide (x = y))) = false := by
  rw [decide_eq_false (fun z => z h)]
  rcases h2 with h2 | h2
  · rw [decide_eq_true h2]; simp
  · rw [decide_eq_true h2]; simp
def difP (V : Cv) (H : Hv) (c i : Nat) : Bool := decide (¬ (i < v_sz V c ∧ i < H.1)) || (!decide (H.2.2 i = 9) && !decide (H.2.2 i = v_nt V c i))
theorem difP_is {V : Cv} {H : Hv} {c : Nat} : cntTo (difP V H c) (max (v_sz V c) H.1) = difV V H c := by unfold difP difV; exact cnt_max
theorem lN_div {a b : Nat} (ha : a < 2 ^ 31) (hb : b < 2 ^ 31) : lN a / lN b = lN (a / b) := (Int64.ofNat_div (by omega) (by omega)).symm
theorem lN_32 (a : Nat) : (lN a).toInt32 = nI a := Int64.toInt32_ofNat'
theorem n64w {k : Nat} (h : k < 2 ^ 31) : (nI k).toInt64 = lN k := by
  apply Int64.toInt_inj.mp
  rw [i64, nI_toInt (by omega), lN_toInt (by omega)]
theorem MP.v {S : St} {b : Nat} {iv iv2 : IV} {lw lw2 : LW} {r : Ans} {w w2 : Value} (h : MP S b iv lw r w iv2 lw2) (e : w = w2) : MP S b iv lw r w2 iv2 lw2 := e ▸ h
/-- what counting behind finds -/
def kbO (V : Cv) (c e : Nat) : Option Nat := if behind V c e ≤ v_sz V c + 1 then some (behind V c e) else none
theorem kb_at {V : Cv} {c e j : Nat} (hj : j ≤ v_sz V c) (h : ∀ k, k < j → alone V (hearOf V c e k false) e c = false) (h2 : alone V (hearOf V c e j false) e c = true) : kbO V c e = some j := by
  have hf : fstTo (fun n => alone V (hearOf V c e n false) e c) (v_sz V c + 1) = j := fstTo_at _ (by omega) h h2
  have hb : behind V c e = j := by unfold behind; rw [hf, if_pos hj]
  unfold kbO
  rw [hb, if_pos (by omega)]
theorem kb_over {V : Cv} {c e : Nat} (h : ∀ k, k < v_sz V c + 1 → alone V (hearOf V c e k false) e c = false) (h2 : alone V (hearOf V c e (v_sz V c) true) e c = true) : kbO V c e = some (v_sz V c + 1) := by
  have hf : fstTo (fun n => alone V (hearOf V c e n false) e c) (v_sz V c + 1) = v_sz V c + 1 := fstTo_none _ h
  have hb : behind V c e = v_sz V c + 1 := by unfold behind; rw [hf, if_neg (by omega), if_pos h2]
  unfold kbO
  rw [hb, if_pos (by omega)]
theorem kb_no {V : Cv} {c e : Nat} (h : ∀ k, k < v_sz V c + 1 → alone V (hearOf V c e k false) e c = false) (h2 : ¬ alone V (hearOf V c e (v_sz V c) true) e c = true) : kbO V c e = none := by
  have hf : fstTo (fun n => alone V (hearOf V c e n false) e c) (v_sz V c + 1) = v_sz V c + 1 := fstTo_none _ h
  have hb : behind V c e = v_sz V c + 2 := by unfold behind; rw [hf, if_neg (by omega), if_neg h2]
  unfold kbO
  rw [hb, if_neg (by omega)]
theorem kb_v {V : Cv} {c e k : Nat} (h : kbO V c e = some k) : behind V c e = k := by
  unfold kbO at h
  split at h
  · cases h; rfl
  · cases h
theorem kb_n {V : Cv} {c e : Nat} (h : kbO V c e = none) : behind V c e = v_sz V c + 2 := by
  unfold kbO at h
  split at h
  · cases h
  · have := behind_le V c e; omega
theorem msum_le7 {V : Cv} {e : Nat} (h : VOK V) (m : Nat) (hm : m ≤ v_nc V) : sumTo (fun c => v_us V c * behind V c e) m ≤ 12 * 990 := by
  have h0 := h.nc
  have h1 : sumTo (fun c => v_us V c * behind V c e) m ≤ m * 990 := sumTo_le m (fun i hi => by
    have h2 := h.us (c := i) (by omega)
    have h3 := h.sz (c := i) (by omega)
    have h4 := behind_le V i e
    exact Nat.le_trans (Nat.mul_le_mul h2 (show behind V i e ≤ 10 by omega)) (by omega))
  have h4 : m * 990 ≤ 12 * 990 := Nat.mul_le_mul_right _ (by omega)
  exact Nat.le_trans h1 h4
theorem usum_pos {V : Cv} (h : VOK V) : ∀ n, 0 < n → n ≤ v_nc V → 0 < sumTo (v_us V) n
  | 0, h0, _ => absurd h0 (by omega)
  | n + 1, _, hn => by
    have := h.us1 (c := n) (by omega)
    show 0 < sumTo (v_us V) n + v_us V n
    omega
theorem usum_le7 {V : Cv} (h : VOK V) (n : Nat) (hn : n ≤ v_nc V) : sumTo (v_us V) n ≤ 1188 := by
  have h0 := h.nc
  have h1 : sumTo (v_us V) n ≤ n * 99 := sumTo_le n (fun i hi => h.us (by omega))
  have : n * 99 ≤ 12 * 99 := Nat.mul_le_mul_right _ (by omega)
  omega
/-- the uses of those that fit, the first n -/
abbrev uT (V : Cv) (H : Hv) (e : Nat) (n : Nat) : Nat := sumTo (fun c => if fitB V H e c = true then v_us V c else 0) n
abbrev wT (V : Cv) (H : Hv) (c e : Nat) (n : Nat) : Nat := sumTo (fun k => if (!decide (k = c) && fitB V H e k) = true then worth V k else 0) n
theorem bh_some {f : Nat → Nat} : ∀ {n : Nat}, 0 < n → bestHi f n ≠ none
  | 0, h => absurd h (by omega)
  | n + 1, _ => by
    unfold bestHi
    split
    · exact fun z => by cases z
    · split <;> exact fun z => by cases z
theorem risk_0 {V : Cv} {c e : Nat} (h : usF V (hearOf V c e (v_sz V c) true) e = 0) : riskV V c e = 0 := by unfold riskV; rw [if_neg (by omega)]
theorem risk_1 {V : Cv} {c e : Nat} (h : 0 < usF V (hearOf V c e (v_sz V c) true) e) : riskV V c e = wT V (hearOf V c e (v_sz V c) true) c e (v_nc V) / uT V (hearOf V c e (v_sz V c) true) e (v_nc V) := by unfold riskV; rw [if_pos h]; rfl
set_option maxRecDepth 20000 in
theorem q_next {g : Ev} {S : St} {iv : IV} {lw : LW} {b : Nat} (hs : SS S b) {X : Xs} (hX : MX S iv lw b X) (hk : XOK X) {s m : Int32} {e : Int32} : CQ g mX10_next [.ref (b), .int (s), .int (m), .int (e)] S iv lw (fun w iv2 lw2 => MP S b iv lw (o_next X s m e) w iv2 lw2) := by
  refine CT_ofQ rfl (by decide) (Nat.le_of_ble_eq_true rfl) (lv := [(0, .ref (b)), (1, .int (s)), (2, .int (m)), (3, .int (e))]) rfl (fun Q hQ => ?_)
  have hb := hs.1
  have hA := hX.1
  have hv := hk.1
  have hnc := hv.nc
  have hne := hv.ne
  have hnm := hv.nm
  refine V_aload_n (i := 0) dX10_next_0 rfl 0 rfl ?_
  refine V_iload_n (i := 1) dX10_next_1 rfl 1 rfl ?_
  refine V_iload_n (i := 2) dX10_next_2 rfl 2 rfl ?_
  refine V_iconst (v := nI 0) dX10_next_3 rfl ?_
  refine V_aload_n (i := 0) dX10_next_4 rfl 0 rfl ?_
  refine V_iload_n (i := 3) dX10_next_5 rfl 3 rfl ?_
  refine M_callVp (As := [.int (e)]) (st := [.int (nI 0), .int (m), .int (s), .ref (b)]) dX10_next_6 lv_X10_122 ⟨by decide, by decide⟩ ⟨rfl, rfl⟩ rfl (ci := 7) hb.1 rfl rfl (Nat.le_of_ble_eq_true rfl) (r_isEar hb hA hv) ?_
  refine M_callVq (As := [.int (s), .int (m), .int (nI 0), .int (bI (inR e (v_ne (x_A X))))]) (st := []) dX10_next_9 lv_X10_272 ⟨by decide, by decide⟩ ⟨rfl, rfl⟩ rfl (ci := 7) hb.1 rfl rfl (Nat.le_of_ble_eq_true rfl) (r_noHearing hs hX hk (s := s) (m := m) (P := inR e (v_ne (x_A X))) (rfl) ((bI_f (show ¬ false = true by decide)).symm)) (fun w9 iv9 lw9 q9 => ?_)
  obtain ⟨rfl, hN0, hN1⟩ := q9
  refine V_istore (lv2 := [(4, .int (thA (thW X s m (inR e (v_ne (x_A X)))))), (0, .ref (b)), (1, .int (s)), (2, .int (m)), (3, .int (e))]) dX10_next_12 (by decide) rfl ?_
  refine V_iload dX10_next_14 0 rfl ?_
  refine V_if_eq (tgt := 22) dX10_next_16 rfl (fun h16 => ?_) (fun h16 => ?_)
  · have hW : thW X s m (inR e (v_ne (x_A X))) = none := thA_0.mp h16
    have hWn := thW_none hW
    obtain ⟨hM, hHh, hL⟩ := hN0 hW
    have hA2 := hA.ma hv hM
    have hPP := hWn.1.2.2.2
    have hm3 := hWn.1.2
    have cm := iN_eq (k := m) (by omega)
    have ce := iN_eq (k := e) (by omega)
    have dm := iN_i (k := m) (by omega)
    have de := iN_i (k := e) (by omega)
    refine M_at (lv2 := [(4, .int (thA (thW X s m (inR e (v_ne (x_A X)))))), (0, .ref (b)), (1, .int (s)), (2, .int (nI (iN m))), (3, .int (nI (iN e)))]) (st2 := []) ?_ (by rw [← cm, ← ce]) rfl rfl rfl
    refine V_iconst (v := nI 0) dX10_next_22 rfl ?_
    refine V_istore (lv2 := [(5, .int (nI 0)), (4, .int (thA (thW X s m (inR e (v_ne (x_A X)))))), (0, .ref (b)), (1, .int (s)), (2, .int (nI (iN m))), (3, .int (nI (iN e)))]) dX10_next_23 (by decide) rfl ?_
    refine V_iconst (v := nI 0) dX10_next_25 rfl ?_
    refine V_istore (lv2 := [(6, .int (nI 0)), (5, .int (nI 0)), (4, .int (thA (thW X s m (inR e (v_ne (x_A X)))))), (0, .ref (b)), (1, .int (s)), (2, .int (nI (iN m))), (3, .int (nI (iN e)))]) dX10_next_26 (by decide) rfl ?_
    have lp28 : ∀ j, j ≤ (v_nc (x_A X)) → VM g mX10_next 28 [(6, .int (nI j)), (5, .int (nI (bitsTo (x_A X) (hrX X s m false) (iN e) j))), (0, .ref (b)), (2, .int (nI (iN m))), (3, .int (nI (iN e)))] [] S iv9 lw9 Q := by
      refine up_ind fun j hj ih28 => ?_
      refine V_iload dX10_next_28 0 rfl ?_
      refine V_aload_n (i := 0) dX10_next_30 rfl 2 rfl ?_
      refine M_getI (x := nI (v_nc (x_A X))) dX10_next_31 lf_X10_88 rfl hb.1 (hA2.nc) ?_
      refine V_icmp_ge (tgt := 99) dX10_next_34 rfl (fun h34 => ?_) (fun h34 => ?_)
      · have h34 : (v_nc (x_A X)) ≤ j := (nI_leI (by omega) (by omega)).mp h34
        refine V_iload dX10_next_99 1 rfl ?_
        refine V_iret dX10_next_101 ⟨rfl, rfl⟩ (Nat.zero_le _) (Nat.zero_le _) ?_
        subst hQ
        obtain rfl : j = v_nc (x_A X) := by omega
        exact ⟨_, _, _, rfl, rfl, MP.thr hW hX hk hM hL⟩
      · have h34 : ¬ (v_nc (x_A X)) ≤ j := fun q => h34 ((nI_leI (by omega) (by omega)).mpr q)
        refine V_aload_n (i := 0) dX10_next_37 rfl 2 rfl ?_
        refine V_iload dX10_next_38 0 rfl ?_
        refine V_iload_n (i := 3) dX10_next_40 rfl 4 rfl ?_
        refine M_callVp (As := [.int (nI j), .int (nI (iN e))]) (st := []) dX10_next_41 lv_X10_265 ⟨by decide, by decide⟩ ⟨rfl, rfl⟩ rfl (ci := 7) hb.1 rfl rfl (Nat.le_of_ble_eq_true rfl) (r_fitsHearing hb hA2 hv hHh (c := j) (e := iN e) (by omega) (by omega)) ?_
        refine V_if_eq (tgt := 93) dX10_next_44 rfl (fun h44 => ?_) (fun h44 => ?_)
        · have h44 : ¬ (fitB (x_A X) (hrX X s m false) (iN e) j = true) := bI_eq0.mp h44
          refine V_iinc (v := nI (j + 1)) (lv2 := [(6, .int (nI (j + 1))), (5, .int (nI (bitsTo (x_A X) (hrX X s m false) (iN e) j))), (0, .ref (b)), (2, .int (nI (iN m))), (3, .int (nI (iN e)))]) dX10_next_93 0 rfl (nI_inc _) (by decide) rfl ?_
          refine V_goto (tgt := 28) dX10_next_96 rfl ?_
          refine V_sub [0, 1, 2, 3, 4] rfl ?_
          exact M_at (ih28 (by omega)) (by rw [bitsTo_f h44]; rfl) rfl (rfl) (rfl)
        · have h44 : fitB (x_A X) (hrX X s m false) (iN e) j = true := bI_ne.mp h44
          refine V_iload_n (i := 2) dX10_next_47 rfl 3 rfl ?_
          refine V_aload_n (i := 0) dX10_next_48 rfl 2 rfl ?_
          refine M_getR dX10_next_49 lf_X10_42 rfl hb.1 hb.2.2.2.2.2.2.2.2.2.2.1.1 ?_
          refine V_iload dX10_next_52 0 rfl ?_
          refine M_ialdn (j := j) (x := nI (v_sz (x_A X) j)) dX10_next_54 hb.2.2.2.2.2.2.2.2.2.2.1.2 (by decide) (by omega) (hA2.sz (c := j) (by omega)) ?_
          have hs8 := hv.sz (c := j) (by omega)
          refine V_icmp_ge (tgt := 69) dX10_next_55 rfl (fun h55 => ?_) (fun h55 => ?_)
          · have h55 : (v_sz (x_A X) j) ≤ (iN m) := (nI_leI (by omega) (by omega)).mp h55
            refine V_bipush (v := nI 6) dX10_next_69 rfl ?_
            refine V_istore (lv2 := [(7, .int (nI 6)), (6, .int (nI j)), (5, .int (nI (bitsTo (x_A X) (hrX X s m false) (iN e) j))), (0, .ref (b)), (2, .int (nI (iN m))), (3, .int (nI (iN e)))]) dX10_next_71 (by decide) rfl ?_
            refine V_iload dX10_next_73 2 rfl ?_
            refine V_iconst (v := nI 1) dX10_next_75 rfl ?_
            refine V_iload dX10_next_76 0 rfl ?_
            refine V_bipush (v := nI 9) dX10_next_78 rfl ?_
            refine V_icmp_ne (tgt := 87) dX10_next_80 rfl (fun _ => ?_) (fun q => absurd q (by decide))
            refine V_iload dX10_next_87 0 rfl ?_
            refine V_ishl dX10_next_89 ?_
            refine M_top (x2 := nI (2 ^ nxB (x_A X) (iN m) (iN e) j)) (shl1 (by omega) (nxB_6 (by omega))) ?_
            refine V_ior dX10_next_90 ?_
            refine M_top (x2 := nI (bitsTo (x_A X) (hrX X s m false) (iN e) j ||| 2 ^ nxB (x_A X) (iN m) (iN e) j)) (nI_or _ _) ?_
            refine V_istore (lv2 := [(5, .int (nI (bitsTo (x_A X) (hrX X s m false) (iN e) j ||| 2 ^ nxB (x_A X) (iN m) (iN e) j))), (7, .int (nI 6)), (6, .int (nI j)), (0, .ref (b)), (2, .int (nI (iN m))), (3, .int (nI (iN e)))]) dX10_next_91 (by decide) rfl ?_
            refine V_iinc (v := nI (j + 1)) (lv2 := [(6, .int (nI (j + 1))), (5, .int (nI (bitsTo (x_A X) (hrX X s m false) (iN e) j ||| 2 ^ nxB (x_A X) (iN m) (iN e) j))), (7, .int (nI 6)), (0, .ref (b)), (2, .int (nI (iN m))), (3, .int (nI (iN e)))]) dX10_next_93 2 rfl (nI_inc _) (by decide) rfl ?_
            refine V_goto (tgt := 28) dX10_next_96 rfl ?_
            refine V_sub [0, 1, 3, 4, 5] rfl ?_
            exact M_at (ih28 (by omega)) (by rw [bitsTo_t h44]; rfl) rfl (rfl) (rfl)
          · have h55 : ¬ (v_sz (x_A X) j) ≤ (iN m) := fun q => h55 ((nI_leI (by omega) (by omega)).mpr q)
            refine V_aload_n (i := 0) dX10_next_58 rfl 2 rfl ?_
            refine V_iload dX10_next_59 0 rfl ?_
            refine V_iload_n (i := 3) dX10_next_61 rfl 4 rfl ?_
            refine V_iload_n (i := 2) dX10_next_62 rfl 3 rfl ?_
            refine M_callVp (As := [.int (nI j), .int (nI (iN e)), .int (nI (iN m))]) (st := []) dX10_next_63 lv_X10_254 ⟨by decide, by decide⟩ ⟨rfl, rfl⟩ rfl (ci := 7) hb.1 rfl rfl (Nat.le_of_ble_eq_true rfl) (r_hears hb hA2 hv (c := j) (e := iN e) (i := iN m) (by omega) (by omega) (by omega)) ?_
            refine V_goto (tgt := 71) dX10_next_66 rfl ?_
            refine V_istore (lv2 := [(7, .int (nI (noteBy (x_A X) j (iN e) (iN m)))), (6, .int (nI j)), (5, .int (nI (bitsTo (x_A X) (hrX X s m false) (iN e) j))), (0, .ref (b)), (2, .int (nI (iN m))), (3, .int (nI (iN e)))]) dX10_next_71 (by decide) rfl ?_
            refine V_iload dX10_next_73 2 rfl ?_
            refine V_iconst (v := nI 1) dX10_next_75 rfl ?_
            refine V_iload dX10_next_76 0 rfl ?_
            refine V_bipush (v := nI 9) dX10_next_78 rfl ?_
            have hn9 := noteBy_le (e := iN e) hv (c := j) (i := iN m) (by omega) (by omega)
            refine V_icmp_ne (tgt := 87) dX10_next_80 rfl (fun h80 => ?_) (fun h80 => ?_)
            · have h80 : ¬ (noteBy (x_A X) j (iN e) (iN m)) = 9 := fun q => h80 ((nI_eq (by omega) (by omega)).mpr q)
              refine V_iload dX10_next_87 0 rfl ?_
              refine V_ishl dX10_next_89 ?_
              refine M_top (x2 := nI (2 ^ nxB (x_A X) (iN m) (iN e) j)) (shl1 (by omega) (nxB_n (by omega) h80)) ?_
              refine V_ior dX10_next_90 ?_
              refine M_top (x2 := nI (bitsTo (x_A X) (hrX X s m false) (iN e) j ||| 2 ^ nxB (x_A X) (iN m) (iN e) j)) (nI_or _ _) ?_
              refine V_istore (lv2 := [(5, .int (nI (bitsTo (x_A X) (hrX X s m false) (iN e) j ||| 2 ^ nxB (x_A X) (iN m) (iN e) j))), (7, .int (nI (noteBy (x_A X) j (iN e) (iN m)))), (6, .int (nI j)), (0, .ref (b)), (2, .int (nI (iN m))), (3, .int (nI (iN e)))]) dX10_next_91 (by decide) rfl ?_
              refine V_iinc (v := nI (j + 1)) (lv2 := [(6, .int (nI (j + 1))), (5, .int (nI (bitsTo (x_A X) (hrX X s m false) (iN e) j ||| 2 ^ nxB (x_A X) (iN m) (iN e) j))), (7, .int (nI (noteBy (x_A X) j (iN e) (iN m)))), (0, .ref (b)), (2, .int (nI (iN m))), (3, .int (nI (iN e)))]) dX10_next_93 2 rfl (nI_inc _) (by decide) rfl ?_
              refine V_goto (tgt := 28) dX10_next_96 rfl ?_
              refine V_sub [0, 1, 3, 4, 5] rfl ?_
              exact M_at (ih28 (by omega)) (by rw [bitsTo_t h44]; rfl) rfl (rfl) (rfl)
            · have h80 : (noteBy (x_A X) j (iN e) (iN m)) = 9 := (nI_eq (by omega) (by omega)).mp h80
              refine V_iconst (v := nI 5) dX10_next_83 rfl ?_
              refine V_goto (tgt := 89) dX10_next_84 rfl ?_
              refine V_ishl dX10_next_89 ?_
              refine M_top (x2 := nI (2 ^ nxB (x_A X) (iN m) (iN e) j)) (shl1 (by omega) (nxB_5 (by omega) h80)) ?_
              refine V_ior dX10_next_90 ?_
              refine M_top (x2 := nI (bitsTo (x_A X) (hrX X s m false) (iN e) j ||| 2 ^ nxB (x_A X) (iN m) (iN e) j)) (nI_or _ _) ?_
              refine V_istore (lv2 := [(5, .int (nI (bitsTo (x_A X) (hrX X s m false) (iN e) j ||| 2 ^ nxB (x_A X) (iN m) (iN e) j))), (7, .int (nI (noteBy (x_A X) j (iN e) (iN m)))), (6, .int (nI j)), (0, .ref (b)), (2, .int (nI (iN m))), (3, .int (nI (iN e)))]) dX10_next_91 (by decide) rfl ?_
              refine V_iinc (v := nI (j + 1)) (lv2 := [(6, .int (nI (j + 1))), (5, .int (nI (bitsTo (x_A X) (hrX X s m false) (iN e) j ||| 2 ^ nxB (x_A X) (iN m) (iN e) j))), (7, .int (nI (noteBy (x_A X) j (iN e) (iN m)))), (0, .ref (b)), (2, .int (nI (iN m))), (3, .int (nI (iN e)))]) dX10_next_93 2 rfl (nI_inc _) (by decide) rfl ?_
              refine V_goto (tgt := 28) dX10_next_96 rfl ?_
              refine V_sub [0, 1, 3, 4, 5] rfl ?_
              exact M_at (ih28 (by omega)) (by rw [bitsTo_t h44]; rfl) rfl (rfl) (rfl)
    refine V_sub [0, 1, 3, 5, 6] rfl ?_
    exact M_at (lp28 0 (Nat.zero_le _)) (rfl) rfl (rfl) (rfl)
  · obtain ⟨k0, hk0⟩ := Option.ne_none_iff_exists'.mp (fun z => h16 (thA_0.mpr z))
    obtain ⟨rfl, hXr, hOr⟩ := hN1 _ hk0
    refine V_iload dX10_next_19 0 rfl ?_
    refine V_iret dX10_next_21 ⟨rfl, rfl⟩ (Nat.zero_le _) (Nat.zero_le _) ?_
    subst hQ
    exact ⟨_, _, _, rfl, rfl, MP.thk hk0 hXr hOr⟩
set_option maxRecDepth 20000 in
theorem q_when {g : Ev} {S : St} {iv : IV} {lw : LW} {b : Nat} (hs : SS S b) {X : Xs} (hX : MX S iv lw b X) (hk : XOK X) {s m : Int32} {e : Int32} : CQ g mX10_when [.ref (b), .int (s), .int (m), .int (e)] S iv lw (fun w iv2 lw2 => MP S b iv lw (o_when X s m e) w iv2 lw2) := by
  refine CT_ofQ rfl (by decide) (Nat.le_of_ble_eq_true rfl) (lv := [(0, .ref (b)), (1, .int (s)), (2, .int (m)), (3, .int (e))]) rfl (fun Q hQ => ?_)
  have hb := hs.1
  have hA := hX.1
  have hv := hk.1
  have hnc := hv.nc
  have hne := hv.ne
  have hnm := hv.nm
  refine V_aload_n (i := 0) dX10_when_0 rfl 0 rfl ?_
  refine V_iload_n (i := 1) dX10_when_1 rfl 1 rfl ?_
  refine V_iload_n (i := 2) dX10_when_2 rfl 2 rfl ?_
  refine V_iconst (v := nI 0) dX10_when_3 rfl ?_
  refine V_aload_n (i := 0) dX10_when_4 rfl 0 rfl ?_
  refine V_iload_n (i := 3) dX10_when_5 rfl 3 rfl ?_
  refine M_callVp (As := [.int (e)]) (st := [.int (nI 0), .int (m), .int (s), .ref (b)]) dX10_when_6 lv_X10_122 ⟨by decide, by decide⟩ ⟨rfl, rfl⟩ rfl (ci := 7) hb.1 rfl rfl (Nat.le_of_ble_eq_true rfl) (r_isEar hb hA hv) ?_
  refine M_callVq (As := [.int (s), .int (m), .int (nI 0), .int (bI (inR e (v_ne (x_A X))))]) (st := []) dX10_when_9 lv_X10_272 ⟨by decide, by decide⟩ ⟨rfl, rfl⟩ rfl (ci := 7) hb.1 rfl rfl (Nat.le_of_ble_eq_true rfl) (r_noHearing hs hX hk (s := s) (m := m) (P := inR e (v_ne (x_A X))) (rfl) ((bI_f (show ¬ false = true by decide)).symm)) (fun w9 iv9 lw9 q9 => ?_)
  obtain ⟨rfl, hN0, hN1⟩ := q9
  refine V_istore (lv2 := [(4, .int (thA (thW X s m (inR e (v_ne (x_A X)))))), (0, .ref (b)), (1, .int (s)), (2, .int (m)), (3, .int (e))]) dX10_when_12 (by decide) rfl ?_
  refine V_iload dX10_when_14 0 rfl ?_
  refine V_if_eq (tgt := 22) dX10_when_16 rfl (fun h16 => ?_) (fun h16 => ?_)
  · have hW : thW X s m (inR e (v_ne (x_A X))) = none := thA_0.mp h16
    have hWn := thW_none hW
    obtain ⟨hM, hHh, hL⟩ := hN0 hW
    have hA2 := hA.ma hv hM
    have hPP := hWn.1.2.2.2
    have hm3 := hWn.1.2
    have cm := iN_eq (k := m) (by omega)
    have ce := iN_eq (k := e) (by omega)
    have dm := iN_i (k := m) (by omega)
    have de := iN_i (k := e) (by omega)
    refine M_at (lv2 := [(4, .int (thA (thW X s m (inR e (v_ne (x_A X)))))), (0, .ref (b)), (1, .int (s)), (2, .int (nI (iN m))), (3, .int (nI (iN e)))]) (st2 := []) ?_ (by rw [← cm, ← ce]) rfl rfl rfl
    refine V_iconst (v := nI 0) dX10_when_22 rfl ?_
    refine V_istore (lv2 := [(5, .int (nI 0)), (4, .int (thA (thW X s m (inR e (v_ne (x_A X)))))), (0, .ref (b)), (1, .int (s)), (2, .int (nI (iN m))), (3, .int (nI (iN e)))]) dX10_when_23 (by decide) rfl ?_
    have lp25 : ∀ j, j ≤ (iN m + 1) → ∀ iv3 : IV, MA b iv iv3 → iv3 b 34 = bI (false = true) → (∀ k, k < j → sureB (x_A X) (hrX X s m false) (iN e) k = false) → VM g mX10_when 25 [(5, .int (nI j)), (0, .ref (b)), (2, .int (nI (iN m))), (3, .int (nI (iN e)))] [] S iv3 lw9 Q := by
      refine up_ind fun j hj ih25 => ?_
      intro iv3 hM3 h34 hal
      have hsu := hv.su
      refine V_iload dX10_when_25 0 rfl ?_
      refine V_iload_n (i := 2) dX10_when_27 rfl 2 rfl ?_
      refine V_icmp_gt (tgt := 73) dX10_when_28 rfl (fun h28 => ?_) (fun h28 => ?_)
      · have h28 : (iN m) < j := (nI_ltI (by omega) (by omega)).mp h28
        refine V_iconst (v := (-1)) dX10_when_73 rfl ?_
        refine V_iret dX10_when_74 ⟨rfl, rfl⟩ (Nat.zero_le _) (Nat.zero_le _) ?_
        subst hQ
        have hk9 : fstTo (sureB (x_A X) (hrX X s m false) (iN e)) (iN m + 1) = iN m + 1 := fstTo_none _ (fun i hi => hal i (by omega))
        have hw9 : whenV (x_A X) (hrX X s m false) (iN e) = none := by unfold whenV; show (if fstTo _ (iN m + 1) ≤ iN m then some (fstTo _ (iN m + 1)) else none) = _; rw [hk9, if_neg (by omega)]
        exact ⟨_, _, _, rfl, rfl, MP.v (MP.thr hW hX hk hM3 hL) (show Value.int (oI (whenV (x_A X) (hrX X s m false) (iN e))) = _ by rw [hw9]; rfl)⟩
      · have h28 : ¬ (iN m) < j := fun q => h28 ((nI_ltI (by omega) (by omega)).mpr q)
        refine V_aload_n (i := 0) dX10_when_31 rfl 1 rfl ?_
        refine V_iload dX10_when_32 0 rfl ?_
        refine M_putI dX10_when_34 lf_X10_262 rfl hb.1 ⟨rfl, rfl⟩ ?_
        have hM4 : MA b iv (up2 iv3 b 33 (nI j)) := hM3.up (by omega)
        have hA4 := hA.ma hv hM4
        have hH4 : MH (up2 iv3 b 33 (nI j)) lw9 b (j, false, (hrX X s m false).2.2) := ⟨⟨by show j ≤ 8; omega, fun i hi => hHh.1.2 i (by have : i < j := hi; show i < iN m; omega)⟩, up2_s, (up2_k (by decide)).trans h34, fun i hi => hHh.2.2.2 i (by have : i < j := hi; show i < iN m; omega)⟩
        refine V_aload_n (i := 0) dX10_when_37 rfl 1 rfl ?_
        refine V_iload_n (i := 3) dX10_when_38 rfl 3 rfl ?_
        refine M_callVp (As := [.int (nI (iN e))]) (st := []) dX10_when_39 lv_X10_279 ⟨by decide, by decide⟩ ⟨rfl, rfl⟩ rfl (ci := 7) hb.1 rfl rfl (Nat.le_of_ble_eq_true rfl) (r_guessOf hb hA4 hv hH4 (e := iN e) (by omega)) ?_
        refine V_istore (lv2 := [(6, .int (oI (gsTo (x_A X) (j, false, (hrX X s m false).2.2) (iN e) (v_nc (x_A X))))), (5, .int (nI j)), (0, .ref (b)), (2, .int (nI (iN m))), (3, .int (nI (iN e)))]) dX10_when_42 (by decide) rfl ?_
        refine V_iload dX10_when_44 0 rfl ?_
        refine V_iconst (v := (-1)) dX10_when_46 rfl ?_
        refine V_icmp_eq (tgt := 67) dX10_when_47 rfl (fun h47 => ?_) (fun h47 => ?_)
        · have h47 := (oI_m1 (fun k hk => gsTo_lt _ hk) (by omega)).mp h47
          refine V_iinc (v := nI (j + 1)) (lv2 := [(5, .int (nI (j + 1))), (6, .int (oI (gsTo (x_A X) (j, false, (hrX X s m false).2.2) (iN e) (v_nc (x_A X))))), (0, .ref (b)), (2, .int (nI (iN m))), (3, .int (nI (iN e)))]) dX10_when_67 1 rfl (nI_inc _) (by decide) rfl ?_
          refine V_goto (tgt := 25) dX10_when_70 rfl ?_
          refine V_sub [0, 2, 3, 4] rfl ?_
          exact M_at (ih25 (by omega) (up2 iv3 b 33 (nI j)) hM4 ((up2_k (by decide)).trans h34) (fun k hk => (Nat.lt_or_ge k j).elim (hal k) (fun z => by have e9 : k = j := (by omega); rw [e9]; exact sureB_none h47))) (rfl) rfl (rfl) (rfl)
        · obtain ⟨k0, hk0⟩ := Option.ne_none_iff_exists'.mp (fun z => h47 ((oI_m1 (fun k hk => gsTo_lt _ hk) (by omega)).mpr z))
          refine M_at (lv2 := [(6, .int (nI k0)), (5, .int (nI j)), (0, .ref (b)), (2, .int (nI (iN m))), (3, .int (nI (iN e)))]) (st2 := []) ?_ (by rw [hk0]; rfl) rfl rfl rfl
          refine V_aload_n (i := 0) dX10_when_50 rfl 2 rfl ?_
          refine V_iload dX10_when_51 0 rfl ?_
          refine V_iload_n (i := 3) dX10_when_53 rfl 4 rfl ?_
          refine M_callVp (As := [.int (nI k0), .int (nI (iN e))]) (st := []) dX10_when_54 lv_X10_276 ⟨by decide, by decide⟩ ⟨rfl, rfl⟩ rfl (ci := 7) hb.1 rfl rfl (Nat.le_of_ble_eq_true rfl) (r_likelyOf hb hA4 hv hH4 (c := k0) (e := iN e) (gsTo_lt _ hk0) (by omega)) ?_
          refine V_aload_n (i := 0) dX10_when_57 rfl 2 rfl ?_
          refine M_getI (x := nI (v_su (x_A X))) dX10_when_58 lf_X10_63 rfl hb.1 (hA4.su) ?_
          have hl := like_le (H := (j, false, (hrX X s m false).2.2)) (e := iN e) hv (gsTo_lt _ hk0)
          refine V_icmp_lt (tgt := 67) dX10_when_61 rfl (fun h61 => ?_) (fun h61 => ?_)
          · have h61 : (likeOf (x_A X) (j, false, (hrX X s m false).2.2) (iN e) k0) < (v_su (x_A X)) := (nI_ltI (by omega) (by omega)).mp h61
            refine V_iinc (v := nI (j + 1)) (lv2 := [(5, .int (nI (j + 1))), (6, .int (nI k0)), (0, .ref (b)), (2, .int (nI (iN m))), (3, .int (nI (iN e)))]) dX10_when_67 1 rfl (nI_inc _) (by decide) rfl ?_
            refine V_goto (tgt := 25) dX10_when_70 rfl ?_
            refine V_sub [0, 2, 3, 4] rfl ?_
            exact M_at (ih25 (by omega) (up2 iv3 b 33 (nI j)) hM4 ((up2_k (by decide)).trans h34) (fun k hk => (Nat.lt_or_ge k j).elim (hal k) (fun z => by have e9 : k = j := (by omega); rw [e9]; exact (sureB_some hk0).trans (decide_eq_false (by omega))))) (rfl) rfl (rfl) (rfl)
          · have h61 : ¬ (likeOf (x_A X) (j, false, (hrX X s m false).2.2) (iN e) k0) < (v_su (x_A X)) := fun q => h61 ((nI_ltI (by omega) (by omega)).mpr q)
            refine V_iload dX10_when_64 1 rfl ?_
            refine V_iret dX10_when_66 ⟨rfl, rfl⟩ (Nat.zero_le _) (Nat.zero_le _) ?_
            subst hQ
            have hk9 : fstTo (sureB (x_A X) (hrX X s m false) (iN e)) (iN m + 1) = j := fstTo_at _ (by omega) hal ((sureB_some hk0).trans (decide_eq_true (by omega)))
            have hw9 : whenV (x_A X) (hrX X s m false) (iN e) = some j := by unfold whenV; show (if fstTo _ (iN m + 1) ≤ iN m then some (fstTo _ (iN m + 1)) else none) = _; rw [hk9, if_pos (by omega)]
            exact ⟨_, _, _, rfl, rfl, MP.v (MP.thr hW hX hk hM4 hL) (show Value.int (oI (whenV (x_A X) (hrX X s m false) (iN e))) = _ by rw [hw9]; rfl)⟩
    refine V_sub [0, 2, 4, 5] rfl ?_
    exact M_at (lp25 0 (Nat.zero_le _) iv9 hM hHh.2.2.1 (fun k hk => absurd hk (by omega))) (rfl) rfl (rfl) (rfl)
  · obtain ⟨k0, hk0⟩ := Option.ne_none_iff_exists'.mp (fun z => h16 (thA_0.mpr z))
    obtain ⟨rfl, hXr, hOr⟩ := hN1 _ hk0
    refine V_iload dX10_when_19 0 rfl ?_
    refine V_iret dX10_when_21 ⟨rfl, rfl⟩ (Nat.zero_le _) (Nat.zero_le _) ?_
    subst hQ
    exact ⟨_, _, _, rfl, rfl, MP.thk hk0 hXr hOr⟩
set_option maxRecDepth 20000 in
theorem r_differs {g : Ev} {S : St} {iv : IV} {lw : LW} {b : Nat} (hb : IsMod S b) {V : Cv} (hV : MC iv b V) (hv : VOK V) {H : Hv} (hH : MH iv lw b H) {c : Nat} (hc : c < v_nc V) : CP g mX10_differs [.ref (b), .int (nI c)] S iv lw (.int (nI (difV V H c))) := by
  refine CT_ofQ rfl (by decide) (Nat.le_of_ble_eq_true rfl) (lv := [(0, .ref (b)), (1, .int (nI c))]) rfl (fun Q hQ => ?_)
  have hnc := hv.nc
  have hne := hv.ne
  have hnm := hv.nm
  have hs8 := hv.sz hc
  have h8 := hH.1.1
  refine V_aload_n (i := 0) dX10_differs_0 rfl 0 rfl ?_
  refine M_getR dX10_differs_1 lf_X10_42 rfl hb.1 hb.2.2.2.2.2.2.2.2.2.2.1.1 ?_
  refine V_iload_n (i := 1) dX10_differs_4 rfl 1 rfl ?_
  refine M_ialdn (j := c) (x := nI (v_sz V c)) dX10_differs_5 hb.2.2.2.2.2.2.2.2.2.2.1.2 (by decide) (by omega) (hV.sz (c := c) (by omega)) ?_
  refine V_aload_n (i := 0) dX10_differs_6 rfl 0 rfl ?_
  refine M_getI (x := nI H.1) dX10_differs_7 lf_X10_262 rfl hb.1 (hH.2.1) ?_
  refine V_icmp_le (tgt := 22) dX10_differs_10 rfl (fun h10 => ?_) (fun h10 => ?_)
  · have h10 : (v_sz V c) ≤ H.1 := (nI_leI (by omega) (by omega)).mp h10
    refine V_aload_n (i := 0) dX10_differs_22 rfl 0 rfl ?_
    refine M_getI (x := nI H.1) dX10_differs_23 lf_X10_262 rfl hb.1 (hH.2.1) ?_
    refine M_top (x2 := nI (max (v_sz V c) H.1)) (by congr 1; omega) ?_
    refine V_istore_n (lv2 := [(2, .int (nI (max (v_sz V c) H.1))), (0, .ref (b)), (1, .int (nI c))]) dX10_differs_26 rfl (by decide) rfl ?_
    refine V_iconst (v := nI 0) dX10_differs_27 rfl ?_
    refine V_istore_n (lv2 := [(3, .int (nI 0)), (2, .int (nI (max (v_sz V c) H.1))), (0, .ref (b)), (1, .int (nI c))]) dX10_differs_28 rfl (by decide) rfl ?_
    refine V_iconst (v := nI 0) dX10_differs_29 rfl ?_
    refine V_istore (lv2 := [(4, .int (nI 0)), (3, .int (nI 0)), (2, .int (nI (max (v_sz V c) H.1))), (0, .ref (b)), (1, .int (nI c))]) dX10_differs_30 (by decide) rfl ?_
    have lp32 : ∀ j, j ≤ (max (v_sz V c) H.1) → VM g mX10_differs 32 [(4, .int (nI j)), (3, .int (nI (cntTo (difP V H c) j))), (2, .int (nI (max (v_sz V c) H.1))), (0, .ref (b)), (1, .int (nI c))] [] S iv lw Q := by
      refine up_ind fun j hj ih32 => ?_
      refine V_iload dX10_differs_32 0 rfl ?_
      refine V_iload_n (i := 2) dX10_differs_34 rfl 2 rfl ?_
      refine V_icmp_ge (tgt := 119) dX10_differs_35 rfl (fun h35 => ?_) (fun h35 => ?_)
      · have h35 : (max (v_sz V c) H.1) ≤ j := (nI_leI (by omega) (by omega)).mp h35
        refine V_iload_n (i := 3) dX10_differs_119 rfl 1 rfl ?_
        refine V_iret dX10_differs_120 ⟨rfl, rfl⟩ (Nat.zero_le _) (Nat.zero_le _) ?_
        subst hQ
        exact ⟨by rw [show j = max (v_sz V c) H.1 by omega, difP_is], rfl⟩
      · have h35 : ¬ (max (v_sz V c) H.1) ≤ j := fun q => h35 ((nI_leI (by omega) (by omega)).mpr q)
        refine V_iload dX10_differs_38 0 rfl ?_
        refine V_aload_n (i := 0) dX10_differs_40 rfl 3 rfl ?_
        refine M_getI (x := nI H.1) dX10_differs_41 lf_X10_262 rfl hb.1 (hH.2.1) ?_
        refine V_icmp_ge (tgt := 58) dX10_differs_44 rfl (fun h44 => ?_) (fun h44 => ?_)
        · have h44 : H.1 ≤ j := (nI_leI (by omega) (by omega)).mp h44
          refine V_iconst (v := nI 1) dX10_differs_58 rfl ?_
          refine V_goto (tgt := 63) dX10_differs_59 rfl ?_
          refine V_istore (lv2 := [(5, .int (nI 1)), (4, .int (nI j)), (3, .int (nI (cntTo (difP V H c) j))), (2, .int (nI (max (v_sz V c) H.1))), (0, .ref (b)), (1, .int (nI c))]) dX10_differs_63 (by decide) rfl ?_
          refine V_iload_n (i := 3) dX10_differs_65 rfl 2 rfl ?_
          refine V_iload dX10_differs_66 0 rfl ?_
          refine V_if_ne (tgt := 106) dX10_differs_68 rfl (fun _ => ?_) (fun q => absurd q (by decide))
          refine V_iconst (v := nI 1) dX10_differs_106 rfl ?_
          refine V_goto (tgt := 111) dX10_differs_107 rfl ?_
          refine V_iadd dX10_differs_111 ?_
          refine M_top (nI_add _ _) ?_
          refine V_istore_n (lv2 := [(3, .int (nI ((cntTo (difP V H c) j) + 1))), (5, .int (nI 1)), (4, .int (nI j)), (2, .int (nI (max (v_sz V c) H.1))), (0, .ref (b)), (1, .int (nI c))]) dX10_differs_112 rfl (by decide) rfl ?_
          refine V_iinc (v := nI (j + 1)) (lv2 := [(4, .int (nI (j + 1))), (3, .int (nI ((cntTo (difP V H c) j) + 1))), (5, .int (nI 1)), (2, .int (nI (max (v_sz V c) H.1))), (0, .ref (b)), (1, .int (nI c))]) dX10_differs_113 2 rfl (nI_inc _) (by decide) rfl ?_
          refine V_goto (tgt := 32) dX10_differs_116 rfl ?_
          refine V_sub [0, 1, 3, 4, 5] rfl ?_
          exact M_at (ih32 (by omega)) (by rw [cntTo_t (pD_t1 (by omega))]; rfl) rfl (rfl) (rfl)
        · have h44 : ¬ H.1 ≤ j := fun q => h44 ((nI_leI (by omega) (by omega)).mpr q)
          refine V_iload dX10_differs_47 0 rfl ?_
          refine V_aload_n (i := 0) dX10_differs_49 rfl 3 rfl ?_
          refine M_getR dX10_differs_50 lf_X10_42 rfl hb.1 hb.2.2.2.2.2.2.2.2.2.2.1.1 ?_
          refine V_iload_n (i := 1) dX10_differs_53 rfl 4 rfl ?_
          refine M_ialdn (j := c) (x := nI (v_sz V c)) dX10_differs_54 hb.2.2.2.2.2.2.2.2.2.2.1.2 (by decide) (by omega) (hV.sz (c := c) (by omega)) ?_
          refine V_icmp_lt (tgt := 62) dX10_differs_55 rfl (fun h55 => ?_) (fun h55 => ?_)
          · have h55 : j < (v_sz V c) := (nI_ltI (by omega) (by omega)).mp h55
            refine V_iconst (v := nI 0) dX10_differs_62 rfl ?_
            refine V_istore (lv2 := [(5, .int (nI 0)), (4, .int (nI j)), (3, .int (nI (cntTo (difP V H c) j))), (2, .int (nI (max (v_sz V c) H.1))), (0, .ref (b)), (1, .int (nI c))]) dX10_differs_63 (by decide) rfl ?_
            refine V_iload_n (i := 3) dX10_differs_65 rfl 2 rfl ?_
            refine V_iload dX10_differs_66 0 rfl ?_
            refine V_if_ne (tgt := 106) dX10_differs_68 rfl (fun q => absurd (by decide) q) (fun _ => ?_)
            refine V_aload_n (i := 0) dX10_differs_71 rfl 4 rfl ?_
            refine M_getR dX10_differs_72 lf_X10_76 rfl hb.1 hb.2.2.2.2.2.2.2.2.2.2.2.2.2.2.2.2.2.2.1.1 ?_
            refine V_iload dX10_differs_75 1 rfl ?_
            refine M_laldn (j := j) (x := lN (H.2.2 j)) dX10_differs_77 hb.2.2.2.2.2.2.2.2.2.2.2.2.2.2.2.2.2.2.1.2 (by decide) (by omega) (hH.2.2.2 _ (by omega)) ?_
            refine V_ldc2 (v := lN 9) dX10_differs_78 mw_1290 ?_
            have hh9 := hH.1.2 j (by omega)
            have hn4 := hv.nt hc (i := j) (by omega)
            refine V_lcmp dX10_differs_81 ?_
            refine V_if_eq (tgt := 110) dX10_differs_82 rfl (fun h82 => ?_) (fun h82 => ?_)
            · have h82 : ((H.2.2 j) : Int) = (9 : Int) := by have q := lg_eq.mp h82; rw [lN_toInt (n := (H.2.2 j)) (by omega), lN_toInt (n := 9) (by omega)] at q; exact q
              refine V_iconst (v := nI 0) dX10_differs_110 rfl ?_
              refine V_iadd dX10_differs_111 ?_
              refine M_top (nI_add _ _) ?_
              refine V_istore_n (lv2 := [(3, .int (nI ((cntTo (difP V H c) j) + 0))), (5, .int (nI 0)), (4, .int (nI j)), (2, .int (nI (max (v_sz V c) H.1))), (0, .ref (b)), (1, .int (nI c))]) dX10_differs_112 rfl (by decide) rfl ?_
              refine V_iinc (v := nI (j + 1)) (lv2 := [(4, .int (nI (j + 1))), (3, .int (nI ((cntTo (difP V H c) j) + 0))), (5, .int (nI 0)), (2, .int (nI (max (v_sz V c) H.1))), (0, .ref (b)), (1, .int (nI c))]) dX10_differs_113 2 rfl (nI_inc _) (by decide) rfl ?_
              refine V_goto (tgt := 32) dX10_differs_116 rfl ?_
              refine V_sub [0, 1, 3, 4, 5] rfl ?_
              exact M_at (ih32 (by omega)) (by rw [cntTo_f (pD_f (by omega) (by omega))]; rfl) rfl (rfl) (rfl)
            · have h82 : ¬ ((H.2.2 j) : Int) = (9 : Int) := fun r => h82 (lg_eq.mpr (by rw [lN_toInt (n := (H.2.2 j)) (by omega), lN_toInt (n := 9) (by omega)]; exact r))
              refine V_aload_n (i := 0) dX10_differs_85 rfl 4 rfl ?_
              refine M_getR dX10_differs_86 lf_X10_76 rfl hb.1 hb.2.2.2.2.2.2.2.2.2.2.2.2.2.2.2.2.2.2.1.1 ?_
              refine V_iload dX10_differs_89 1 rfl ?_
              refine M_laldn (j := j) (x := lN (H.2.2 j)) dX10_differs_91 hb.2.2.2.2.2.2.2.2.2.2.2.2.2.2.2.2.2.2.1.2 (by decide) (by omega) (hH.2.2.2 _ (by omega)) ?_
              refine V_aload_n (i := 0) dX10_differs_92 rfl 4 rfl ?_
              refine M_getR dX10_differs_93 lf_X10_39 rfl hb.1 hb.2.2.2.2.2.2.2.2.2.1.1 ?_
              refine V_iload_n (i := 1) dX10_differs_96 rfl 5 rfl ?_
              refine M_aaldn (t := 1) (j := c) dX10_differs_97 (by decide) hb.2.2.2.2.2.2.2.2.2.1.2 (by decide) (by omega) ((hb.2.2.2.2.2.2.2.2.2.2.2.2.2.2.2.2.2.2.2.2.2.2.2 c (by omega)).1) ?_
              refine V_iload dX10_differs_98 1 rfl ?_
              refine M_ialdn (j := j) (x := nI (v_nt V c j)) dX10_differs_100 (hb.2.2.2.2.2.2.2.2.2.2.2.2.2.2.2.2.2.2.2.2.2.2.2 c (by omega)).2 (by decide) (by omega) (hV.nt (c := c) (i := j) (by omega) (by omega)) ?_
              refine V_i2l dX10_differs_101 ?_
              refine V_lcmp dX10_differs_102 ?_
              refine V_if_eq (tgt := 110) dX10_differs_103 rfl (fun h103 => ?_) (fun h103 => ?_)
              · have h103 : ((H.2.2 j) : Int) = ((v_nt V c j) : Int) := by have q := lg_eq.mp h103; rw [lN_toInt (n := (H.2.2 j)) (by omega), i64, nI_toInt (n := (v_nt V c j)) (by omega)] at q; exact q
                refine V_iconst (v := nI 0) dX10_differs_110 rfl ?_
                refine V_iadd dX10_differs_111 ?_
                refine M_top (nI_add _ _) ?_
                refine V_istore_n (lv2 := [(3, .int (nI ((cntTo (difP V H c) j) + 0))), (5, .int (nI 0)), (4, .int (nI j)), (2, .int (nI (max (v_sz V c) H.1))), (0, .ref (b)), (1, .int (nI c))]) dX10_differs_112 rfl (by decide) rfl ?_
                refine V_iinc (v := nI (j + 1)) (lv2 := [(4, .int (nI (j + 1))), (3, .int (nI ((cntTo (difP V H c) j) + 0))), (5, .int (nI 0)), (2, .int (nI (max (v_sz V c) H.1))), (0, .ref (b)), (1, .int (nI c))]) dX10_differs_113 2 rfl (nI_inc _) (by decide) rfl ?_
                refine V_goto (tgt := 32) dX10_differs_116 rfl ?_
                refine V_sub [0, 1, 3, 4, 5] rfl ?_
                exact M_at (ih32 (by omega)) (by rw [cntTo_f (pD_f (by omega) (by omega))]; rfl) rfl (rfl) (rfl)
              · have h103 : ¬ ((H.2.2 j) : Int) = ((v_nt V c j) : Int) := fun r => h103 (lg_eq.mpr (by rw [lN_toInt (n := (H.2.2 j)) (by omega), i64, nI_toInt (n := (v_nt V c j)) (by omega)]; exact r))
                refine V_iconst (v := nI 1) dX10_differs_106 rfl ?_
                refine V_goto (tgt := 111) dX10_differs_107 rfl ?_
                refine V_iadd dX10_differs_111 ?_
                refine M_top (nI_add _ _) ?_
                refine V_istore_n (lv2 := [(3, .int (nI ((cntTo (difP V H c) j) + 1))), (5, .int (nI 0)), (4, .int (nI j)), (2, .int (nI (max (v_sz V c) H.1))), (0, .ref (b)), (1, .int (nI c))]) dX10_differs_112 rfl (by decide) rfl ?_
                refine V_iinc (v := nI (j + 1)) (lv2 := [(4, .int (nI (j + 1))), (3, .int (nI ((cntTo (difP V H c) j) + 1))), (5, .int (nI 0)), (2, .int (nI (max (v_sz V c) H.1))), (0, .ref (b)), (1, .int (nI c))]) dX10_differs_113 2 rfl (nI_inc _) (by decide) rfl ?_
                refine V_goto (tgt := 32) dX10_differs_116 rfl ?_
                refine V_sub [0, 1, 3, 4, 5] rfl ?_
                exact M_at (ih32 (by omega)) (by rw [cntTo_t (pD_t2 (by omega) (by omega))]; rfl) rfl (rfl) (rfl)
          · have h55 : ¬ j < (v_sz V c) := fun q => h55 ((nI_ltI (by omega) (by omega)).mpr q)
            refine V_iconst (v := nI 1) dX10_differs_58 rfl ?_
            refine V_goto (tgt := 63) dX10_differs_59 rfl ?_
            refine V_istore (lv2 := [(5, .int (nI 1)), (4, .int (nI j)), (3, .int (nI (cntTo (difP V H c) j))), (2, .int (nI (max (v_sz V c) H.1))), (0, .ref (b)), (1, .int (nI c))]) dX10_differs_63 (by decide) rfl ?_
            refine V_iload_n (i := 3) dX10_differs_65 rfl 2 rfl ?_
            refine V_iload dX10_differs_66 0 rfl ?_
            refine V_if_ne (tgt := 106) dX10_differs_68 rfl (fun _ => ?_) (fun q => absurd q (by decide))
            refine V_iconst (v := nI 1) dX10_differs_106 rfl ?_
            refine V_goto (tgt := 111) dX10_differs_107 rfl ?_
            refine V_iadd dX10_differs_111 ?_
            refine M_top (nI_add _ _) ?_
            refine V_istore_n (lv2 := [(3, .int (nI ((cntTo (difP V H c) j) + 1))), (5, .int (nI 1)), (4, .int (nI j)), (2, .int (nI (max (v_sz V c) H.1))), (0, .ref (b)), (1, .int (nI c))]) dX10_differs_112 rfl (by decide) rfl ?_
            refine V_iinc (v := nI (j + 1)) (lv2 := [(4, .int (nI (j + 1))), (3, .int (nI ((cntTo (difP V H c) j) + 1))), (5, .int (nI 1)), (2, .int (nI (max (v_sz V c) H.1))), (0, .ref (b)), (1, .int (nI c))]) dX10_differs_113 2 rfl (nI_inc _) (by decide) rfl ?_
            refine V_goto (tgt := 32) dX10_differs_116 rfl ?_
            refine V_sub [0, 1, 3, 4, 5] rfl ?_
            exact M_at (ih32 (by omega)) (by rw [cntTo_t (pD_t1 (by omega))]; rfl) rfl (rfl) (rfl)
    refine V_sub [0, 1, 2, 3, 4] rfl ?_
    exact M_at (lp32 0 (Nat.zero_le _)) (rfl) rfl (rfl) (rfl)
  · have h10 : ¬ (v_sz V c) ≤ H.1 := fun q => h10 ((nI_leI (by omega) (by omega)).mpr q)
    refine V_aload_n (i := 0) dX10_differs_13 rfl 0 rfl ?_
    refine M_getR dX10_differs_14 lf_X10_42 rfl hb.1 hb.2.2.2.2.2.2.2.2.2.2.1.1 ?_
    refine V_iload_n (i := 1) dX10_differs_17 rfl 1 rfl ?_
    refine M_ialdn (j := c) (x := nI (v_sz V c)) dX10_differs_18 hb.2.2.2.2.2.2.2.2.2.2.1.2 (by decide) (by omega) (hV.sz (c := c) (by omega)) ?_
    refine M_top (x2 := nI (max (v_sz V c) H.1)) (by congr 1; omega) ?_
    refine V_goto (tgt := 26) dX10_differs_19 rfl ?_
    refine V_istore_n (lv2 := [(2, .int (nI (max (v_sz V c) H.1))), (0, .ref (b)), (1, .int (nI c))]) dX10_differs_26 rfl (by decide) rfl ?_
    refine V_iconst (v := nI 0) dX10_differs_27 rfl ?_
    refine V_istore_n (lv2 := [(3, .int (nI 0)), (2, .int (nI (max (v_sz V c) H.1))), (0, .ref (b)), (1, .int (nI c))]) dX10_differs_28 rfl (by decide) rfl ?_
    refine V_iconst (v := nI 0) dX10_differs_29 rfl ?_
    refine V_istore (lv2 := [(4, .int (nI 0)), (3, .int (nI 0)), (2, .int (nI (max (v_sz V c) H.1))), (0, .ref (b)), (1, .int (nI c))]) dX10_differs_30 (by decide) rfl ?_
    have lp32 : ∀ j, j ≤ (max (v_sz V c) H.1) → VM g mX10_differs 32 [(4, .int (nI j)), (3, .int (nI (cntTo (difP V H c) j))), (2, .int (nI (max (v_sz V c) H.1))), (0, .ref (b)), (1, .int (nI c))] [] S iv lw Q := by
      refine up_ind fun j hj ih32 => ?_
      refine V_iload dX10_differs_32 0 rfl ?_
      refine V_iload_n (i := 2) dX10_differs_34 rfl 2 rfl ?_
      refine V_icmp_ge (tgt := 119) dX10_differs_35 rfl (fun h35 => ?_) (fun h35 => ?_)
      · have h35 : (max (v_sz V c) H.1) ≤ j := (nI_leI (by omega) (by omega)).mp h35
        refine V_iload_n (i := 3) dX10_differs_119 rfl 1 rfl ?_
        refine V_iret dX10_differs_120 ⟨rfl, rfl⟩ (Nat.zero_le _) (Nat.zero_le _) ?_
        subst hQ
        exact ⟨by rw [show j = max (v_sz V c) H.1 by omega, difP_is], rfl⟩
      · have h35 : ¬ (max (v_sz V c) H.1) ≤ j := fun q => h35 ((nI_leI (by omega) (by omega)).mpr q)
        refine V_iload dX10_differs_38 0 rfl ?_
        refine V_aload_n (i := 0) dX10_differs_40 rfl 3 rfl ?_
        refine M_getI (x := nI H.1) dX10_differs_41 lf_X10_262 rfl hb.1 (hH.2.1) ?_
        refine V_icmp_ge (tgt := 58) dX10_differs_44 rfl (fun h44 => ?_) (fun h44 => ?_)
        · have h44 : H.1 ≤ j := (nI_leI (by omega) (by omega)).mp h44
          refine V_iconst (v := nI 1) dX10_differs_58 rfl ?_
          refine V_goto (tgt := 63) dX10_differs_59 rfl ?_
          refine V_istore (lv2 := [(5, .int (nI 1)), (4, .int (nI j)), (3, .int (nI (cntTo (difP V H c) j))), (2, .int (nI (max (v_sz V c) H.1))), (0, .ref (b)), (1, .int (nI c))]) dX10_differs_63 (by decide) rfl ?_
          refine V_iload_n (i := 3) dX10_differs_65 rfl 2 rfl ?_
          refine V_iload dX10_differs_66 0 rfl ?_
          refine V_if_ne (tgt := 106) dX10_differs_68 rfl (fun _ => ?_) (fun q => absurd q (by decide))
          refine V_iconst (v := nI 1) dX10_differs_106 rfl ?_
          refine V_goto (tgt := 111) dX10_differs_107 rfl ?_
          refine V_iadd dX10_differs_111 ?_
          refine M_top (nI_add _ _) ?_
          refine V_istore_n (lv2 := [(3, .int (nI ((cntTo (difP V H c) j) + 1))), (5, .int (nI 1)), (4, .int (nI j)), (2, .int (nI (max (v_sz V c) H.1))), (0, .ref (b)), (1, .int (nI c))]) dX10_differs_112 rfl (by decide) rfl ?_
          refine V_iinc (v := nI (j + 1)) (lv2 := [(4, .int (nI (j + 1))), (3, .int (nI ((cntTo (difP V H c) j) + 1))), (5, .int (nI 1)), (2, .int (nI (max (v_sz V c) H.1))), (0, .ref (b)), (1, .int (nI c))]) dX10_differs_113 2 rfl (nI_inc _) (by decide) rfl ?_
          refine V_goto (tgt := 32) dX10_differs_116 rfl ?_
          refine V_sub [0, 1, 3, 4, 5] rfl ?_
          exact M_at (ih32 (by omega)) (by rw [cntTo_t (pD_t1 (by omega))]; rfl) rfl (rfl) (rfl)
        · have h44 : ¬ H.1 ≤ j := fun q => h44 ((nI_leI (by omega) (by omega)).mpr q)
          refine V_iload dX10_differs_47 0 rfl ?_
          refine V_aload_n (i := 0) dX10_differs_49 rfl 3 rfl ?_
          refine M_getR dX10_differs_50 lf_X10_42 rfl hb.1 hb.2.2.2.2.2.2.2.2.2.2.1.1 ?_
          refine V_iload_n (i := 1) dX10_differs_53 rfl 4 rfl ?_
          refine M_ialdn (j := c) (x := nI (v_sz V c)) dX10_differs_54 hb.2.2.2.2.2.2.2.2.2.2.1.2 (by decide) (by omega) (hV.sz (c := c) (by omega)) ?_
          refine V_icmp_lt (tgt := 62) dX10_differs_55 rfl (fun h55 => ?_) (fun h55 => ?_)
          · have h55 : j < (v_sz V c) := (nI_ltI (by omega) (by omega)).mp h55
            refine V_iconst (v := nI 0) dX10_differs_62 rfl ?_
            refine V_istore (lv2 := [(5, .int (nI 0)), (4, .int (nI j)), (3, .int (nI (cntTo (difP V H c) j))), (2, .int (nI (max (v_sz V c) H.1))), (0, .ref (b)), (1, .int (nI c))]) dX10_differs_63 (by decide) rfl ?_
            refine V_iload_n (i := 3) dX10_differs_65 rfl 2 rfl ?_
            refine V_iload dX10_differs_66 0 rfl ?_
            refine V_if_ne (tgt := 106) dX10_differs_68 rfl (fun q => absurd (by decide) q) (fun _ => ?_)
            refine V_aload_n (i := 0) dX10_differs_71 rfl 4 rfl ?_
            refine M_getR dX10_differs_72 lf_X10_76 rfl hb.1 hb.2.2.2.2.2.2.2.2.2.2.2.2.2.2.2.2.2.2.1.1 ?_
            refine V_iload dX10_differs_75 1 rfl ?_
            refine M_laldn (j := j) (x := lN (H.2.2 j)) dX10_differs_77 hb.2.2.2.2.2.2.2.2.2.2.2.2.2.2.2.2.2.2.1.2 (by decide) (by omega) (hH.2.2.2 _ (by omega)) ?_
            refine V_ldc2 (v := lN 9) dX10_differs_78 mw_1290 ?_
            have hh9 := hH.1.2 j (by omega)
            have hn4 := hv.nt hc (i := j) (by omega)
            refine V_lcmp dX10_differs_81 ?_
            refine V_if_eq (tgt := 110) dX10_differs_82 rfl (fun h82 => ?_) (fun h82 => ?_)
            · have h82 : ((H.2.2 j) : Int) = (9 : Int) := by have q := lg_eq.mp h82; rw [lN_toInt (n := (H.2.2 j)) (by omega), lN_toInt (n := 9) (by omega)] at q; exact q
              refine V_iconst (v := nI 0) dX10_differs_110 rfl ?_
              refine V_iadd dX10_differs_111 ?_
              refine M_top (nI_add _ _) ?_
              refine V_istore_n (lv2 := [(3, .int (nI ((cntTo (difP V H c) j) + 0))), (5, .int (nI 0)), (4, .int (nI j)), (2, .int (nI (max (v_sz V c) H.1))), (0, .ref (b)), (1, .int (nI c))]) dX10_differs_112 rfl (by decide) rfl ?_
              refine V_iinc (v := nI (j + 1)) (lv2 := [(4, .int (nI (j + 1))), (3, .int (nI ((cntTo (difP V H c) j) + 0))), (5, .int (nI 0)), (2, .int (nI (max (v_sz V c) H.1))), (0, .ref (b)), (1, .int (nI c))]) dX10_differs_113 2 rfl (nI_inc _) (by decide) rfl ?_
              refine V_goto (tgt := 32) dX10_differs_116 rfl ?_
              refine V_sub [0, 1, 3, 4, 5] rfl ?_
              exact M_at (ih32 (by omega)) (by rw [cntTo_f (pD_f (by omega) (by omega))]; rfl) rfl (rfl) (rfl)
            · have h82 : ¬ ((H.2.2 j) : Int) = (9 : Int) := fun r => h82 (lg_eq.mpr (by rw [lN_toInt (n := (H.2.2 j)) (by omega), lN_toInt (n := 9) (by omega)]; exact r))
              refine V_aload_n (i := 0) dX10_differs_85 rfl 4 rfl ?_
              refine M_getR dX10_differs_86 lf_X10_76 rfl hb.1 hb.2.2.2.2.2.2.2.2.2.2.2.2.2.2.2.2.2.2.1.1 ?_
              refine V_iload dX10_differs_89 1 rfl ?_
              refine M_laldn (j := j) (x := lN (H.2.2 j)) dX10_differs_91 hb.2.2.2.2.2.2.2.2.2.2.2.2.2.2.2.2.2.2.1.2 (by decide) (by omega) (hH.2.2.2 _ (by omega)) ?_
              refine V_aload_n (i := 0) dX10_differs_92 rfl 4 rfl ?_
              refine M_getR dX10_differs_93 lf_X10_39 rfl hb.1 hb.2.2.2.2.2.2.2.2.2.1.1 ?_
              refine V_iload_n (i := 1) dX10_differs_96 rfl 5 rfl ?_
              refine M_aaldn (t := 1) (j := c) dX10_differs_97 (by decide) hb.2.2.2.2.2.2.2.2.2.1.2 (by decide) (by omega) ((hb.2.2.2.2.2.2.2.2.2.2.2.2.2.2.2.2.2.2.2.2.2.2.2 c (by omega)).1) ?_
              refine V_iload dX10_differs_98 1 rfl ?_
              refine M_ialdn (j := j) (x := nI (v_nt V c j)) dX10_differs_100 (hb.2.2.2.2.2.2.2.2.2.2.2.2.2.2.2.2.2.2.2.2.2.2.2 c (by omega)).2 (by decide) (by omega) (hV.nt (c := c) (i := j) (by omega) (by omega)) ?_
              refine V_i2l dX10_differs_101 ?_
              refine V_lcmp dX10_differs_102 ?_
              refine V_if_eq (tgt := 110) dX10_differs_103 rfl (fun h103 => ?_) (fun h103 => ?_)
              · have h103 : ((H.2.2 j) : Int) = ((v_nt V c j) : Int) := by have q := lg_eq.mp h103; rw [lN_toInt (n := (H.2.2 j)) (by omega), i64, nI_toInt (n := (v_nt V c j)) (by omega)] at q; exact q
                refine V_iconst (v := nI 0) dX10_differs_110 rfl ?_
                refine V_iadd dX10_differs_111 ?_
                refine M_top (nI_add _ _) ?_
                refine V_istore_n (lv2 := [(3, .int (nI ((cntTo (difP V H c) j) + 0))), (5, .int (nI 0)), (4, .int (nI j)), (2, .int (nI (max (v_sz V c) H.1))), (0, .ref (b)), (1, .int (nI c))]) dX10_differs_112 rfl (by decide) rfl ?_
                refine V_iinc (v := nI (j + 1)) (lv2 := [(4, .int (nI (j + 1))), (3, .int (nI ((cntTo (difP V H c) j) + 0))), (5, .int (nI 0)), (2, .int (nI (max (v_sz V c) H.1))), (0, .ref (b)), (1, .int (nI c))]) dX10_differs_113 2 rfl (nI_inc _) (by decide) rfl ?_
                refine V_goto (tgt := 32) dX10_differs_116 rfl ?_
                refine V_sub [0, 1, 3, 4, 5] rfl ?_
                exact M_at (ih32 (by omega)) (by rw [cntTo_f (pD_f (by omega) (by omega))]; rfl) rfl (rfl) (rfl)
              · have h103 : ¬ ((H.2.2 j) : Int) = ((v_nt V c j) : Int) := fun r => h103 (lg_eq.mpr (by rw [lN_toInt (n := (H.2.2 j)) (by omega), i64, nI_toInt (n := (v_nt V c j)) (by omega)]; exact r))
                refine V_iconst (v := nI 1) dX10_differs_106 rfl ?_
                refine V_goto (tgt := 111) dX10_differs_107 rfl ?_
                refine V_iadd dX10_differs_111 ?_
                refine M_top (nI_add _ _) ?_
                refine V_istore_n (lv2 := [(3, .int (nI ((cntTo (difP V H c) j) + 1))), (5, .int (nI 0)), (4, .int (nI j)), (2, .int (nI (max (v_sz V c) H.1))), (0, .ref (b)), (1, .int (nI c))]) dX10_differs_112 rfl (by decide) rfl ?_
                refine V_iinc (v := nI (j + 1)) (lv2 := [(4, .int (nI (j + 1))), (3, .int (nI ((cntTo (difP V H c) j) + 1))), (5, .int (nI 0)), (2, .int (nI (max (v_sz V c) H.1))), (0, .ref (b)), (1, .int (nI c))]) dX10_differs_113 2 rfl (nI_inc _) (by decide) rfl ?_
                refine V_goto (tgt := 32) dX10_differs_116 rfl ?_
                refine V_sub [0, 1, 3, 4, 5] rfl ?_
                exact M_at (ih32 (by omega)) (by rw [cntTo_t (pD_t2 (by omega) (by omega))]; rfl) rfl (rfl) (rfl)
          · have h55 : ¬ j < (v_sz V c) := fun q => h55 ((nI_ltI (by omega) (by omega)).mpr q)
            refine V_iconst (v := nI 1) dX10_differs_58 rfl ?_
            refine V_goto (tgt := 63) dX10_differs_59 rfl ?_
            refine V_istore (lv2 := [(5, .int (nI 1)), (4, .int (nI j)), (3, .int (nI (cntTo (difP V H c) j))), (2, .int (nI (max (v_sz V c) H.1))), (0, .ref (b)), (1, .int (nI c))]) dX10_differs_63 (by decide) rfl ?_
            refine V_iload_n (i := 3) dX10_differs_65 rfl 2 rfl ?_
            refine V_iload dX10_differs_66 0 rfl ?_
            refine V_if_ne (tgt := 106) dX10_differs_68 rfl (fun _ => ?_) (fun q => absurd q (by decide))
            refine V_iconst (v := nI 1) dX10_differs_106 rfl ?_
            refine V_goto (tgt := 111) dX10_differs_107 rfl ?_
            refine V_iadd dX10_differs_111 ?_
            refine M_top (nI_add _ _) ?_
            refine V_istore_n (lv2 := [(3, .int (nI ((cntTo (difP V H c) j) + 1))), (5, .int (nI 1)), (4, .int (nI j)), (2, .int (nI (max (v_sz V c) H.1))), (0, .ref (b)), (1, .int (nI c))]) dX10_differs_112 rfl (by decide) rfl ?_
            refine V_iinc (v := nI (j + 1)) (lv2 := [(4, .int (nI (j + 1))), (3, .int (nI ((cntTo (difP V H c) j) + 1))), (5, .int (nI 1)), (2, .int (nI (max (v_sz V c) H.1))), (0, .ref (b)), (1, .int (nI c))]) dX10_differs_113 2 rfl (nI_inc _) (by decide) rfl ?_
            refine V_goto (tgt := 32) dX10_differs_116 rfl ?_
            refine V_sub [0, 1, 3, 4, 5] rfl ?_
            exact M_at (ih32 (by omega)) (by rw [cntTo_t (pD_t1 (by omega))]; rfl) rfl (rfl) (rfl)
    refine V_sub [0, 1, 2, 3, 4] rfl ?_
    exact M_at (lp32 0 (Nat.zero_le _)) (rfl) rfl (rfl) (rfl)
set_option maxRecDepth 20000 in
theorem r_nearestOf {g : Ev} {S : St} {iv : IV} {lw : LW} {b : Nat} (hb : IsMod S b) {V : Cv} (hV : MC iv b V) (hv : VOK V) {H : Hv} (hH : MH iv lw b H) (h0 : 0 < v_nc V) : CP g mX10_nearestOf [.ref (b)] S iv lw (.int (oI (bestLo (difV V H) (v_nc V)))) := by
  refine CT_ofQ rfl (by decide) (Nat.le_of_ble_eq_true rfl) (lv := [(0, .ref (b))]) rfl (fun Q hQ => ?_)
  have hnc := hv.nc
  have hne := hv.ne
  have hnm := hv.nm
  have h8 := hH.1.1
  refine V_iconst (v := nI 0) dX10_nearestOf_0 rfl ?_
  refine V_istore_n (lv2 := [(1, .int (nI 0)), (0, .ref (b))]) dX10_nearestOf_1 rfl (by decide) rfl ?_
  refine V_iconst (v := nI 1) dX10_nearestOf_2 rfl ?_
  refine V_istore_n (lv2 := [(2, .int (nI 1)), (1, .int (nI 0)), (0, .ref (b))]) dX10_nearestOf_3 rfl (by decide) rfl ?_
  have lp4 : ∀ j, j ≤ (v_nc V) → 1 ≤ j → VM g mX10_nearestOf 4 [(2, .int (nI j)), (1, .int (oI (bestLo (difV V H) j))), (0, .ref (b))] [] S iv lw Q := by
    refine up_ind fun j hj ih4 => ?_
    intro hj1
    obtain ⟨k0, hk0⟩ := Option.ne_none_iff_exists'.mp (bl_some (f := (difV V H)) (show 0 < j by omega))
    have hk1 := bestLo_lt _ hk0
    refine V_iload_n (i := 2) dX10_nearestOf_4 rfl 0 rfl ?_
    refine V_aload_n (i := 0) dX10_nearestOf_5 rfl 2 rfl ?_
    refine M_getI (x := nI (v_nc V)) dX10_nearestOf_6 lf_X10_88 rfl hb.1 (hV.nc) ?_
    refine V_icmp_ge (tgt := 37) dX10_nearestOf_9 rfl (fun h9 => ?_) (fun h9 => ?_)
    · have h9 : (v_nc V) ≤ j := (nI_leI (by omega) (by omega)).mp h9
      refine V_iload_n (i := 1) dX10_nearestOf_37 rfl 1 rfl ?_
      refine V_iret dX10_nearestOf_38 ⟨rfl, rfl⟩ (Nat.zero_le _) (Nat.zero_le _) ?_
      subst hQ
      exact ⟨by rw [show j = v_nc V by omega], rfl⟩
    · have h9 : ¬ (v_nc V) ≤ j := fun q => h9 ((nI_leI (by omega) (by omega)).mpr q)
      refine M_at (lv2 := [(2, .int (nI j)), (1, .int (nI k0)), (0, .ref (b))]) (st2 := []) ?_ (by rw [hk0]; rfl) rfl rfl rfl
      refine V_aload_n (i := 0) dX10_nearestOf_12 rfl 2 rfl ?_
      refine V_iload_n (i := 2) dX10_nearestOf_13 rfl 0 rfl ?_
      refine M_callVp (As := [.int (nI j)]) (st := []) dX10_nearestOf_14 lv_X10_329 ⟨by decide, by decide⟩ ⟨rfl, rfl⟩ rfl (ci := 7) hb.1 rfl rfl (Nat.le_of_ble_eq_true rfl) (r_differs hb hV hv hH (c := j) (by omega)) ?_
      refine V_aload_n (i := 0) dX10_nearestOf_17 rfl 2 rfl ?_
      refine V_iload_n (i := 1) dX10_nearestOf_18 rfl 1 rfl ?_
      refine M_callVp (As := [.int (nI k0)]) (st := [.int (nI (difV V H j))]) dX10_nearestOf_19 lv_X10_329 ⟨by decide, by decide⟩ ⟨rfl, rfl⟩ rfl (ci := 7) hb.1 rfl rfl (Nat.le_of_ble_eq_true rfl) (r_differs hb hV hv hH (c := k0) (by omega)) ?_
      have hb1 := difV_le hv (c := j) (by omega) h8
      have hb2 := difV_le hv (c := k0) (by omega) h8
      refine V_icmp_ge (tgt := 29) dX10_nearestOf_22 rfl (fun h22 => ?_) (fun h22 => ?_)
      · have h22 : (difV V H k0) ≤ (difV V H j) := (nI_leI (by omega) (by omega)).mp h22
        refine V_iload_n (i := 1) dX10_nearestOf_29 rfl 1 rfl ?_
        refine V_istore_n (lv2 := [(1, .int (nI k0)), (2, .int (nI j)), (0, .ref (b))]) dX10_nearestOf_30 rfl (by decide) rfl ?_
        refine V_iinc (v := nI (j + 1)) (lv2 := [(2, .int (nI (j + 1))), (1, .int (nI k0)), (0, .ref (b))]) dX10_nearestOf_31 1 rfl (nI_inc _) (by decide) rfl ?_
        refine V_goto (tgt := 4) dX10_nearestOf_34 rfl ?_
        refine V_sub [0, 1, 2] rfl ?_
        exact M_at (ih4 (by omega) (by omega)) (by rw [bestLo_old (by rw [hk0]; exact fun z => by cases z) (by rw [hk0]; show ¬ difV V H j < difV V H k0; omega), hk0]; rfl) rfl (rfl) (rfl)
      · have h22 : ¬ (difV V H k0) ≤ (difV V H j) := fun q => h22 ((nI_leI (by omega) (by omega)).mpr q)
        refine V_iload_n (i := 2) dX10_nearestOf_25 rfl 0 rfl ?_
        refine V_goto (tgt := 30) dX10_nearestOf_26 rfl ?_
        refine V_istore_n (lv2 := [(1, .int (nI j)), (2, .int (nI j)), (0, .ref (b))]) dX10_nearestOf_30 rfl (by decide) rfl ?_
        refine V_iinc (v := nI (j + 1)) (lv2 := [(2, .int (nI (j + 1))), (1, .int (nI j)), (0, .ref (b))]) dX10_nearestOf_31 1 rfl (nI_inc _) (by decide) rfl ?_
        refine V_goto (tgt := 4) dX10_nearestOf_34 rfl ?_
        refine V_sub [0, 1, 2] rfl ?_
        exact M_at (ih4 (by omega) (by omega)) (by rw [bestLo_new (Or.inr (by rw [hk0]; show difV V H j < difV V H k0; omega))]; rfl) rfl (rfl) (rfl)
  refine V_sub [0, 1, 2] rfl ?_
  exact M_at (lp4 1 (by omega) (Nat.le_refl _)) (rfl) rfl (rfl) (rfl)
set_option maxRecDepth 20000 in
theorem q_nearest {g : Ev} {S : St} {iv : IV} {lw : LW} {b : Nat} (hs : SS S b) {X : Xs} (hX : MX S iv lw b X) (hk : XOK X) {s m : Int32} {what : Int32} : CQ g mX10_nearest [.ref (b), .int (s), .int (m), .int (what)] S iv lw (fun w iv2 lw2 => MP S b iv lw (o_nearest X s m what) w iv2 lw2) := by
  refine CT_ofQ rfl (by decide) (Nat.le_of_ble_eq_true rfl) (lv := [(0, .ref (b)), (1, .int (s)), (2, .int (m)), (3, .int (what))]) rfl (fun Q hQ => ?_)
  have hb := hs.1
  have hA := hX.1
  have hv := hk.1
  have hnc := hv.nc
  have hne := hv.ne
  have hnm := hv.nm
  refine V_aload_n (i := 0) dX10_nearest_0 rfl 0 rfl ?_
  refine V_iload_n (i := 1) dX10_nearest_1 rfl 1 rfl ?_
  refine V_iload_n (i := 2) dX10_nearest_2 rfl 2 rfl ?_
  refine V_iconst (v := nI 0) dX10_nearest_3 rfl ?_
  refine V_iload_n (i := 3) dX10_nearest_4 rfl 3 rfl ?_
  refine V_i2l dX10_nearest_5 ?_
  refine V_lconst (v := lN 0) dX10_nearest_6 rfl ?_
  refine V_lconst (v := lN 1) dX10_nearest_7 rfl ?_
  refine M_callSp (As := [.long ((what).toInt64), .long (lN 0), .long (lN 1)]) (st := [.int (nI 0), .int (m), .int (s), .ref (b)]) dX10_nearest_8 ls_X10_91 ⟨by decide, by decide⟩ ⟨rfl, rfl⟩ rfl (Nat.le_of_ble_eq_true rfl) (r_inK (by decide) (by decide)) ?_
  refine M_callVq (As := [.int (s), .int (m), .int (nI 0), .int (bI ((0 : Int) ≤ what.toInt ∧ what.toInt ≤ 1))]) (st := []) dX10_nearest_11 lv_X10_272 ⟨by decide, by decide⟩ ⟨rfl, rfl⟩ rfl (ci := 7) hb.1 rfl rfl (Nat.le_of_ble_eq_true rfl) (r_noHearing hs hX hk (s := s) (m := m) (P := what.toInt = 0 ∨ what.toInt = 1) (bI_congr (by omega)) ((bI_f (show ¬ false = true by decide)).symm)) (fun w11 iv11 lw11 q11 => ?_)
  obtain ⟨rfl, hN0, hN1⟩ := q11
  refine V_istore (lv2 := [(4, .int (thA (thW X s m (what.toInt = 0 ∨ what.toInt = 1)))), (0, .ref (b)), (1, .int (s)), (2, .int (m)), (3, .int (what))]) dX10_nearest_14 (by decide) rfl ?_
  refine V_iload dX10_nearest_16 0 rfl ?_
  refine V_if_eq (tgt := 24) dX10_nearest_18 rfl (fun h18 => ?_) (fun h18 => ?_)
  · have hW : thW X s m (what.toInt = 0 ∨ what.toInt = 1) = none := thA_0.mp h18
    have hWn := thW_none hW
    obtain ⟨hM, hHh, hL⟩ := hN0 hW
    have hA2 := hA.ma hv hM
    have hX2 := hX.ma hk hM hL
    refine V_aload_n (i := 0) dX10_nearest_24 rfl 1 rfl ?_
    refine M_getI (x := nI (v_nc (x_A X))) dX10_nearest_25 lf_X10_88 rfl hb.1 (hA2.nc) ?_
    refine V_if_ne (tgt := 38) dX10_nearest_28 rfl (fun h28 => ?_) (fun h28 => ?_)
    · have h28 : ¬ (v_nc (x_A X)) = 0 := fun q => h28 ((nI_eq (b := 0) (by omega) (by omega)).mpr q)
      refine V_aload_n (i := 0) dX10_nearest_38 rfl 1 rfl ?_
      refine M_callVp (As := []) (st := []) dX10_nearest_39 lv_X10_332 ⟨by decide, by decide⟩ ⟨rfl, rfl⟩ rfl (ci := 7) hb.1 rfl rfl (Nat.le_of_ble_eq_true rfl) (r_nearestOf hb hA2 hv hHh (by omega)) ?_
      refine V_istore (lv2 := [(5, .int (oI (nrV (x_A X) (hrX X s m true)))), (4, .int (thA (thW X s m (what.toInt = 0 ∨ what.toInt = 1)))), (0, .ref (b)), (1, .int (s)), (2, .int (m)), (3, .int (what))]) dX10_nearest_42 (by decide) rfl ?_
      refine V_iload_n (i := 3) dX10_nearest_44 rfl 5 rfl ?_
      refine V_if_ne (tgt := 53) dX10_nearest_45 rfl (fun h45 => ?_) (fun h45 => ?_)
      · have h45 : ¬ what.toInt = 0 := fun r => h45 (i_eq0.mpr (by exact r))
        obtain ⟨p0, hp0⟩ := Option.ne_none_iff_exists'.mp (show nrV (x_A X) (hrX X s m true) ≠ none by unfold nrV; exact bl_some (by omega))
        have hp1 : p0 < v_nc (x_A X) := bestLo_lt _ hp0
        refine M_at (lv2 := [(5, .int (nI p0)), (4, .int (thA (thW X s m (what.toInt = 0 ∨ what.toInt = 1)))), (0, .ref (b)), (1, .int (s)), (2, .int (m)), (3, .int (what))]) (st2 := []) ?_ (by rw [hp0]; rfl) rfl rfl rfl
        refine V_aload_n (i := 0) dX10_nearest_53 rfl 2 rfl ?_
        refine V_iload dX10_nearest_54 0 rfl ?_
        refine M_callVp (As := [.int (nI p0)]) (st := []) dX10_nearest_56 lv_X10_329 ⟨by decide, by decide⟩ ⟨rfl, rfl⟩ rfl (ci := 7) hb.1 rfl rfl (Nat.le_of_ble_eq_true rfl) (r_differs hb hA2 hv hHh (c := p0) hp1) ?_
        refine V_iret dX10_nearest_59 ⟨rfl, rfl⟩ (Nat.zero_le _) (Nat.zero_le _) ?_
        subst hQ
        exact ⟨_, _, _, rfl, rfl, by unfold o_nearest; rw [hW]; show MP _ _ _ _ (if v_nc (x_A X) = 0 then _ else _) _ _ _; rw [if_neg (by omega), if_neg (by omega), hp0]; exact MP.ma hX hk hM hL⟩
      · have h45 : what.toInt = 0 := by have q := i_eq0.mp h45; exact q
        refine V_iload dX10_nearest_48 0 rfl ?_
        refine V_goto (tgt := 59) dX10_nearest_50 rfl ?_
        refine V_iret dX10_nearest_59 ⟨rfl, rfl⟩ (Nat.zero_le _) (Nat.zero_le _) ?_
        subst hQ
        exact ⟨_, _, _, rfl, rfl, by unfold o_nearest; rw [hW]; show MP _ _ _ _ (if v_nc (x_A X) = 0 then _ else _) _ _ _; rw [if_neg (by omega), if_pos (by omega)]; exact MP.ma hX hk hM hL⟩
    · have h28 : (v_nc (x_A X)) = 0 := (nI_eq (b := 0) (by omega) (by omega)).mp h28
      refine V_aload_n (i := 0) dX10_nearest_31 rfl 1 rfl ?_
      refine V_bipush (v := (-5)) dX10_nearest_32 rfl ?_
      refine M_callVq (As := [.int ((-5))]) (st := []) dX10_nearest_34 lv_X10_107 ⟨by decide, by decide⟩ ⟨rfl, rfl⟩ rfl (ci := 7) hb.1 rfl rfl (Nat.le_of_ble_eq_true rfl) (q_refuse hs hX2 hk (j := 3) (by decide)) (fun w34 iv34 lw34 q34 => ?_)
      obtain ⟨rfl, e1, hXr, hOr⟩ := q34
      subst e1
      refine V_iret dX10_nearest_37 ⟨rfl, rfl⟩ (Nat.zero_le _) (Nat.zero_le _) ?_
      subst hQ
      exact ⟨_, _, _, rfl, rfl, by unfold o_nearest; rw [hW]; show MP _ _ _ _ (if v_nc (x_A X) = 0 then _ else _) _ _ _; rw [if_pos (by omega)]; exact ⟨rfl, hXr, hM.off.tr hOr, hL.wide (by omega) (by omega)⟩⟩
  · obtain ⟨k0, hk0⟩ := Option.ne_none_iff_exists'.mp (fun z => h18 (thA_0.mpr z))
    obtain ⟨rfl, hXr, hOr⟩ := hN1 _ hk0
    refine V_iload dX10_nearest_21 0 rfl ?_
    refine V_iret dX10_nearest_23 ⟨rfl, rfl⟩ (Nat.zero_le _) (Nat.zero_le _) ?_
    subst hQ
    exact ⟨_, _, _, rfl, rfl, by unfold o_nearest; rw [hk0]; exact ⟨rfl, hXr, hOr, Off.rf⟩⟩
set_option maxRecDepth 20000 in
theorem q_judge {g : Ev} {S : St} {iv : IV} {lw : LW} {b : Nat} (hs : SS S b) {X : Xs} (hX : MX S iv lw b X) (hk : XOK X) {s : Int32} {m : Int32} : CQ g mX10_judge [.ref (b), .int (s), .int (m)] S iv lw (fun w iv2 lw2 => MP S b iv lw (o_judge X s m) w iv2 lw2) := by
  refine CT_ofQ rfl (by decide) (Nat.le_of_ble_eq_true rfl) (lv := [(0, .ref (b)), (1, .int (s)), (2, .int (m))]) rfl (fun Q hQ => ?_)
  have hb := hs.1
  have hA := hX.1
  have hv := hk.1
  have hnc := hv.nc
  have hne := hv.ne
  have hnm := hv.nm
  refine V_iload_n (i := 1) dX10_judge_0 rfl 1 rfl ?_
  refine V_i2l dX10_judge_1 ?_
  refine V_lconst (v := lN 0) dX10_judge_2 rfl ?_
  refine V_ldc2 (v := lN 7) dX10_judge_3 mw_1215 ?_
  refine M_callSp (As := [.long ((s).toInt64), .long (lN 0), .long (lN 7)]) (st := []) dX10_judge_6 ls_X10_91 ⟨by decide, by decide⟩ ⟨rfl, rfl⟩ rfl (Nat.le_of_ble_eq_true rfl) (r_in8) ?_
  refine V_if_eq (tgt := 24) dX10_judge_9 rfl (fun h9 => ?_) (fun h9 => ?_)
  · have h9 : ¬ (inR s 8) := bI_eq0.mp h9
    refine V_aload_n (i := 0) dX10_judge_24 rfl 0 rfl ?_
    refine V_bipush (v := (-2)) dX10_judge_25 rfl ?_
    refine M_callVq (As := [.int ((-2))]) (st := []) dX10_judge_27 lv_X10_107 ⟨by decide, by decide⟩ ⟨rfl, rfl⟩ rfl (ci := 7) hb.1 rfl rfl (Nat.le_of_ble_eq_true rfl) (q_refuse hs hX hk (j := 0) (by decide)) (fun w27 iv27 lw27 q27 => ?_)
    obtain ⟨rfl, e1, hXr, hOr⟩ := q27
    subst e1
    refine V_iret dX10_judge_30 ⟨rfl, rfl⟩ (Nat.zero_le _) (Nat.zero_le _) ?_
    subst hQ
    exact ⟨_, _, _, rfl, rfl, by unfold o_judge; rw [if_pos (fun z => by have z1 := z.1; have z2 := z.2.1; have z3 := z.2.2; omega)]; exact ⟨rfl, hXr, hOr, Off.rf⟩⟩
  · have h9 : inR s 8 := bI_ne.mp h9
    refine V_iload_n (i := 2) dX10_judge_12 rfl 2 rfl ?_
    refine V_i2l dX10_judge_13 ?_
    refine V_lconst (v := lN 0) dX10_judge_14 rfl ?_
    refine V_ldc2 (v := lN 40) dX10_judge_15 mw_1220 ?_
    refine M_callSp (As := [.long ((m).toInt64), .long (lN 0), .long (lN 40)]) (st := []) dX10_judge_18 ls_X10_91 ⟨by decide, by decide⟩ ⟨rfl, rfl⟩ rfl (Nat.le_of_ble_eq_true rfl) (r_inK (by decide) (by decide)) ?_
    refine V_if_ne (tgt := 31) dX10_judge_21 rfl (fun h21 => ?_) (fun h21 => ?_)
    · have h21 : (0 : Int) ≤ m.toInt ∧ m.toInt ≤ 40 := bI_ne.mp h21
      refine V_aload_n (i := 0) dX10_judge_31 rfl 0 rfl ?_
      refine V_iload_n (i := 1) dX10_judge_32 rfl 1 rfl ?_
      refine M_callVq (As := [.int (s)]) (st := []) dX10_judge_33 lv_X10_115 ⟨by decide, by decide⟩ ⟨rfl, rfl⟩ rfl (ci := 7) hb.1 rfl rfl (Nat.le_of_ble_eq_true rfl) (r_noRow hs hX hk (s := s)) (fun w33 iv33 lw33 q33 => ?_)
      obtain ⟨e1, rfl, hN0, hN1, hNO⟩ := q33
      subst e1
      refine V_istore_n (lv2 := [(3, .int (thA (nrW X s))), (0, .ref (b)), (1, .int (s)), (2, .int (m))]) dX10_judge_36 rfl (by decide) rfl ?_
      refine V_iload_n (i := 3) dX10_judge_37 rfl 0 rfl ?_
      refine V_if_eq (tgt := 43) dX10_judge_38 rfl (fun h38 => ?_) (fun h38 => ?_)
      · have hW := thA_0.mp h38
        obtain ⟨hin, hrow⟩ := nr_none hW
        refine M_at ?_ rfl rfl (hN0 hW) rfl
        have hSK := (hk.2.1 (iN s) (in8_i hin)).1
        have cs := iN_eq (k := s) (by omega)
        have cm := iN_eq (k := m) (by omega)
        have ds := iN_i (k := s) (by omega)
        have dm := iN_i (k := m) (by omega)
        refine M_at (lv2 := [(3, .int (thA (nrW X s))), (0, .ref (b)), (1, .int (nI (iN s))), (2, .int (nI (iN m)))]) (st2 := []) ?_ (by rw [← cs, ← cm]) rfl rfl rfl
        refine V_aload_n (i := 0) dX10_judge_43 rfl 1 rfl ?_
        refine M_getR dX10_judge_44 lf_X10_16 rfl hb.1 hb.2.2.2.1.1 ?_
        refine V_iload_n (i := 1) dX10_judge_47 rfl 2 rfl ?_
        refine M_ialdn (j := (iN s)) (x := nI (x_T X (iN s)).2.1) dX10_judge_48 hb.2.2.2.1.2 (by decide) (by omega) (((hX.2.1 (iN s) (by omega)).2.1 hrow).2.1) ?_
        refine V_iload_n (i := 2) dX10_judge_49 rfl 3 rfl ?_
        refine V_icmp_ge (tgt := 60) dX10_judge_50 rfl (fun h50 => ?_) (fun h50 => ?_)
        · have h50 : (iN m) ≤ (x_T X (iN s)).2.1 := (nI_leI (by omega) (by omega)).mp h50
          refine V_iconst (v := nI 0) dX10_judge_60 rfl ?_
          refine V_istore (lv2 := [(4, .int (nI 0)), (3, .int (thA (nrW X s))), (0, .ref (b)), (1, .int (nI (iN s))), (2, .int (nI (iN m)))]) dX10_judge_61 (by decide) rfl ?_
          have lp63 : ∀ i, i ≤ (iN m) → (∀ q, q < i → heQ ((x_T X (iN s)).2.2 q)) → VM g mX10_judge 63 [(4, .int (nI i)), (0, .ref (b)), (1, .int (nI (iN s))), (2, .int (nI (iN m)))] [] S iv lw Q := by
            refine up_ind fun i hi ih63 => ?_
            intro hnt
            refine V_iload dX10_judge_63 0 rfl ?_
            refine V_iload_n (i := 2) dX10_judge_65 rfl 3 rfl ?_
            refine V_icmp_ge (tgt := 113) dX10_judge_66 rfl (fun h66 => ?_) (fun h66 => ?_)
            · have h66 : (iN m) ≤ i := (nI_leI (by omega) (by omega)).mp h66
              refine V_iconst (v := (-1)) dX10_judge_113 rfl ?_
              refine V_iret dX10_judge_114 ⟨rfl, rfl⟩ (Nat.zero_le _) (Nat.zero_le _) ?_
              subst hQ
              exact ⟨_, _, _, rfl, rfl, by unfold o_judge; rw [if_neg (fun z => z ⟨h9, by omega, by omega⟩), if_neg (fun z => z hrow), if_pos (by omega), ffO_none (p := fun i => !decide (ntQ ((x_T X (iN s)).2.2 i) ∨ ((x_T X (iN s)).2.2 i).toInt = 9)) (fun q hq => uh_f (hnt q (by omega)))]; exact MP.same hX⟩
            · have h66 : ¬ (iN m) ≤ i := fun q => h66 ((nI_leI (by omega) (by omega)).mpr q)
              refine V_aload_n (i := 0) dX10_judge_69 rfl 1 rfl ?_
              refine M_getR dX10_judge_70 lf_X10_21 rfl hb.1 hb.2.2.2.2.1.1 ?_
              refine V_iload_n (i := 1) dX10_judge_73 rfl 2 rfl ?_
              refine M_aaldn (t := 2) (j := (iN s)) dX10_judge_74 (by decide) hb.2.2.2.2.1.2 (by decide) (by omega) ((hb.2.2.2.2.2.2.2.2.2.2.2.2.2.2.2.2.2.2.2.2.2.2.1 (iN s) (by omega)).1) ?_
              refine V_iload dX10_judge_75 0 rfl ?_
              refine M_laldn (j := i) (x := (x_T X (iN s)).2.2 i) dX10_judge_77 (hb.2.2.2.2.2.2.2.2.2.2.2.2.2.2.2.2.2.2.2.2.2.2.1 (iN s) (by omega)).2 (by decide) (by omega) (((hX.2.1 (iN s) (by omega)).2.1 hrow).2.2 i (by omega)) ?_
              refine V_lconst (v := lN 0) dX10_judge_78 rfl ?_
              refine V_ldc2 (v := lN 4) dX10_judge_79 mw_1219 ?_
              refine M_callSp (As := [.long ((x_T X (iN s)).2.2 i), .long (lN 0), .long (lN 4)]) (st := []) dX10_judge_82 ls_X10_91 ⟨by decide, by decide⟩ ⟨rfl, rfl⟩ rfl (Nat.le_of_ble_eq_true rfl) (r_inL) ?_
              refine V_if_ne (tgt := 107) dX10_judge_85 rfl (fun h85 => ?_) (fun h85 => ?_)
              · have h85 : ntQ ((x_T X (iN s)).2.2 i) := bI_ne.mp h85
                refine V_iinc (v := nI (i + 1)) (lv2 := [(4, .int (nI (i + 1))), (0, .ref (b)), (1, .int (nI (iN s))), (2, .int (nI (iN m)))]) dX10_judge_107 0 rfl (nI_inc _) (by decide) rfl ?_
                refine V_goto (tgt := 63) dX10_judge_110 rfl ?_
                refine V_sub [0, 1, 2, 3] rfl ?_
                exact M_at (ih63 (by omega) (fun q hq => if e : q = i then e ▸ Or.inl h85 else hnt q (by omega))) (rfl) rfl (rfl) (rfl)
              · have h85 : ¬ (ntQ ((x_T X (iN s)).2.2 i)) := bI_eq0.mp h85
                refine V_aload_n (i := 0) dX10_judge_88 rfl 1 rfl ?_
                refine M_getR dX10_judge_89 lf_X10_21 rfl hb.1 hb.2.2.2.2.1.1 ?_
                refine V_iload_n (i := 1) dX10_judge_92 rfl 2 rfl ?_
                refine M_aaldn (t := 2) (j := (iN s)) dX10_judge_93 (by decide) hb.2.2.2.2.1.2 (by decide) (by omega) ((hb.2.2.2.2.2.2.2.2.2.2.2.2.2.2.2.2.2.2.2.2.2.2.1 (iN s) (by omega)).1) ?_
                refine V_iload dX10_judge_94 0 rfl ?_
                refine M_laldn (j := i) (x := (x_T X (iN s)).2.2 i) dX10_judge_96 (hb.2.2.2.2.2.2.2.2.2.2.2.2.2.2.2.2.2.2.2.2.2.2.1 (iN s) (by omega)).2 (by decide) (by omega) (((hX.2.1 (iN s) (by omega)).2.1 hrow).2.2 i (by omega)) ?_
                refine V_ldc2 (v := lN 9) dX10_judge_97 mw_1290 ?_
                refine V_lcmp dX10_judge_100 ?_
                refine V_if_eq (tgt := 107) dX10_judge_101 rfl (fun h101 => ?_) (fun h101 => ?_)
                · have h101 : ((x_T X (iN s)).2.2 i).toInt = (9 : Int) := by have q := lg_eq.mp h101; rw [lN_toInt (n := 9) (by omega)] at q; exact q
                  have h101 : ((x_T X (iN s)).2.2 i).toInt = 9 := h101
                  refine V_iinc (v := nI (i + 1)) (lv2 := [(4, .int (nI (i + 1))), (0, .ref (b)), (1, .int (nI (iN s))), (2, .int (nI (iN m)))]) dX10_judge_107 0 rfl (nI_inc _) (by decide) rfl ?_
                  refine V_goto (tgt := 63) dX10_judge_110 rfl ?_
                  refine V_sub [0, 1, 2, 3] rfl ?_
                  exact M_at (ih63 (by omega) (fun q hq => if e : q = i then e ▸ Or.inr h101 else hnt q (by omega))) (rfl) rfl (rfl) (rfl)
                · have h101 : ¬ ((x_T X (iN s)).2.2 i).toInt = (9 : Int) := fun r => h101 (lg_eq.mpr (by rw [lN_toInt (n := 9) (by omega)]; exact r))
                  refine V_iload dX10_judge_104 0 rfl ?_
                  refine V_iret dX10_judge_106 ⟨rfl, rfl⟩ (Nat.zero_le _) (Nat.zero_le _) ?_
                  subst hQ
                  exact ⟨_, _, _, rfl, rfl, by unfold o_judge; rw [if_neg (fun z => z ⟨h9, by omega, by omega⟩), if_neg (fun z => z hrow), if_pos (by omega), ffO_at (p := fun i => !decide (ntQ ((x_T X (iN s)).2.2 i) ∨ ((x_T X (iN s)).2.2 i).toInt = 9)) (k := i) (by omega) (fun q hq => uh_f (hnt q hq)) (uh_t (fun q => q.elim h85 h101))]; exact MP.same hX⟩
          refine V_sub [0, 2, 3, 4] rfl ?_
          exact M_at (lp63 0 (Nat.zero_le _) (fun q hq => absurd hq (by omega))) (rfl) rfl (rfl) (rfl)
        · have h50 : ¬ (iN m) ≤ (x_T X (iN s)).2.1 := fun q => h50 ((nI_leI (by omega) (by omega)).mpr q)
          refine V_aload_n (i := 0) dX10_judge_53 rfl 1 rfl ?_
          refine V_bipush (v := (-2)) dX10_judge_54 rfl ?_
          refine M_callVq (As := [.int ((-2))]) (st := []) dX10_judge_56 lv_X10_107 ⟨by decide, by decide⟩ ⟨rfl, rfl⟩ rfl (ci := 7) hb.1 rfl rfl (Nat.le_of_ble_eq_true rfl) (q_refuse hs hX hk (j := 0) (by decide)) (fun w56 iv56 lw56 q56 => ?_)
          obtain ⟨rfl, e1, hXr, hOr⟩ := q56
          subst e1
          refine V_iret dX10_judge_59 ⟨rfl, rfl⟩ (Nat.zero_le _) (Nat.zero_le _) ?_
          subst hQ
          exact ⟨_, _, _, rfl, rfl, by unfold o_judge; rw [if_neg (fun z => z ⟨h9, by omega, by omega⟩), if_neg (fun z => z hrow), if_neg (by omega)]; exact ⟨rfl, hXr, hOr, Off.rf⟩⟩
      · obtain ⟨k0, hk0⟩ := Option.ne_none_iff_exists'.mp (fun z => h38 (thA_0.mpr z))
        refine V_iload_n (i := 3) dX10_judge_41 rfl 0 rfl ?_
        refine V_iret dX10_judge_42 ⟨rfl, rfl⟩ (Nat.zero_le _) (Nat.zero_le _) ?_
        subst hQ
        exact ⟨_, _, _, rfl, rfl, MP.nr hk0 (fun q1 => by unfold o_judge; rw [if_pos (fun z => q1 z.1)]) (fun q1 q2 => by unfold o_judge; rw [if_neg (fun z => z ⟨h9, by omega, by omega⟩), if_pos q2]) (hN1 _ hk0) hNO⟩
    · have h21 : ¬ ((0 : Int) ≤ m.toInt ∧ m.toInt ≤ 40) := bI_eq0.mp h21
      refine V_aload_n (i := 0) dX10_judge_24 rfl 0 rfl ?_
      refine V_bipush (v := (-2)) dX10_judge_25 rfl ?_
      refine M_callVq (As := [.int ((-2))]) (st := []) dX10_judge_27 lv_X10_107 ⟨by decide, by decide⟩ ⟨rfl, rfl⟩ rfl (ci := 7) hb.1 rfl rfl (Nat.le_of_ble_eq_true rfl) (q_refuse hs hX hk (j := 0) (by decide)) (fun w27 iv27 lw27 q27 => ?_)
      obtain ⟨rfl, e1, hXr, hOr⟩ := q27
      subst e1
      refine V_iret dX10_judge_30 ⟨rfl, rfl⟩ (Nat.zero_le _) (Nat.zero_le _) ?_
      subst hQ
      exact ⟨_, _, _, rfl, rfl, by unfold o_judge; rw [if_pos (fun z => by have z1 := z.1; have z2 := z.2.1; have z3 := z.2.2; omega)]; exact ⟨rfl, hXr, hOr, Off.rf⟩⟩
set_option maxRecDepth 20000 in
theorem r_isAlone {g : Ev} {S : St} {iv : IV} {lw : LW} {b : Nat} (hb : IsMod S b) {V : Cv} (hV : MC iv b V) (hv : VOK V) {H : Hv} (hH : MH iv lw b H) {c e : Nat} (hc : c < v_nc V) (he : e < v_ne V) : CP g mX10_isAlone [.ref (b), .int (nI c), .int (nI e)] S iv lw (.int (bI (alone V H e c = true))) := by
  refine CT_ofQ rfl (by decide) (Nat.le_of_ble_eq_true rfl) (lv := [(0, .ref (b)), (1, .int (nI c)), (2, .int (nI e))]) rfl (fun Q hQ => ?_)
  have hnc := hv.nc
  have hne := hv.ne
  have hnm := hv.nm
  refine V_iconst (v := nI 0) dX10_isAlone_0 rfl ?_
  refine V_istore_n (lv2 := [(3, .int (nI 0)), (0, .ref (b)), (1, .int (nI c)), (2, .int (nI e))]) dX10_isAlone_1 rfl (by decide) rfl ?_
  have lp2 : ∀ j, j ≤ (v_nc V) → allTo (fun k => decide (k = c) || !fitB V H e k) j = true → VM g mX10_isAlone 2 [(3, .int (nI j)), (0, .ref (b)), (1, .int (nI c)), (2, .int (nI e))] [] S iv lw Q := by
    refine up_ind fun j hj ih2 => ?_
    intro hall
    refine V_iload_n (i := 3) dX10_isAlone_2 rfl 0 rfl ?_
    refine V_aload_n (i := 0) dX10_isAlone_3 rfl 1 rfl ?_
    refine M_getI (x := nI (v_nc V)) dX10_isAlone_4 lf_X10_88 rfl hb.1 (hV.nc) ?_
    refine V_icmp_ge (tgt := 32) dX10_isAlone_7 rfl (fun h7 => ?_) (fun h7 => ?_)
    · have h7 : (v_nc V) ≤ j := (nI_leI (by omega) (by omega)).mp h7
      refine V_iconst (v := nI 1) dX10_isAlone_32 rfl ?_
      refine V_zret dX10_isAlone_33 ⟨rfl, rfl⟩ (by rfl) (Nat.zero_le _) (Nat.zero_le _) ?_
      subst hQ
      obtain rfl : j = v_nc V := by omega
      exact ⟨by rw [bI_t (show alone V H e c = true from hall)], rfl⟩
    · have h7 : ¬ (v_nc V) ≤ j := fun q => h7 ((nI_leI (by omega) (by omega)).mpr q)
      refine V_iload_n (i := 3) dX10_isAlone_10 rfl 0 rfl ?_
      refine V_iload_n (i := 1) dX10_isAlone_11 rfl 2 rfl ?_
      refine V_icmp_eq (tgt := 26) dX10_isAlone_12 rfl (fun h12 => ?_) (fun h12 => ?_)
      · have h12 : j = c := (nI_eq (by omega) (by omega)).mp h12
        refine V_iinc (v := nI (j + 1)) (lv2 := [(3, .int (nI (j + 1))), (0, .ref (b)), (1, .int (nI c)), (2, .int (nI e))]) dX10_isAlone_26 0 rfl (nI_inc _) (by decide) rfl ?_
        refine V_goto (tgt := 2) dX10_isAlone_29 rfl ?_
        have hk1 : (true && (decide (j = c) || !fitB V H e j)) = true := by simp [h12]
        refine V_sub [0, 1, 2, 3] rfl ?_
        exact M_at (ih2 (by omega) (by show (allTo _ _ && _) = true; rw [hall]; exact hk1)) (rfl) rfl (rfl) (rfl)
      · have h12 : ¬ j = c := fun q => h12 ((nI_eq (by omega) (by omega)).mpr q)
        refine V_aload_n (i := 0) dX10_isAlone_15 rfl 1 rfl ?_
        refine V_iload_n (i := 3) dX10_isAlone_16 rfl 0 rfl ?_
        refine V_iload_n (i := 2) dX10_isAlone_17 rfl 3 rfl ?_
        refine M_callVp (As := [.int (nI j), .int (nI e)]) (st := []) dX10_isAlone_18 lv_X10_265 ⟨by decide, by decide⟩ ⟨rfl, rfl⟩ rfl (ci := 7) hb.1 rfl rfl (Nat.le_of_ble_eq_true rfl) (r_fitsHearing hb hV hv hH (c := j) (by omega) he) ?_
        refine V_if_eq (tgt := 26) dX10_isAlone_21 rfl (fun h21 => ?_) (fun h21 => ?_)
        · have h21 : ¬ (fitB V H e j = true) := bI_eq0.mp h21
          refine V_iinc (v := nI (j + 1)) (lv2 := [(3, .int (nI (j + 1))), (0, .ref (b)), (1, .int (nI c)), (2, .int (nI e))]) dX10_isAlone_26 0 rfl (nI_inc _) (by decide) rfl ?_
          refine V_goto (tgt := 2) dX10_isAlone_29 rfl ?_
          have hk1 : (true && (decide (j = c) || !fitB V H e j)) = true := by simp [h21]
          refine V_sub [0, 1, 2, 3] rfl ?_
          exact M_at (ih2 (by omega) (by show (allTo _ _ && _) = true; rw [hall]; exact hk1)) (rfl) rfl (rfl) (rfl)
        · have h21 : fitB V H e j = true := bI_ne.mp h21
          refine V_iconst (v := nI 0) dX10_isAlone_24 rfl ?_
          refine V_zret dX10_isAlone_25 ⟨rfl, rfl⟩ (by rfl) (Nat.zero_le _) (Nat.zero_le _) ?_
          subst hQ
          exact ⟨by rw [bI_f (show ¬ alone V H e c = true from by rw [show alone V H e c = false from allTo_bad (i := j) (by omega) (by simp [h12, h21])]; decide)], rfl⟩
  refine V_sub [0, 1, 2, 3] rfl ?_
  exact M_at (lp2 0 (Nat.zero_le _) rfl) (rfl) rfl (rfl) (rfl)
set_option maxRecDepth 20000 in
theorem r_knownOf {g : Ev} {S : St} {iv : IV} {lw : LW} {b : Nat} (hb : IsMod S b) {V : Cv} (hV : MC iv b V) (hv : VOK V) {c e : Nat} (hc : c < v_nc V) (he : e < v_ne V) : CQ g mX10_knownOf [.ref (b), .int (nI c), .int (nI e)] S iv lw (fun w iv2 lw2 => w = .int (oI (kbO V c e)) ∧ MA b iv iv2 ∧ Off (b + 38) 1 lw lw2) := by
  refine CT_ofQ rfl (by decide) (Nat.le_of_ble_eq_true rfl) (lv := [(0, .ref (b)), (1, .int (nI c)), (2, .int (nI e))]) rfl (fun Q hQ => ?_)
  have hnc := hv.nc
  have hne := hv.ne
  have hnm := hv.nm
  have hs8 := hv.sz hc
  refine V_iconst (v := nI 0) dX10_knownOf_0 rfl ?_
  refine V_istore_n (lv2 := [(3, .int (nI 0)), (0, .ref (b)), (1, .int (nI c)), (2, .int (nI e))]) dX10_knownOf_1 rfl (by decide) rfl ?_
  have lp2 : ∀ j, j ≤ (v_sz V c + 1) → ∀ (iv2 : IV) (lw2 : LW), MA b iv iv2 → Off (b + 38) 1 lw lw2 → (∀ k, k < j → alone V (hearOf V c e k false) e c = false) → (0 < j → MH iv2 lw2 b (hearOf V c e (j - 1) false)) → VM g mX10_knownOf 2 [(3, .int (nI j)), (0, .ref (b)), (1, .int (nI c)), (2, .int (nI e))] [] S iv2 lw2 Q := by
    refine up_ind fun j hj ih2 => ?_
    intro iv2 lw2 hM hL hal hHl
    have hV2 := hV.ma hv hM
    refine V_iload_n (i := 3) dX10_knownOf_2 rfl 0 rfl ?_
    refine V_aload_n (i := 0) dX10_knownOf_3 rfl 1 rfl ?_
    refine M_getR dX10_knownOf_4 lf_X10_42 rfl hb.1 hb.2.2.2.2.2.2.2.2.2.2.1.1 ?_
    refine V_iload_n (i := 1) dX10_knownOf_7 rfl 2 rfl ?_
    refine M_ialdn (j := c) (x := nI (v_sz V c)) dX10_knownOf_8 hb.2.2.2.2.2.2.2.2.2.2.1.2 (by decide) (by omega) (hV2.sz (c := c) (by omega)) ?_
    refine V_icmp_gt (tgt := 37) dX10_knownOf_9 rfl (fun h9 => ?_) (fun h9 => ?_)
    · have h9 : (v_sz V c) < j := (nI_ltI (by omega) (by omega)).mp h9
      refine V_aload_n (i := 0) dX10_knownOf_37 rfl 1 rfl ?_
      refine V_iconst (v := nI 1) dX10_knownOf_38 rfl ?_
      refine M_putI dX10_knownOf_39 lf_X10_258 rfl hb.1 ⟨rfl, rfl⟩ ?_
      obtain rfl : j = v_sz V c + 1 := by omega
      have hM5 : MA b iv (up2 iv2 b 34 (nI 1)) := hM.up (by omega)
      have hV5 := hV.ma hv hM5
      have hq := hHl (by omega)
      rw [Nat.add_sub_cancel] at hq
      have hH5 : MH (up2 iv2 b 34 (nI 1)) lw2 b (hearOf V c e (v_sz V c) true) := ⟨hq.1, (up2_k (by decide)).trans hq.2.1, up2_s, hq.2.2.2⟩
      refine V_aload_n (i := 0) dX10_knownOf_42 rfl 1 rfl ?_
      refine V_iload_n (i := 1) dX10_knownOf_43 rfl 2 rfl ?_
      refine V_iload_n (i := 2) dX10_knownOf_44 rfl 3 rfl ?_
      refine M_callVp (As := [.int (nI c), .int (nI e)]) (st := []) dX10_knownOf_45 lv_X10_289 ⟨by decide, by decide⟩ ⟨rfl, rfl⟩ rfl (ci := 7) hb.1 rfl rfl (Nat.le_of_ble_eq_true rfl) (r_isAlone hb hV5 hv hH5 hc he) ?_
      refine V_if_eq (tgt := 62) dX10_knownOf_48 rfl (fun h48 => ?_) (fun h48 => ?_)
      · have h48 : ¬ (alone V (hearOf V c e (v_sz V c) true) e c = true) := bI_eq0.mp h48
        refine V_iconst (v := (-1)) dX10_knownOf_62 rfl ?_
        refine V_iret dX10_knownOf_63 ⟨rfl, rfl⟩ (Nat.zero_le _) (Nat.zero_le _) ?_
        subst hQ
        exact ⟨_, _, _, rfl, rfl, by rw [kb_no hal h48]; rfl, hM5, hL⟩
      · have h48 : alone V (hearOf V c e (v_sz V c) true) e c = true := bI_ne.mp h48
        refine V_aload_n (i := 0) dX10_knownOf_51 rfl 1 rfl ?_
        refine M_getR dX10_knownOf_52 lf_X10_42 rfl hb.1 hb.2.2.2.2.2.2.2.2.2.2.1.1 ?_
        refine V_iload_n (i := 1) dX10_knownOf_55 rfl 2 rfl ?_
        refine M_ialdn (j := c) (x := nI (v_sz V c)) dX10_knownOf_56 hb.2.2.2.2.2.2.2.2.2.2.1.2 (by decide) (by omega) (hV5.sz (c := c) (by omega)) ?_
        refine V_iconst (v := nI 1) dX10_knownOf_57 rfl ?_
        refine V_iadd dX10_knownOf_58 ?_
        refine M_top (nI_add _ _) ?_
        refine V_goto (tgt := 63) dX10_knownOf_59 rfl ?_
        refine V_iret dX10_knownOf_63 ⟨rfl, rfl⟩ (Nat.zero_le _) (Nat.zero_le _) ?_
        subst hQ
        exact ⟨_, _, _, rfl, rfl, by rw [kb_over hal h48]; rfl, hM5, hL⟩
    · have h9 : ¬ (v_sz V c) < j := fun q => h9 ((nI_ltI (by omega) (by omega)).mpr q)
      refine V_aload_n (i := 0) dX10_knownOf_12 rfl 1 rfl ?_
      refine V_iload_n (i := 1) dX10_knownOf_13 rfl 2 rfl ?_
      refine V_iload_n (i := 2) dX10_knownOf_14 rfl 3 rfl ?_
      refine V_iload_n (i := 3) dX10_knownOf_15 rfl 0 rfl ?_
      refine V_iconst (v := nI 0) dX10_knownOf_16 rfl ?_
      refine M_callVn (As := [.int (nI c), .int (nI e), .int (nI j), .int (nI 0)]) (st := []) dX10_knownOf_17 lv_X10_285 ⟨by decide, by decide⟩ ⟨rfl, rfl⟩ rfl (ci := 7) hb.1 rfl rfl (Nat.le_of_ble_eq_true rfl) (r_hearsOf hb hV2 hv hc he (m := j) (by omega) (o := false) (bI_f (show ¬ false = true by decide)).symm) (fun iv17 lw17 q17 => ?_)
      obtain ⟨a1, hH17, a3⟩ := q17
      have hM17 := hM.tr a1
      have hL17 := hL.tr a3
      have hV17 := hV.ma hv hM17
      refine V_aload_n (i := 0) dX10_knownOf_20 rfl 1 rfl ?_
      refine V_iload_n (i := 1) dX10_knownOf_21 rfl 2 rfl ?_
      refine V_iload_n (i := 2) dX10_knownOf_22 rfl 3 rfl ?_
      refine M_callVp (As := [.int (nI c), .int (nI e)]) (st := []) dX10_knownOf_23 lv_X10_289 ⟨by decide, by decide⟩ ⟨rfl, rfl⟩ rfl (ci := 7) hb.1 rfl rfl (Nat.le_of_ble_eq_true rfl) (r_isAlone hb hV17 hv hH17 hc he) ?_
      refine V_if_eq (tgt := 31) dX10_knownOf_26 rfl (fun h26 => ?_) (fun h26 => ?_)
      · have h26 : ¬ (alone V (hearOf V c e j false) e c = true) := bI_eq0.mp h26
        refine V_iinc (v := nI (j + 1)) (lv2 := [(3, .int (nI (j + 1))), (0, .ref (b)), (1, .int (nI c)), (2, .int (nI e))]) dX10_knownOf_31 0 rfl (nI_inc _) (by decide) rfl ?_
        refine V_goto (tgt := 2) dX10_knownOf_34 rfl ?_
        refine V_sub [0, 1, 2, 3] rfl ?_
        exact M_at (ih2 (by omega) iv17 lw17 hM17 hL17 (fun k hk => (Nat.lt_or_ge k j).elim (hal k) (fun z => by have e9 : k = j := (by omega); rw [e9]; simpa using h26)) (fun _ => by rw [Nat.add_sub_cancel]; exact hH17)) (rfl) rfl (rfl) (rfl)
      · have h26 : alone V (hearOf V c e j false) e c = true := bI_ne.mp h26
        refine V_iload_n (i := 3) dX10_knownOf_29 rfl 0 rfl ?_
        refine V_iret dX10_knownOf_30 ⟨rfl, rfl⟩ (Nat.zero_le _) (Nat.zero_le _) ?_
        subst hQ
        exact ⟨_, _, _, rfl, rfl, by rw [kb_at (by omega) hal h26]; rfl, hM17, hL17⟩
  refine V_sub [0, 1, 2, 3] rfl ?_
  exact M_at (lp2 0 (Nat.zero_le _) iv lw MA.rf Off.rf (fun k hk => absurd hk (by omega)) (fun z => absurd z (by omega))) (rfl) rfl (rfl) (rfl)
set_option maxRecDepth 20000 in
theorem r_behindOf {g : Ev} {S : St} {iv : IV} {lw : LW} {b : Nat} (hb : IsMod S b) {V : Cv} (hV : MC iv b V) (hv : VOK V) {c e : Nat} (hc : c < v_nc V) (he : e < v_ne V) : CQ g mX10_behindOf [.ref (b), .int (nI c), .int (nI e)] S iv lw (fun w iv2 lw2 => w = .int (nI (behind V c e)) ∧ MA b iv iv2 ∧ Off (b + 38) 1 lw lw2) := by
  refine CT_ofQ rfl (by decide) (Nat.le_of_ble_eq_true rfl) (lv := [(0, .ref (b)), (1, .int (nI c)), (2, .int (nI e))]) rfl (fun Q hQ => ?_)
  have hnc := hv.nc
  have hne := hv.ne
  have hnm := hv.nm
  have hs8 := hv.sz hc
  have hbl := behind_le V c e
  refine V_aload_n (i := 0) dX10_behindOf_0 rfl 0 rfl ?_
  refine V_iload_n (i := 1) dX10_behindOf_1 rfl 1 rfl ?_
  refine V_iload_n (i := 2) dX10_behindOf_2 rfl 2 rfl ?_
  refine M_callVq (As := [.int (nI c), .int (nI e)]) (st := []) dX10_behindOf_3 lv_X10_292 ⟨by decide, by decide⟩ ⟨rfl, rfl⟩ rfl (ci := 7) hb.1 rfl rfl (Nat.le_of_ble_eq_true rfl) (r_knownOf hb hV hv hc he) (fun w3 iv3 lw3 q3 => ?_)
  obtain ⟨rfl, hM, hL⟩ := q3
  have hV2 := hV.ma hv hM
  refine V_istore_n (lv2 := [(3, .int (oI (kbO V c e))), (0, .ref (b)), (1, .int (nI c)), (2, .int (nI e))]) dX10_behindOf_6 rfl (by decide) rfl ?_
  refine V_iload_n (i := 3) dX10_behindOf_7 rfl 0 rfl ?_
  refine V_iconst (v := (-1)) dX10_behindOf_8 rfl ?_
  refine V_icmp_ne (tgt := 23) dX10_behindOf_9 rfl (fun h9 => ?_) (fun h9 => ?_)
  · obtain ⟨k0, hk0⟩ := Option.ne_none_iff_exists'.mp (fun z => h9 ((oI_m1 (n := 12) (fun k hk => by have := kb_v hk; omega) (by omega)).mpr z))
    refine V_iload_n (i := 3) dX10_behindOf_23 rfl 0 rfl ?_
    refine V_iret dX10_behindOf_24 ⟨rfl, rfl⟩ (Nat.zero_le _) (Nat.zero_le _) ?_
    subst hQ
    exact ⟨_, _, _, rfl, rfl, by rw [kb_v hk0, hk0]; rw [show oI (some k0) = nI k0 from rfl], hM, hL⟩
  · have h9 := (oI_m1 (n := 12) (fun k hk => by have := kb_v hk; omega) (by omega)).mp h9
    refine V_aload_n (i := 0) dX10_behindOf_12 rfl 1 rfl ?_
    refine M_getR dX10_behindOf_13 lf_X10_42 rfl hb.1 hb.2.2.2.2.2.2.2.2.2.2.1.1 ?_
    refine V_iload_n (i := 1) dX10_behindOf_16 rfl 2 rfl ?_
    refine M_ialdn (j := c) (x := nI (v_sz V c)) dX10_behindOf_17 hb.2.2.2.2.2.2.2.2.2.2.1.2 (by decide) (by omega) (hV2.sz (c := c) (by omega)) ?_
    refine V_iconst (v := nI 2) dX10_behindOf_18 rfl ?_
    refine V_iadd dX10_behindOf_19 ?_
    refine M_top (nI_add _ _) ?_
    refine V_goto (tgt := 24) dX10_behindOf_20 rfl ?_
    refine V_iret dX10_behindOf_24 ⟨rfl, rfl⟩ (Nat.zero_le _) (Nat.zero_le _) ?_
    subst hQ
    exact ⟨_, _, _, rfl, rfl, by rw [kb_n h9], hM, hL⟩
set_option maxRecDepth 20000 in
theorem q_known {g : Ev} {S : St} {iv : IV} {lw : LW} {b : Nat} (hs : SS S b) {X : Xs} (hX : MX S iv lw b X) (hk : XOK X) {c : Int32} {e : Int32} : CQ g mX10_known [.ref (b), .int (c), .int (e)] S iv lw (fun w iv2 lw2 => MP S b iv lw (o_known X c e) w iv2 lw2) := by
  refine CT_ofQ rfl (by decide) (Nat.le_of_ble_eq_true rfl) (lv := [(0, .ref (b)), (1, .int (c)), (2, .int (e))]) rfl (fun Q hQ => ?_)
  have hb := hs.1
  have hA := hX.1
  have hv := hk.1
  have hnc := hv.nc
  have hne := hv.ne
  have hnm := hv.nm
  refine V_aload_n (i := 0) dX10_known_0 rfl 0 rfl ?_
  refine V_iload_n (i := 1) dX10_known_1 rfl 1 rfl ?_
  refine M_callVp (As := [.int (c)]) (st := []) dX10_known_2 lv_X10_155 ⟨by decide, by decide⟩ ⟨rfl, rfl⟩ rfl (ci := 7) hb.1 rfl rfl (Nat.le_of_ble_eq_true rfl) (r_isCall hb hA hv) ?_
  refine V_if_eq (tgt := 25) dX10_known_5 rfl (fun h5 => ?_) (fun h5 => ?_)
  · have h5 : ¬ (inR c (v_nc (x_A X))) := bI_eq0.mp h5
    refine V_aload_n (i := 0) dX10_known_25 rfl 0 rfl ?_
    refine V_bipush (v := (-2)) dX10_known_26 rfl ?_
    refine M_callVq (As := [.int ((-2))]) (st := []) dX10_known_28 lv_X10_107 ⟨by decide, by decide⟩ ⟨rfl, rfl⟩ rfl (ci := 7) hb.1 rfl rfl (Nat.le_of_ble_eq_true rfl) (q_refuse hs hX hk (j := 0) (by decide)) (fun w28 iv28 lw28 q28 => ?_)
    obtain ⟨rfl, e1, hXr, hOr⟩ := q28
    subst e1
    refine V_iret dX10_known_31 ⟨rfl, rfl⟩ (Nat.zero_le _) (Nat.zero_le _) ?_
    subst hQ
    exact ⟨_, _, _, rfl, rfl, by unfold o_known; rw [if_pos (fun z => h5 z.1)]; exact ⟨rfl, hXr, hOr, Off.rf⟩⟩
  · have h5 : inR c (v_nc (x_A X)) := bI_ne.mp h5
    refine V_aload_n (i := 0) dX10_known_8 rfl 0 rfl ?_
    refine V_iload_n (i := 2) dX10_known_9 rfl 2 rfl ?_
    refine M_callVp (As := [.int (e)]) (st := []) dX10_known_10 lv_X10_122 ⟨by decide, by decide⟩ ⟨rfl, rfl⟩ rfl (ci := 7) hb.1 rfl rfl (Nat.le_of_ble_eq_true rfl) (r_isEar hb hA hv) ?_
    refine V_if_eq (tgt := 25) dX10_known_13 rfl (fun h13 => ?_) (fun h13 => ?_)
    · have h13 : ¬ (inR e (v_ne (x_A X))) := bI_eq0.mp h13
      refine V_aload_n (i := 0) dX10_known_25 rfl 0 rfl ?_
      refine V_bipush (v := (-2)) dX10_known_26 rfl ?_
      refine M_callVq (As := [.int ((-2))]) (st := []) dX10_known_28 lv_X10_107 ⟨by decide, by decide⟩ ⟨rfl, rfl⟩ rfl (ci := 7) hb.1 rfl rfl (Nat.le_of_ble_eq_true rfl) (q_refuse hs hX hk (j := 0) (by decide)) (fun w28 iv28 lw28 q28 => ?_)
      obtain ⟨rfl, e1, hXr, hOr⟩ := q28
      subst e1
      refine V_iret dX10_known_31 ⟨rfl, rfl⟩ (Nat.zero_le _) (Nat.zero_le _) ?_
      subst hQ
      exact ⟨_, _, _, rfl, rfl, by unfold o_known; rw [if_pos (fun z => h13 z.2)]; exact ⟨rfl, hXr, hOr, Off.rf⟩⟩
    · have h13 : inR e (v_ne (x_A X)) := bI_ne.mp h13
      have cc := iN_eq (k := c) (by omega)
      have ce := iN_eq (k := e) (by omega)
      have dc := iN_i (k := c) (by omega)
      have de := iN_i (k := e) (by omega)
      refine M_at (lv2 := [(0, .ref (b)), (1, .int (nI (iN c))), (2, .int (nI (iN e)))]) (st2 := []) ?_ (by rw [← cc, ← ce]) rfl rfl rfl
      refine V_aload_n (i := 0) dX10_known_16 rfl 0 rfl ?_
      refine V_iload_n (i := 1) dX10_known_17 rfl 1 rfl ?_
      refine V_iload_n (i := 2) dX10_known_18 rfl 2 rfl ?_
      refine M_callVq (As := [.int (nI (iN c)), .int (nI (iN e))]) (st := []) dX10_known_19 lv_X10_292 ⟨by decide, by decide⟩ ⟨rfl, rfl⟩ rfl (ci := 7) hb.1 rfl rfl (Nat.le_of_ble_eq_true rfl) (r_knownOf hb hA hv (c := iN c) (e := iN e) (by omega) (by omega)) (fun w19 iv19 lw19 q19 => ?_)
      obtain ⟨rfl, hM, hL⟩ := q19
      refine V_goto (tgt := 31) dX10_known_22 rfl ?_
      refine V_iret dX10_known_31 ⟨rfl, rfl⟩ (Nat.zero_le _) (Nat.zero_le _) ?_
      subst hQ
      exact ⟨_, _, _, rfl, rfl, by unfold o_known; rw [if_neg (fun z => z ⟨h5, h13⟩), show oI (kbO (x_A X) (iN c) (iN e)) = (if behind (x_A X) (iN c) (iN e) ≤ v_sz (x_A X) (iN c) + 1 then nI (behind (x_A X) (iN c) (iN e)) else -1) by unfold kbO; split <;> rfl]; exact MP.ma hX hk hM hL⟩
set_option maxRecDepth 20000 in
theorem r_uses {g : Ev} {S : St} {iv : IV} {lw : LW} {b : Nat} (hb : IsMod S b) {V : Cv} (hV : MC iv b V) (hv : VOK V) : CP g mX10_uses [.ref (b)] S iv lw (.int (nI (sumTo (v_us V) (v_nc V)))) := by
  refine CT_ofQ rfl (by decide) (Nat.le_of_ble_eq_true rfl) (lv := [(0, .ref (b))]) rfl (fun Q hQ => ?_)
  have hnc := hv.nc
  have hne := hv.ne
  have hnm := hv.nm
  refine V_iconst (v := nI 0) dX10_uses_0 rfl ?_
  refine V_istore_n (lv2 := [(1, .int (nI 0)), (0, .ref (b))]) dX10_uses_1 rfl (by decide) rfl ?_
  refine V_iconst (v := nI 0) dX10_uses_2 rfl ?_
  refine V_istore_n (lv2 := [(2, .int (nI 0)), (1, .int (nI 0)), (0, .ref (b))]) dX10_uses_3 rfl (by decide) rfl ?_
  have lp4 : ∀ j, j ≤ (v_nc V) → VM g mX10_uses 4 [(2, .int (nI j)), (1, .int (nI (sumTo (v_us V) j))), (0, .ref (b))] [] S iv lw Q := by
    refine up_ind fun j hj ih4 => ?_
    refine V_iload_n (i := 2) dX10_uses_4 rfl 0 rfl ?_
    refine V_aload_n (i := 0) dX10_uses_5 rfl 2 rfl ?_
    refine M_getI (x := nI (v_nc V)) dX10_uses_6 lf_X10_88 rfl hb.1 (hV.nc) ?_
    refine V_icmp_ge (tgt := 27) dX10_uses_9 rfl (fun h9 => ?_) (fun h9 => ?_)
    · have h9 : (v_nc V) ≤ j := (nI_leI (by omega) (by omega)).mp h9
      refine V_iload_n (i := 1) dX10_uses_27 rfl 1 rfl ?_
      refine V_iret dX10_uses_28 ⟨rfl, rfl⟩ (Nat.zero_le _) (Nat.zero_le _) ?_
      subst hQ
      exact ⟨by rw [show j = v_nc V by omega], rfl⟩
    · have h9 : ¬ (v_nc V) ≤ j := fun q => h9 ((nI_leI (by omega) (by omega)).mpr q)
      refine V_iload_n (i := 1) dX10_uses_12 rfl 1 rfl ?_
      refine V_aload_n (i := 0) dX10_uses_13 rfl 2 rfl ?_
      refine M_getR dX10_uses_14 lf_X10_45 rfl hb.1 hb.2.2.2.2.2.2.2.2.2.2.2.1.1 ?_
      refine V_iload_n (i := 2) dX10_uses_17 rfl 0 rfl ?_
      refine M_ialdn (j := j) (x := nI (v_us V j)) dX10_uses_18 hb.2.2.2.2.2.2.2.2.2.2.2.1.2 (by decide) (by omega) (hV.us (c := j) (by omega)) ?_
      refine V_iadd dX10_uses_19 ?_
      refine M_top (nI_add _ _) ?_
      refine V_istore_n (lv2 := [(1, .int (nI ((sumTo (v_us V) j) + (v_us V j)))), (2, .int (nI j)), (0, .ref (b))]) dX10_uses_20 rfl (by decide) rfl ?_
      refine V_iinc (v := nI (j + 1)) (lv2 := [(2, .int (nI (j + 1))), (1, .int (nI ((sumTo (v_us V) j) + (v_us V j)))), (0, .ref (b))]) dX10_uses_21 1 rfl (nI_inc _) (by decide) rfl ?_
      refine V_goto (tgt := 4) dX10_uses_24 rfl ?_
      refine V_sub [0, 1, 2] rfl ?_
      exact M_at (ih4 (by omega)) (rfl) rfl (rfl) (rfl)
  refine V_sub [0, 1, 2] rfl ?_
  exact M_at (lp4 0 (Nat.zero_le _)) (rfl) rfl (rfl) (rfl)
set_option maxRecDepth 20000 in
theorem q_earFor {g : Ev} {S : St} {iv : IV} {lw : LW} {b : Nat} (hs : SS S b) {X : Xs} (hX : MX S iv lw b X) (hk : XOK X) {c : Int32} : CQ g mX10_earFor [.ref (b), .int (c)] S iv lw (fun w iv2 lw2 => MP S b iv lw (o_earFor X c) w iv2 lw2) := by
  refine CT_ofQ rfl (by decide) (Nat.le_of_ble_eq_true rfl) (lv := [(0, .ref (b)), (1, .int (c))]) rfl (fun Q hQ => ?_)
  have hb := hs.1
  have hA := hX.1
  have hv := hk.1
  have hnc := hv.nc
  have hne := hv.ne
  have hnm := hv.nm
  refine V_aload_n (i := 0) dX10_earFor_0 rfl 0 rfl ?_
  refine V_iload_n (i := 1) dX10_earFor_1 rfl 1 rfl ?_
  refine M_callVp (As := [.int (c)]) (st := []) dX10_earFor_2 lv_X10_155 ⟨by decide, by decide⟩ ⟨rfl, rfl⟩ rfl (ci := 7) hb.1 rfl rfl (Nat.le_of_ble_eq_true rfl) (r_isCall hb hA hv) ?_
  refine V_if_ne (tgt := 15) dX10_earFor_5 rfl (fun h5 => ?_) (fun h5 => ?_)
  · have h5 : inR c (v_nc (x_A X)) := bI_ne.mp h5
    refine V_aload_n (i := 0) dX10_earFor_15 rfl 0 rfl ?_
    refine M_getI (x := nI (v_ne (x_A X))) dX10_earFor_16 lf_X10_95 rfl hb.1 (hA.ne) ?_
    refine V_if_ne (tgt := 29) dX10_earFor_19 rfl (fun h19 => ?_) (fun h19 => ?_)
    · have h19 : ¬ (v_ne (x_A X)) = 0 := fun q => h19 ((nI_eq (b := 0) (by omega) (by omega)).mpr q)
      have cc := iN_eq (k := c) (by omega)
      have dc := iN_i (k := c) (by omega)
      refine M_at (lv2 := [(0, .ref (b)), (1, .int (nI (iN c)))]) (st2 := []) ?_ (by rw [← cc]) rfl rfl rfl
      refine V_iconst (v := nI 0) dX10_earFor_29 rfl ?_
      refine V_istore_n (lv2 := [(2, .int (nI 0)), (0, .ref (b)), (1, .int (nI (iN c)))]) dX10_earFor_30 rfl (by decide) rfl ?_
      refine V_iconst (v := nI 1) dX10_earFor_31 rfl ?_
      refine V_istore_n (lv2 := [(3, .int (nI 1)), (2, .int (nI 0)), (0, .ref (b)), (1, .int (nI (iN c)))]) dX10_earFor_32 rfl (by decide) rfl ?_
      have lp33 : ∀ j, j ≤ (v_ne (x_A X)) → 1 ≤ j → ∀ (iv2 : IV) (lw2 : LW), MA b iv iv2 → Off (b + 38) 1 lw lw2 → VM g mX10_earFor 33 [(3, .int (nI j)), (2, .int (oI (bestLo (fun e => behind (x_A X) (iN c) e) j))), (0, .ref (b)), (1, .int (nI (iN c)))] [] S iv2 lw2 Q := by
        refine up_ind fun j hj ih33 => ?_
        intro hj1 iv2 lw2 hM hL
        have hA2 := hA.ma hv hM
        obtain ⟨k0, hk0⟩ := Option.ne_none_iff_exists'.mp (bl_some (f := (fun e => behind (x_A X) (iN c) e)) (show 0 < j by omega))
        have hk1 := bestLo_lt _ hk0
        refine V_iload_n (i := 3) dX10_earFor_33 rfl 0 rfl ?_
        refine V_aload_n (i := 0) dX10_earFor_34 rfl 2 rfl ?_
        refine M_getI (x := nI (v_ne (x_A X))) dX10_earFor_35 lf_X10_95 rfl hb.1 (hA2.ne) ?_
        refine V_icmp_ge (tgt := 68) dX10_earFor_38 rfl (fun h38 => ?_) (fun h38 => ?_)
        · have h38 : (v_ne (x_A X)) ≤ j := (nI_leI (by omega) (by omega)).mp h38
          refine V_iload_n (i := 2) dX10_earFor_68 rfl 1 rfl ?_
          refine V_iret dX10_earFor_69 ⟨rfl, rfl⟩ (Nat.zero_le _) (Nat.zero_le _) ?_
          subst hQ
          obtain rfl : j = v_ne (x_A X) := by omega
          exact ⟨_, _, _, rfl, rfl, by unfold o_earFor; rw [if_neg (fun z => z h5), if_pos (by omega)]; exact MP.ma hX hk hM hL⟩
        · have h38 : ¬ (v_ne (x_A X)) ≤ j := fun q => h38 ((nI_leI (by omega) (by omega)).mpr q)
          refine M_at (lv2 := [(3, .int (nI j)), (2, .int (nI k0)), (0, .ref (b)), (1, .int (nI (iN c)))]) (st2 := []) ?_ (by rw [hk0]; rfl) rfl rfl rfl
          refine V_aload_n (i := 0) dX10_earFor_41 rfl 2 rfl ?_
          refine V_iload_n (i := 1) dX10_earFor_42 rfl 3 rfl ?_
          refine V_iload_n (i := 3) dX10_earFor_43 rfl 0 rfl ?_
          refine M_callVq (As := [.int (nI (iN c)), .int (nI j)]) (st := []) dX10_earFor_44 lv_X10_295 ⟨by decide, by decide⟩ ⟨rfl, rfl⟩ rfl (ci := 7) hb.1 rfl rfl (Nat.le_of_ble_eq_true rfl) (r_behindOf hb hA2 hv (c := iN c) (e := j) (by omega) (by omega)) (fun w44 iv44 lw44 q44 => ?_)
          obtain ⟨rfl, a1, a2⟩ := q44
          have hM44 := hM.tr a1
          have hL44 := hL.tr a2
          have hA44 := hA.ma hv hM44
          refine V_aload_n (i := 0) dX10_earFor_47 rfl 2 rfl ?_
          refine V_iload_n (i := 1) dX10_earFor_48 rfl 3 rfl ?_
          refine V_iload_n (i := 2) dX10_earFor_49 rfl 1 rfl ?_
          refine M_callVq (As := [.int (nI (iN c)), .int (nI k0)]) (st := [.int (nI (behind (x_A X) (iN c) j))]) dX10_earFor_50 lv_X10_295 ⟨by decide, by decide⟩ ⟨rfl, rfl⟩ rfl (ci := 7) hb.1 rfl rfl (Nat.le_of_ble_eq_true rfl) (r_behindOf hb hA44 hv (c := iN c) (e := k0) (by omega) (by omega)) (fun w50 iv50 lw50 q50 => ?_)
          obtain ⟨rfl, a1, a2⟩ := q50
          have hM50 := hM44.tr a1
          have hL50 := hL44.tr a2
          have hb1 := behind_le (x_A X) (iN c) j
          have hb2 := behind_le (x_A X) (iN c) k0
          have hs8 := hv.sz (c := iN c) (by omega)
          refine V_icmp_ge (tgt := 60) dX10_earFor_53 rfl (fun h53 => ?_) (fun h53 => ?_)
          · have h53 : (behind (x_A X) (iN c) k0) ≤ (behind (x_A X) (iN c) j) := (nI_leI (by omega) (by omega)).mp h53
            refine V_iload_n (i := 2) dX10_earFor_60 rfl 1 rfl ?_
            refine V_istore_n (lv2 := [(2, .int (nI k0)), (3, .int (nI j)), (0, .ref (b)), (1, .int (nI (iN c)))]) dX10_earFor_61 rfl (by decide) rfl ?_
            refine V_iinc (v := nI (j + 1)) (lv2 := [(3, .int (nI (j + 1))), (2, .int (nI k0)), (0, .ref (b)), (1, .int (nI (iN c)))]) dX10_earFor_62 1 rfl (nI_inc _) (by decide) rfl ?_
            refine V_goto (tgt := 33) dX10_earFor_65 rfl ?_
            refine V_sub [0, 1, 2, 3] rfl ?_
            exact M_at (ih33 (by omega) (by omega) iv50 lw50 hM50 hL50) (by rw [bestLo_old (by rw [hk0]; exact fun z => by cases z) (by rw [hk0]; show ¬ behind (x_A X) (iN c) j < behind (x_A X) (iN c) k0; omega), hk0]; rfl) rfl (rfl) (rfl)
          · have h53 : ¬ (behind (x_A X) (iN c) k0) ≤ (behind (x_A X) (iN c) j) := fun q => h53 ((nI_leI (by omega) (by omega)).mpr q)
            refine V_iload_n (i := 3) dX10_earFor_56 rfl 0 rfl ?_
            refine V_goto (tgt := 61) dX10_earFor_57 rfl ?_
            refine V_istore_n (lv2 := [(2, .int (nI j)), (3, .int (nI j)), (0, .ref (b)), (1, .int (nI (iN c)))]) dX10_earFor_61 rfl (by decide) rfl ?_
            refine V_iinc (v := nI (j + 1)) (lv2 := [(3, .int (nI (j + 1))), (2, .int (nI j)), (0, .ref (b)), (1, .int (nI (iN c)))]) dX10_earFor_62 1 rfl (nI_inc _) (by decide) rfl ?_
            refine V_goto (tgt := 33) dX10_earFor_65 rfl ?_
            refine V_sub [0, 1, 2, 3] rfl ?_
            exact M_at (ih33 (by omega) (by omega) iv50 lw50 hM50 hL50) (by rw [bestLo_new (Or.inr (by rw [hk0]; show behind (x_A X) (iN c) j < behind (x_A X) (iN c) k0; omega))]; rfl) rfl (rfl) (rfl)
      refine V_sub [0, 1, 2, 3] rfl ?_
      exact M_at (lp33 1 (by omega) (Nat.le_refl _) iv lw MA.rf Off.rf) (rfl) rfl (rfl) (rfl)
    · have h19 : (v_ne (x_A X)) = 0 := (nI_eq (b := 0) (by omega) (by omega)).mp h19
      refine V_aload_n (i := 0) dX10_earFor_22 rfl 0 rfl ?_
      refine V_bipush (v := (-5)) dX10_earFor_23 rfl ?_
      refine M_callVq (As := [.int ((-5))]) (st := []) dX10_earFor_25 lv_X10_107 ⟨by decide, by decide⟩ ⟨rfl, rfl⟩ rfl (ci := 7) hb.1 rfl rfl (Nat.le_of_ble_eq_true rfl) (q_refuse hs hX hk (j := 3) (by decide)) (fun w25 iv25 lw25 q25 => ?_)
      obtain ⟨rfl, e1, hXr, hOr⟩ := q25
      subst e1
      refine V_iret dX10_earFor_28 ⟨rfl, rfl⟩ (Nat.zero_le _) (Nat.zero_le _) ?_
      subst hQ
      exact ⟨_, _, _, rfl, rfl, by unfold o_earFor; rw [if_neg (fun z => z h5), if_neg (by omega)]; exact ⟨rfl, hXr, hOr, Off.rf⟩⟩
  · have h5 : ¬ (inR c (v_nc (x_A X))) := bI_eq0.mp h5
    refine V_aload_n (i := 0) dX10_earFor_8 rfl 0 rfl ?_
    refine V_bipush (v := (-2)) dX10_earFor_9 rfl ?_
    refine M_callVq (As := [.int ((-2))]) (st := []) dX10_earFor_11 lv_X10_107 ⟨by decide, by decide⟩ ⟨rfl, rfl⟩ rfl (ci := 7) hb.1 rfl rfl (Nat.le_of_ble_eq_true rfl) (q_refuse hs hX hk (j := 0) (by decide)) (fun w11 iv11 lw11 q11 => ?_)
    obtain ⟨rfl, e1, hXr, hOr⟩ := q11
    subst e1
    refine V_iret dX10_earFor_14 ⟨rfl, rfl⟩ (Nat.zero_le _) (Nat.zero_le _) ?_
    subst hQ
    exact ⟨_, _, _, rfl, rfl, by unfold o_earFor; rw [if_pos h5]; exact ⟨rfl, hXr, hOr, Off.rf⟩⟩
set_option maxRecDepth 20000 in
theorem q_mean {g : Ev} {S : St} {iv : IV} {lw : LW} {b : Nat} (hs : SS S b) {X : Xs} (hX : MX S iv lw b X) (hk : XOK X) {e : Int32} : CQ g mX10_mean [.ref (b), .int (e)] S iv lw (fun w iv2 lw2 => MP S b iv lw (o_mean X e) w iv2 lw2) := by
  refine CT_ofQ rfl (by decide) (Nat.le_of_ble_eq_true rfl) (lv := [(0, .ref (b)), (1, .int (e))]) rfl (fun Q hQ => ?_)
  have hb := hs.1
  have hA := hX.1
  have hv := hk.1
  have hnc := hv.nc
  have hne := hv.ne
  have hnm := hv.nm
  refine V_aload_n (i := 0) dX10_mean_0 rfl 0 rfl ?_
  refine V_iload_n (i := 1) dX10_mean_1 rfl 1 rfl ?_
  refine M_callVp (As := [.int (e)]) (st := []) dX10_mean_2 lv_X10_122 ⟨by decide, by decide⟩ ⟨rfl, rfl⟩ rfl (ci := 7) hb.1 rfl rfl (Nat.le_of_ble_eq_true rfl) (r_isEar hb hA hv) ?_
  refine V_if_ne (tgt := 15) dX10_mean_5 rfl (fun h5 => ?_) (fun h5 => ?_)
  · have h5 : inR e (v_ne (x_A X)) := bI_ne.mp h5
    refine V_aload_n (i := 0) dX10_mean_15 rfl 0 rfl ?_
    refine M_getI (x := nI (v_nc (x_A X))) dX10_mean_16 lf_X10_88 rfl hb.1 (hA.nc) ?_
    refine V_if_ne (tgt := 29) dX10_mean_19 rfl (fun h19 => ?_) (fun h19 => ?_)
    · have h19 : ¬ (v_nc (x_A X)) = 0 := fun q => h19 ((nI_eq (b := 0) (by omega) (by omega)).mpr q)
      have ce := iN_eq (k := e) (by omega)
      have de := iN_i (k := e) (by omega)
      refine M_at (lv2 := [(0, .ref (b)), (1, .int (nI (iN e)))]) (st2 := []) ?_ (by rw [← ce]) rfl rfl rfl
      refine V_lconst (v := lN 0) dX10_mean_29 rfl ?_
      refine V_lstore_n (lv2 := [(2, .long (lN 0)), (0, .ref (b)), (1, .int (nI (iN e)))]) dX10_mean_30 rfl (by decide) rfl ?_
      refine V_iconst (v := nI 0) dX10_mean_31 rfl ?_
      refine V_istore (lv2 := [(4, .int (nI 0)), (2, .long (lN 0)), (0, .ref (b)), (1, .int (nI (iN e)))]) dX10_mean_32 (by decide) rfl ?_
      have lp34 : ∀ j, j ≤ (v_nc (x_A X)) → ∀ (iv2 : IV) (lw2 : LW), MA b iv iv2 → Off (b + 38) 1 lw lw2 → VM g mX10_mean 34 [(4, .int (nI j)), (2, .long (lN (sumTo (fun c => v_us (x_A X) c * behind (x_A X) c (iN e)) j))), (0, .ref (b)), (1, .int (nI (iN e)))] [] S iv2 lw2 Q := by
        refine up_ind fun j hj ih34 => ?_
        intro iv2 lw2 hM hL
        have hA2 := hA.ma hv hM
        refine V_iload dX10_mean_34 0 rfl ?_
        refine V_aload_n (i := 0) dX10_mean_36 rfl 2 rfl ?_
        refine M_getI (x := nI (v_nc (x_A X))) dX10_mean_37 lf_X10_88 rfl hb.1 (hA2.nc) ?_
        refine V_icmp_ge (tgt := 68) dX10_mean_40 rfl (fun h40 => ?_) (fun h40 => ?_)
        · have h40 : (v_nc (x_A X)) ≤ j := (nI_leI (by omega) (by omega)).mp h40
          have hj9 : j = v_nc (x_A X) := by omega
          have hm1 := msum_le7 (e := iN e) hv (v_nc (x_A X)) (Nat.le_refl _)
          have hm2 := usum_le7 hv (v_nc (x_A X)) (Nat.le_refl _)
          have hm3 := usum_pos hv (v_nc (x_A X)) (by omega) (Nat.le_refl _)
          refine M_at (lv2 := [(4, .int (nI j)), (2, .long (lN (sumTo (fun c => v_us (x_A X) c * behind (x_A X) c (iN e)) (v_nc (x_A X))))), (0, .ref (b)), (1, .int (nI (iN e)))]) (st2 := []) ?_ (by rw [hj9]) rfl rfl rfl
          refine V_ldc2 (v := lN 1000) dX10_mean_68 mw_1315 ?_
          refine V_lload_n (i := 2) dX10_mean_71 rfl 1 rfl ?_
          refine V_lmul dX10_mean_72 ?_
          refine M_topL (x2 := lN (1000 * sumTo (fun c => v_us (x_A X) c * behind (x_A X) c (iN e)) (v_nc (x_A X)))) (lN_mul _ _) ?_
          refine V_aload_n (i := 0) dX10_mean_73 rfl 2 rfl ?_
          refine M_callVp (As := []) (st := [.long (lN (1000 * sumTo (fun c => v_us (x_A X) c * behind (x_A X) c (iN e)) (v_nc (x_A X))))]) dX10_mean_74 lv_X10_298 ⟨by decide, by decide⟩ ⟨rfl, rfl⟩ rfl (ci := 7) hb.1 rfl rfl (Nat.le_of_ble_eq_true rfl) (r_uses hb hA2 hv) ?_
          refine V_i2l dX10_mean_77 ?_
          refine M_topL (x2 := lN (sumTo (v_us (x_A X)) (v_nc (x_A X)))) (n64w (by omega)) ?_
          refine V_ldiv dX10_mean_78 (fun z => by have z2 := congrArg Int64.toInt z; rw [lN_toInt (by omega)] at z2; have z3 : (0 : Int64).toInt = 0 := rfl; omega) ?_
          refine M_topL (x2 := lN (1000 * sumTo (fun c => v_us (x_A X) c * behind (x_A X) c (iN e)) (v_nc (x_A X)) / sumTo (v_us (x_A X)) (v_nc (x_A X)))) (lN_div (by omega) (by omega)) ?_
          refine V_l2i dX10_mean_79 ?_
          refine M_top (x2 := nI (meanV (x_A X) (iN e))) (by rw [lN_32]; unfold meanV perK; rw [if_pos hm3]) ?_
          refine V_iret dX10_mean_80 ⟨rfl, rfl⟩ (Nat.zero_le _) (Nat.zero_le _) ?_
          subst hQ
          exact ⟨_, _, _, rfl, rfl, by unfold o_mean; rw [if_neg (fun z => z h5), if_pos (by omega)]; exact MP.ma hX hk hM hL⟩
        · have h40 : ¬ (v_nc (x_A X)) ≤ j := fun q => h40 ((nI_leI (by omega) (by omega)).mpr q)
          refine V_lload_n (i := 2) dX10_mean_43 rfl 1 rfl ?_
          refine V_aload_n (i := 0) dX10_mean_44 rfl 2 rfl ?_
          refine M_getR dX10_mean_45 lf_X10_45 rfl hb.1 hb.2.2.2.2.2.2.2.2.2.2.2.1.1 ?_
          refine V_iload dX10_mean_48 0 rfl ?_
          refine M_ialdn (j := j) (x := nI (v_us (x_A X) j)) dX10_mean_50 hb.2.2.2.2.2.2.2.2.2.2.2.1.2 (by decide) (by omega) (hA2.us (c := j) (by omega)) ?_
          refine V_aload_n (i := 0) dX10_mean_51 rfl 2 rfl ?_
          refine V_iload dX10_mean_52 0 rfl ?_
          refine V_iload_n (i := 1) dX10_mean_54 rfl 3 rfl ?_
          refine M_callVq (As := [.int (nI j), .int (nI (iN e))]) (st := [.int (nI (v_us (x_A X) j)), .long (lN (sumTo (fun c => v_us (x_A X) c * behind (x_A X) c (iN e)) j))]) dX10_mean_55 lv_X10_295 ⟨by decide, by decide⟩ ⟨rfl, rfl⟩ rfl (ci := 7) hb.1 rfl rfl (Nat.le_of_ble_eq_true rfl) (r_behindOf hb hA2 hv (c := j) (e := iN e) (by omega) (by omega)) (fun w55 iv55 lw55 q55 => ?_)
          obtain ⟨rfl, a1, a2⟩ := q55
          refine V_imul dX10_mean_58 ?_
          refine M_top (pk_mul _ _) ?_
          have hu99 := hv.us (c := j) (by omega)
          have hs8 := hv.sz (c := j) (by omega)
          have hb9 := behind_le (x_A X) j (iN e)
          have hm9 : v_us (x_A X) j * behind (x_A X) j (iN e) ≤ 99 * 10 := Nat.mul_le_mul hu99 (by omega)
          refine V_i2l dX10_mean_59 ?_
          refine M_topL (x2 := lN (v_us (x_A X) j * behind (x_A X) j (iN e))) (n64w (by omega)) ?_
          refine V_ladd dX10_mean_60 ?_
          refine M_topL (x2 := lN (sumTo (fun c => v_us (x_A X) c * behind (x_A X) c (iN e)) (j + 1))) (lN_add _ _) ?_
          refine V_lstore_n (lv2 := [(2, .long (lN (sumTo (fun c => v_us (x_A X) c * behind (x_A X) c (iN e)) (j + 1)))), (4, .int (nI j)), (0, .ref (b)), (1, .int (nI (iN e)))]) dX10_mean_61 rfl (by decide) rfl ?_
          refine V_iinc (v := nI (j + 1)) (lv2 := [(4, .int (nI (j + 1))), (2, .long (lN (sumTo (fun c => v_us (x_A X) c * behind (x_A X) c (iN e)) (j + 1)))), (0, .ref (b)), (1, .int (nI (iN e)))]) dX10_mean_62 1 rfl (nI_inc _) (by decide) rfl ?_
          refine V_goto (tgt := 34) dX10_mean_65 rfl ?_
          refine V_sub [0, 1, 2, 3] rfl ?_
          exact M_at (ih34 (by omega) iv55 lw55 (hM.tr a1) (hL.tr a2)) (rfl) rfl (rfl) (rfl)
      refine V_sub [0, 1, 2, 3] rfl ?_
      exact M_at (lp34 0 (Nat.zero_le _) iv lw MA.rf Off.rf) (rfl) rfl (rfl) (rfl)
    · have h19 : (v_nc (x_A X)) = 0 := (nI_eq (b := 0) (by omega) (by omega)).mp h19
      refine V_aload_n (i := 0) dX10_mean_22 rfl 0 rfl ?_
      refine V_bipush (v := (-5)) dX10_mean_23 rfl ?_
      refine M_callVq (As := [.int ((-5))]) (st := []) dX10_mean_25 lv_X10_107 ⟨by decide, by decide⟩ ⟨rfl, rfl⟩ rfl (ci := 7) hb.1 rfl rfl (Nat.le_of_ble_eq_true rfl) (q_refuse hs hX hk (j := 3) (by decide)) (fun w25 iv25 lw25 q25 => ?_)
      obtain ⟨rfl, e1, hXr, hOr⟩ := q25
      subst e1
      refine V_iret dX10_mean_28 ⟨rfl, rfl⟩ (Nat.zero_le _) (Nat.zero_le _) ?_
      subst hQ
      exact ⟨_, _, _, rfl, rfl, by unfold o_mean; rw [if_neg (fun z => z h5), if_neg (by omega)]; exact ⟨rfl, hXr, hOr, Off.rf⟩⟩
  · have h5 : ¬ (inR e (v_ne (x_A X))) := bI_eq0.mp h5
    refine V_aload_n (i := 0) dX10_mean_8 rfl 0 rfl ?_
    refine V_bipush (v := (-2)) dX10_mean_9 rfl ?_
    refine M_callVq (As := [.int ((-2))]) (st := []) dX10_mean_11 lv_X10_107 ⟨by decide, by decide⟩ ⟨rfl, rfl⟩ rfl (ci := 7) hb.1 rfl rfl (Nat.le_of_ble_eq_true rfl) (q_refuse hs hX hk (j := 0) (by decide)) (fun w11 iv11 lw11 q11 => ?_)
    obtain ⟨rfl, e1, hXr, hOr⟩ := q11
    subst e1
    refine V_iret dX10_mean_14 ⟨rfl, rfl⟩ (Nat.zero_le _) (Nat.zero_le _) ?_
    subst hQ
    exact ⟨_, _, _, rfl, rfl, by unfold o_mean; rw [if_pos h5]; exact ⟨rfl, hXr, hOr, Off.rf⟩⟩
set_option maxRecDepth 20000 in
theorem r_riskOf {g : Ev} {S : St} {iv : IV} {lw : LW} {b : Nat} (hb : IsMod S b) {V : Cv} (hV : MC iv b V) (hv : VOK V) {c e : Nat} (hc : c < v_nc V) (he : e < v_ne V) : CQ g mX10_riskOf [.ref (b), .int (nI c), .int (nI e)] S iv lw (fun w iv2 lw2 => w = .int (nI (riskV V c e)) ∧ MA b iv iv2 ∧ Off (b + 38) 1 lw lw2) := by
  refine CT_ofQ rfl (by decide) (Nat.le_of_ble_eq_true rfl) (lv := [(0, .ref (b)), (1, .int (nI c)), (2, .int (nI e))]) rfl (fun Q hQ => ?_)
  have hnc := hv.nc
  have hne := hv.ne
  have hnm := hv.nm
  have hs8 := hv.sz hc
  refine V_aload_n (i := 0) dX10_riskOf_0 rfl 0 rfl ?_
  refine V_iload_n (i := 1) dX10_riskOf_1 rfl 1 rfl ?_
  refine V_iload_n (i := 2) dX10_riskOf_2 rfl 2 rfl ?_
  refine V_aload_n (i := 0) dX10_riskOf_3 rfl 0 rfl ?_
  refine M_getR dX10_riskOf_4 lf_X10_42 rfl hb.1 hb.2.2.2.2.2.2.2.2.2.2.1.1 ?_
  refine V_iload_n (i := 1) dX10_riskOf_7 rfl 1 rfl ?_
  refine M_ialdn (j := c) (x := nI (v_sz V c)) dX10_riskOf_8 hb.2.2.2.2.2.2.2.2.2.2.1.2 (by decide) (by omega) (hV.sz (c := c) (by omega)) ?_
  refine V_iconst (v := nI 1) dX10_riskOf_9 rfl ?_
  refine M_callVn (As := [.int (nI c), .int (nI e), .int (nI (v_sz V c)), .int (nI 1)]) (st := []) dX10_riskOf_10 lv_X10_285 ⟨by decide, by decide⟩ ⟨rfl, rfl⟩ rfl (ci := 7) hb.1 rfl rfl (Nat.le_of_ble_eq_true rfl) (r_hearsOf hb hV hv hc he (m := v_sz V c) (Nat.le_refl _) (o := true) rfl) (fun iv10 lw10 q10 => ?_)
  obtain ⟨hM, hH, hL⟩ := q10
  have hV2 := hV.ma hv hM
  refine V_iconst (v := nI 0) dX10_riskOf_13 rfl ?_
  refine V_istore_n (lv2 := [(3, .int (nI 0)), (0, .ref (b)), (1, .int (nI c)), (2, .int (nI e))]) dX10_riskOf_14 rfl (by decide) rfl ?_
  refine V_iconst (v := nI 0) dX10_riskOf_15 rfl ?_
  refine V_istore (lv2 := [(4, .int (nI 0)), (3, .int (nI 0)), (0, .ref (b)), (1, .int (nI c)), (2, .int (nI e))]) dX10_riskOf_16 (by decide) rfl ?_
  refine V_iconst (v := nI 0) dX10_riskOf_18 rfl ?_
  refine V_istore (lv2 := [(5, .int (nI 0)), (4, .int (nI 0)), (3, .int (nI 0)), (0, .ref (b)), (1, .int (nI c)), (2, .int (nI e))]) dX10_riskOf_19 (by decide) rfl ?_
  have lp21 : ∀ j, j ≤ (v_nc V) → VM g mX10_riskOf 21 [(5, .int (nI j)), (4, .int (nI (wT V (hearOf V c e (v_sz V c) true) c e j))), (3, .int (nI (uT V (hearOf V c e (v_sz V c) true) e j))), (0, .ref (b)), (1, .int (nI c)), (2, .int (nI e))] [] S iv10 lw10 Q := by
    refine up_ind fun j hj ih21 => ?_
    refine V_iload dX10_riskOf_21 0 rfl ?_
    refine V_aload_n (i := 0) dX10_riskOf_23 rfl 3 rfl ?_
    refine M_getI (x := nI (v_nc V)) dX10_riskOf_24 lf_X10_88 rfl hb.1 (hV2.nc) ?_
    refine V_icmp_ge (tgt := 86) dX10_riskOf_27 rfl (fun h27 => ?_) (fun h27 => ?_)
    · have h27 : (v_nc V) ≤ j := (nI_leI (by omega) (by omega)).mp h27
      have hj9 : j = v_nc V := by omega
      have hf1 : uT V (hearOf V c e (v_sz V c) true) e (v_nc V) ≤ 1188 := usF_le hv _ (Nat.le_refl _)
      have hs1 : wT V (hearOf V c e (v_sz V c) true) c e (v_nc V) ≤ 117612 := rsum_le (c := c) (e := e) (H := (hearOf V c e (v_sz V c) true)) hv (Nat.le_refl (v_nc V))
      refine M_at (lv2 := [(5, .int (nI j)), (4, .int (nI (wT V (hearOf V c e (v_sz V c) true) c e (v_nc V)))), (3, .int (nI (uT V (hearOf V c e (v_sz V c) true) e (v_nc V)))), (0, .ref (b)), (1, .int (nI c)), (2, .int (nI e))]) (st2 := []) ?_ (by rw [hj9]) rfl rfl rfl
      refine V_iload_n (i := 3) dX10_riskOf_86 rfl 2 rfl ?_
      refine V_if_ne (tgt := 94) dX10_riskOf_87 rfl (fun h87 => ?_) (fun h87 => ?_)
      · have h87 : ¬ (uT V (hearOf V c e (v_sz V c) true) e (v_nc V)) = 0 := fun q => h87 ((nI_eq (b := 0) (by omega) (by omega)).mpr q)
        refine V_iload dX10_riskOf_94 1 rfl ?_
        refine V_iload_n (i := 3) dX10_riskOf_96 rfl 2 rfl ?_
        refine V_idiv dX10_riskOf_97 (nI_ne0 (by omega) (by omega)) ?_
        refine M_top (x2 := nI (wT V (hearOf V c e (v_sz V c) true) c e (v_nc V) / uT V (hearOf V c e (v_sz V c) true) e (v_nc V))) (pk_div (by show wT _ _ _ _ _ < _; omega) (by omega) (by omega)) ?_
        refine V_iret dX10_riskOf_98 ⟨rfl, rfl⟩ (Nat.zero_le _) (Nat.zero_le _) ?_
        subst hQ
        exact ⟨_, _, _, rfl, rfl, by rw [risk_1 (by show 0 < uT V (hearOf V c e (v_sz V c) true) e (v_nc V); omega)]; try rfl, hM, hL⟩
      · have h87 : (uT V (hearOf V c e (v_sz V c) true) e (v_nc V)) = 0 := (nI_eq (b := 0) (by omega) (by omega)).mp h87
        refine V_iconst (v := nI 0) dX10_riskOf_90 rfl ?_
        refine V_goto (tgt := 98) dX10_riskOf_91 rfl ?_
        refine V_iret dX10_riskOf_98 ⟨rfl, rfl⟩ (Nat.zero_le _) (Nat.zero_le _) ?_
        subst hQ
        exact ⟨_, _, _, rfl, rfl, by rw [risk_0 (by show uT V (hearOf V c e (v_sz V c) true) e (v_nc V) = 0; omega)]; try rfl, hM, hL⟩
    · have h27 : ¬ (v_nc V) ≤ j := fun q => h27 ((nI_leI (by omega) (by omega)).mpr q)
      refine V_aload_n (i := 0) dX10_riskOf_30 rfl 3 rfl ?_
      refine V_iload dX10_riskOf_31 0 rfl ?_
      refine V_iload_n (i := 2) dX10_riskOf_33 rfl 5 rfl ?_
      refine M_callVp (As := [.int (nI j), .int (nI e)]) (st := []) dX10_riskOf_34 lv_X10_265 ⟨by decide, by decide⟩ ⟨rfl, rfl⟩ rfl (ci := 7) hb.1 rfl rfl (Nat.le_of_ble_eq_true rfl) (r_fitsHearing hb hV2 hv hH (c := j) (by omega) he) ?_
      refine V_if_eq (tgt := 80) dX10_riskOf_37 rfl (fun h37 => ?_) (fun h37 => ?_)
      · have h37 : ¬ (fitB V (hearOf V c e (v_sz V c) true) e j = true) := bI_eq0.mp h37
        refine V_iinc (v := nI (j + 1)) (lv2 := [(5, .int (nI (j + 1))), (4, .int (nI (wT V (hearOf V c e (v_sz V c) true) c e j))), (3, .int (nI (uT V (hearOf V c e (v_sz V c) true) e j))), (0, .ref (b)), (1, .int (nI c)), (2, .int (nI e))]) dX10_riskOf_80 0 rfl (nI_inc _) (by decide) rfl ?_
        refine V_goto (tgt := 21) dX10_riskOf_83 rfl ?_
        refine V_sub [0, 1, 2, 3, 4, 5] rfl ?_
        exact M_at (ih21 (by omega)) (by rw [show uT V (hearOf V c e (v_sz V c) true) e (j + 1) = uT V (hearOf V c e (v_sz V c) true) e j from sumTo_f h37, show wT V (hearOf V c e (v_sz V c) true) c e (j + 1) = wT V (hearOf V c e (v_sz V c) true) c e j from sumTo_f (p := fun k => !decide (k = c) && fitB V (hearOf V c e (v_sz V c) true) e k) (by simp [h37])]; try rfl) rfl (rfl) (rfl)
      · have h37 : fitB V (hearOf V c e (v_sz V c) true) e j = true := bI_ne.mp h37
        refine V_iload_n (i := 3) dX10_riskOf_40 rfl 2 rfl ?_
        refine V_aload_n (i := 0) dX10_riskOf_41 rfl 3 rfl ?_
        refine M_getR dX10_riskOf_42 lf_X10_45 rfl hb.1 hb.2.2.2.2.2.2.2.2.2.2.2.1.1 ?_
        refine V_iload dX10_riskOf_45 0 rfl ?_
        refine M_ialdn (j := j) (x := nI (v_us V j)) dX10_riskOf_47 hb.2.2.2.2.2.2.2.2.2.2.2.1.2 (by decide) (by omega) (hV2.us (c := j) (by omega)) ?_
        refine V_iadd dX10_riskOf_48 ?_
        refine M_top (nI_add _ _) ?_
        refine V_istore_n (lv2 := [(3, .int (nI ((uT V (hearOf V c e (v_sz V c) true) e j) + (v_us V j)))), (5, .int (nI j)), (4, .int (nI (wT V (hearOf V c e (v_sz V c) true) c e j))), (0, .ref (b)), (1, .int (nI c)), (2, .int (nI e))]) dX10_riskOf_49 rfl (by decide) rfl ?_
        refine V_iload dX10_riskOf_50 2 rfl ?_
        refine V_iload dX10_riskOf_52 1 rfl ?_
        refine V_iload_n (i := 1) dX10_riskOf_54 rfl 4 rfl ?_
        refine V_icmp_ne (tgt := 62) dX10_riskOf_55 rfl (fun h55 => ?_) (fun h55 => ?_)
        · have h55 : ¬ j = c := fun q => h55 ((nI_eq (by omega) (by omega)).mpr q)
          refine V_aload_n (i := 0) dX10_riskOf_62 rfl 3 rfl ?_
          refine M_getR dX10_riskOf_63 lf_X10_45 rfl hb.1 hb.2.2.2.2.2.2.2.2.2.2.2.1.1 ?_
          refine V_iload dX10_riskOf_66 1 rfl ?_
          refine M_ialdn (j := j) (x := nI (v_us V j)) dX10_riskOf_68 hb.2.2.2.2.2.2.2.2.2.2.2.1.2 (by decide) (by omega) (hV2.us (c := j) (by omega)) ?_
          refine V_aload_n (i := 0) dX10_riskOf_69 rfl 3 rfl ?_
          refine M_getR dX10_riskOf_70 lf_X10_48 rfl hb.1 hb.2.2.2.2.2.2.2.2.2.2.2.2.1.1 ?_
          refine V_iload dX10_riskOf_73 1 rfl ?_
          refine M_ialdn (j := j) (x := nI (v_co V j)) dX10_riskOf_75 hb.2.2.2.2.2.2.2.2.2.2.2.2.1.2 (by decide) (by omega) (hV2.co (c := j) (by omega)) ?_
          refine V_imul dX10_riskOf_76 ?_
          refine M_top (x2 := nI (worth V j)) (pk_mul _ _) ?_
          refine V_iadd dX10_riskOf_77 ?_
          refine M_top (nI_add _ _) ?_
          refine V_istore (lv2 := [(4, .int (nI ((wT V (hearOf V c e (v_sz V c) true) c e j) + (worth V j)))), (3, .int (nI ((uT V (hearOf V c e (v_sz V c) true) e j) + (v_us V j)))), (5, .int (nI j)), (0, .ref (b)), (1, .int (nI c)), (2, .int (nI e))]) dX10_riskOf_78 (by decide) rfl ?_
          refine V_iinc (v := nI (j + 1)) (lv2 := [(5, .int (nI (j + 1))), (4, .int (nI ((wT V (hearOf V c e (v_sz V c) true) c e j) + (worth V j)))), (3, .int (nI ((uT V (hearOf V c e (v_sz V c) true) e j) + (v_us V j)))), (0, .ref (b)), (1, .int (nI c)), (2, .int (nI e))]) dX10_riskOf_80 2 rfl (nI_inc _) (by decide) rfl ?_
          refine V_goto (tgt := 21) dX10_riskOf_83 rfl ?_
          refine V_sub [0, 1, 2, 3, 4, 5] rfl ?_
          exact M_at (ih21 (by omega)) (by rw [show uT V (hearOf V c e (v_sz V c) true) e (j + 1) = uT V (hearOf V c e (v_sz V c) true) e j + v_us V j from sumTo_t h37, show wT V (hearOf V c e (v_sz V c) true) c e (j + 1) = wT V (hearOf V c e (v_sz V c) true) c e j + worth V j from sumTo_t (p := fun k => !decide (k = c) && fitB V (hearOf V c e (v_sz V c) true) e k) (by simp [h37, h55])]; try rfl) rfl (rfl) (rfl)
        · have h55 : j = c := (nI_eq (by omega) (by omega)).mp h55
          refine V_iconst (v := nI 0) dX10_riskOf_58 rfl ?_
          refine V_goto (tgt := 77) dX10_riskOf_59 rfl ?_
          refine V_iadd dX10_riskOf_77 ?_
          refine M_top (nI_add _ _) ?_
          refine V_istore (lv2 := [(4, .int (nI ((wT V (hearOf V c e (v_sz V c) true) c e j) + 0))), (3, .int (nI ((uT V (hearOf V c e (v_sz V c) true) e j) + (v_us V j)))), (5, .int (nI j)), (0, .ref (b)), (1, .int (nI c)), (2, .int (nI e))]) dX10_riskOf_78 (by decide) rfl ?_
          refine V_iinc (v := nI (j + 1)) (lv2 := [(5, .int (nI (j + 1))), (4, .int (nI ((wT V (hearOf V c e (v_sz V c) true) c e j) + 0))), (3, .int (nI ((uT V (hearOf V c e (v_sz V c) true) e j) + (v_us V j)))), (0, .ref (b)), (1, .int (nI c)), (2, .int (nI e))]) dX10_riskOf_80 2 rfl (nI_inc _) (by decide) rfl ?_
          refine V_goto (tgt := 21) dX10_riskOf_83 rfl ?_
          refine V_sub [0, 1, 2, 3, 4, 5] rfl ?_
          exact M_at (ih21 (by omega)) (by rw [show uT V (hearOf V c e (v_sz V c) true) e (j + 1) = uT V (hearOf V c e (v_sz V c) true) e j + v_us V j from sumTo_t h37, show wT V (hearOf V c e (v_sz V c) true) c e (j + 1) = wT V (hearOf V c e (v_sz V c) true) c e j + 0 from sumTo_f (p := fun k => !decide (k = c) && fitB V (hearOf V c e (v_sz V c) true) e k) (by simp [h55])]; try rfl) rfl (rfl) (rfl)
  refine V_sub [0, 1, 2, 3, 4, 5] rfl ?_
  exact M_at (lp21 0 (Nat.zero_le _)) (rfl) rfl (rfl) (rfl)
set_option maxRecDepth 20000 in
theorem q_risk {g : Ev} {S : St} {iv : IV} {lw : LW} {b : Nat} (hs : SS S b) {X : Xs} (hX : MX S iv lw b X) (hk : XOK X) {c : Int32} {e : Int32} : CQ g mX10_risk [.ref (b), .int (c), .int (e)] S iv lw (fun w iv2 lw2 => MP S b iv lw (o_risk X c e) w iv2 lw2) := by
  refine CT_ofQ rfl (by decide) (Nat.le_of_ble_eq_true rfl) (lv := [(0, .ref (b)), (1, .int (c)), (2, .int (e))]) rfl (fun Q hQ => ?_)
  have hb := hs.1
  have hA := hX.1
  have hv := hk.1
  have hnc := hv.nc
  have hne := hv.ne
  have hnm := hv.nm
  refine V_aload_n (i := 0) dX10_risk_0 rfl 0 rfl ?_
  refine V_iload_n (i := 1) dX10_risk_1 rfl 1 rfl ?_
  refine M_callVp (As := [.int (c)]) (st := []) dX10_risk_2 lv_X10_155 ⟨by decide, by decide⟩ ⟨rfl, rfl⟩ rfl (ci := 7) hb.1 rfl rfl (Nat.le_of_ble_eq_true rfl) (r_isCall hb hA hv) ?_
  refine V_if_eq (tgt := 25) dX10_risk_5 rfl (fun h5 => ?_) (fun h5 => ?_)
  · have h5 : ¬ (inR c (v_nc (x_A X))) := bI_eq0.mp h5
    refine V_aload_n (i := 0) dX10_risk_25 rfl 0 rfl ?_
    refine V_bipush (v := (-2)) dX10_risk_26 rfl ?_
    refine M_callVq (As := [.int ((-2))]) (st := []) dX10_risk_28 lv_X10_107 ⟨by decide, by decide⟩ ⟨rfl, rfl⟩ rfl (ci := 7) hb.1 rfl rfl (Nat.le_of_ble_eq_true rfl) (q_refuse hs hX hk (j := 0) (by decide)) (fun w28 iv28 lw28 q28 => ?_)
    obtain ⟨rfl, e1, hXr, hOr⟩ := q28
    subst e1
    refine V_iret dX10_risk_31 ⟨rfl, rfl⟩ (Nat.zero_le _) (Nat.zero_le _) ?_
    subst hQ
    exact ⟨_, _, _, rfl, rfl, by unfold o_risk; rw [if_pos (fun z => h5 z.1)]; exact ⟨rfl, hXr, hOr, Off.rf⟩⟩
  · have h5 : inR c (v_nc (x_A X)) := bI_ne.mp h5
    refine V_aload_n (i := 0) dX10_risk_8 rfl 0 rfl ?_
    refine V_iload_n (i := 2) dX10_risk_9 rfl 2 rfl ?_
    refine M_callVp (As := [.int (e)]) (st := []) dX10_risk_10 lv_X10_122 ⟨by decide, by decide⟩ ⟨rfl, rfl⟩ rfl (ci := 7) hb.1 rfl rfl (Nat.le_of_ble_eq_true rfl) (r_isEar hb hA hv) ?_
    refine V_if_eq (tgt := 25) dX10_risk_13 rfl (fun h13 => ?_) (fun h13 => ?_)
    · have h13 : ¬ (inR e (v_ne (x_A X))) := bI_eq0.mp h13
      refine V_aload_n (i := 0) dX10_risk_25 rfl 0 rfl ?_
      refine V_bipush (v := (-2)) dX10_risk_26 rfl ?_
      refine M_callVq (As := [.int ((-2))]) (st := []) dX10_risk_28 lv_X10_107 ⟨by decide, by decide⟩ ⟨rfl, rfl⟩ rfl (ci := 7) hb.1 rfl rfl (Nat.le_of_ble_eq_true rfl) (q_refuse hs hX hk (j := 0) (by decide)) (fun w28 iv28 lw28 q28 => ?_)
      obtain ⟨rfl, e1, hXr, hOr⟩ := q28
      subst e1
      refine V_iret dX10_risk_31 ⟨rfl, rfl⟩ (Nat.zero_le _) (Nat.zero_le _) ?_
      subst hQ
      exact ⟨_, _, _, rfl, rfl, by unfold o_risk; rw [if_pos (fun z => h13 z.2)]; exact ⟨rfl, hXr, hOr, Off.rf⟩⟩
    · have h13 : inR e (v_ne (x_A X)) := bI_ne.mp h13
      have cc := iN_eq (k := c) (by omega)
      have ce := iN_eq (k := e) (by omega)
      have dc := iN_i (k := c) (by omega)
      have de := iN_i (k := e) (by omega)
      refine M_at (lv2 := [(0, .ref (b)), (1, .int (nI (iN c))), (2, .int (nI (iN e)))]) (st2 := []) ?_ (by rw [← cc, ← ce]) rfl rfl rfl
      refine V_aload_n (i := 0) dX10_risk_16 rfl 0 rfl ?_
      refine V_iload_n (i := 1) dX10_risk_17 rfl 1 rfl ?_
      refine V_iload_n (i := 2) dX10_risk_18 rfl 2 rfl ?_
      refine M_callVq (As := [.int (nI (iN c)), .int (nI (iN e))]) (st := []) dX10_risk_19 lv_X10_301 ⟨by decide, by decide⟩ ⟨rfl, rfl⟩ rfl (ci := 7) hb.1 rfl rfl (Nat.le_of_ble_eq_true rfl) (r_riskOf hb hA hv (c := iN c) (e := iN e) (by omega) (by omega)) (fun w19 iv19 lw19 q19 => ?_)
      obtain ⟨rfl, hM, hL⟩ := q19
      refine V_goto (tgt := 31) dX10_risk_22 rfl ?_
      refine V_iret dX10_risk_31 ⟨rfl, rfl⟩ (Nat.zero_le _) (Nat.zero_le _) ?_
      subst hQ
      exact ⟨_, _, _, rfl, rfl, by unfold o_risk; rw [if_neg (fun z => z ⟨h5, h13⟩)]; exact MP.ma hX hk hM hL⟩
set_option maxRecDepth 20000 in
theorem q_worst {g : Ev} {S : St} {iv : IV} {lw : LW} {b : Nat} (hs : SS S b) {X : Xs} (hX : MX S iv lw b X) (hk : XOK X) {e : Int32} : CQ g mX10_worst [.ref (b), .int (e)] S iv lw (fun w iv2 lw2 => MP S b iv lw (o_worst X e) w iv2 lw2) := by
  refine CT_ofQ rfl (by decide) (Nat.le_of_ble_eq_true rfl) (lv := [(0, .ref (b)), (1, .int (e))]) rfl (fun Q hQ => ?_)
  have hb := hs.1
  have hA := hX.1
  have hv := hk.1
  have hnc := hv.nc
  have hne := hv.ne
  have hnm := hv.nm
  refine V_aload_n (i := 0) dX10_worst_0 rfl 0 rfl ?_
  refine V_iload_n (i := 1) dX10_worst_1 rfl 1 rfl ?_
  refine M_callVp (As := [.int (e)]) (st := []) dX10_worst_2 lv_X10_122 ⟨by decide, by decide⟩ ⟨rfl, rfl⟩ rfl (ci := 7) hb.1 rfl rfl (Nat.le_of_ble_eq_true rfl) (r_isEar hb hA hv) ?_
  refine V_if_ne (tgt := 15) dX10_worst_5 rfl (fun h5 => ?_) (fun h5 => ?_)
  · have h5 : inR e (v_ne (x_A X)) := bI_ne.mp h5
    refine V_aload_n (i := 0) dX10_worst_15 rfl 0 rfl ?_
    refine M_getI (x := nI (v_nc (x_A X))) dX10_worst_16 lf_X10_88 rfl hb.1 (hA.nc) ?_
    refine V_if_ne (tgt := 29) dX10_worst_19 rfl (fun h19 => ?_) (fun h19 => ?_)
    · have h19 : ¬ (v_nc (x_A X)) = 0 := fun q => h19 ((nI_eq (b := 0) (by omega) (by omega)).mpr q)
      have ce := iN_eq (k := e) (by omega)
      have de := iN_i (k := e) (by omega)
      refine M_at (lv2 := [(0, .ref (b)), (1, .int (nI (iN e)))]) (st2 := []) ?_ (by rw [← ce]) rfl rfl rfl
      refine V_iconst (v := nI 0) dX10_worst_29 rfl ?_
      refine V_istore_n (lv2 := [(2, .int (nI 0)), (0, .ref (b)), (1, .int (nI (iN e)))]) dX10_worst_30 rfl (by decide) rfl ?_
      refine V_iconst (v := nI 1) dX10_worst_31 rfl ?_
      refine V_istore_n (lv2 := [(3, .int (nI 1)), (2, .int (nI 0)), (0, .ref (b)), (1, .int (nI (iN e)))]) dX10_worst_32 rfl (by decide) rfl ?_
      have lp33 : ∀ j, j ≤ (v_nc (x_A X)) → 1 ≤ j → ∀ (iv2 : IV) (lw2 : LW), MA b iv iv2 → Off (b + 38) 1 lw lw2 → VM g mX10_worst 33 [(3, .int (nI j)), (2, .int (oI (bestHi (fun c => riskV (x_A X) c (iN e)) j))), (0, .ref (b)), (1, .int (nI (iN e)))] [] S iv2 lw2 Q := by
        refine up_ind fun j hj ih33 => ?_
        intro hj1 iv2 lw2 hM hL
        have hA2 := hA.ma hv hM
        obtain ⟨k0, hk0⟩ := Option.ne_none_iff_exists'.mp (bh_some (f := (fun c => riskV (x_A X) c (iN e))) (show 0 < j by omega))
        have hk1 := bestHi_lt _ hk0
        refine V_iload_n (i := 3) dX10_worst_33 rfl 0 rfl ?_
        refine V_aload_n (i := 0) dX10_worst_34 rfl 2 rfl ?_
        refine M_getI (x := nI (v_nc (x_A X))) dX10_worst_35 lf_X10_88 rfl hb.1 (hA2.nc) ?_
        refine V_icmp_ge (tgt := 68) dX10_worst_38 rfl (fun h38 => ?_) (fun h38 => ?_)
        · have h38 : (v_nc (x_A X)) ≤ j := (nI_leI (by omega) (by omega)).mp h38
          refine V_iload_n (i := 2) dX10_worst_68 rfl 1 rfl ?_
          refine V_iret dX10_worst_69 ⟨rfl, rfl⟩ (Nat.zero_le _) (Nat.zero_le _) ?_
          subst hQ
          obtain rfl : j = v_nc (x_A X) := by omega
          exact ⟨_, _, _, rfl, rfl, by unfold o_worst; rw [if_neg (fun z => z h5), if_pos (by omega)]; exact MP.ma hX hk hM hL⟩
        · have h38 : ¬ (v_nc (x_A X)) ≤ j := fun q => h38 ((nI_leI (by omega) (by omega)).mpr q)
          refine M_at (lv2 := [(3, .int (nI j)), (2, .int (nI k0)), (0, .ref (b)), (1, .int (nI (iN e)))]) (st2 := []) ?_ (by rw [hk0]; rfl) rfl rfl rfl
          refine V_aload_n (i := 0) dX10_worst_41 rfl 2 rfl ?_
          refine V_iload_n (i := 3) dX10_worst_42 rfl 0 rfl ?_
          refine V_iload_n (i := 1) dX10_worst_43 rfl 3 rfl ?_
          refine M_callVq (As := [.int (nI j), .int (nI (iN e))]) (st := []) dX10_worst_44 lv_X10_301 ⟨by decide, by decide⟩ ⟨rfl, rfl⟩ rfl (ci := 7) hb.1 rfl rfl (Nat.le_of_ble_eq_true rfl) (r_riskOf hb hA2 hv (c := j) (e := iN e) (by omega) (by omega)) (fun w44 iv44 lw44 q44 => ?_)
          obtain ⟨rfl, a1, a2⟩ := q44
          have hM44 := hM.tr a1
          have hL44 := hL.tr a2
          have hA44 := hA.ma hv hM44
          refine V_aload_n (i := 0) dX10_worst_47 rfl 2 rfl ?_
          refine V_iload_n (i := 2) dX10_worst_48 rfl 1 rfl ?_
          refine V_iload_n (i := 1) dX10_worst_49 rfl 3 rfl ?_
          refine M_callVq (As := [.int (nI k0), .int (nI (iN e))]) (st := [.int (nI (riskV (x_A X) j (iN e)))]) dX10_worst_50 lv_X10_301 ⟨by decide, by decide⟩ ⟨rfl, rfl⟩ rfl (ci := 7) hb.1 rfl rfl (Nat.le_of_ble_eq_true rfl) (r_riskOf hb hA44 hv (c := k0) (e := iN e) (by omega) (by omega)) (fun w50 iv50 lw50 q50 => ?_)
          obtain ⟨rfl, a1, a2⟩ := q50
          have hM50 := hM44.tr a1
          have hL50 := hL44.tr a2
          have hb1 := riskV_le (c := j) (e := iN e) hv
          have hb2 := riskV_le (c := k0) (e := iN e) hv
          refine V_icmp_le (tgt := 60) dX10_worst_53 rfl (fun h53 => ?_) (fun h53 => ?_)
          · have h53 : (riskV (x_A X) j (iN e)) ≤ (riskV (x_A X) k0 (iN e)) := (nI_leI (by omega) (by omega)).mp h53
            refine V_iload_n (i := 2) dX10_worst_60 rfl 1 rfl ?_
            refine V_istore_n (lv2 := [(2, .int (nI k0)), (3, .int (nI j)), (0, .ref (b)), (1, .int (nI (iN e)))]) dX10_worst_61 rfl (by decide) rfl ?_
            refine V_iinc (v := nI (j + 1)) (lv2 := [(3, .int (nI (j + 1))), (2, .int (nI k0)), (0, .ref (b)), (1, .int (nI (iN e)))]) dX10_worst_62 1 rfl (nI_inc _) (by decide) rfl ?_
            refine V_goto (tgt := 33) dX10_worst_65 rfl ?_
            refine V_sub [0, 1, 2, 3] rfl ?_
            exact M_at (ih33 (by omega) (by omega) iv50 lw50 hM50 hL50) (by rw [bestHi_old (by rw [hk0]; exact fun z => by cases z) (by rw [hk0]; show ¬ riskV (x_A X) k0 (iN e) < riskV (x_A X) j (iN e); omega), hk0]; rfl) rfl (rfl) (rfl)
          · have h53 : ¬ (riskV (x_A X) j (iN e)) ≤ (riskV (x_A X) k0 (iN e)) := fun q => h53 ((nI_leI (by omega) (by omega)).mpr q)
            refine V_iload_n (i := 3) dX10_worst_56 rfl 0 rfl ?_
            refine V_goto (tgt := 61) dX10_worst_57 rfl ?_
            refine V_istore_n (lv2 := [(2, .int (nI j)), (3, .int (nI j)), (0, .ref (b)), (1, .int (nI (iN e)))]) dX10_worst_61 rfl (by decide) rfl ?_
            refine V_iinc (v := nI (j + 1)) (lv2 := [(3, .int (nI (j + 1))), (2, .int (nI j)), (0, .ref (b)), (1, .int (nI (iN e)))]) dX10_worst_62 1 rfl (nI_inc _) (by decide) rfl ?_
            refine V_goto (tgt := 33) dX10_worst_65 rfl ?_
            refine V_sub [0, 1, 2, 3] rfl ?_
            exact M_at (ih33 (by omega) (by omega) iv50 lw50 hM50 hL50) (by rw [bestHi_new (Or.inr (by rw [hk0]; show riskV (x_A X) k0 (iN e) < riskV (x_A X) j (iN e); omega))]; rfl) rfl (rfl) (rfl)
      refine V_sub [0, 1, 2, 3] rfl ?_
      exact M_at (lp33 1 (by omega) (Nat.le_refl _) iv lw MA.rf Off.rf) (rfl) rfl (rfl) (rfl)
    · have h19 : (v_nc (x_A X)) = 0 := (nI_eq (b := 0) (by omega) (by omega)).mp h19
      refine V_aload_n (i := 0) dX10_worst_22 rfl 0 rfl ?_
      refine V_bipush (v := (-5)) dX10_worst_23 rfl ?_
      refine M_callVq (As := [.int ((-5))]) (st := []) dX10_worst_25 lv_X10_107 ⟨by decide, by decide⟩ ⟨rfl, rfl⟩ rfl (ci := 7) hb.1 rfl rfl (Nat.le_of_ble_eq_true rfl) (q_refuse hs hX hk (j := 3) (by decide)) (fun w25 iv25 lw25 q25 => ?_)
      obtain ⟨rfl, e1, hXr, hOr⟩ := q25
      subst e1
      refine V_iret dX10_worst_28 ⟨rfl, rfl⟩ (Nat.zero_le _) (Nat.zero_le _) ?_
      subst hQ
      exact ⟨_, _, _, rfl, rfl, by unfold o_worst; rw [if_neg (fun z => z h5), if_neg (by omega)]; exact ⟨rfl, hXr, hOr, Off.rf⟩⟩
  · have h5 : ¬ (inR e (v_ne (x_A X))) := bI_eq0.mp h5
    refine V_aload_n (i := 0) dX10_worst_8 rfl 0 rfl ?_
    refine V_bipush (v := (-2)) dX10_worst_9 rfl ?_
    refine M_callVq (As := [.int ((-2))]) (st := []) dX10_worst_11 lv_X10_107 ⟨by decide, by decide⟩ ⟨rfl, rfl⟩ rfl (ci := 7) hb.1 rfl rfl (Nat.le_of_ble_eq_true rfl) (q_refuse hs hX hk (j := 0) (by decide)) (fun w11 iv11 lw11 q11 => ?_)
    obtain ⟨rfl, e1, hXr, hOr⟩ := q11
    subst e1
    refine V_iret dX10_worst_14 ⟨rfl, rfl⟩ (Nat.zero_le _) (Nat.zero_le _) ?_
    subst hQ
    exact ⟨_, _, _, rfl, rfl, by unfold o_worst; rw [if_pos h5]; exact ⟨rfl, hXr, hOr, Off.rf⟩⟩
