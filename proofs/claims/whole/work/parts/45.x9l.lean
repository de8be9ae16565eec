/-! copy, call, days, back, camp -/
theorem xs_cpy {iv : IV} {lw : LW} {b b2 : Nat} {T T2 : Sv} {i j m : Int32} (hT : XS iv lw b T) (hT2 : XS iv lw b2 T2) (h1 : plQ T2 i m) (h2 : plQ T j m) : XS iv (rowU lw (b + 1) (va_cpy (lw (b2 + 1)) (lw (b + 1)) i.toNatClampNeg j.toNatClampNeg m.toNatClampNeg)) b (T.1, T.2.1, va_cpy T2.2.2 T.2.2 i.toNatClampNeg j.toNatClampNeg m.toNatClampNeg) := by
  refine ⟨hT.1, hT.2.1, hT.2.2.1, fun q hq => ?_⟩
  rw [rowU_s]
  have e1 : i.toNatClampNeg = i.toInt.toNat := rfl
  have e2 : j.toNatClampNeg = j.toInt.toNat := rfl
  have e3 : m.toNatClampNeg = m.toInt.toNat := rfl
  have k2 := hT2.1.1
  obtain ⟨a1, a2, a3, a4⟩ := h1
  obtain ⟨g1, g2, g3, g4⟩ := h2
  show va_cpy (lw (b2 + 1)) (lw (b + 1)) i.toNatClampNeg j.toNatClampNeg m.toNatClampNeg q = va_cpy T2.2.2 T.2.2 i.toNatClampNeg j.toNatClampNeg m.toNatClampNeg q
  unfold va_cpy
  by_cases c : j.toNatClampNeg ≤ q ∧ q < j.toNatClampNeg + m.toNatClampNeg
  · rw [if_pos c, if_pos c]; exact hT2.2.2.2 _ (by omega)
  · rw [if_neg c, if_neg c]; exact hT.2.2.2 q hq
def o_copy (X : Xs) (p q i j m : Int32) : Ans := if ¬ (inR p 8 ∧ inR q 8) then rfA X 0 else if earQ (x_T X (iN p)) ∨ earQ (x_T X (iN q)) ∨ (rowQ (x_T X (iN p)) ∧ rowQ (x_T X (iN q)) ∧ ¬ (x_T X (iN p)).1 = (x_T X (iN q)).1) then rfA X 1 else if ¬ (rowQ (x_T X (iN p)) ∧ rowQ (x_T X (iN q))) then rfA X 2 else if ¬ (plQ (x_T X (iN p)) i m ∧ plQ (x_T X (iN q)) j m) then rfA X 0 else (m, x_sT X (iN q) ((x_T X (iN q)).1, (x_T X (iN q)).2.1, va_cpy (x_T X (iN p)).2.2 (x_T X (iN q)).2.2 i.toNatClampNeg j.toNatClampNeg m.toNatClampNeg))
/-- notes put behind -/
def nTo (V : Cv) (h : Nat → Nat) : Nat → Cv
  | 0 => V
  | j + 1 => v_addN (nTo V h j) (h j)
theorem nTo_nc {V : Cv} {h : Nat → Nat} : ∀ k, v_nc (nTo V h k) = v_nc V
  | 0 => rfl
  | k + 1 => nTo_nc k
theorem nTo_ne {V : Cv} {h : Nat → Nat} : ∀ k, v_ne (nTo V h k) = v_ne V
  | 0 => rfl
  | k + 1 => nTo_ne k
theorem nTo_sz {V : Cv} {u k : Nat} {h : Nat → Nat} : ∀ j, v_sz (nTo (v_addC V u k) h j) (v_nc V) = j
  | 0 => if_pos rfl
  | j + 1 => by
    have e : v_nc (nTo (v_addC V u k) h j) = v_nc V + 1 := nTo_nc j
    show (if v_nc V + 1 = v_nc (nTo (v_addC V u k) h j) then v_sz (nTo (v_addC V u k) h j) (v_nc V) + 1 else v_sz (nTo (v_addC V u k) h j) (v_nc V)) = j + 1
    rw [e, if_pos rfl, nTo_sz j]
def o_call (X : Xs) (s m u k : Int32) : Ans := if ¬ (inR s 8 ∧ 1 ≤ m.toInt ∧ m.toInt ≤ 8 ∧ (1 ≤ u.toInt ∧ u.toInt ≤ 99) ∧ 0 ≤ k.toInt ∧ k.toInt ≤ 99) then rfA X 0 else if ¬ rowQ (x_T X (iN s)) then rfA X (whyJ (x_T X (iN s))) else if ¬ (iN m ≤ (x_T X (iN s)).2.1 ∧ allTo (fun i => decide (ntQ ((x_T X (iN s)).2.2 i))) (iN m) = true) then rfA X 0 else if v_nc (x_A X) < 12 then (nI (v_nc (x_A X)), x_sA X (nTo (v_addC (x_A X) (iN u) (iN k)) (fun i => heN ((x_T X (iN s)).2.2 i)) (iN m))) else rfA X 4
/-- one day -/
def dyW (W : Cv) : Cv := v_setD W (nxt (v_se W))
def dyC (W : Cv) : Nat := drw (v_se W) % v_nc W
def dyH (W : Cv) : Hv := (v_sz (dyW W) (dyC W), true, sndN (dyW W) (dyC W))
def dyN (W : Cv) : Cv := atV (dyW W) (v_sz (dyW W) (dyC W))
def dyB (W : Cv) : Nat := if bestLo (difV (dyN W) (dyH W)) (v_nc (dyN W)) = some (dyC W) then 0 else 1
def dyTo (V : Cv) : Nat → Cv × Nat
  | 0 => (V, 0)
  | j + 1 => (dyN (dyTo V j).1, (dyTo V j).2 + dyB (dyTo V j).1)
theorem setD_nc (V : Cv) (d : Int32) : v_nc (v_setD V d) = v_nc V := rfl
theorem setD_ne (V : Cv) (d : Int32) : v_ne (v_setD V d) = v_ne V := rfl
theorem dyW_nc (W : Cv) : v_nc (dyW W) = v_nc W := setD_nc W (nxt (v_se W))
theorem dyW_ne (W : Cv) : v_ne (dyW W) = v_ne W := setD_ne W (nxt (v_se W))
theorem dyN_nc (W : Cv) : v_nc (dyN W) = v_nc W := (setD_nc (dyW W) (sdAt (v_se (dyW W)) (v_sz (dyW W) (dyC W)))).trans (dyW_nc W)
theorem dyN_ne (W : Cv) : v_ne (dyN W) = v_ne W := (setD_ne (dyW W) (sdAt (v_se (dyW W)) (v_sz (dyW W) (dyC W)))).trans (dyW_ne W)
theorem dyC_lt {W : Cv} (h : 0 < v_nc W) : dyC W < v_nc W := Nat.mod_lt _ h
theorem dyC_ltN {W : Cv} (h : 0 < v_nc W) : dyC W < v_nc (dyN W) := by rw [dyN_nc]; exact dyC_lt h
theorem dyC_ltW {W : Cv} (h : 0 < v_nc W) : dyC W < v_nc (dyW W) := by rw [dyW_nc]; exact dyC_lt h
theorem dy87 {W : Cv} (hv : VOK (dyN W)) (h0 : 0 < v_nc W) : nI (dyC W) = oI (bestLo (difV (dyN W) (dyH W)) (v_nc (dyN W))) ↔ bestLo (difV (dyN W) (dyH W)) (v_nc (dyN W)) = some (dyC W) := oI_eq (fun k hk => bestLo_lt _ hk) (by have := hv.nc; omega) (dyC_ltN h0)
theorem dy_nc {V : Cv} : ∀ j, v_nc (dyTo V j).1 = v_nc V
  | 0 => rfl
  | j + 1 => (dyN_nc _).trans (dy_nc (V := V) j)
theorem dy_ne {V : Cv} : ∀ j, v_ne (dyTo V j).1 = v_ne V
  | 0 => rfl
  | j + 1 => (dyN_ne _).trans (dy_ne (V := V) j)
theorem dy_0 {V : Cv} {j : Nat} (h : bestLo (difV (dyN (dyTo V j).1) (dyH (dyTo V j).1)) (v_nc (dyN (dyTo V j).1)) = some (dyC (dyTo V j).1)) : (dyTo V (j + 1)).2 = (dyTo V j).2 := by
  show (dyTo V j).2 + dyB (dyTo V j).1 = _
  unfold dyB
  rw [if_pos h]
  rfl
theorem dy_1 {V : Cv} {j : Nat} (h : ¬ bestLo (difV (dyN (dyTo V j).1) (dyH (dyTo V j).1)) (v_nc (dyN (dyTo V j).1)) = some (dyC (dyTo V j).1)) : (dyTo V (j + 1)).2 = (dyTo V j).2 + 1 := by
  show (dyTo V j).2 + dyB (dyTo V j).1 = _
  unfold dyB
  rw [if_neg h]
def o_days (X : Xs) (m : Int32) : Ans := if ¬ (1 ≤ m.toInt ∧ m.toInt ≤ 99) then rfA X 0 else if v_nc (x_A X) = 0 then rfA X 3 else (nI (dyTo (x_A X) (iN m)).2, x_sA X (dyTo (x_A X) (iN m)).1)
/-- a shelf, when so many ears are left -/
def bkT (ne : Nat) (T : Sv) : Sv := if earQ T ∧ ¬ iN T.1 - 10 < ne then (-1, 0, T.2.2) else T
def o_back (X : Xs) : Ans := match x_K X with
  | none => rfA X 3
  | some K => (nI 1, (K, X.2.1, (fun s => bkT (v_ne K) (x_T X s)), X.2.2.2))
/-- the camp that the tape tells -/
def rdX (X : Xs) : Rg := rdGo (x_n X) (x_f X) (x_n X) 1 (x_A X) (tok (x_n X) (x_f X) 0)
def o_camp (X : Xs) : Ans := match rdX X with
  | .error s => ((-20) - nI s, x_rf (x_sP X 0 (x_f X)) 0)
  | .ok x => (nI x.1, x_sA (x_sP X 0 (x_f X)) x.2)
theorem CX.tape2 {iv iv2 : IV} {lw : LW} {X : Xs} {n s e : Nat} {f : Nat → Nat} (h : CX iv lw X) (hT : XTp iv2 45 n f s e) (hO : ∀ a, (a ≤ 18 ∨ (28 ≤ a ∧ a ≤ 44) ∨ a = 56) → iv2 a = iv a) : CX iv2 lw (x_sP X n f) := by
  obtain ⟨a1, a2, a3, a4, a5, a6, a7⟩ := h
  exact ⟨a1.of (fun a g1 g2 => hO a (by omega)), by rw [hO 0 (by omega)]; exact a2, fun K hK => (a3 K hK).of (fun a g1 g2 => hO a (by omega)), fun t ht => (a4 t ht).of (hO _ (by omega)) rfl, ⟨s, e, hT⟩, fun j hj => by rw [hO 56 (by omega)]; exact a6 j hj, a7⟩
theorem runTo_le {p : Nat → Bool} {n k : Nat} (h : k ≤ n) : runTo p n k ≤ n := by
  have := fstTo_le (fun i => !p (k + i)) (n - k)
  unfold runTo
  omega
theorem tok_le {n e : Nat} {f : Nat → Nat} (h : e ≤ n) : (tok n f e).1 ≤ n ∧ (tok n f e).2 ≤ n := by
  have h1 : runTo (spB n f) n e ≤ n := runTo_le h
  refine ⟨h1, ?_⟩
  show nxE n f (runTo (spB n f) n e) ≤ n
  unfold nxE
  split
  · exact runTo_le h1
  · split
    · exact runTo_le h1
    · split
      · rename_i hs
        have : runTo (spB n f) n e < n := (of_decide_eq_true hs).1
        omega
      · exact h1
/-- what a statement leaves: the token behind it; at least as many ears -/
def rsP (n : Nat) (E : Nat) (r : Rs) : Prop := match r with
  | .error s => s ≤ n
  | .ok x => (x.2.1 ≤ n ∧ x.2.2 ≤ n) ∧ E ≤ v_ne x.1
theorem rdSet_P {n E lo hi : Nat} {F : Nat → Cv} {f : Nat → Nat} {t : Nat × Nat} (h1 : t.1 ≤ n) (h2 : t.2 ≤ n) (hF : ∀ v, E ≤ v_ne (F v)) : rsP n E (rdSet lo hi F n f t) := by
  unfold rdSet
  split
  · exact h1
  · exact ⟨tok_le h2, hF _⟩
theorem rdTwo_P {n E lo hi lo2 hi2 : Nat} {F : Nat → Nat → Cv} {f : Nat → Nat} {t : Nat × Nat} (h1 : t.1 ≤ n) (h2 : t.2 ≤ n) (hF : ∀ v w, E ≤ v_ne (F v w)) : rsP n E (rdTwo lo hi lo2 hi2 F n f t) := by
  unfold rdTwo
  split
  · exact h1
  · exact rdSet_P (tok_le h2).1 (tok_le h2).2 (hF _)
theorem addNs_ne {V : Cv} {f : Nat → Nat} {s : Nat} : ∀ k, v_ne (addNs V f s k) = v_ne V
  | 0 => rfl
  | k + 1 => addNs_ne (V := V) k
theorem rdSt_P {n : Nat} {f : Nat → Nat} {V : Cv} {s e : Nat} (h1 : s ≤ n) (h2 : e ≤ n) : rsP n (v_ne V) (rdSt n f V s e) := by
  have ht := tok_le (f := f) h2
  unfold rdSt
  split
  · split
    · unfold rdCall
      split
      · exact ht.1
      · exact rdTwo_P (tok_le ht.2).1 (tok_le ht.2).2 (fun v w => Nat.le_of_eq (addNs_ne _).symm)
    · exact h1
  · split
    · split
      · exact rdTwo_P ht.1 ht.2 (fun v w => Nat.le_succ _)
      · exact h1
    · split
      · split
        · exact rdTwo_P ht.1 ht.2 (fun v w => Nat.le_refl _)
        · exact h1
      · split
        · exact rdSet_P ht.1 ht.2 (fun v => Nat.le_refl _)
        · split
          · exact rdSet_P ht.1 ht.2 (fun v => Nat.le_refl _)
          · split
            · exact rdTwo_P ht.1 ht.2 (fun v w => Nat.le_refl _)
            · exact h1
def rgP (n E M : Nat) (r : Rg) : Prop := match r with
  | .error s => s ≤ n
  | .ok x => x.1 ≤ M ∧ E ≤ v_ne x.2
theorem rdGo_P {n : Nat} {f : Nat → Nat} : ∀ (k m : Nat) (V : Cv) (t : Nat × Nat), t.1 ≤ n → t.2 ≤ n → rgP n (v_ne V) (m + k) (rdGo n f k m V t)
  | 0, m, V, t, h1, h2 => h1
  | k + 1, m, V, t, h1, h2 => by
    have h := rdSt_P (V := V) (f := f) h1 h2
    cases e : rdSt n f V t.1 t.2 with
    | error s => rw [rdGo_err e]; rw [e] at h; exact h
    | ok x =>
      rw [e] at h
      by_cases c1 : n ≤ x.2.1
      · rw [rdGo_end e c1]; exact ⟨by omega, h.2⟩
      · by_cases c2 : sgB n f x.2.1 = true
        · rw [rdGo_go e c1 c2]
          have := rdGo_P (f := f) k (m + 1) x.1 (tok n f x.2.2) (tok_le h.1.2).1 (tok_le h.1.2).2
          cases e2 : rdGo n f k (m + 1) x.1 (tok n f x.2.2) with
          | error s => rw [e2] at this; exact this
          | ok z => rw [e2] at this; exact ⟨by have := this.1; omega, Nat.le_trans h.2 this.2⟩
        · rw [rdGo_no e c1 c2]; exact h.1.1
theorem err_neg : ∀ s : Nat, s ≤ 250 → ¬ (0 ≤ ((-20 : Int32) - nI s).toInt) := by decide +kernel
theorem heN4 {v : Int64} (h : ntQ v) : heN v ≤ 4 := by unfold heN; unfold ntQ at h; omega
theorem x_f_of {iv : IV} {lw : LW} {b : Nat} {T : Sv} {ne : Nat} (h : XS iv lw b T) (hn : ¬ (earQ T ∧ ¬ iN T.1 - 10 < ne)) : XS iv lw b (bkT ne T) := by unfold bkT; rw [if_neg hn]; exact h
theorem x_c_of {iv : IV} {lw : LW} {b : Nat} {T : Sv} {ne : Nat} (h : XS iv lw b (-1, 0, T.2.2)) (hn : earQ T ∧ ¬ iN T.1 - 10 < ne) : XS iv lw b (bkT ne T) := by unfold bkT; rw [if_pos hn]; exact h
theorem ten_sub {e : Nat} (h : e < 6) : iN (nI (10 + e)) - 10 = e := by rw [iN_nI (by omega)]; omega
theorem bkT_ear {ne : Nat} {T : Sv} (h : earQ (bkT ne T)) : bkT ne T = T ∧ earQ T ∧ iN T.1 - 10 < ne := by
  unfold bkT at h ⊢
  by_cases c : earQ T ∧ ¬ iN T.1 - 10 < ne
  · rw [if_pos c] at h; exact absurd (show (10 : Int) ≤ (-1 : Int32).toInt from h) (by decide)
  · rw [if_neg c] at h ⊢
    exact ⟨rfl, h, Decidable.not_not.mp (fun q => c ⟨h, q⟩)⟩
theorem XC.off2 {iv iv2 : IV} {b c n : Nat} {V : Cv} (h : XC iv b V) (hO : Off c n iv iv2) (hd : b + 8 < c ∨ c + n ≤ b) : XC iv2 b V := h.of (fun a g1 g2 => hO a (by omega))
set_option maxRecDepth 20000 in
theorem k_copy_in {g : Ev} {S : St} {iv : IV} {lw : LW} (hx : IsX S) {X : Xs} (hX : CX iv lw X) {p : Nat} (hp : p < 8) {q : Nat} (hq : q < 8) {i j m : Int32} : CQ g mX9_copy [.ref (0), .int (nI p), .int (nI q), .int (i), .int (j), .int (m)] S iv lw (fun w iv2 lw2 => OP iv lw (o_copy X (nI p) (nI q) i j m) w iv2 lw2) := by
  refine CT_ofQ rfl (by decide) (Nat.le_of_ble_eq_true rfl) (lv := [(0, .ref (0)), (1, .int (nI p)), (2, .int (nI q)), (3, .int (i)), (4, .int (j)), (5, .int (m))]) rfl (fun Q hQ => ?_)
  have hA := hX.1
  have hnc := hA.ok.nc
  have hne := hA.ok.ne
  have hnm := hA.ok.nm
  have hTp := hX.2.2.2.1 p hp
  have hTq := hX.2.2.2.1 q hq
  have hpn : iN (nI p) = p := iN_nI (by omega)
  have hqn : iN (nI q) = q := iN_nI (by omega)
  have hp8 := in8 hp
  have hq8 := in8 hq
  refine V_aload_n (i := 0) dX9_copy_0 rfl 0 rfl ?_
  refine V_iload_n (i := 1) dX9_copy_1 rfl 1 rfl ?_
  refine M_callVp (As := [.int (nI p)]) (st := []) dX9_copy_2 lv_X9_65 ⟨by decide, by decide⟩ ⟨rfl, rfl⟩ rfl (ci := 6) hx.1 rfl rfl (Nat.le_of_ble_eq_true rfl) (t_shelfAt_in hx hp) ?_
  refine V_astore (lv2 := [(6, .ref (29 + 2 * p)), (0, .ref (0)), (1, .int (nI p)), (2, .int (nI q)), (3, .int (i)), (4, .int (j)), (5, .int (m))]) dX9_copy_5 (by decide) rfl ?_
  refine V_aload_n (i := 0) dX9_copy_7 rfl 1 rfl ?_
  refine V_iload_n (i := 2) dX9_copy_8 rfl 3 rfl ?_
  refine M_callVp (As := [.int (nI q)]) (st := []) dX9_copy_9 lv_X9_65 ⟨by decide, by decide⟩ ⟨rfl, rfl⟩ rfl (ci := 6) hx.1 rfl rfl (Nat.le_of_ble_eq_true rfl) (t_shelfAt_in hx hq) ?_
  refine V_astore (lv2 := [(7, .ref (29 + 2 * q)), (6, .ref (29 + 2 * p)), (0, .ref (0)), (1, .int (nI p)), (2, .int (nI q)), (3, .int (i)), (4, .int (j)), (5, .int (m))]) dX9_copy_12 (by decide) rfl ?_
  refine V_aload dX9_copy_14 1 rfl ?_
  refine V_ifnull dX9_copy_16 ?_
  refine V_aload dX9_copy_19 0 rfl ?_
  refine V_ifnonnull (tgt := 31) dX9_copy_21 rfl ?_
  refine V_aload dX9_copy_31 1 rfl ?_
  refine M_callVp (As := []) (st := []) dX9_copy_33 lv_X9_89 ⟨by decide, by decide⟩ ⟨rfl, rfl⟩ rfl (ci := 4) (sh_ok hx hp).1 rfl rfl (Nat.le_of_ble_eq_true rfl) (t_hasEar (sh_ok hx hp) hTp) ?_
  refine V_if_ne (tgt := 47) dX9_copy_36 rfl (fun h36 => ?_) (fun h36 => ?_)
  · have h36 : earQ (x_T X p) := bI_ne.mp h36
    refine V_aload_n (i := 0) dX9_copy_47 rfl 2 rfl ?_
    refine V_bipush (v := (-3)) dX9_copy_48 rfl ?_
    refine M_callVq (As := [.int ((-3))]) (st := []) dX9_copy_50 lv_X9_69 ⟨by decide, by decide⟩ ⟨rfl, rfl⟩ rfl (ci := 6) hx.1 rfl rfl (Nat.le_of_ble_eq_true rfl) (t_refuse hx hX (j := 1) (by decide)) (fun w50 iv50 lw50 q50 => ?_)
    obtain ⟨rfl, e1, hXr, hOr⟩ := q50
    subst e1
    refine V_iret dX9_copy_53 ⟨rfl, rfl⟩ (Nat.zero_le _) (Nat.zero_le _) ?_
    subst hQ
    exact ⟨_, _, _, rfl, rfl, by unfold o_copy; rw [hpn, hqn, if_neg (fun z => z ⟨hp8, hq8⟩), if_pos (Or.inl h36)]; exact ⟨rfl, hXr, hOr, Off.rf⟩⟩
  · have h36 : ¬ (earQ (x_T X p)) := bI_eq0.mp h36
    refine V_aload dX9_copy_39 0 rfl ?_
    refine M_callVp (As := []) (st := []) dX9_copy_41 lv_X9_89 ⟨by decide, by decide⟩ ⟨rfl, rfl⟩ rfl (ci := 4) (sh_ok hx hq).1 rfl rfl (Nat.le_of_ble_eq_true rfl) (t_hasEar (sh_ok hx hq) hTq) ?_
    refine V_if_eq (tgt := 54) dX9_copy_44 rfl (fun h44 => ?_) (fun h44 => ?_)
    · have h44 : ¬ (earQ (x_T X q)) := bI_eq0.mp h44
      refine V_aload dX9_copy_54 1 rfl ?_
      refine M_callVp (As := []) (st := []) dX9_copy_56 lv_X9_93 ⟨by decide, by decide⟩ ⟨rfl, rfl⟩ rfl (ci := 4) (sh_ok hx hp).1 rfl rfl (Nat.le_of_ble_eq_true rfl) (t_hasRow (sh_ok hx hp) hTp) ?_
      refine V_if_eq (tgt := 90) dX9_copy_59 rfl (fun h59 => ?_) (fun h59 => ?_)
      · have h59 : ¬ (rowQ (x_T X p)) := bI_eq0.mp h59
        refine V_aload dX9_copy_90 1 rfl ?_
        refine M_callVp (As := []) (st := []) dX9_copy_92 lv_X9_93 ⟨by decide, by decide⟩ ⟨rfl, rfl⟩ rfl (ci := 4) (sh_ok hx hp).1 rfl rfl (Nat.le_of_ble_eq_true rfl) (t_hasRow (sh_ok hx hp) hTp) ?_
        refine V_if_eq (tgt := 106) dX9_copy_95 rfl (fun h95 => ?_) (fun h95 => ?_)
        · have h95 : ¬ (rowQ (x_T X p)) := bI_eq0.mp h95
          refine V_aload_n (i := 0) dX9_copy_106 rfl 2 rfl ?_
          refine V_bipush (v := (-4)) dX9_copy_107 rfl ?_
          refine M_callVq (As := [.int ((-4))]) (st := []) dX9_copy_109 lv_X9_69 ⟨by decide, by decide⟩ ⟨rfl, rfl⟩ rfl (ci := 6) hx.1 rfl rfl (Nat.le_of_ble_eq_true rfl) (t_refuse hx hX (j := 2) (by decide)) (fun w109 iv109 lw109 q109 => ?_)
          obtain ⟨rfl, e1, hXr, hOr⟩ := q109
          subst e1
          refine V_iret dX9_copy_112 ⟨rfl, rfl⟩ (Nat.zero_le _) (Nat.zero_le _) ?_
          subst hQ
          exact ⟨_, _, _, rfl, rfl, by unfold o_copy; rw [hpn, hqn, if_neg (fun z => z ⟨hp8, hq8⟩), if_neg (fun z => z.elim h36 (fun z => z.elim h44 (fun z => h59 z.1))), if_pos (fun z => h95 z.1)]; exact ⟨rfl, hXr, hOr, Off.rf⟩⟩
        · have h95 : rowQ (x_T X p) := bI_ne.mp h95
          refine V_aload dX9_copy_98 0 rfl ?_
          refine M_callVp (As := []) (st := []) dX9_copy_100 lv_X9_93 ⟨by decide, by decide⟩ ⟨rfl, rfl⟩ rfl (ci := 4) (sh_ok hx hq).1 rfl rfl (Nat.le_of_ble_eq_true rfl) (t_hasRow (sh_ok hx hq) hTq) ?_
          refine V_if_ne (tgt := 113) dX9_copy_103 rfl (fun h103 => ?_) (fun h103 => ?_)
          · have h103 : rowQ (x_T X q) := bI_ne.mp h103
            refine V_aload dX9_copy_113 1 rfl ?_
            refine V_iload_n (i := 3) dX9_copy_115 rfl 5 rfl ?_
            refine V_iload dX9_copy_116 7 rfl ?_
            refine M_callVp (As := [.int (i), .int (m)]) (st := []) dX9_copy_118 lv_X9_81 ⟨by decide, by decide⟩ ⟨rfl, rfl⟩ rfl (ci := 4) (sh_ok hx hp).1 rfl rfl (Nat.le_of_ble_eq_true rfl) (t_hasPlaces (sh_ok hx hp) hTp (i := i) (m := m)) ?_
            refine V_if_eq (tgt := 136) dX9_copy_121 rfl (fun h121 => ?_) (fun h121 => ?_)
            · have h121 : ¬ (plQ (x_T X p) i m) := bI_eq0.mp h121
              refine V_aload_n (i := 0) dX9_copy_136 rfl 2 rfl ?_
              refine V_bipush (v := (-2)) dX9_copy_137 rfl ?_
              refine M_callVq (As := [.int ((-2))]) (st := []) dX9_copy_139 lv_X9_69 ⟨by decide, by decide⟩ ⟨rfl, rfl⟩ rfl (ci := 6) hx.1 rfl rfl (Nat.le_of_ble_eq_true rfl) (t_refuse hx hX (j := 0) (by decide)) (fun w139 iv139 lw139 q139 => ?_)
              obtain ⟨rfl, e1, hXr, hOr⟩ := q139
              subst e1
              refine V_iret dX9_copy_142 ⟨rfl, rfl⟩ (Nat.zero_le _) (Nat.zero_le _) ?_
              subst hQ
              exact ⟨_, _, _, rfl, rfl, by unfold o_copy; rw [hpn, hqn, if_neg (fun z => z ⟨hp8, hq8⟩), if_neg (fun z => z.elim h36 (fun z => z.elim h44 (fun z => h59 z.1))), if_neg (fun z => z ⟨h95, h103⟩), if_pos (fun z => h121 z.1)]; exact ⟨rfl, hXr, hOr, Off.rf⟩⟩
            · have h121 : plQ (x_T X p) i m := bI_ne.mp h121
              refine V_aload dX9_copy_124 0 rfl ?_
              refine V_iload dX9_copy_126 6 rfl ?_
              refine V_iload dX9_copy_128 7 rfl ?_
              refine M_callVp (As := [.int (j), .int (m)]) (st := []) dX9_copy_130 lv_X9_81 ⟨by decide, by decide⟩ ⟨rfl, rfl⟩ rfl (ci := 4) (sh_ok hx hq).1 rfl rfl (Nat.le_of_ble_eq_true rfl) (t_hasPlaces (sh_ok hx hq) hTq (i := j) (m := m)) ?_
              refine V_if_ne (tgt := 143) dX9_copy_133 rfl (fun h133 => ?_) (fun h133 => ?_)
              · have h133 : plQ (x_T X q) j m := bI_ne.mp h133
                refine V_aload dX9_copy_143 0 rfl ?_
                refine V_aload dX9_copy_145 1 rfl ?_
                refine V_iload_n (i := 3) dX9_copy_147 rfl 5 rfl ?_
                refine V_iload dX9_copy_148 6 rfl ?_
                refine V_iload dX9_copy_150 7 rfl ?_
                refine M_callVn (As := [.ref (29 + 2 * p), .int (i), .int (j), .int (m)]) (st := []) dX9_copy_152 lv_X9_100 ⟨by decide, by decide⟩ ⟨rfl, rfl⟩ rfl (ci := 4) (sh_ok hx hq).1 rfl rfl (Nat.le_of_ble_eq_true rfl) (t_takeElements (sh_ok hx hq) hTq (sh_ok hx hp) hTp h121 h133) (fun iv152 lw152 q152 => ?_)
                obtain ⟨rfl, rfl⟩ := q152
                have hXn := hX.shelf hq (xs_cpy hTq hTp h121 h133) Off.rf (Off.rf.row (by omega) (by omega)) (hX.2.2.2.2.2.2 q hq)
                refine V_iload dX9_copy_155 7 rfl ?_
                refine V_iret dX9_copy_157 ⟨rfl, rfl⟩ (Nat.zero_le _) (Nat.zero_le _) ?_
                subst hQ
                exact ⟨_, _, _, rfl, rfl, by unfold o_copy; rw [hpn, hqn, if_neg (fun z => z ⟨hp8, hq8⟩), if_neg (fun z => z.elim h36 (fun z => z.elim h44 (fun z => h59 z.1))), if_neg (fun z => z ⟨h95, h103⟩), if_neg (fun z => z ⟨h121, h133⟩)]; exact ⟨rfl, hXn, Off.rf, Off.rf.row (by omega) (by omega)⟩⟩
              · have h133 : ¬ (plQ (x_T X q) j m) := bI_eq0.mp h133
                refine V_aload_n (i := 0) dX9_copy_136 rfl 2 rfl ?_
                refine V_bipush (v := (-2)) dX9_copy_137 rfl ?_
                refine M_callVq (As := [.int ((-2))]) (st := []) dX9_copy_139 lv_X9_69 ⟨by decide, by decide⟩ ⟨rfl, rfl⟩ rfl (ci := 6) hx.1 rfl rfl (Nat.le_of_ble_eq_true rfl) (t_refuse hx hX (j := 0) (by decide)) (fun w139 iv139 lw139 q139 => ?_)
                obtain ⟨rfl, e1, hXr, hOr⟩ := q139
                subst e1
                refine V_iret dX9_copy_142 ⟨rfl, rfl⟩ (Nat.zero_le _) (Nat.zero_le _) ?_
                subst hQ
                exact ⟨_, _, _, rfl, rfl, by unfold o_copy; rw [hpn, hqn, if_neg (fun z => z ⟨hp8, hq8⟩), if_neg (fun z => z.elim h36 (fun z => z.elim h44 (fun z => h59 z.1))), if_neg (fun z => z ⟨h95, h103⟩), if_pos (fun z => h133 z.2)]; exact ⟨rfl, hXr, hOr, Off.rf⟩⟩
          · have h103 : ¬ (rowQ (x_T X q)) := bI_eq0.mp h103
            refine V_aload_n (i := 0) dX9_copy_106 rfl 2 rfl ?_
            refine V_bipush (v := (-4)) dX9_copy_107 rfl ?_
            refine M_callVq (As := [.int ((-4))]) (st := []) dX9_copy_109 lv_X9_69 ⟨by decide, by decide⟩ ⟨rfl, rfl⟩ rfl (ci := 6) hx.1 rfl rfl (Nat.le_of_ble_eq_true rfl) (t_refuse hx hX (j := 2) (by decide)) (fun w109 iv109 lw109 q109 => ?_)
            obtain ⟨rfl, e1, hXr, hOr⟩ := q109
            subst e1
            refine V_iret dX9_copy_112 ⟨rfl, rfl⟩ (Nat.zero_le _) (Nat.zero_le _) ?_
            subst hQ
            exact ⟨_, _, _, rfl, rfl, by unfold o_copy; rw [hpn, hqn, if_neg (fun z => z ⟨hp8, hq8⟩), if_neg (fun z => z.elim h36 (fun z => z.elim h44 (fun z => h59 z.1))), if_pos (fun z => h103 z.2)]; exact ⟨rfl, hXr, hOr, Off.rf⟩⟩
      · have h59 : rowQ (x_T X p) := bI_ne.mp h59
        refine V_aload dX9_copy_62 0 rfl ?_
        refine M_callVp (As := []) (st := []) dX9_copy_64 lv_X9_93 ⟨by decide, by decide⟩ ⟨rfl, rfl⟩ rfl (ci := 4) (sh_ok hx hq).1 rfl rfl (Nat.le_of_ble_eq_true rfl) (t_hasRow (sh_ok hx hq) hTq) ?_
        refine V_if_eq (tgt := 90) dX9_copy_67 rfl (fun h67 => ?_) (fun h67 => ?_)
        · have h67 : ¬ (rowQ (x_T X q)) := bI_eq0.mp h67
          refine V_aload dX9_copy_90 1 rfl ?_
          refine M_callVp (As := []) (st := []) dX9_copy_92 lv_X9_93 ⟨by decide, by decide⟩ ⟨rfl, rfl⟩ rfl (ci := 4) (sh_ok hx hp).1 rfl rfl (Nat.le_of_ble_eq_true rfl) (t_hasRow (sh_ok hx hp) hTp) ?_
          refine V_if_eq (tgt := 106) dX9_copy_95 rfl (fun h95 => ?_) (fun h95 => ?_)
          · have h95 : ¬ (rowQ (x_T X p)) := bI_eq0.mp h95
            refine V_aload_n (i := 0) dX9_copy_106 rfl 2 rfl ?_
            refine V_bipush (v := (-4)) dX9_copy_107 rfl ?_
            refine M_callVq (As := [.int ((-4))]) (st := []) dX9_copy_109 lv_X9_69 ⟨by decide, by decide⟩ ⟨rfl, rfl⟩ rfl (ci := 6) hx.1 rfl rfl (Nat.le_of_ble_eq_true rfl) (t_refuse hx hX (j := 2) (by decide)) (fun w109 iv109 lw109 q109 => ?_)
            obtain ⟨rfl, e1, hXr, hOr⟩ := q109
            subst e1
            refine V_iret dX9_copy_112 ⟨rfl, rfl⟩ (Nat.zero_le _) (Nat.zero_le _) ?_
            subst hQ
            exact ⟨_, _, _, rfl, rfl, by unfold o_copy; rw [hpn, hqn, if_neg (fun z => z ⟨hp8, hq8⟩), if_neg (fun z => z.elim h36 (fun z => z.elim h44 (fun z => h67 z.2.1))), if_pos (fun z => h95 z.1)]; exact ⟨rfl, hXr, hOr, Off.rf⟩⟩
          · have h95 : rowQ (x_T X p) := bI_ne.mp h95
            refine V_aload dX9_copy_98 0 rfl ?_
            refine M_callVp (As := []) (st := []) dX9_copy_100 lv_X9_93 ⟨by decide, by decide⟩ ⟨rfl, rfl⟩ rfl (ci := 4) (sh_ok hx hq).1 rfl rfl (Nat.le_of_ble_eq_true rfl) (t_hasRow (sh_ok hx hq) hTq) ?_
            refine V_if_ne (tgt := 113) dX9_copy_103 rfl (fun h103 => ?_) (fun h103 => ?_)
            · have h103 : rowQ (x_T X q) := bI_ne.mp h103
              refine V_aload dX9_copy_113 1 rfl ?_
              refine V_iload_n (i := 3) dX9_copy_115 rfl 5 rfl ?_
              refine V_iload dX9_copy_116 7 rfl ?_
              refine M_callVp (As := [.int (i), .int (m)]) (st := []) dX9_copy_118 lv_X9_81 ⟨by decide, by decide⟩ ⟨rfl, rfl⟩ rfl (ci := 4) (sh_ok hx hp).1 rfl rfl (Nat.le_of_ble_eq_true rfl) (t_hasPlaces (sh_ok hx hp) hTp (i := i) (m := m)) ?_
              refine V_if_eq (tgt := 136) dX9_copy_121 rfl (fun h121 => ?_) (fun h121 => ?_)
              · have h121 : ¬ (plQ (x_T X p) i m) := bI_eq0.mp h121
                refine V_aload_n (i := 0) dX9_copy_136 rfl 2 rfl ?_
                refine V_bipush (v := (-2)) dX9_copy_137 rfl ?_
                refine M_callVq (As := [.int ((-2))]) (st := []) dX9_copy_139 lv_X9_69 ⟨by decide, by decide⟩ ⟨rfl, rfl⟩ rfl (ci := 6) hx.1 rfl rfl (Nat.le_of_ble_eq_true rfl) (t_refuse hx hX (j := 0) (by decide)) (fun w139 iv139 lw139 q139 => ?_)
                obtain ⟨rfl, e1, hXr, hOr⟩ := q139
                subst e1
                refine V_iret dX9_copy_142 ⟨rfl, rfl⟩ (Nat.zero_le _) (Nat.zero_le _) ?_
                subst hQ
                exact ⟨_, _, _, rfl, rfl, by unfold o_copy; rw [hpn, hqn, if_neg (fun z => z ⟨hp8, hq8⟩), if_neg (fun z => z.elim h36 (fun z => z.elim h44 (fun z => h67 z.2.1))), if_neg (fun z => z ⟨h95, h103⟩), if_pos (fun z => h121 z.1)]; exact ⟨rfl, hXr, hOr, Off.rf⟩⟩
              · have h121 : plQ (x_T X p) i m := bI_ne.mp h121
                refine V_aload dX9_copy_124 0 rfl ?_
                refine V_iload dX9_copy_126 6 rfl ?_
                refine V_iload dX9_copy_128 7 rfl ?_
                refine M_callVp (As := [.int (j), .int (m)]) (st := []) dX9_copy_130 lv_X9_81 ⟨by decide, by decide⟩ ⟨rfl, rfl⟩ rfl (ci := 4) (sh_ok hx hq).1 rfl rfl (Nat.le_of_ble_eq_true rfl) (t_hasPlaces (sh_ok hx hq) hTq (i := j) (m := m)) ?_
                refine V_if_ne (tgt := 143) dX9_copy_133 rfl (fun h133 => ?_) (fun h133 => ?_)
                · have h133 : plQ (x_T X q) j m := bI_ne.mp h133
                  refine V_aload dX9_copy_143 0 rfl ?_
                  refine V_aload dX9_copy_145 1 rfl ?_
                  refine V_iload_n (i := 3) dX9_copy_147 rfl 5 rfl ?_
                  refine V_iload dX9_copy_148 6 rfl ?_
                  refine V_iload dX9_copy_150 7 rfl ?_
                  refine M_callVn (As := [.ref (29 + 2 * p), .int (i), .int (j), .int (m)]) (st := []) dX9_copy_152 lv_X9_100 ⟨by decide, by decide⟩ ⟨rfl, rfl⟩ rfl (ci := 4) (sh_ok hx hq).1 rfl rfl (Nat.le_of_ble_eq_true rfl) (t_takeElements (sh_ok hx hq) hTq (sh_ok hx hp) hTp h121 h133) (fun iv152 lw152 q152 => ?_)
                  obtain ⟨rfl, rfl⟩ := q152
                  have hXn := hX.shelf hq (xs_cpy hTq hTp h121 h133) Off.rf (Off.rf.row (by omega) (by omega)) (hX.2.2.2.2.2.2 q hq)
                  refine V_iload dX9_copy_155 7 rfl ?_
                  refine V_iret dX9_copy_157 ⟨rfl, rfl⟩ (Nat.zero_le _) (Nat.zero_le _) ?_
                  subst hQ
                  exact ⟨_, _, _, rfl, rfl, by unfold o_copy; rw [hpn, hqn, if_neg (fun z => z ⟨hp8, hq8⟩), if_neg (fun z => z.elim h36 (fun z => z.elim h44 (fun z => h67 z.2.1))), if_neg (fun z => z ⟨h95, h103⟩), if_neg (fun z => z ⟨h121, h133⟩)]; exact ⟨rfl, hXn, Off.rf, Off.rf.row (by omega) (by omega)⟩⟩
                · have h133 : ¬ (plQ (x_T X q) j m) := bI_eq0.mp h133
                  refine V_aload_n (i := 0) dX9_copy_136 rfl 2 rfl ?_
                  refine V_bipush (v := (-2)) dX9_copy_137 rfl ?_
                  refine M_callVq (As := [.int ((-2))]) (st := []) dX9_copy_139 lv_X9_69 ⟨by decide, by decide⟩ ⟨rfl, rfl⟩ rfl (ci := 6) hx.1 rfl rfl (Nat.le_of_ble_eq_true rfl) (t_refuse hx hX (j := 0) (by decide)) (fun w139 iv139 lw139 q139 => ?_)
                  obtain ⟨rfl, e1, hXr, hOr⟩ := q139
                  subst e1
                  refine V_iret dX9_copy_142 ⟨rfl, rfl⟩ (Nat.zero_le _) (Nat.zero_le _) ?_
                  subst hQ
                  exact ⟨_, _, _, rfl, rfl, by unfold o_copy; rw [hpn, hqn, if_neg (fun z => z ⟨hp8, hq8⟩), if_neg (fun z => z.elim h36 (fun z => z.elim h44 (fun z => h67 z.2.1))), if_neg (fun z => z ⟨h95, h103⟩), if_pos (fun z => h133 z.2)]; exact ⟨rfl, hXr, hOr, Off.rf⟩⟩
            · have h103 : ¬ (rowQ (x_T X q)) := bI_eq0.mp h103
              refine V_aload_n (i := 0) dX9_copy_106 rfl 2 rfl ?_
              refine V_bipush (v := (-4)) dX9_copy_107 rfl ?_
              refine M_callVq (As := [.int ((-4))]) (st := []) dX9_copy_109 lv_X9_69 ⟨by decide, by decide⟩ ⟨rfl, rfl⟩ rfl (ci := 6) hx.1 rfl rfl (Nat.le_of_ble_eq_true rfl) (t_refuse hx hX (j := 2) (by decide)) (fun w109 iv109 lw109 q109 => ?_)
              obtain ⟨rfl, e1, hXr, hOr⟩ := q109
              subst e1
              refine V_iret dX9_copy_112 ⟨rfl, rfl⟩ (Nat.zero_le _) (Nat.zero_le _) ?_
              subst hQ
              exact ⟨_, _, _, rfl, rfl, by unfold o_copy; rw [hpn, hqn, if_neg (fun z => z ⟨hp8, hq8⟩), if_neg (fun z => z.elim h36 (fun z => z.elim h44 (fun z => h67 z.2.1))), if_pos (fun z => h103 z.2)]; exact ⟨rfl, hXr, hOr, Off.rf⟩⟩
        · have h67 : rowQ (x_T X q) := bI_ne.mp h67
          refine V_aload dX9_copy_70 1 rfl ?_
          refine M_getI (x := (x_T X p).1) dX9_copy_72 lf_X9_96 rfl (sh_ok hx hp).1 (hTp.2.1) ?_
          refine V_aload dX9_copy_75 0 rfl ?_
          refine M_getI (x := (x_T X q).1) dX9_copy_77 lf_X9_96 rfl (sh_ok hx hq).1 (hTq.2.1) ?_
          refine V_icmp_eq (tgt := 90) dX9_copy_80 rfl (fun h80 => ?_) (fun h80 => ?_)
          · refine V_aload dX9_copy_90 1 rfl ?_
            refine M_callVp (As := []) (st := []) dX9_copy_92 lv_X9_93 ⟨by decide, by decide⟩ ⟨rfl, rfl⟩ rfl (ci := 4) (sh_ok hx hp).1 rfl rfl (Nat.le_of_ble_eq_true rfl) (t_hasRow (sh_ok hx hp) hTp) ?_
            refine V_if_eq (tgt := 106) dX9_copy_95 rfl (fun h95 => ?_) (fun h95 => ?_)
            · have h95 : ¬ (rowQ (x_T X p)) := bI_eq0.mp h95
              refine V_aload_n (i := 0) dX9_copy_106 rfl 2 rfl ?_
              refine V_bipush (v := (-4)) dX9_copy_107 rfl ?_
              refine M_callVq (As := [.int ((-4))]) (st := []) dX9_copy_109 lv_X9_69 ⟨by decide, by decide⟩ ⟨rfl, rfl⟩ rfl (ci := 6) hx.1 rfl rfl (Nat.le_of_ble_eq_true rfl) (t_refuse hx hX (j := 2) (by decide)) (fun w109 iv109 lw109 q109 => ?_)
              obtain ⟨rfl, e1, hXr, hOr⟩ := q109
              subst e1
              refine V_iret dX9_copy_112 ⟨rfl, rfl⟩ (Nat.zero_le _) (Nat.zero_le _) ?_
              subst hQ
              exact ⟨_, _, _, rfl, rfl, by unfold o_copy; rw [hpn, hqn, if_neg (fun z => z ⟨hp8, hq8⟩), if_neg (fun z => z.elim h36 (fun z => z.elim h44 (fun z => z.2.2 h80))), if_pos (fun z => h95 z.1)]; exact ⟨rfl, hXr, hOr, Off.rf⟩⟩
            · have h95 : rowQ (x_T X p) := bI_ne.mp h95
              refine V_aload dX9_copy_98 0 rfl ?_
              refine M_callVp (As := []) (st := []) dX9_copy_100 lv_X9_93 ⟨by decide, by decide⟩ ⟨rfl, rfl⟩ rfl (ci := 4) (sh_ok hx hq).1 rfl rfl (Nat.le_of_ble_eq_true rfl) (t_hasRow (sh_ok hx hq) hTq) ?_
              refine V_if_ne (tgt := 113) dX9_copy_103 rfl (fun h103 => ?_) (fun h103 => ?_)
              · have h103 : rowQ (x_T X q) := bI_ne.mp h103
                refine V_aload dX9_copy_113 1 rfl ?_
                refine V_iload_n (i := 3) dX9_copy_115 rfl 5 rfl ?_
                refine V_iload dX9_copy_116 7 rfl ?_
                refine M_callVp (As := [.int (i), .int (m)]) (st := []) dX9_copy_118 lv_X9_81 ⟨by decide, by decide⟩ ⟨rfl, rfl⟩ rfl (ci := 4) (sh_ok hx hp).1 rfl rfl (Nat.le_of_ble_eq_true rfl) (t_hasPlaces (sh_ok hx hp) hTp (i := i) (m := m)) ?_
                refine V_if_eq (tgt := 136) dX9_copy_121 rfl (fun h121 => ?_) (fun h121 => ?_)
                · have h121 : ¬ (plQ (x_T X p) i m) := bI_eq0.mp h121
                  refine V_aload_n (i := 0) dX9_copy_136 rfl 2 rfl ?_
                  refine V_bipush (v := (-2)) dX9_copy_137 rfl ?_
                  refine M_callVq (As := [.int ((-2))]) (st := []) dX9_copy_139 lv_X9_69 ⟨by decide, by decide⟩ ⟨rfl, rfl⟩ rfl (ci := 6) hx.1 rfl rfl (Nat.le_of_ble_eq_true rfl) (t_refuse hx hX (j := 0) (by decide)) (fun w139 iv139 lw139 q139 => ?_)
                  obtain ⟨rfl, e1, hXr, hOr⟩ := q139
                  subst e1
                  refine V_iret dX9_copy_142 ⟨rfl, rfl⟩ (Nat.zero_le _) (Nat.zero_le _) ?_
                  subst hQ
                  exact ⟨_, _, _, rfl, rfl, by unfold o_copy; rw [hpn, hqn, if_neg (fun z => z ⟨hp8, hq8⟩), if_neg (fun z => z.elim h36 (fun z => z.elim h44 (fun z => z.2.2 h80))), if_neg (fun z => z ⟨h95, h103⟩), if_pos (fun z => h121 z.1)]; exact ⟨rfl, hXr, hOr, Off.rf⟩⟩
                · have h121 : plQ (x_T X p) i m := bI_ne.mp h121
                  refine V_aload dX9_copy_124 0 rfl ?_
                  refine V_iload dX9_copy_126 6 rfl ?_
                  refine V_iload dX9_copy_128 7 rfl ?_
                  refine M_callVp (As := [.int (j), .int (m)]) (st := []) dX9_copy_130 lv_X9_81 ⟨by decide, by decide⟩ ⟨rfl, rfl⟩ rfl (ci := 4) (sh_ok hx hq).1 rfl rfl (Nat.le_of_ble_eq_true rfl) (t_hasPlaces (sh_ok hx hq) hTq (i := j) (m := m)) ?_
                  refine V_if_ne (tgt := 143) dX9_copy_133 rfl (fun h133 => ?_) (fun h133 => ?_)
                  · have h133 : plQ (x_T X q) j m := bI_ne.mp h133
                    refine V_aload dX9_copy_143 0 rfl ?_
                    refine V_aload dX9_copy_145 1 rfl ?_
                    refine V_iload_n (i := 3) dX9_copy_147 rfl 5 rfl ?_
                    refine V_iload dX9_copy_148 6 rfl ?_
                    refine V_iload dX9_copy_150 7 rfl ?_
                    refine M_callVn (As := [.ref (29 + 2 * p), .int (i), .int (j), .int (m)]) (st := []) dX9_copy_152 lv_X9_100 ⟨by decide, by decide⟩ ⟨rfl, rfl⟩ rfl (ci := 4) (sh_ok hx hq).1 rfl rfl (Nat.le_of_ble_eq_true rfl) (t_takeElements (sh_ok hx hq) hTq (sh_ok hx hp) hTp h121 h133) (fun iv152 lw152 q152 => ?_)
                    obtain ⟨rfl, rfl⟩ := q152
                    have hXn := hX.shelf hq (xs_cpy hTq hTp h121 h133) Off.rf (Off.rf.row (by omega) (by omega)) (hX.2.2.2.2.2.2 q hq)
                    refine V_iload dX9_copy_155 7 rfl ?_
                    refine V_iret dX9_copy_157 ⟨rfl, rfl⟩ (Nat.zero_le _) (Nat.zero_le _) ?_
                    subst hQ
                    exact ⟨_, _, _, rfl, rfl, by unfold o_copy; rw [hpn, hqn, if_neg (fun z => z ⟨hp8, hq8⟩), if_neg (fun z => z.elim h36 (fun z => z.elim h44 (fun z => z.2.2 h80))), if_neg (fun z => z ⟨h95, h103⟩), if_neg (fun z => z ⟨h121, h133⟩)]; exact ⟨rfl, hXn, Off.rf, Off.rf.row (by omega) (by omega)⟩⟩
                  · have h133 : ¬ (plQ (x_T X q) j m) := bI_eq0.mp h133
                    refine V_aload_n (i := 0) dX9_copy_136 rfl 2 rfl ?_
                    refine V_bipush (v := (-2)) dX9_copy_137 rfl ?_
                    refine M_callVq (As := [.int ((-2))]) (st := []) dX9_copy_139 lv_X9_69 ⟨by decide, by decide⟩ ⟨rfl, rfl⟩ rfl (ci := 6) hx.1 rfl rfl (Nat.le_of_ble_eq_true rfl) (t_refuse hx hX (j := 0) (by decide)) (fun w139 iv139 lw139 q139 => ?_)
                    obtain ⟨rfl, e1, hXr, hOr⟩ := q139
                    subst e1
                    refine V_iret dX9_copy_142 ⟨rfl, rfl⟩ (Nat.zero_le _) (Nat.zero_le _) ?_
                    subst hQ
                    exact ⟨_, _, _, rfl, rfl, by unfold o_copy; rw [hpn, hqn, if_neg (fun z => z ⟨hp8, hq8⟩), if_neg (fun z => z.elim h36 (fun z => z.elim h44 (fun z => z.2.2 h80))), if_neg (fun z => z ⟨h95, h103⟩), if_pos (fun z => h133 z.2)]; exact ⟨rfl, hXr, hOr, Off.rf⟩⟩
              · have h103 : ¬ (rowQ (x_T X q)) := bI_eq0.mp h103
                refine V_aload_n (i := 0) dX9_copy_106 rfl 2 rfl ?_
                refine V_bipush (v := (-4)) dX9_copy_107 rfl ?_
                refine M_callVq (As := [.int ((-4))]) (st := []) dX9_copy_109 lv_X9_69 ⟨by decide, by decide⟩ ⟨rfl, rfl⟩ rfl (ci := 6) hx.1 rfl rfl (Nat.le_of_ble_eq_true rfl) (t_refuse hx hX (j := 2) (by decide)) (fun w109 iv109 lw109 q109 => ?_)
                obtain ⟨rfl, e1, hXr, hOr⟩ := q109
                subst e1
                refine V_iret dX9_copy_112 ⟨rfl, rfl⟩ (Nat.zero_le _) (Nat.zero_le _) ?_
                subst hQ
                exact ⟨_, _, _, rfl, rfl, by unfold o_copy; rw [hpn, hqn, if_neg (fun z => z ⟨hp8, hq8⟩), if_neg (fun z => z.elim h36 (fun z => z.elim h44 (fun z => z.2.2 h80))), if_pos (fun z => h103 z.2)]; exact ⟨rfl, hXr, hOr, Off.rf⟩⟩
          · refine V_aload_n (i := 0) dX9_copy_83 rfl 2 rfl ?_
            refine V_bipush (v := (-3)) dX9_copy_84 rfl ?_
            refine M_callVq (As := [.int ((-3))]) (st := []) dX9_copy_86 lv_X9_69 ⟨by decide, by decide⟩ ⟨rfl, rfl⟩ rfl (ci := 6) hx.1 rfl rfl (Nat.le_of_ble_eq_true rfl) (t_refuse hx hX (j := 1) (by decide)) (fun w86 iv86 lw86 q86 => ?_)
            obtain ⟨rfl, e1, hXr, hOr⟩ := q86
            subst e1
            refine V_iret dX9_copy_89 ⟨rfl, rfl⟩ (Nat.zero_le _) (Nat.zero_le _) ?_
            subst hQ
            exact ⟨_, _, _, rfl, rfl, by unfold o_copy; rw [hpn, hqn, if_neg (fun z => z ⟨hp8, hq8⟩), if_pos (Or.inr (Or.inr ⟨h59, h67, h80⟩))]; exact ⟨rfl, hXr, hOr, Off.rf⟩⟩
    · have h44 : earQ (x_T X q) := bI_ne.mp h44
      refine V_aload_n (i := 0) dX9_copy_47 rfl 2 rfl ?_
      refine V_bipush (v := (-3)) dX9_copy_48 rfl ?_
      refine M_callVq (As := [.int ((-3))]) (st := []) dX9_copy_50 lv_X9_69 ⟨by decide, by decide⟩ ⟨rfl, rfl⟩ rfl (ci := 6) hx.1 rfl rfl (Nat.le_of_ble_eq_true rfl) (t_refuse hx hX (j := 1) (by decide)) (fun w50 iv50 lw50 q50 => ?_)
      obtain ⟨rfl, e1, hXr, hOr⟩ := q50
      subst e1
      refine V_iret dX9_copy_53 ⟨rfl, rfl⟩ (Nat.zero_le _) (Nat.zero_le _) ?_
      subst hQ
      exact ⟨_, _, _, rfl, rfl, by unfold o_copy; rw [hpn, hqn, if_neg (fun z => z ⟨hp8, hq8⟩), if_pos (Or.inr (Or.inl h44))]; exact ⟨rfl, hXr, hOr, Off.rf⟩⟩
set_option maxRecDepth 20000 in
theorem k_copy_n1 {g : Ev} {S : St} {iv : IV} {lw : LW} (hx : IsX S) {X : Xs} (hX : CX iv lw X) {p : Int32} (hp : ¬ inR p 8) {q : Nat} (hq : q < 8) {i j m : Int32} : CQ g mX9_copy [.ref (0), .int (p), .int (nI q), .int (i), .int (j), .int (m)] S iv lw (fun w iv2 lw2 => OP iv lw (o_copy X (p) (nI q) i j m) w iv2 lw2) := by
  refine CT_ofQ rfl (by decide) (Nat.le_of_ble_eq_true rfl) (lv := [(0, .ref (0)), (1, .int (p)), (2, .int (nI q)), (3, .int (i)), (4, .int (j)), (5, .int (m))]) rfl (fun Q hQ => ?_)
  have hA := hX.1
  have hnc := hA.ok.nc
  have hne := hA.ok.ne
  have hnm := hA.ok.nm
  refine V_aload_n (i := 0) dX9_copy_0 rfl 0 rfl ?_
  refine V_iload_n (i := 1) dX9_copy_1 rfl 1 rfl ?_
  refine M_callVp (As := [.int (p)]) (st := []) dX9_copy_2 lv_X9_65 ⟨by decide, by decide⟩ ⟨rfl, rfl⟩ rfl (ci := 6) hx.1 rfl rfl (Nat.le_of_ble_eq_true rfl) (t_shelfAt_no hx hp) ?_
  refine V_astoreN (lv2 := [(6, .null), (0, .ref (0)), (1, .int (p)), (2, .int (nI q)), (3, .int (i)), (4, .int (j)), (5, .int (m))]) dX9_copy_5 (by decide) rfl ?_
  refine V_aload_n (i := 0) dX9_copy_7 rfl 1 rfl ?_
  refine V_iload_n (i := 2) dX9_copy_8 rfl 3 rfl ?_
  refine M_callVp (As := [.int (nI q)]) (st := []) dX9_copy_9 lv_X9_65 ⟨by decide, by decide⟩ ⟨rfl, rfl⟩ rfl (ci := 6) hx.1 rfl rfl (Nat.le_of_ble_eq_true rfl) (t_shelfAt_in hx hq) ?_
  refine V_astore (lv2 := [(7, .ref (29 + 2 * q)), (6, .null), (0, .ref (0)), (1, .int (p)), (2, .int (nI q)), (3, .int (i)), (4, .int (j)), (5, .int (m))]) dX9_copy_12 (by decide) rfl ?_
  refine V_aloadN dX9_copy_14 1 rfl ?_
  refine V_ifnullN (tgt := 24) dX9_copy_16 rfl ?_
  refine V_aload_n (i := 0) dX9_copy_24 rfl 2 rfl ?_
  refine V_bipush (v := (-2)) dX9_copy_25 rfl ?_
  refine M_callVq (As := [.int ((-2))]) (st := []) dX9_copy_27 lv_X9_69 ⟨by decide, by decide⟩ ⟨rfl, rfl⟩ rfl (ci := 6) hx.1 rfl rfl (Nat.le_of_ble_eq_true rfl) (t_refuse hx hX (j := 0) (by decide)) (fun w27 iv27 lw27 q27 => ?_)
  obtain ⟨rfl, e1, hXr, hOr⟩ := q27
  subst e1
  refine V_iret dX9_copy_30 ⟨rfl, rfl⟩ (Nat.zero_le _) (Nat.zero_le _) ?_
  subst hQ
  exact ⟨_, _, _, rfl, rfl, by unfold o_copy; rw [if_pos (fun z => hp z.1)]; exact ⟨rfl, hXr, hOr, Off.rf⟩⟩
set_option maxRecDepth 20000 in
theorem k_copy_n2 {g : Ev} {S : St} {iv : IV} {lw : LW} (hx : IsX S) {X : Xs} (hX : CX iv lw X) {p : Int32} (hp : ¬ inR p 8) {q : Int32} (hq : ¬ inR q 8) {i j m : Int32} : CQ g mX9_copy [.ref (0), .int (p), .int (q), .int (i), .int (j), .int (m)] S iv lw (fun w iv2 lw2 => OP iv lw (o_copy X (p) (q) i j m) w iv2 lw2) := by
  refine CT_ofQ rfl (by decide) (Nat.le_of_ble_eq_true rfl) (lv := [(0, .ref (0)), (1, .int (p)), (2, .int (q)), (3, .int (i)), (4, .int (j)), (5, .int (m))]) rfl (fun Q hQ => ?_)
  have hA := hX.1
  have hnc := hA.ok.nc
  have hne := hA.ok.ne
  have hnm := hA.ok.nm
  refine V_aload_n (i := 0) dX9_copy_0 rfl 0 rfl ?_
  refine V_iload_n (i := 1) dX9_copy_1 rfl 1 rfl ?_
  refine M_callVp (As := [.int (p)]) (st := []) dX9_copy_2 lv_X9_65 ⟨by decide, by decide⟩ ⟨rfl, rfl⟩ rfl (ci := 6) hx.1 rfl rfl (Nat.le_of_ble_eq_true rfl) (t_shelfAt_no hx hp) ?_
  refine V_astoreN (lv2 := [(6, .null), (0, .ref (0)), (1, .int (p)), (2, .int (q)), (3, .int (i)), (4, .int (j)), (5, .int (m))]) dX9_copy_5 (by decide) rfl ?_
  refine V_aload_n (i := 0) dX9_copy_7 rfl 1 rfl ?_
  refine V_iload_n (i := 2) dX9_copy_8 rfl 3 rfl ?_
  refine M_callVp (As := [.int (q)]) (st := []) dX9_copy_9 lv_X9_65 ⟨by decide, by decide⟩ ⟨rfl, rfl⟩ rfl (ci := 6) hx.1 rfl rfl (Nat.le_of_ble_eq_true rfl) (t_shelfAt_no hx hq) ?_
  refine V_astoreN (lv2 := [(7, .null), (6, .null), (0, .ref (0)), (1, .int (p)), (2, .int (q)), (3, .int (i)), (4, .int (j)), (5, .int (m))]) dX9_copy_12 (by decide) rfl ?_
  refine V_aloadN dX9_copy_14 1 rfl ?_
  refine V_ifnullN (tgt := 24) dX9_copy_16 rfl ?_
  refine V_aload_n (i := 0) dX9_copy_24 rfl 2 rfl ?_
  refine V_bipush (v := (-2)) dX9_copy_25 rfl ?_
  refine M_callVq (As := [.int ((-2))]) (st := []) dX9_copy_27 lv_X9_69 ⟨by decide, by decide⟩ ⟨rfl, rfl⟩ rfl (ci := 6) hx.1 rfl rfl (Nat.le_of_ble_eq_true rfl) (t_refuse hx hX (j := 0) (by decide)) (fun w27 iv27 lw27 q27 => ?_)
  obtain ⟨rfl, e1, hXr, hOr⟩ := q27
  subst e1
  refine V_iret dX9_copy_30 ⟨rfl, rfl⟩ (Nat.zero_le _) (Nat.zero_le _) ?_
  subst hQ
  exact ⟨_, _, _, rfl, rfl, by unfold o_copy; rw [if_pos (fun z => hp z.1)]; exact ⟨rfl, hXr, hOr, Off.rf⟩⟩
set_option maxRecDepth 20000 in
theorem k_copy_n3 {g : Ev} {S : St} {iv : IV} {lw : LW} (hx : IsX S) {X : Xs} (hX : CX iv lw X) {p : Nat} (hp : p < 8) {q : Int32} (hq : ¬ inR q 8) {i j m : Int32} : CQ g mX9_copy [.ref (0), .int (nI p), .int (q), .int (i), .int (j), .int (m)] S iv lw (fun w iv2 lw2 => OP iv lw (o_copy X (nI p) (q) i j m) w iv2 lw2) := by
  refine CT_ofQ rfl (by decide) (Nat.le_of_ble_eq_true rfl) (lv := [(0, .ref (0)), (1, .int (nI p)), (2, .int (q)), (3, .int (i)), (4, .int (j)), (5, .int (m))]) rfl (fun Q hQ => ?_)
  have hA := hX.1
  have hnc := hA.ok.nc
  have hne := hA.ok.ne
  have hnm := hA.ok.nm
  refine V_aload_n (i := 0) dX9_copy_0 rfl 0 rfl ?_
  refine V_iload_n (i := 1) dX9_copy_1 rfl 1 rfl ?_
  refine M_callVp (As := [.int (nI p)]) (st := []) dX9_copy_2 lv_X9_65 ⟨by decide, by decide⟩ ⟨rfl, rfl⟩ rfl (ci := 6) hx.1 rfl rfl (Nat.le_of_ble_eq_true rfl) (t_shelfAt_in hx hp) ?_
  refine V_astore (lv2 := [(6, .ref (29 + 2 * p)), (0, .ref (0)), (1, .int (nI p)), (2, .int (q)), (3, .int (i)), (4, .int (j)), (5, .int (m))]) dX9_copy_5 (by decide) rfl ?_
  refine V_aload_n (i := 0) dX9_copy_7 rfl 1 rfl ?_
  refine V_iload_n (i := 2) dX9_copy_8 rfl 3 rfl ?_
  refine M_callVp (As := [.int (q)]) (st := []) dX9_copy_9 lv_X9_65 ⟨by decide, by decide⟩ ⟨rfl, rfl⟩ rfl (ci := 6) hx.1 rfl rfl (Nat.le_of_ble_eq_true rfl) (t_shelfAt_no hx hq) ?_
  refine V_astoreN (lv2 := [(7, .null), (6, .ref (29 + 2 * p)), (0, .ref (0)), (1, .int (nI p)), (2, .int (q)), (3, .int (i)), (4, .int (j)), (5, .int (m))]) dX9_copy_12 (by decide) rfl ?_
  refine V_aload dX9_copy_14 1 rfl ?_
  refine V_ifnull dX9_copy_16 ?_
  refine V_aloadN dX9_copy_19 0 rfl ?_
  refine V_ifnonnullN dX9_copy_21 ?_
  refine V_aload_n (i := 0) dX9_copy_24 rfl 2 rfl ?_
  refine V_bipush (v := (-2)) dX9_copy_25 rfl ?_
  refine M_callVq (As := [.int ((-2))]) (st := []) dX9_copy_27 lv_X9_69 ⟨by decide, by decide⟩ ⟨rfl, rfl⟩ rfl (ci := 6) hx.1 rfl rfl (Nat.le_of_ble_eq_true rfl) (t_refuse hx hX (j := 0) (by decide)) (fun w27 iv27 lw27 q27 => ?_)
  obtain ⟨rfl, e1, hXr, hOr⟩ := q27
  subst e1
  refine V_iret dX9_copy_30 ⟨rfl, rfl⟩ (Nat.zero_le _) (Nat.zero_le _) ?_
  subst hQ
  exact ⟨_, _, _, rfl, rfl, by unfold o_copy; rw [if_pos (fun z => hq z.2)]; exact ⟨rfl, hXr, hOr, Off.rf⟩⟩
theorem k_copy {g : Ev} {S : St} {iv : IV} {lw : LW} (hx : IsX S) {X : Xs} (hX : CX iv lw X) {p q : Int32} {i j m : Int32} : CQ g mX9_copy [.ref (0), .int (p), .int (q), .int (i), .int (j), .int (m)] S iv lw (fun w iv2 lw2 => OP iv lw (o_copy X p q i j m) w iv2 lw2) := by
  by_cases hp : inR p 8
  · obtain ⟨p, hp2, rfl⟩ := (inR_nI (by omega)).mp hp
    by_cases hq : inR q 8
    · obtain ⟨q, hq2, rfl⟩ := (inR_nI (by omega)).mp hq
      exact k_copy_in hx hX hp2 hq2
    · exact k_copy_n3 hx hX hp2 hq
  · by_cases hq : inR q 8
    · obtain ⟨q, hq2, rfl⟩ := (inR_nI (by omega)).mp hq
      exact k_copy_n1 hx hX hp hq2
    · exact k_copy_n2 hx hX hp hq
set_option maxRecDepth 20000 in
theorem k_call_in {g : Ev} {S : St} {iv : IV} {lw : LW} (hx : IsX S) {X : Xs} (hX : CX iv lw X) {j : Nat} (hj : j < 8) {m : Int32} {u : Int32} {k : Int32} : CQ g mX9_call [.ref (0), .int (nI j), .int (m), .int (u), .int (k)] S iv lw (fun w iv2 lw2 => OP iv lw (o_call X (nI j) m u k) w iv2 lw2) := by
  refine CT_ofQ rfl (by decide) (Nat.le_of_ble_eq_true rfl) (lv := [(0, .ref (0)), (1, .int (nI j)), (2, .int (m)), (3, .int (u)), (4, .int (k))]) rfl (fun Q hQ => ?_)
  have hA := hX.1
  have hnc := hA.ok.nc
  have hne := hA.ok.ne
  have hnm := hA.ok.nm
  have hTj := hX.2.2.2.1 j hj
  have hjn : iN (nI j) = j := iN_nI (by omega)
  have h8 := in8 hj
  have hk := hTj.1.1
  have hk2 := hTj.1.2.1
  have hk3 := hTj.1.2.2
  refine V_aload_n (i := 0) dX9_call_0 rfl 0 rfl ?_
  refine V_iload_n (i := 1) dX9_call_1 rfl 1 rfl ?_
  refine M_callVp (As := [.int (nI j)]) (st := []) dX9_call_2 lv_X9_65 ⟨by decide, by decide⟩ ⟨rfl, rfl⟩ rfl (ci := 6) hx.1 rfl rfl (Nat.le_of_ble_eq_true rfl) (t_shelfAt_in hx hj) ?_
  refine V_astore (lv2 := [(5, .ref (29 + 2 * j)), (0, .ref (0)), (1, .int (nI j)), (2, .int (m)), (3, .int (u)), (4, .int (k))]) dX9_call_5 (by decide) rfl ?_
  refine V_aload dX9_call_7 0 rfl ?_
  refine V_ifnull dX9_call_9 ?_
  refine V_iload_n (i := 2) dX9_call_12 rfl 3 rfl ?_
  refine V_iconst (v := nI 1) dX9_call_13 rfl ?_
  refine V_icmp_lt (tgt := 38) dX9_call_14 rfl (fun h14 => ?_) (fun h14 => ?_)
  · have h14 : m.toInt < (1 : Int) := by have q := Int32.lt_iff_toInt_lt.mp h14; rw [nI_toInt (n := 1) (by omega)] at q; exact q
    refine V_aload_n (i := 0) dX9_call_38 rfl 1 rfl ?_
    refine V_bipush (v := (-2)) dX9_call_39 rfl ?_
    refine M_callVq (As := [.int ((-2))]) (st := []) dX9_call_41 lv_X9_69 ⟨by decide, by decide⟩ ⟨rfl, rfl⟩ rfl (ci := 6) hx.1 rfl rfl (Nat.le_of_ble_eq_true rfl) (t_refuse hx hX (j := 0) (by decide)) (fun w41 iv41 lw41 q41 => ?_)
    obtain ⟨rfl, e1, hXr, hOr⟩ := q41
    subst e1
    refine V_iret dX9_call_44 ⟨rfl, rfl⟩ (Nat.zero_le _) (Nat.zero_le _) ?_
    subst hQ
    exact ⟨_, _, _, rfl, rfl, by unfold o_call; rw [hjn, if_pos (fun z => by have z1 := z.2.1; have z2 := z.2.2.1; omega)]; exact ⟨rfl, hXr, hOr, Off.rf⟩⟩
  · have h14 : ¬ m.toInt < (1 : Int) := fun r => h14 (Int32.lt_iff_toInt_lt.mpr (by rw [nI_toInt (n := 1) (by omega)]; exact r))
    refine V_iload_n (i := 2) dX9_call_17 rfl 3 rfl ?_
    refine V_bipush (v := nI 8) dX9_call_18 rfl ?_
    refine V_icmp_gt (tgt := 38) dX9_call_20 rfl (fun h20 => ?_) (fun h20 => ?_)
    · have h20 : (8 : Int) < m.toInt := by have q := Int32.lt_iff_toInt_lt.mp h20; rw [nI_toInt (n := 8) (by omega)] at q; exact q
      refine V_aload_n (i := 0) dX9_call_38 rfl 1 rfl ?_
      refine V_bipush (v := (-2)) dX9_call_39 rfl ?_
      refine M_callVq (As := [.int ((-2))]) (st := []) dX9_call_41 lv_X9_69 ⟨by decide, by decide⟩ ⟨rfl, rfl⟩ rfl (ci := 6) hx.1 rfl rfl (Nat.le_of_ble_eq_true rfl) (t_refuse hx hX (j := 0) (by decide)) (fun w41 iv41 lw41 q41 => ?_)
      obtain ⟨rfl, e1, hXr, hOr⟩ := q41
      subst e1
      refine V_iret dX9_call_44 ⟨rfl, rfl⟩ (Nat.zero_le _) (Nat.zero_le _) ?_
      subst hQ
      exact ⟨_, _, _, rfl, rfl, by unfold o_call; rw [hjn, if_pos (fun z => by have z1 := z.2.1; have z2 := z.2.2.1; omega)]; exact ⟨rfl, hXr, hOr, Off.rf⟩⟩
    · have h20 : ¬ (8 : Int) < m.toInt := fun r => h20 (Int32.lt_iff_toInt_lt.mpr (by rw [nI_toInt (n := 8) (by omega)]; exact r))
      refine V_iload_n (i := 3) dX9_call_23 rfl 4 rfl ?_
      refine M_callSp (As := [.int (u)]) (st := []) dX9_call_24 ls_X9_140 ⟨by decide, by decide⟩ ⟨rfl, rfl⟩ rfl (Nat.le_of_ble_eq_true rfl) (t_X0_isUse) ?_
      refine V_if_eq (tgt := 38) dX9_call_27 rfl (fun h27 => ?_) (fun h27 => ?_)
      · have h27 : ¬ ((1 : Int) ≤ u.toInt ∧ u.toInt ≤ 99) := bI_eq0.mp h27
        refine V_aload_n (i := 0) dX9_call_38 rfl 1 rfl ?_
        refine V_bipush (v := (-2)) dX9_call_39 rfl ?_
        refine M_callVq (As := [.int ((-2))]) (st := []) dX9_call_41 lv_X9_69 ⟨by decide, by decide⟩ ⟨rfl, rfl⟩ rfl (ci := 6) hx.1 rfl rfl (Nat.le_of_ble_eq_true rfl) (t_refuse hx hX (j := 0) (by decide)) (fun w41 iv41 lw41 q41 => ?_)
        obtain ⟨rfl, e1, hXr, hOr⟩ := q41
        subst e1
        refine V_iret dX9_call_44 ⟨rfl, rfl⟩ (Nat.zero_le _) (Nat.zero_le _) ?_
        subst hQ
        exact ⟨_, _, _, rfl, rfl, by unfold o_call; rw [hjn, if_pos (fun z => h27 z.2.2.2.1)]; exact ⟨rfl, hXr, hOr, Off.rf⟩⟩
      · have h27 : (1 : Int) ≤ u.toInt ∧ u.toInt ≤ 99 := bI_ne.mp h27
        refine V_iload dX9_call_30 5 rfl ?_
        refine M_callSp (As := [.int (k)]) (st := []) dX9_call_32 ls_X9_143 ⟨by decide, by decide⟩ ⟨rfl, rfl⟩ rfl (Nat.le_of_ble_eq_true rfl) (t_X0_isCost) ?_
        refine V_if_ne (tgt := 45) dX9_call_35 rfl (fun h35 => ?_) (fun h35 => ?_)
        · have h35 : (0 : Int) ≤ k.toInt ∧ k.toInt ≤ 99 := bI_ne.mp h35
          refine V_aload dX9_call_45 0 rfl ?_
          refine M_callVp (As := []) (st := []) dX9_call_47 lv_X9_77 ⟨by decide, by decide⟩ ⟨rfl, rfl⟩ rfl (ci := 4) (sh_ok hx hj).1 rfl rfl (Nat.le_of_ble_eq_true rfl) (t_whyNoRow (sh_ok hx hj) hTj) ?_
          refine V_istore (lv2 := [(6, .int (whyV (x_T X j))), (5, .ref (29 + 2 * j)), (0, .ref (0)), (1, .int (nI j)), (2, .int (m)), (3, .int (u)), (4, .int (k))]) dX9_call_50 (by decide) rfl ?_
          refine V_iload dX9_call_52 0 rfl ?_
          refine V_if_eq (tgt := 64) dX9_call_54 rfl (fun h54 => ?_) (fun h54 => ?_)
          · have hrw : rowQ (x_T X j) := whyV_0.mp h54
            have cm := iN_eq (k := m) (by omega)
            have dm := iN_i (k := m) (by omega)
            refine M_at (lv2 := [(6, .int (whyV (x_T X j))), (5, .ref (29 + 2 * j)), (0, .ref (0)), (1, .int (nI j)), (2, .int (nI (iN m))), (3, .int (u)), (4, .int (k))]) (st2 := []) ?_ (by rw [← cm]) rfl rfl rfl
            refine V_iload_n (i := 2) dX9_call_64 rfl 4 rfl ?_
            refine V_aload dX9_call_65 1 rfl ?_
            refine M_getI (x := nI (x_T X j).2.1) dX9_call_67 lf_X9_146 rfl (sh_ok hx hj).1 (hTj.2.2.1) ?_
            refine V_icmp_gt (tgt := 82) dX9_call_70 rfl (fun h70 => ?_) (fun h70 => ?_)
            · have h70 : (x_T X j).2.1 < (iN m) := (nI_ltI (by omega) (by omega)).mp h70
              refine V_aload_n (i := 0) dX9_call_82 rfl 2 rfl ?_
              refine V_bipush (v := (-2)) dX9_call_83 rfl ?_
              refine M_callVq (As := [.int ((-2))]) (st := []) dX9_call_85 lv_X9_69 ⟨by decide, by decide⟩ ⟨rfl, rfl⟩ rfl (ci := 6) hx.1 rfl rfl (Nat.le_of_ble_eq_true rfl) (t_refuse hx hX (j := 0) (by decide)) (fun w85 iv85 lw85 q85 => ?_)
              obtain ⟨rfl, e1, hXr, hOr⟩ := q85
              subst e1
              refine V_iret dX9_call_88 ⟨rfl, rfl⟩ (Nat.zero_le _) (Nat.zero_le _) ?_
              subst hQ
              exact ⟨_, _, _, rfl, rfl, by unfold o_call; rw [hjn, if_neg (fun z => z ⟨h8, by omega, by omega, h27, h35⟩), if_neg (fun z => z hrw), if_pos (fun z => absurd z.1 (by omega))]; exact ⟨rfl, hXr, hOr, Off.rf⟩⟩
            · have h70 : ¬ (x_T X j).2.1 < (iN m) := fun q => h70 ((nI_ltI (by omega) (by omega)).mpr q)
              refine V_aload dX9_call_73 1 rfl ?_
              refine V_iload_n (i := 2) dX9_call_75 rfl 4 rfl ?_
              refine M_callVp (As := [.int (nI (iN m))]) (st := []) dX9_call_76 lv_X9_149 ⟨by decide, by decide⟩ ⟨rfl, rfl⟩ rfl (ci := 4) (sh_ok hx hj).1 rfl rfl (Nat.le_of_ble_eq_true rfl) (t_startsWithNotes (sh_ok hx hj) hTj (m := iN m) hrw (by omega)) ?_
              refine V_if_ne (tgt := 89) dX9_call_79 rfl (fun h79 => ?_) (fun h79 => ?_)
              · have h79 : allTo (fun i => decide (ntQ ((x_T X j).2.2 i))) (iN m) = true := bI_ne.mp h79
                refine V_aload_n (i := 0) dX9_call_89 rfl 2 rfl ?_
                refine M_getR dX9_call_90 lf_X9_10 rfl hx.1 hx.2.1.1 ?_
                refine M_callVp (As := []) (st := []) dX9_call_93 lv_X9_152 ⟨by decide, by decide⟩ ⟨rfl, rfl⟩ rfl (ci := 0) hx.2.1.2.1 rfl rfl (Nat.le_of_ble_eq_true rfl) (t_X0_hasRoomForCall hx.2.1.2 hA) ?_
                refine V_if_ne (tgt := 106) dX9_call_96 rfl (fun h96 => ?_) (fun h96 => ?_)
                · have h96 : v_nc (x_A X) < 12 := bI_ne.mp h96
                  have cu := iN_eq (k := u) (by omega)
                  have ck := iN_eq (k := k) (by omega)
                  have du := iN_i (k := u) (by omega)
                  have dk := iN_i (k := k) (by omega)
                  refine M_at (lv2 := [(6, .int (whyV (x_T X j))), (5, .ref (29 + 2 * j)), (0, .ref (0)), (1, .int (nI j)), (2, .int (nI (iN m))), (3, .int (nI (iN u))), (4, .int (nI (iN k)))]) (st2 := []) ?_ (by rw [← cu, ← ck]) rfl rfl rfl
                  refine V_aload_n (i := 0) dX9_call_106 rfl 2 rfl ?_
                  refine M_getR dX9_call_107 lf_X9_10 rfl hx.1 hx.2.1.1 ?_
                  refine V_iload_n (i := 3) dX9_call_110 rfl 5 rfl ?_
                  refine V_iload dX9_call_111 6 rfl ?_
                  refine M_callVq (As := [.int (nI (iN u)), .int (nI (iN k))]) (st := []) dX9_call_113 lv_X9_155 ⟨by decide, by decide⟩ ⟨rfl, rfl⟩ rfl (ci := 0) hx.2.1.2.1 rfl rfl (Nat.le_of_ble_eq_true rfl) (t_addCall hx.2.1.2 hA (u := iN u) (k := iN k) h96 (by omega) (by omega)) (fun w113 iv113 lw113 q113 => ?_)
                  obtain ⟨rfl, e1, hA113, hO113⟩ := q113
                  subst e1
                  refine V_istore (lv2 := [(7, .int (nI (v_nc (x_A X)))), (6, .int (whyV (x_T X j))), (5, .ref (29 + 2 * j)), (0, .ref (0)), (1, .int (nI j)), (2, .int (nI (iN m))), (3, .int (nI (iN u))), (4, .int (nI (iN k)))]) dX9_call_116 (by decide) rfl ?_
                  refine V_iconst (v := nI 0) dX9_call_118 rfl ?_
                  refine V_istore (lv2 := [(8, .int (nI 0)), (7, .int (nI (v_nc (x_A X)))), (6, .int (whyV (x_T X j))), (5, .ref (29 + 2 * j)), (0, .ref (0)), (1, .int (nI j)), (2, .int (nI (iN m))), (3, .int (nI (iN u))), (4, .int (nI (iN k)))]) dX9_call_119 (by decide) rfl ?_
                  have lp121 : ∀ i, i ≤ (iN m) → ∀ iv2 : IV, XC iv2 1 (nTo (v_addC (x_A X) (iN u) (iN k)) (fun i => heN ((x_T X j).2.2 i)) i) → Off 1 9 iv iv2 → VM g mX9_call 121 [(8, .int (nI i)), (7, .int (nI (v_nc (x_A X)))), (0, .ref (0)), (2, .int (nI (iN m))), (5, .ref (29 + 2 * j))] [] S iv2 lw Q := by
                    refine up_ind fun i hi ih121 => ?_
                    intro iv2 hA2 hO2
                    have hT2 := hTj.of (iv2 := iv2) (lw2 := lw) (hO2 _ (by omega)) rfl
                    refine V_iload dX9_call_121 0 rfl ?_
                    refine V_iload_n (i := 2) dX9_call_123 rfl 3 rfl ?_
                    refine V_icmp_ge (tgt := 148) dX9_call_124 rfl (fun h124 => ?_) (fun h124 => ?_)
                    · have h124 : (iN m) ≤ i := (nI_leI (by omega) (by omega)).mp h124
                      refine V_iload dX9_call_148 1 rfl ?_
                      refine V_iret dX9_call_150 ⟨rfl, rfl⟩ (Nat.zero_le _) (Nat.zero_le _) ?_
                      subst hQ
                      obtain rfl : i = iN m := by omega
                      have hXn := hX.now hA2 hO2 (by rw [nTo_ne]; exact Nat.le_refl _)
                      exact ⟨_, _, _, rfl, rfl, by unfold o_call; rw [hjn, if_neg (fun z => z ⟨h8, by omega, by omega, h27, h35⟩), if_neg (fun z => z hrw), if_neg (fun z => z ⟨by omega, h79⟩), if_pos h96]; exact ⟨rfl, hXn, hO2.wide (by omega) (by omega), Off.rf⟩⟩
                    · have h124 : ¬ (iN m) ≤ i := fun q => h124 ((nI_leI (by omega) (by omega)).mpr q)
                      refine V_aload_n (i := 0) dX9_call_127 rfl 2 rfl ?_
                      refine M_getR dX9_call_128 lf_X9_10 rfl hx.1 hx.2.1.1 ?_
                      refine V_aload dX9_call_131 4 rfl ?_
                      refine V_iload dX9_call_133 0 rfl ?_
                      have hvi : ntQ ((x_T X j).2.2 i) := of_decide_eq_true ((allTo_iff (iN m)).mp h79 i (by omega))
                      have hcl : (nI i).toNatClampNeg = i := nI_clamp (by omega)
                      refine M_callVp (As := [.int (nI i)]) (st := [.ref (1)]) dX9_call_135 lv_X9_104 ⟨by decide, by decide⟩ ⟨rfl, rfl⟩ rfl (ci := 4) (sh_ok hx hj).1 rfl rfl (Nat.le_of_ble_eq_true rfl) (t_elementAt (sh_ok hx hj) hT2 (i := nI i) hrw (by rw [nI_toInt (by omega)]; omega)) ?_
                      refine V_l2i dX9_call_138 ?_
                      refine M_top (x2 := nI (heN ((x_T X j).2.2 i))) (by rw [hcl]; exact heN_q (Or.inl hvi)) ?_
                      refine M_callVn (As := [.int (nI (heN ((x_T X j).2.2 i)))]) (st := []) dX9_call_139 lv_X9_159 ⟨by decide, by decide⟩ ⟨rfl, rfl⟩ rfl (ci := 0) hx.2.1.2.1 rfl rfl (Nat.le_of_ble_eq_true rfl) (t_addNote hx.2.1.2 hA2 (t := heN ((x_T X j).2.2 i)) (by rw [nTo_nc]; exact Nat.succ_pos _) (by rw [nTo_nc]; show v_sz _ (v_nc (x_A X) + 1 - 1) < 8; rw [Nat.add_sub_cancel, nTo_sz]; omega) (heN4 hvi)) (fun iv139 lw139 q139 => ?_)
                      obtain ⟨e1, hA139, hO139⟩ := q139
                      subst e1
                      refine V_iinc (v := nI (i + 1)) (lv2 := [(8, .int (nI (i + 1))), (7, .int (nI (v_nc (x_A X)))), (0, .ref (0)), (2, .int (nI (iN m))), (5, .ref (29 + 2 * j))]) dX9_call_142 0 rfl (nI_inc _) (by decide) rfl ?_
                      refine V_goto (tgt := 121) dX9_call_145 rfl ?_
                      refine V_sub [0, 1, 2, 3, 4] rfl ?_
                      exact M_at (ih121 (by omega) iv139 hA139 (hO2.tr hO139)) (rfl) rfl (rfl) (rfl)
                  refine V_sub [0, 1, 4, 6, 3] rfl ?_
                  exact M_at (lp121 0 (Nat.zero_le _) iv113 hA113 hO113) (rfl) rfl (rfl) (rfl)
                · have h96 : ¬ (v_nc (x_A X) < 12) := bI_eq0.mp h96
                  refine V_aload_n (i := 0) dX9_call_99 rfl 2 rfl ?_
                  refine V_bipush (v := (-6)) dX9_call_100 rfl ?_
                  refine M_callVq (As := [.int ((-6))]) (st := []) dX9_call_102 lv_X9_69 ⟨by decide, by decide⟩ ⟨rfl, rfl⟩ rfl (ci := 6) hx.1 rfl rfl (Nat.le_of_ble_eq_true rfl) (t_refuse hx hX (j := 4) (by decide)) (fun w102 iv102 lw102 q102 => ?_)
                  obtain ⟨rfl, e1, hXr, hOr⟩ := q102
                  subst e1
                  refine V_iret dX9_call_105 ⟨rfl, rfl⟩ (Nat.zero_le _) (Nat.zero_le _) ?_
                  subst hQ
                  exact ⟨_, _, _, rfl, rfl, by unfold o_call; rw [hjn, if_neg (fun z => z ⟨h8, by omega, by omega, h27, h35⟩), if_neg (fun z => z hrw), if_neg (fun z => z ⟨by omega, h79⟩), if_neg h96]; exact ⟨rfl, hXr, hOr, Off.rf⟩⟩
              · have h79 : ¬ (allTo (fun i => decide (ntQ ((x_T X j).2.2 i))) (iN m) = true) := bI_eq0.mp h79
                refine V_aload_n (i := 0) dX9_call_82 rfl 2 rfl ?_
                refine V_bipush (v := (-2)) dX9_call_83 rfl ?_
                refine M_callVq (As := [.int ((-2))]) (st := []) dX9_call_85 lv_X9_69 ⟨by decide, by decide⟩ ⟨rfl, rfl⟩ rfl (ci := 6) hx.1 rfl rfl (Nat.le_of_ble_eq_true rfl) (t_refuse hx hX (j := 0) (by decide)) (fun w85 iv85 lw85 q85 => ?_)
                obtain ⟨rfl, e1, hXr, hOr⟩ := q85
                subst e1
                refine V_iret dX9_call_88 ⟨rfl, rfl⟩ (Nat.zero_le _) (Nat.zero_le _) ?_
                subst hQ
                exact ⟨_, _, _, rfl, rfl, by unfold o_call; rw [hjn, if_neg (fun z => z ⟨h8, by omega, by omega, h27, h35⟩), if_neg (fun z => z hrw), if_pos (fun z => h79 z.2)]; exact ⟨rfl, hXr, hOr, Off.rf⟩⟩
          · have hrw : ¬ rowQ (x_T X j) := fun z => h54 (whyV_0.mpr z)
            refine V_aload_n (i := 0) dX9_call_57 rfl 2 rfl ?_
            refine V_iload dX9_call_58 0 rfl ?_
            refine M_callVq (As := [.int (whyV (x_T X j))]) (st := []) dX9_call_60 lv_X9_69 ⟨by decide, by decide⟩ ⟨rfl, rfl⟩ rfl (ci := 6) hx.1 rfl rfl (Nat.le_of_ble_eq_true rfl) ((show CQ g mX9_refuse [.ref 0, .int (whyV (x_T X j))] S iv lw _ from by rw [whyV_w hrw]; exact t_refuse hx hX (j := whyJ (x_T X j)) whyJ_lt)) (fun w60 iv60 lw60 q60 => ?_)
            obtain ⟨rfl, e1, hXr, hOr⟩ := q60
            subst e1
            refine V_iret dX9_call_63 ⟨rfl, rfl⟩ (Nat.zero_le _) (Nat.zero_le _) ?_
            subst hQ
            exact ⟨_, _, _, rfl, rfl, by unfold o_call; rw [hjn, if_neg (fun z => z ⟨h8, by omega, by omega, h27, h35⟩), if_pos hrw]; exact ⟨rfl, hXr, hOr, Off.rf⟩⟩
        · have h35 : ¬ ((0 : Int) ≤ k.toInt ∧ k.toInt ≤ 99) := bI_eq0.mp h35
          refine V_aload_n (i := 0) dX9_call_38 rfl 1 rfl ?_
          refine V_bipush (v := (-2)) dX9_call_39 rfl ?_
          refine M_callVq (As := [.int ((-2))]) (st := []) dX9_call_41 lv_X9_69 ⟨by decide, by decide⟩ ⟨rfl, rfl⟩ rfl (ci := 6) hx.1 rfl rfl (Nat.le_of_ble_eq_true rfl) (t_refuse hx hX (j := 0) (by decide)) (fun w41 iv41 lw41 q41 => ?_)
          obtain ⟨rfl, e1, hXr, hOr⟩ := q41
          subst e1
          refine V_iret dX9_call_44 ⟨rfl, rfl⟩ (Nat.zero_le _) (Nat.zero_le _) ?_
          subst hQ
          exact ⟨_, _, _, rfl, rfl, by unfold o_call; rw [hjn, if_pos (fun z => h35 z.2.2.2.2)]; exact ⟨rfl, hXr, hOr, Off.rf⟩⟩
set_option maxRecDepth 20000 in
theorem k_call_no {g : Ev} {S : St} {iv : IV} {lw : LW} (hx : IsX S) {X : Xs} (hX : CX iv lw X) {s : Int32} (hs : ¬ inR s 8) {m : Int32} {u : Int32} {k : Int32} : CQ g mX9_call [.ref (0), .int (s), .int (m), .int (u), .int (k)] S iv lw (fun w iv2 lw2 => OP iv lw (o_call X (s) m u k) w iv2 lw2) := by
  refine CT_ofQ rfl (by decide) (Nat.le_of_ble_eq_true rfl) (lv := [(0, .ref (0)), (1, .int (s)), (2, .int (m)), (3, .int (u)), (4, .int (k))]) rfl (fun Q hQ => ?_)
  have hA := hX.1
  have hnc := hA.ok.nc
  have hne := hA.ok.ne
  have hnm := hA.ok.nm
  refine V_aload_n (i := 0) dX9_call_0 rfl 0 rfl ?_
  refine V_iload_n (i := 1) dX9_call_1 rfl 1 rfl ?_
  refine M_callVp (As := [.int (s)]) (st := []) dX9_call_2 lv_X9_65 ⟨by decide, by decide⟩ ⟨rfl, rfl⟩ rfl (ci := 6) hx.1 rfl rfl (Nat.le_of_ble_eq_true rfl) (t_shelfAt_no hx hs) ?_
  refine V_astoreN (lv2 := [(5, .null), (0, .ref (0)), (1, .int (s)), (2, .int (m)), (3, .int (u)), (4, .int (k))]) dX9_call_5 (by decide) rfl ?_
  refine V_aloadN dX9_call_7 0 rfl ?_
  refine V_ifnullN (tgt := 38) dX9_call_9 rfl ?_
  refine V_aload_n (i := 0) dX9_call_38 rfl 1 rfl ?_
  refine V_bipush (v := (-2)) dX9_call_39 rfl ?_
  refine M_callVq (As := [.int ((-2))]) (st := []) dX9_call_41 lv_X9_69 ⟨by decide, by decide⟩ ⟨rfl, rfl⟩ rfl (ci := 6) hx.1 rfl rfl (Nat.le_of_ble_eq_true rfl) (t_refuse hx hX (j := 0) (by decide)) (fun w41 iv41 lw41 q41 => ?_)
  obtain ⟨rfl, e1, hXr, hOr⟩ := q41
  subst e1
  refine V_iret dX9_call_44 ⟨rfl, rfl⟩ (Nat.zero_le _) (Nat.zero_le _) ?_
  subst hQ
  exact ⟨_, _, _, rfl, rfl, by unfold o_call; rw [if_pos (fun z => hs z.1)]; exact ⟨rfl, hXr, hOr, Off.rf⟩⟩
theorem k_call {g : Ev} {S : St} {iv : IV} {lw : LW} (hx : IsX S) {X : Xs} (hX : CX iv lw X) {s : Int32} {m : Int32} {u : Int32} {k : Int32} : CQ g mX9_call [.ref (0), .int (s), .int (m), .int (u), .int (k)] S iv lw (fun w iv2 lw2 => OP iv lw (o_call X (s) m u k) w iv2 lw2) := by
  by_cases hs : inR s 8
  · obtain ⟨j, hj, rfl⟩ := (inR_nI (by omega)).mp hs
    exact k_call_in hx hX hj
  · exact k_call_no hx hX hs
set_option maxRecDepth 20000 in
theorem k_days {g : Ev} {S : St} {iv : IV} {lw : LW} (hx : IsX S) {X : Xs} (hX : CX iv lw X) {m : Int32} : CQ g mX9_days [.ref (0), .int (m)] S iv lw (fun w iv2 lw2 => OP iv lw (o_days X m) w iv2 lw2) := by
  refine CT_ofQ rfl (by decide) (Nat.le_of_ble_eq_true rfl) (lv := [(0, .ref (0)), (1, .int (m))]) rfl (fun Q hQ => ?_)
  have hA := hX.1
  have hnc := hA.ok.nc
  have hne := hA.ok.ne
  have hnm := hA.ok.nm
  refine V_iload_n (i := 1) dX9_days_0 rfl 1 rfl ?_
  refine V_iconst (v := nI 1) dX9_days_1 rfl ?_
  refine V_icmp_lt (tgt := 11) dX9_days_2 rfl (fun h2 => ?_) (fun h2 => ?_)
  · have h2 : m.toInt < (1 : Int) := by have q := Int32.lt_iff_toInt_lt.mp h2; rw [nI_toInt (n := 1) (by omega)] at q; exact q
    refine V_aload_n (i := 0) dX9_days_11 rfl 0 rfl ?_
    refine V_bipush (v := (-2)) dX9_days_12 rfl ?_
    refine M_callVq (As := [.int ((-2))]) (st := []) dX9_days_14 lv_X9_69 ⟨by decide, by decide⟩ ⟨rfl, rfl⟩ rfl (ci := 6) hx.1 rfl rfl (Nat.le_of_ble_eq_true rfl) (t_refuse hx hX (j := 0) (by decide)) (fun w14 iv14 lw14 q14 => ?_)
    obtain ⟨rfl, e1, hXr, hOr⟩ := q14
    subst e1
    refine V_iret dX9_days_17 ⟨rfl, rfl⟩ (Nat.zero_le _) (Nat.zero_le _) ?_
    subst hQ
    exact ⟨_, _, _, rfl, rfl, by unfold o_days; rw [if_pos (by omega)]; exact ⟨rfl, hXr, hOr, Off.rf⟩⟩
  · have h2 : ¬ m.toInt < (1 : Int) := fun r => h2 (Int32.lt_iff_toInt_lt.mpr (by rw [nI_toInt (n := 1) (by omega)]; exact r))
    refine V_iload_n (i := 1) dX9_days_5 rfl 1 rfl ?_
    refine V_bipush (v := nI 99) dX9_days_6 rfl ?_
    refine V_icmp_le (tgt := 18) dX9_days_8 rfl (fun h8 => ?_) (fun h8 => ?_)
    · have h8 : m.toInt ≤ (99 : Int) := by have q := Int32.le_iff_toInt_le.mp h8; rw [nI_toInt (n := 99) (by omega)] at q; exact q
      refine V_aload_n (i := 0) dX9_days_18 rfl 0 rfl ?_
      refine M_getR dX9_days_19 lf_X9_10 rfl hx.1 hx.2.1.1 ?_
      refine M_getI (x := nI (v_nc (x_A X))) dX9_days_22 lf_X9_281 rfl hx.2.1.2.1 (hA.nc) ?_
      refine V_if_ne (tgt := 35) dX9_days_25 rfl (fun h25 => ?_) (fun h25 => ?_)
      · have h25 : ¬ (v_nc (x_A X)) = 0 := fun q => h25 ((nI_eq (b := 0) (by omega) (by omega)).mpr q)
        have cm := iN_eq (k := m) (by omega)
        have dm := iN_i (k := m) (by omega)
        refine M_at (lv2 := [(0, .ref (0)), (1, .int (nI (iN m)))]) (st2 := []) ?_ (by rw [← cm]) rfl rfl rfl
        refine V_iconst (v := nI 0) dX9_days_35 rfl ?_
        refine V_istore_n (lv2 := [(2, .int (nI 0)), (0, .ref (0)), (1, .int (nI (iN m)))]) dX9_days_36 rfl (by decide) rfl ?_
        refine V_iconst (v := nI 0) dX9_days_37 rfl ?_
        refine V_istore_n (lv2 := [(3, .int (nI 0)), (2, .int (nI 0)), (0, .ref (0)), (1, .int (nI (iN m)))]) dX9_days_38 rfl (by decide) rfl ?_
        have lp39 : ∀ j, j ≤ (iN m) → ∀ iv2 : IV, XC iv2 1 (dyTo (x_A X) j).1 → Of2 1 9 47 2 iv iv2 → VM g mX9_days 39 [(3, .int (nI j)), (2, .int (nI ((dyTo (x_A X) j).2))), (0, .ref (0)), (1, .int (nI (iN m)))] [] S iv2 lw Q := by
          refine up_ind fun j hj ih39 => ?_
          intro iv2 hA2 hO2
          have hW0 : 0 < v_nc (dyTo (x_A X) j).1 := by rw [dy_nc]; omega
          have hW12 := hA2.ok.nc
          refine V_iload_n (i := 3) dX9_days_39 rfl 0 rfl ?_
          refine V_iload_n (i := 1) dX9_days_40 rfl 3 rfl ?_
          refine V_icmp_ge (tgt := 99) dX9_days_41 rfl (fun h41 => ?_) (fun h41 => ?_)
          · have h41 : (iN m) ≤ j := (nI_leI (by omega) (by omega)).mp h41
            refine V_iload_n (i := 2) dX9_days_99 rfl 1 rfl ?_
            refine V_iret dX9_days_100 ⟨rfl, rfl⟩ (Nat.zero_le _) (Nat.zero_le _) ?_
            subst hQ
            obtain rfl : j = iN m := by omega
            have hXn := hX.now2 hA2 hO2 (by rw [dy_ne]; exact Nat.le_refl _)
            exact ⟨_, _, _, rfl, rfl, by unfold o_days; rw [if_neg (by omega), if_neg (by omega)]; exact ⟨rfl, hXn, fun a ha => hO2 a (by omega) (by omega), Off.rf⟩⟩
          · have h41 : ¬ (iN m) ≤ j := fun q => h41 ((nI_leI (by omega) (by omega)).mpr q)
            refine V_aload_n (i := 0) dX9_days_44 rfl 2 rfl ?_
            refine M_getR dX9_days_45 lf_X9_10 rfl hx.1 hx.2.1.1 ?_
            refine V_aload_n (i := 0) dX9_days_48 rfl 2 rfl ?_
            refine M_getR dX9_days_49 lf_X9_10 rfl hx.1 hx.2.1.1 ?_
            refine M_getI (x := nI (v_nc (dyTo (x_A X) j).1)) dX9_days_52 lf_X9_281 rfl hx.2.1.2.1 (hA2.nc) ?_
            refine M_callVq (As := [.int (nI (v_nc (dyTo (x_A X) j).1))]) (st := []) dX9_days_55 lv_X9_378 ⟨by decide, by decide⟩ ⟨rfl, rfl⟩ rfl (ci := 0) hx.2.1.2.1 rfl rfl (Nat.le_of_ble_eq_true rfl) (t_drawBelow hx.2.1.2 hA2 (m := v_nc (dyTo (x_A X) j).1) hW0 (by omega)) (fun w55 iv55 lw55 q55 => ?_)
            obtain ⟨rfl, e1, hA55, hO55⟩ := q55
            subst e1
            have hA55 : XC iv55 1 (dyW (dyTo (x_A X) j).1) := hA55
            refine M_top (x2 := nI (dyC (dyTo (x_A X) j).1)) (rfl) ?_
            refine V_istore (lv2 := [(4, .int (nI (dyC (dyTo (x_A X) j).1))), (3, .int (nI j)), (2, .int (nI ((dyTo (x_A X) j).2))), (0, .ref (0)), (1, .int (nI (iN m)))]) dX9_days_58 (by decide) rfl ?_
            refine V_aload_n (i := 0) dX9_days_60 rfl 3 rfl ?_
            refine M_getR dX9_days_61 lf_X9_43 rfl hx.1 hx.2.2.2.2.2.1.1 ?_
            refine V_aload_n (i := 0) dX9_days_64 rfl 3 rfl ?_
            refine M_getR dX9_days_65 lf_X9_10 rfl hx.1 hx.2.1.1 ?_
            refine V_iload dX9_days_68 0 rfl ?_
            refine M_callVq (As := [.ref (1), .int (nI (dyC (dyTo (x_A X) j).1))]) (st := []) dX9_days_70 lv_X9_371 ⟨by decide, by decide⟩ ⟨rfl, rfl⟩ rfl (ci := 2) hx.2.2.2.2.2.1.2.1 rfl rfl (Nat.le_of_ble_eq_true rfl) (t_takeSounded hx.2.2.2.2.2.1.2 hx.2.1.2 hA55 (by omega) (c := dyC (dyTo (x_A X) j).1) (dyC_ltW hW0)) (fun w70 iv70 lw70 q70 => ?_)
            obtain ⟨rfl, e1, hA70, hH70, hO70⟩ := q70
            subst e1
            have hA70 : XC iv70 1 (dyN (dyTo (x_A X) j).1) := hA70
            have hH70 : XH iv70 47 (dyH (dyTo (x_A X) j).1) := hH70
            refine V_pop dX9_days_73 rfl ?_
            refine V_aload_n (i := 0) dX9_days_74 rfl 3 rfl ?_
            refine M_getR dX9_days_75 lf_X9_10 rfl hx.1 hx.2.1.1 ?_
            refine V_aload_n (i := 0) dX9_days_78 rfl 3 rfl ?_
            refine M_getR dX9_days_79 lf_X9_43 rfl hx.1 hx.2.2.2.2.2.1.1 ?_
            refine M_callSp (As := [.ref (1), .ref (47)]) (st := []) dX9_days_82 ls_X9_358 ⟨by decide, by decide⟩ ⟨rfl, rfl⟩ rfl (Nat.le_of_ble_eq_true rfl) (t_nearestCall hx.2.1.2 hA70 hx.2.2.2.2.2.1.2 hH70) ?_
            refine V_iload dX9_days_85 0 rfl ?_
            refine V_icmp_eq (tgt := 93) dX9_days_87 rfl (fun h87 => ?_) (fun h87 => ?_)
            · have h87 := (dy87 hA70.ok hW0).mp h87.symm
              refine V_iinc (v := nI (j + 1)) (lv2 := [(3, .int (nI (j + 1))), (4, .int (nI (dyC (dyTo (x_A X) j).1))), (2, .int (nI ((dyTo (x_A X) j).2))), (0, .ref (0)), (1, .int (nI (iN m)))]) dX9_days_93 1 rfl (nI_inc _) (by decide) rfl ?_
              refine V_goto (tgt := 39) dX9_days_96 rfl ?_
              refine V_sub [0, 2, 3, 4] rfl ?_
              exact M_at (ih39 (by omega) iv70 hA70 (fun a g1 g2 => (hO70 a g1 g2).trans ((hO55 a g1).trans (hO2 a g1 g2)))) (by rw [dy_0 h87]; try rfl) rfl (rfl) (rfl)
            · have h87 : ¬ bestLo (difV (dyN (dyTo (x_A X) j).1) (dyH (dyTo (x_A X) j).1)) (v_nc (dyN (dyTo (x_A X) j).1)) = some (dyC (dyTo (x_A X) j).1) := fun z => h87 ((dy87 hA70.ok hW0).mpr z).symm
              refine V_iinc (v := nI (((dyTo (x_A X) j).2) + 1)) (lv2 := [(2, .int (nI (((dyTo (x_A X) j).2) + 1))), (4, .int (nI (dyC (dyTo (x_A X) j).1))), (3, .int (nI j)), (0, .ref (0)), (1, .int (nI (iN m)))]) dX9_days_90 2 rfl (nI_inc _) (by decide) rfl ?_
              refine V_iinc (v := nI (j + 1)) (lv2 := [(3, .int (nI (j + 1))), (2, .int (nI (((dyTo (x_A X) j).2) + 1))), (4, .int (nI (dyC (dyTo (x_A X) j).1))), (0, .ref (0)), (1, .int (nI (iN m)))]) dX9_days_93 2 rfl (nI_inc _) (by decide) rfl ?_
              refine V_goto (tgt := 39) dX9_days_96 rfl ?_
              refine V_sub [0, 1, 3, 4] rfl ?_
              exact M_at (ih39 (by omega) iv70 hA70 (fun a g1 g2 => (hO70 a g1 g2).trans ((hO55 a g1).trans (hO2 a g1 g2)))) (by rw [dy_1 h87]; try rfl) rfl (rfl) (rfl)
        refine V_sub [0, 1, 2, 3] rfl ?_
        exact M_at (lp39 0 (Nat.zero_le _) iv hA (fun _ _ _ => rfl)) (rfl) rfl (rfl) (rfl)
      · have h25 : (v_nc (x_A X)) = 0 := (nI_eq (b := 0) (by omega) (by omega)).mp h25
        refine V_aload_n (i := 0) dX9_days_28 rfl 0 rfl ?_
        refine V_bipush (v := (-5)) dX9_days_29 rfl ?_
        refine M_callVq (As := [.int ((-5))]) (st := []) dX9_days_31 lv_X9_69 ⟨by decide, by decide⟩ ⟨rfl, rfl⟩ rfl (ci := 6) hx.1 rfl rfl (Nat.le_of_ble_eq_true rfl) (t_refuse hx hX (j := 3) (by decide)) (fun w31 iv31 lw31 q31 => ?_)
        obtain ⟨rfl, e1, hXr, hOr⟩ := q31
        subst e1
        refine V_iret dX9_days_34 ⟨rfl, rfl⟩ (Nat.zero_le _) (Nat.zero_le _) ?_
        subst hQ
        exact ⟨_, _, _, rfl, rfl, by unfold o_days; rw [if_neg (by omega), if_pos (by omega)]; exact ⟨rfl, hXr, hOr, Off.rf⟩⟩
    · have h8 : ¬ m.toInt ≤ (99 : Int) := fun r => h8 (Int32.le_iff_toInt_le.mpr (by rw [nI_toInt (n := 99) (by omega)]; exact r))
      refine V_aload_n (i := 0) dX9_days_11 rfl 0 rfl ?_
      refine V_bipush (v := (-2)) dX9_days_12 rfl ?_
      refine M_callVq (As := [.int ((-2))]) (st := []) dX9_days_14 lv_X9_69 ⟨by decide, by decide⟩ ⟨rfl, rfl⟩ rfl (ci := 6) hx.1 rfl rfl (Nat.le_of_ble_eq_true rfl) (t_refuse hx hX (j := 0) (by decide)) (fun w14 iv14 lw14 q14 => ?_)
      obtain ⟨rfl, e1, hXr, hOr⟩ := q14
      subst e1
      refine V_iret dX9_days_17 ⟨rfl, rfl⟩ (Nat.zero_le _) (Nat.zero_le _) ?_
      subst hQ
      exact ⟨_, _, _, rfl, rfl, by unfold o_days; rw [if_pos (by omega)]; exact ⟨rfl, hXr, hOr, Off.rf⟩⟩
set_option maxRecDepth 20000 in
theorem k_back {g : Ev} {S : St} {iv : IV} {lw : LW} (hx : IsX S) {X : Xs} (hX : CX iv lw X) : CQ g mX9_back [.ref (0)] S iv lw (fun w iv2 lw2 => OP iv lw (o_back X) w iv2 lw2) := by
  refine CT_ofQ rfl (by decide) (Nat.le_of_ble_eq_true rfl) (lv := [(0, .ref (0))]) rfl (fun Q hQ => ?_)
  have hA := hX.1
  have hnc := hA.ok.nc
  have hne := hA.ok.ne
  have hnm := hA.ok.nm
  refine V_aload_n (i := 0) dX9_back_0 rfl 0 rfl ?_
  refine M_getI (x := bI ((x_K X).isSome = true)) dX9_back_1 lf_X9_22 rfl hx.1 (hX.2.1) ?_
  refine V_if_ne (tgt := 14) dX9_back_4 rfl (fun h4 => ?_) (fun h4 => ?_)
  · have h4 : (x_K X).isSome = true := bI_ne.mp h4
    obtain ⟨K, hK⟩ := Option.isSome_iff_exists.mp h4
    have hKX := hX.2.2.1 K hK
    have hKne := hKX.ok.ne
    refine V_aload_n (i := 0) dX9_back_14 rfl 0 rfl ?_
    refine M_getR dX9_back_15 lf_X9_10 rfl hx.1 hx.2.1.1 ?_
    refine V_aload_n (i := 0) dX9_back_18 rfl 0 rfl ?_
    refine M_getR dX9_back_19 lf_X9_16 rfl hx.1 hx.2.2.1.1 ?_
    refine M_callVn (As := [.ref (10)]) (st := []) dX9_back_22 lv_X9_210 ⟨by decide, by decide⟩ ⟨rfl, rfl⟩ rfl (ci := 0) hx.2.1.2.1 rfl rfl (Nat.le_of_ble_eq_true rfl) (t_takeAll hx.2.1.2 hx.2.2.1.2 (by omega) hKX) (fun iv22 lw22 q22 => ?_)
    obtain ⟨e1, hA22, hO22⟩ := q22
    subst e1
    refine V_iconst (v := nI 0) dX9_back_25 rfl ?_
    refine V_istore_n (lv2 := [(1, .int (nI 0)), (0, .ref (0))]) dX9_back_26 rfl (by decide) rfl ?_
    have lp27 : ∀ j, j ≤ 8 → ∀ iv2 : IV, XC iv2 1 K → (∀ s, s < j → XS iv2 lw (29 + 2 * s) (bkT (v_ne K) (x_T X s))) → (∀ s, j ≤ s → s < 8 → XS iv2 lw (29 + 2 * s) (x_T X s)) → (∀ a, (a < 1 ∨ (10 ≤ a ∧ a < 29) ∨ 45 ≤ a) → iv2 a = iv a) → VM g mX9_back 27 [(1, .int (nI j)), (0, .ref (0))] [] S iv2 lw Q := by
      refine up_ind fun j hj ih27 => ?_
      intro iv2 hA2 hlo hhi hO2
      refine V_iload_n (i := 1) dX9_back_27 rfl 0 rfl ?_
      refine V_bipush (v := nI 8) dX9_back_28 rfl ?_
      refine V_icmp_ge (tgt := 74) dX9_back_30 rfl (fun h30 => ?_) (fun h30 => ?_)
      · have h30 : 8 ≤ j := (nI_leI (by omega) (by omega)).mp h30
        refine V_iconst (v := nI 1) dX9_back_74 rfl ?_
        refine V_iret dX9_back_75 ⟨rfl, rfl⟩ (Nat.zero_le _) (Nat.zero_le _) ?_
        subst hQ
        obtain rfl : j = 8 := by omega
        obtain ⟨a1, a2, a3, a4, ⟨s, e, a5⟩, a6, a7⟩ := hX
        exact ⟨_, _, _, rfl, rfl, by unfold o_back; rw [hK]; exact ⟨rfl, ⟨hA2, by rw [hO2 0 (by omega)]; exact a2, fun K2 hK2 => (a3 K2 hK2).of (fun a g1 g2 => hO2 a (by omega)), hlo, ⟨s, e, a5.of (hO2 _ (by omega)) (hO2 _ (by omega))⟩, fun j hj => by rw [hO2 56 (by omega)]; exact a6 j hj, fun s hs hq => by obtain ⟨b1, b2, b3⟩ := bkT_ear (T := x_T X s) hq; obtain ⟨e0, he0, he2⟩ := a7 s hs b2; rw [he2, ten_sub (by omega)] at b3; exact ⟨e0, b3, (congrArg (·.1) b1).trans he2⟩⟩, fun a ha => hO2 a (by omega), Off.rf⟩⟩
      · have h30 : ¬ 8 ≤ j := fun q => h30 ((nI_leI (by omega) (by omega)).mpr q)
        refine V_aload_n (i := 0) dX9_back_33 rfl 1 rfl ?_
        refine V_iload_n (i := 1) dX9_back_34 rfl 0 rfl ?_
        have hTj := hhi j (Nat.le_refl _) (by omega)
        refine M_callVp (As := [.int (nI j)]) (st := []) dX9_back_35 lv_X9_65 ⟨by decide, by decide⟩ ⟨rfl, rfl⟩ rfl (ci := 6) hx.1 rfl rfl (Nat.le_of_ble_eq_true rfl) (t_shelfAt_in hx (j := j) (by omega)) ?_
        refine V_astore_n (lv2 := [(2, .ref (29 + 2 * j)), (1, .int (nI j)), (0, .ref (0))]) dX9_back_38 rfl (by decide) rfl ?_
        refine V_aload_n (i := 2) dX9_back_39 rfl 0 rfl ?_
        refine V_ifnull dX9_back_40 ?_
        refine V_aload_n (i := 2) dX9_back_43 rfl 0 rfl ?_
        refine M_callVp (As := []) (st := []) dX9_back_44 lv_X9_89 ⟨by decide, by decide⟩ ⟨rfl, rfl⟩ rfl (ci := 4) (sh_ok hx (show j < 8 by omega)).1 rfl rfl (Nat.le_of_ble_eq_true rfl) (t_hasEar (sh_ok hx (show j < 8 by omega)) hTj) ?_
        refine V_if_eq (tgt := 68) dX9_back_47 rfl (fun h47 => ?_) (fun h47 => ?_)
        · have h47 : ¬ (earQ (x_T X j)) := bI_eq0.mp h47
          refine V_iinc (v := nI (j + 1)) (lv2 := [(1, .int (nI (j + 1))), (2, .ref (29 + 2 * j)), (0, .ref (0))]) dX9_back_68 1 rfl (nI_inc _) (by decide) rfl ?_
          refine V_goto (tgt := 27) dX9_back_71 rfl ?_
          have hnj : ¬ (earQ (x_T X j) ∧ ¬ iN (x_T X j).1 - 10 < v_ne K) := fun z => h47 z.1
          refine V_sub [0, 2] rfl ?_
          exact M_at (ih27 (by omega) iv2 hA2 (fun s hs => if e : s = j then e ▸ x_f_of hTj hnj else hlo s (by omega)) (fun s h1 h2 => hhi s (by omega) h2) hO2) (rfl) rfl (rfl) (rfl)
        · have h47 : earQ (x_T X j) := bI_ne.mp h47
          obtain ⟨e0, he0, he2⟩ := hX.2.2.2.2.2.2 j (by omega) h47
          have he6 : e0 < 6 := by omega
          refine V_aload_n (i := 0) dX9_back_50 rfl 2 rfl ?_
          refine M_getR dX9_back_51 lf_X9_10 rfl hx.1 hx.2.1.1 ?_
          refine V_aload_n (i := 2) dX9_back_54 rfl 0 rfl ?_
          refine M_callVp (As := []) (st := [.ref (1)]) dX9_back_55 lv_X9_124 ⟨by decide, by decide⟩ ⟨rfl, rfl⟩ rfl (ci := 4) (sh_ok hx (show j < 8 by omega)).1 rfl rfl (Nat.le_of_ble_eq_true rfl) (t_earNumber (sh_ok hx (show j < 8 by omega)) hTj (e := e0) he6 he2) ?_
          refine M_callVp (As := [.int (nI e0)]) (st := []) dX9_back_58 lv_X9_108 ⟨by decide, by decide⟩ ⟨rfl, rfl⟩ rfl (ci := 0) hx.2.1.2.1 rfl rfl (Nat.le_of_ble_eq_true rfl) (t_X0_isEar hx.2.1.2 hA2) ?_
          refine V_if_ne (tgt := 68) dX9_back_61 rfl (fun h61 => ?_) (fun h61 => ?_)
          · have h61 : inR (nI e0) (v_ne K) := bI_ne.mp h61
            refine V_iinc (v := nI (j + 1)) (lv2 := [(1, .int (nI (j + 1))), (2, .ref (29 + 2 * j)), (0, .ref (0))]) dX9_back_68 1 rfl (nI_inc _) (by decide) rfl ?_
            refine V_goto (tgt := 27) dX9_back_71 rfl ?_
            have hnj : ¬ (earQ (x_T X j) ∧ ¬ iN (x_T X j).1 - 10 < v_ne K) := fun z => z.2 (by rw [he2, ten_sub he6]; rw [inR_nI (by omega)] at h61; obtain ⟨q, hq, e⟩ := h61; have e3 := congrArg iN e; rw [iN_nI (by omega), iN_nI (by omega)] at e3; omega)
            refine V_sub [0, 2] rfl ?_
            exact M_at (ih27 (by omega) iv2 hA2 (fun s hs => if e : s = j then e ▸ x_f_of hTj hnj else hlo s (by omega)) (fun s h1 h2 => hhi s (by omega) h2) hO2) (rfl) rfl (rfl) (rfl)
          · have h61 : ¬ (inR (nI e0) (v_ne K)) := bI_eq0.mp h61
            refine V_aload_n (i := 2) dX9_back_64 rfl 0 rfl ?_
            refine M_callVn (As := []) (st := []) dX9_back_65 lv_X9_112 ⟨by decide, by decide⟩ ⟨rfl, rfl⟩ rfl (ci := 4) (sh_ok hx (show j < 8 by omega)).1 rfl rfl (Nat.le_of_ble_eq_true rfl) (t_clear (sh_ok hx (show j < 8 by omega)) hTj) (fun iv65 lw65 q65 => ?_)
            obtain ⟨e1, hT65, hO65⟩ := q65
            subst e1
            refine V_iinc (v := nI (j + 1)) (lv2 := [(1, .int (nI (j + 1))), (2, .ref (29 + 2 * j)), (0, .ref (0))]) dX9_back_68 1 rfl (nI_inc _) (by decide) rfl ?_
            refine V_goto (tgt := 27) dX9_back_71 rfl ?_
            have hnj : ¬ iN (x_T X j).1 - 10 < v_ne K := fun z => h61 (by rw [he2, ten_sub he6] at z; exact (inR_nI (by omega)).mpr ⟨e0, z, rfl⟩)
            refine V_sub [0, 2] rfl ?_
            exact M_at (ih27 (by omega) iv65 (hA2.off2 hO65 (by omega)) (fun s hs => if e : s = j then e ▸ x_c_of hT65 ⟨h47, hnj⟩ else (hlo s (by omega)).of (hO65 _ (by omega)) rfl) (fun s h1 h2 => (hhi s (by omega) h2).of (hO65 _ (by omega)) rfl) (fun a ha => (hO65 a (by omega)).trans (hO2 a ha))) (rfl) rfl (rfl) (rfl)
    refine V_sub [0, 1] rfl ?_
    exact M_at (lp27 0 (Nat.zero_le _) iv22 hA22 (fun s hs => absurd hs (by omega)) (fun s _ hs => (hX.2.2.2.1 s hs).of (hO22 _ (by omega)) rfl) (fun a ha => hO22 a (by omega))) (rfl) rfl (rfl) (rfl)
  · have h4 : ¬ ((x_K X).isSome = true) := bI_eq0.mp h4
    refine V_aload_n (i := 0) dX9_back_7 rfl 0 rfl ?_
    refine V_bipush (v := (-5)) dX9_back_8 rfl ?_
    refine M_callVq (As := [.int ((-5))]) (st := []) dX9_back_10 lv_X9_69 ⟨by decide, by decide⟩ ⟨rfl, rfl⟩ rfl (ci := 6) hx.1 rfl rfl (Nat.le_of_ble_eq_true rfl) (t_refuse hx hX (j := 3) (by decide)) (fun w10 iv10 lw10 q10 => ?_)
    obtain ⟨rfl, e1, hXr, hOr⟩ := q10
    subst e1
    refine V_iret dX9_back_13 ⟨rfl, rfl⟩ (Nat.zero_le _) (Nat.zero_le _) ?_
    subst hQ
    cases hK0 : x_K X with
    | none => exact ⟨_, _, _, rfl, rfl, by unfold o_back; rw [hK0]; exact ⟨rfl, hXr, hOr, Off.rf⟩⟩
    | some K => exact absurd (by rw [hK0]; rfl) h4
set_option maxRecDepth 20000 in
theorem k_camp_bad {g : Ev} {S : St} {iv : IV} {lw : LW} (hx : IsX S) {X : Xs} (hX : CX iv lw X) {k : Nat} (hR : rdX X = .error k) : CQ g mX9_camp [.ref (0)] S iv lw (fun w iv2 lw2 => OP iv lw (o_camp X) w iv2 lw2) := by
  refine CT_ofQ rfl (by decide) (Nat.le_of_ble_eq_true rfl) (lv := [(0, .ref (0))]) rfl (fun Q hQ => ?_)
  have hA := hX.1
  have hnc := hA.ok.nc
  have hne := hA.ok.ne
  have hnm := hA.ok.nm
  obtain ⟨s0, e0, hT⟩ := hX.2.2.2.2.1
  have hTn := hT.1.1.1
  have hTB := hT.1
  have hn250 := hTB.1.1
  have hrg := rdGo_P (f := x_f X) (x_n X) 1 (x_A X) (tok (x_n X) (x_f X) 0) (tok_le (Nat.zero_le _)).1 (tok_le (Nat.zero_le _)).2
  have hR2 : rdGo (x_n X) (x_f X) (x_n X) 1 (x_A X) (tok (x_n X) (x_f X) 0) = .error k := hR
  rw [hR2] at hrg
  refine V_aload_n (i := 0) dX9_camp_0 rfl 0 rfl ?_
  refine M_getR dX9_camp_1 lf_X9_19 rfl hx.1 hx.2.2.2.1.1 ?_
  refine V_aload_n (i := 0) dX9_camp_4 rfl 0 rfl ?_
  refine M_getR dX9_camp_5 lf_X9_10 rfl hx.1 hx.2.1.1 ?_
  refine M_callVn (As := [.ref (1)]) (st := []) dX9_camp_8 lv_X9_210 ⟨by decide, by decide⟩ ⟨rfl, rfl⟩ rfl (ci := 0) hx.2.2.2.1.2.1 rfl rfl (Nat.le_of_ble_eq_true rfl) (t_takeAll hx.2.2.2.1.2 hx.2.1.2 (by omega) hA) (fun iv8 lw8 q8 => ?_)
  obtain ⟨e1, hA8, hO8⟩ := q8
  subst e1
  have hTB8 := hTB.of (congrFun (hO8 45 (by omega)) _) (hO8 46 (by omega))
  refine V_aload_n (i := 0) dX9_camp_11 rfl 0 rfl ?_
  refine M_getR dX9_camp_12 lf_X9_36 rfl hx.1 hx.2.2.2.2.1.1 ?_
  refine V_aload_n (i := 0) dX9_camp_15 rfl 0 rfl ?_
  refine M_getR dX9_camp_16 lf_X9_19 rfl hx.1 hx.2.2.2.1.1 ?_
  refine M_callSq (As := [.ref (45), .ref (19)]) (st := []) dX9_camp_19 ls_X9_214 ⟨by decide, by decide⟩ ⟨rfl, rfl⟩ rfl (Nat.le_of_ble_eq_true rfl) (t_readCamp hx.2.2.2.2.1.2 hx.2.2.2.1.2 hA8 (by omega) hTB8) (fun w19 iv19 lw19 q19 => ?_)
  obtain ⟨rfl, e1, hR19, ⟨s1, e1_, hT19⟩, hO19⟩ := q19
  subst e1
  rw [hR2] at hR19
  refine M_top (x2 := ansR (.error k)) (by rw [hR2]) ?_
  refine V_istore_n (lv2 := [(1, .int (ansR (.error k))), (0, .ref (0))]) dX9_camp_22 rfl (by decide) rfl ?_
  refine V_aload_n (i := 0) dX9_camp_23 rfl 1 rfl ?_
  refine M_getR dX9_camp_24 lf_X9_36 rfl hx.1 hx.2.2.2.2.1.1 ?_
  refine M_callVq (As := []) (st := []) dX9_camp_27 lv_X9_207 ⟨by decide, by decide⟩ ⟨rfl, rfl⟩ rfl (ci := 5) hx.2.2.2.2.1.2.1 rfl rfl (Nat.le_of_ble_eq_true rfl) (t_empty hx.2.2.2.2.1.2 hT19) (fun w27 iv27 lw27 q27 => ?_)
  obtain ⟨rfl, e1, hT27, hO27⟩ := q27
  subst e1
  have hX27 := hX.tape2 hT27 (fun a ha => (hO27 a (by omega)).trans ((hO19 a (by omega) (by omega)).trans (hO8 a (by omega))))
  have hOa : Off 0 57 iv iv27 := fun a ha => (hO27 a (by omega)).trans ((hO19 a (by omega) (by omega)).trans (hO8 a (by omega)))
  refine V_pop dX9_camp_30 rfl ?_
  refine V_iload_n (i := 1) dX9_camp_31 rfl 0 rfl ?_
  refine V_if_ge (tgt := 44) dX9_camp_32 rfl (fun h32 => ?_) (fun h32 => ?_)
  · exact absurd (i_nn.mp h32) (err_neg k (Nat.le_trans hrg hn250))
  · refine V_aload_n (i := 0) dX9_camp_35 rfl 1 rfl ?_
    refine V_bipush (v := (-2)) dX9_camp_36 rfl ?_
    refine M_callVq (As := [.int ((-2))]) (st := []) dX9_camp_38 lv_X9_69 ⟨by decide, by decide⟩ ⟨rfl, rfl⟩ rfl (ci := 6) hx.1 rfl rfl (Nat.le_of_ble_eq_true rfl) (t_refuse hx hX27 (j := 0) (by decide)) (fun w38 iv38 lw38 q38 => ?_)
    obtain ⟨rfl, e1, hXr, hOr⟩ := q38
    subst e1
    refine V_pop dX9_camp_41 rfl ?_
    refine V_iload_n (i := 1) dX9_camp_42 rfl 0 rfl ?_
    refine V_iret dX9_camp_43 ⟨rfl, rfl⟩ (Nat.zero_le _) (Nat.zero_le _) ?_
    subst hQ
    exact ⟨_, _, _, rfl, rfl, by unfold o_camp; rw [hR]; exact ⟨rfl, hXr, hOa.tr hOr, Off.rf⟩⟩
set_option maxRecDepth 20000 in
theorem k_camp_ok {g : Ev} {S : St} {iv : IV} {lw : LW} (hx : IsX S) {X : Xs} (hX : CX iv lw X) {z0 : Nat × Cv} (hR : rdX X = .ok z0) : CQ g mX9_camp [.ref (0)] S iv lw (fun w iv2 lw2 => OP iv lw (o_camp X) w iv2 lw2) := by
  refine CT_ofQ rfl (by decide) (Nat.le_of_ble_eq_true rfl) (lv := [(0, .ref (0))]) rfl (fun Q hQ => ?_)
  have hA := hX.1
  have hnc := hA.ok.nc
  have hne := hA.ok.ne
  have hnm := hA.ok.nm
  obtain ⟨s0, e0, hT⟩ := hX.2.2.2.2.1
  have hTn := hT.1.1.1
  have hTB := hT.1
  have hn250 := hTB.1.1
  have hrg := rdGo_P (f := x_f X) (x_n X) 1 (x_A X) (tok (x_n X) (x_f X) 0) (tok_le (Nat.zero_le _)).1 (tok_le (Nat.zero_le _)).2
  have hR2 : rdGo (x_n X) (x_f X) (x_n X) 1 (x_A X) (tok (x_n X) (x_f X) 0) = .ok z0 := hR
  rw [hR2] at hrg
  refine V_aload_n (i := 0) dX9_camp_0 rfl 0 rfl ?_
  refine M_getR dX9_camp_1 lf_X9_19 rfl hx.1 hx.2.2.2.1.1 ?_
  refine V_aload_n (i := 0) dX9_camp_4 rfl 0 rfl ?_
  refine M_getR dX9_camp_5 lf_X9_10 rfl hx.1 hx.2.1.1 ?_
  refine M_callVn (As := [.ref (1)]) (st := []) dX9_camp_8 lv_X9_210 ⟨by decide, by decide⟩ ⟨rfl, rfl⟩ rfl (ci := 0) hx.2.2.2.1.2.1 rfl rfl (Nat.le_of_ble_eq_true rfl) (t_takeAll hx.2.2.2.1.2 hx.2.1.2 (by omega) hA) (fun iv8 lw8 q8 => ?_)
  obtain ⟨e1, hA8, hO8⟩ := q8
  subst e1
  have hTB8 := hTB.of (congrFun (hO8 45 (by omega)) _) (hO8 46 (by omega))
  refine V_aload_n (i := 0) dX9_camp_11 rfl 0 rfl ?_
  refine M_getR dX9_camp_12 lf_X9_36 rfl hx.1 hx.2.2.2.2.1.1 ?_
  refine V_aload_n (i := 0) dX9_camp_15 rfl 0 rfl ?_
  refine M_getR dX9_camp_16 lf_X9_19 rfl hx.1 hx.2.2.2.1.1 ?_
  refine M_callSq (As := [.ref (45), .ref (19)]) (st := []) dX9_camp_19 ls_X9_214 ⟨by decide, by decide⟩ ⟨rfl, rfl⟩ rfl (Nat.le_of_ble_eq_true rfl) (t_readCamp hx.2.2.2.2.1.2 hx.2.2.2.1.2 hA8 (by omega) hTB8) (fun w19 iv19 lw19 q19 => ?_)
  obtain ⟨rfl, e1, hR19, ⟨s1, e1_, hT19⟩, hO19⟩ := q19
  subst e1
  rw [hR2] at hR19
  refine M_top (x2 := ansR (.ok z0)) (by rw [hR2]) ?_
  refine V_istore_n (lv2 := [(1, .int (ansR (.ok z0))), (0, .ref (0))]) dX9_camp_22 rfl (by decide) rfl ?_
  refine V_aload_n (i := 0) dX9_camp_23 rfl 1 rfl ?_
  refine M_getR dX9_camp_24 lf_X9_36 rfl hx.1 hx.2.2.2.2.1.1 ?_
  refine M_callVq (As := []) (st := []) dX9_camp_27 lv_X9_207 ⟨by decide, by decide⟩ ⟨rfl, rfl⟩ rfl (ci := 5) hx.2.2.2.2.1.2.1 rfl rfl (Nat.le_of_ble_eq_true rfl) (t_empty hx.2.2.2.2.1.2 hT19) (fun w27 iv27 lw27 q27 => ?_)
  obtain ⟨rfl, e1, hT27, hO27⟩ := q27
  subst e1
  have hX27 := hX.tape2 hT27 (fun a ha => (hO27 a (by omega)).trans ((hO19 a (by omega) (by omega)).trans (hO8 a (by omega))))
  have hOa : Off 0 57 iv iv27 := fun a ha => (hO27 a (by omega)).trans ((hO19 a (by omega) (by omega)).trans (hO8 a (by omega)))
  refine V_pop dX9_camp_30 rfl ?_
  refine V_iload_n (i := 1) dX9_camp_31 rfl 0 rfl ?_
  refine V_if_ge (tgt := 44) dX9_camp_32 rfl (fun h32 => ?_) (fun h32 => ?_)
  · refine V_aload_n (i := 0) dX9_camp_44 rfl 1 rfl ?_
    refine M_getR dX9_camp_45 lf_X9_10 rfl hx.1 hx.2.1.1 ?_
    refine V_aload_n (i := 0) dX9_camp_48 rfl 1 rfl ?_
    refine M_getR dX9_camp_49 lf_X9_19 rfl hx.1 hx.2.2.2.1.1 ?_
    refine M_callVn (As := [.ref (19)]) (st := []) dX9_camp_52 lv_X9_210 ⟨by decide, by decide⟩ ⟨rfl, rfl⟩ rfl (ci := 0) hx.2.1.2.1 rfl rfl (Nat.le_of_ble_eq_true rfl) (t_takeAll hx.2.1.2 hx.2.2.2.1.2 (by omega) (V := z0.2) ((show XC iv19 19 z0.2 from hR19).off2 hO27 (by omega))) (fun iv52 lw52 q52 => ?_)
    obtain ⟨e1, hA52, hO52⟩ := q52
    subst e1
    have hXn := hX27.now hA52 hO52 hrg.2
    refine V_iload_n (i := 1) dX9_camp_55 rfl 0 rfl ?_
    refine V_iret dX9_camp_56 ⟨rfl, rfl⟩ (Nat.zero_le _) (Nat.zero_le _) ?_
    subst hQ
    exact ⟨_, _, _, rfl, rfl, by unfold o_camp; rw [hR]; exact ⟨rfl, hXn, hOa.tr (hO52.wide (by omega) (by omega)), Off.rf⟩⟩
  · exact absurd (nI_pos' (n := z0.1) (by have := hrg.1; omega)) h32
theorem k_camp {g : Ev} {S : St} {iv : IV} {lw : LW} (hx : IsX S) {X : Xs} (hX : CX iv lw X) : CQ g mX9_camp [.ref (0)] S iv lw (fun w iv2 lw2 => OP iv lw (o_camp X) w iv2 lw2) := by
  cases hR : rdX X with
  | error k => exact k_camp_bad hx hX hR
  | ok z0 => exact k_camp_ok hx hX hR
