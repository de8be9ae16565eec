/-! the class itself: what it holds -/
/-- now, what is kept, the shelves, the tape's size and bytes, the counts of refusals -/
abbrev Xs := Cv × Option Cv × (Nat → Sv) × (Nat × (Nat → Nat)) × (Nat → Int32)
def x_A (X : Xs) : Cv := X.1
def x_K (X : Xs) : Option Cv := X.2.1
def x_T (X : Xs) : Nat → Sv := X.2.2.1
def x_n (X : Xs) : Nat := X.2.2.2.1.1
def x_f (X : Xs) : Nat → Nat := X.2.2.2.1.2
def x_R (X : Xs) : Nat → Int32 := X.2.2.2.2
def x_sA (X : Xs) (A : Cv) : Xs := (A, X.2)
def x_sK (X : Xs) (K : Option Cv) : Xs := (X.1, K, X.2.2)
def x_sT (X : Xs) (s : Nat) (T : Sv) : Xs := (X.1, X.2.1, (fun i => if i = s then T else X.2.2.1 i), X.2.2.2)
def x_sP (X : Xs) (n : Nat) (f : Nat → Nat) : Xs := (X.1, X.2.1, X.2.2.1, (n, f), X.2.2.2.2)
def x_rf (X : Xs) (j : Nat) : Xs := (X.1, X.2.1, X.2.2.1, X.2.2.2.1, (fun i => if i = j then X.2.2.2.2 i + nI 1 else X.2.2.2.2 i))
def earsOK (X : Xs) : Prop := ∀ s, s < 8 → earQ (x_T X s) → ∃ e, e < v_ne (x_A X) ∧ (x_T X s).1 = nI (10 + e)
def CX (iv : IV) (lw : LW) (X : Xs) : Prop := XC iv 1 (x_A X) ∧ iv 0 3 = bI ((x_K X).isSome = true) ∧ (∀ K, x_K X = some K → XC iv 10 K) ∧ (∀ s, s < 8 → XS iv lw (29 + 2 * s) (x_T X s)) ∧ (∃ s e, XTp iv 45 (x_n X) (x_f X) s e) ∧ (∀ j, j < 5 → iv 56 j = x_R X j) ∧ earsOK X
/-- the cells that only help -/
def CX.aux {iv iv2 : IV} {lw lw2 : LW} {X : Xs} (h : CX iv lw X) (h1 : ∀ a, (a ≤ 18 ∨ (28 ≤ a ∧ a ≤ 46) ∨ a = 56) → iv2 a = iv a) (h2 : ∀ a, a ≤ 46 → lw2 a = lw a) : CX iv2 lw2 X := by
  obtain ⟨a1, a2, a3, a4, ⟨s, e, a5⟩, a6, a7⟩ := h
  refine ⟨a1.of (fun a g1 g2 => h1 a (by omega)), by rw [h1 0 (by omega)]; exact a2, fun K hK => (a3 K hK).of (fun a g1 g2 => h1 a (by omega)), fun t ht => (a4 t ht).of (h1 _ (by omega)) (h2 _ (by omega)), ⟨s, e, a5.of (h1 _ (by omega)) (h1 _ (by omega))⟩, fun j hj => by rw [h1 56 (by omega)]; exact a6 j hj, a7⟩
theorem CX.rf {iv : IV} {lw : LW} {X : Xs} {j : Nat} (h : CX iv lw X) : CX (up2 iv 56 j (iv 56 j + nI 1)) lw (x_rf X j) := by
  obtain ⟨a1, a2, a3, a4, ⟨s, e, a5⟩, a6, a7⟩ := h
  refine ⟨a1.of (fun a g1 g2 => up2_a (by omega)), (up2_ne (by decide)).trans a2, fun K hK => (a3 K hK).of (fun a g1 g2 => up2_a (by omega)), fun t ht => (a4 t ht).of (up2_a (by omega)) rfl, ⟨s, e, a5.of (up2_a (by decide)) (up2_a (by decide))⟩, fun i hi => ?_, a7⟩
  show up2 _ _ _ _ _ _ = (if i = j then X.2.2.2.2 i + nI 1 else X.2.2.2.2 i)
  by_cases q : i = j
  · subst q; rw [up2_s, if_pos rfl]; exact congrArg (· + nI 1) (a6 i hi)
  · rw [up2_k q, if_neg q]; exact a6 i hi
/-- the camp that is now becomes another -/
theorem CX.now {iv iv2 : IV} {lw : LW} {X : Xs} {A : Cv} (h : CX iv lw X) (hA : XC iv2 1 A) (hO : Off 1 9 iv iv2) (he : v_ne (x_A X) ≤ v_ne A) : CX iv2 lw (x_sA X A) := by
  obtain ⟨a1, a2, a3, a4, ⟨s, e, a5⟩, a6, a7⟩ := h
  refine ⟨hA, by rw [hO 0 (by omega)]; exact a2, fun K hK => (a3 K hK).of (fun a g1 g2 => hO a (by omega)), fun t ht => (a4 t ht).of (hO _ (by omega)) rfl, ⟨s, e, a5.of (hO _ (by omega)) (hO _ (by omega))⟩, fun j hj => by rw [hO 56 (by omega)]; exact a6 j hj, fun t ht hq => ?_⟩
  obtain ⟨e2, h1, h2⟩ := a7 t ht hq
  exact ⟨e2, Nat.lt_of_lt_of_le h1 he, h2⟩
theorem CX.shelf {iv iv2 : IV} {lw lw2 : LW} {X : Xs} {j : Nat} {T : Sv} (h : CX iv lw X) (hj : j < 8) (hT : XS iv2 lw2 (29 + 2 * j) T) (hO : Off (29 + 2 * j) 2 iv iv2) (hL : Off (29 + 2 * j) 2 lw lw2) (he : earQ T → ∃ e, e < v_ne (x_A X) ∧ T.1 = nI (10 + e)) : CX iv2 lw2 (x_sT X j T) := by
  obtain ⟨a1, a2, a3, a4, ⟨s, e, a5⟩, a6, a7⟩ := h
  refine ⟨a1.of (fun a g1 g2 => hO a (by omega)), by rw [hO 0 (by omega)]; exact a2, fun K hK => (a3 K hK).of (fun a g1 g2 => hO a (by omega)), fun t ht => ?_, ⟨s, e, a5.of (hO _ (by omega)) (hO _ (by omega))⟩, fun i hi => by rw [hO 56 (by omega)]; exact a6 i hi, fun t ht hq => ?_⟩
  · show XS iv2 lw2 (29 + 2 * t) (if t = j then T else x_T X t)
    by_cases q : t = j
    · subst q; rw [if_pos rfl]; exact hT
    · rw [if_neg q]; exact (a4 t ht).of (hO _ (by omega)) (hL _ (by omega))
  · have hq2 : earQ (if t = j then T else x_T X t) := hq
    show ∃ e, e < v_ne (x_A X) ∧ (if t = j then T else x_T X t).1 = nI (10 + e)
    by_cases q : t = j
    · rw [if_pos q] at hq2 ⊢; exact he hq2
    · rw [if_neg q] at hq2 ⊢; exact a7 t ht hq2
theorem CX.tape {iv iv2 : IV} {lw : LW} {X : Xs} {n s e : Nat} {f : Nat → Nat} (h : CX iv lw X) (hT : XTp iv2 45 n f s e) (hO : Off 45 2 iv iv2) : CX iv2 lw (x_sP X n f) := by
  obtain ⟨a1, a2, a3, a4, a5, a6, a7⟩ := h
  exact ⟨a1.of (fun a g1 g2 => hO a (by omega)), by rw [hO 0 (by omega)]; exact a2, fun K hK => (a3 K hK).of (fun a g1 g2 => hO a (by omega)), fun t ht => (a4 t ht).of (hO _ (by omega)) rfl, ⟨s, e, hT⟩, fun j hj => by rw [hO 56 (by omega)]; exact a6 j hj, a7⟩
abbrev Ans := Int32 × Xs
def OP (iv : IV) (lw : LW) (r : Ans) (w : Value) (iv2 : IV) (lw2 : LW) : Prop := w = .int r.1 ∧ CX iv2 lw2 r.2 ∧ Off 0 57 iv iv2 ∧ Off 0 57 lw lw2
def wy (j : Nat) : Int32 := match j with
  | 0 => -2
  | 1 => -3
  | 2 => -4
  | 3 => -5
  | _ => -6
def rfA (X : Xs) (j : Nat) : Ans := (wy j, x_rf X j)
theorem OP.same {iv : IV} {lw : LW} {X : Xs} {x : Int32} (h : CX iv lw X) : OP iv lw (x, X) (.int x) iv lw := ⟨rfl, h, Off.rf, Off.rf⟩
theorem sh_ok {S : St} (h : IsX S) {j : Nat} (hj : j < 8) : IsShelf S (29 + 2 * j) := (h.2.2.2.2.2.2.2.2.2.2 j hj).2
def whyV (T : Sv) : Int32 := if rowQ T then nI 0 else if earQ T then (-3) else (-4)
def whyJ (T : Sv) : Nat := if earQ T then 1 else 2
theorem whyV_0 {T : Sv} : whyV T = 0 ↔ rowQ T := by
  unfold whyV
  by_cases h : rowQ T
  · rw [if_pos h]; exact iff_of_true rfl h
  · rw [if_neg h]
    by_cases h2 : earQ T
    · rw [if_pos h2]; exact iff_of_false (by decide) h
    · rw [if_neg h2]; exact iff_of_false (by decide) h
theorem whyV_w {T : Sv} (h : ¬ rowQ T) : whyV T = wy (whyJ T) := by
  unfold whyV whyJ
  rw [if_neg h]
  by_cases h2 : earQ T
  · rw [if_pos h2, if_pos h2]; rfl
  · rw [if_neg h2, if_neg h2]; rfl
theorem whyJ_lt {T : Sv} : whyJ T < 5 := by unfold whyJ; split <;> omega
set_option maxRecDepth 20000 in
theorem t_refuse_0 {g : Ev} {S : St} {iv : IV} {lw : LW} (hx : IsX S) : CQ g mX9_refuse [.ref (0), .int ((-2))] S iv lw (fun w iv2 lw2 => w = .int (-2) ∧ lw = lw2 ∧ iv2 = up2 iv 56 0 (iv 56 0 + nI 1)) := by
  refine CT_ofQ rfl (by decide) (Nat.le_of_ble_eq_true rfl) (lv := [(0, .ref (0)), (1, .int ((-2)))]) rfl (fun Q hQ => ?_)
  refine V_bipush (v := (-2)) dX9_refuse_0 rfl ?_
  refine V_iload_n (i := 1) dX9_refuse_2 rfl 1 rfl ?_
  refine V_isub dX9_refuse_3 ?_
  refine M_top (x2 := nI 0) (by decide) ?_
  refine V_istore_n (lv2 := [(2, .int (nI 0)), (0, .ref (0)), (1, .int ((-2)))]) dX9_refuse_4 rfl (by decide) rfl ?_
  refine V_iload_n (i := 2) dX9_refuse_5 rfl 0 rfl ?_
  refine V_if_lt (tgt := 28) dX9_refuse_6 rfl (fun q => absurd q (by decide)) (fun _ => ?_)
  refine V_iload_n (i := 2) dX9_refuse_9 rfl 0 rfl ?_
  refine V_aload_n (i := 0) dX9_refuse_10 rfl 1 rfl ?_
  refine M_getR dX9_refuse_11 lf_X9_61 rfl hx.1 hx.2.2.2.2.2.2.2.2.1.1 ?_
  refine M_alen (t := 0) dX9_refuse_14 (by decide) hx.2.2.2.2.2.2.2.2.1.2 ?_
  refine V_icmp_ge (tgt := 28) dX9_refuse_15 rfl (fun q => absurd q (by decide)) (fun _ => ?_)
  refine V_aload_n (i := 0) dX9_refuse_18 rfl 1 rfl ?_
  refine M_getR dX9_refuse_19 lf_X9_61 rfl hx.1 hx.2.2.2.2.2.2.2.2.1.1 ?_
  refine V_iload_n (i := 2) dX9_refuse_22 rfl 0 rfl ?_
  refine V_dup2_11 dX9_refuse_23 rfl rfl ?_
  refine M_ialdn (j := 0) (x := iv 56 0) dX9_refuse_24 hx.2.2.2.2.2.2.2.2.1.2 (by decide) (by omega) (rfl) ?_
  refine V_iconst (v := nI 1) dX9_refuse_25 rfl ?_
  refine V_iadd dX9_refuse_26 ?_
  refine M_iastn (j := 0) dX9_refuse_27 hx.2.2.2.2.2.2.2.2.1.2 (by decide) (by omega) ?_
  refine V_iload_n (i := 1) dX9_refuse_28 rfl 2 rfl ?_
  refine V_iret dX9_refuse_29 ⟨rfl, rfl⟩ (Nat.zero_le _) (Nat.zero_le _) ?_
  subst hQ
  exact ⟨_, _, _, rfl, rfl, rfl, rfl, rfl⟩
set_option maxRecDepth 20000 in
theorem t_refuse_1 {g : Ev} {S : St} {iv : IV} {lw : LW} (hx : IsX S) : CQ g mX9_refuse [.ref (0), .int ((-3))] S iv lw (fun w iv2 lw2 => w = .int (-3) ∧ lw = lw2 ∧ iv2 = up2 iv 56 1 (iv 56 1 + nI 1)) := by
  refine CT_ofQ rfl (by decide) (Nat.le_of_ble_eq_true rfl) (lv := [(0, .ref (0)), (1, .int ((-3)))]) rfl (fun Q hQ => ?_)
  refine V_bipush (v := (-2)) dX9_refuse_0 rfl ?_
  refine V_iload_n (i := 1) dX9_refuse_2 rfl 1 rfl ?_
  refine V_isub dX9_refuse_3 ?_
  refine M_top (x2 := nI 1) (by decide) ?_
  refine V_istore_n (lv2 := [(2, .int (nI 1)), (0, .ref (0)), (1, .int ((-3)))]) dX9_refuse_4 rfl (by decide) rfl ?_
  refine V_iload_n (i := 2) dX9_refuse_5 rfl 0 rfl ?_
  refine V_if_lt (tgt := 28) dX9_refuse_6 rfl (fun q => absurd q (by decide)) (fun _ => ?_)
  refine V_iload_n (i := 2) dX9_refuse_9 rfl 0 rfl ?_
  refine V_aload_n (i := 0) dX9_refuse_10 rfl 1 rfl ?_
  refine M_getR dX9_refuse_11 lf_X9_61 rfl hx.1 hx.2.2.2.2.2.2.2.2.1.1 ?_
  refine M_alen (t := 0) dX9_refuse_14 (by decide) hx.2.2.2.2.2.2.2.2.1.2 ?_
  refine V_icmp_ge (tgt := 28) dX9_refuse_15 rfl (fun q => absurd q (by decide)) (fun _ => ?_)
  refine V_aload_n (i := 0) dX9_refuse_18 rfl 1 rfl ?_
  refine M_getR dX9_refuse_19 lf_X9_61 rfl hx.1 hx.2.2.2.2.2.2.2.2.1.1 ?_
  refine V_iload_n (i := 2) dX9_refuse_22 rfl 0 rfl ?_
  refine V_dup2_11 dX9_refuse_23 rfl rfl ?_
  refine M_ialdn (j := 1) (x := iv 56 1) dX9_refuse_24 hx.2.2.2.2.2.2.2.2.1.2 (by decide) (by omega) (rfl) ?_
  refine V_iconst (v := nI 1) dX9_refuse_25 rfl ?_
  refine V_iadd dX9_refuse_26 ?_
  refine M_iastn (j := 1) dX9_refuse_27 hx.2.2.2.2.2.2.2.2.1.2 (by decide) (by omega) ?_
  refine V_iload_n (i := 1) dX9_refuse_28 rfl 2 rfl ?_
  refine V_iret dX9_refuse_29 ⟨rfl, rfl⟩ (Nat.zero_le _) (Nat.zero_le _) ?_
  subst hQ
  exact ⟨_, _, _, rfl, rfl, rfl, rfl, rfl⟩
set_option maxRecDepth 20000 in
theorem t_refuse_2 {g : Ev} {S : St} {iv : IV} {lw : LW} (hx : IsX S) : CQ g mX9_refuse [.ref (0), .int ((-4))] S iv lw (fun w iv2 lw2 => w = .int (-4) ∧ lw = lw2 ∧ iv2 = up2 iv 56 2 (iv 56 2 + nI 1)) := by
  refine CT_ofQ rfl (by decide) (Nat.le_of_ble_eq_true rfl) (lv := [(0, .ref (0)), (1, .int ((-4)))]) rfl (fun Q hQ => ?_)
  refine V_bipush (v := (-2)) dX9_refuse_0 rfl ?_
  refine V_iload_n (i := 1) dX9_refuse_2 rfl 1 rfl ?_
  refine V_isub dX9_refuse_3 ?_
  refine M_top (x2 := nI 2) (by decide) ?_
  refine V_istore_n (lv2 := [(2, .int (nI 2)), (0, .ref (0)), (1, .int ((-4)))]) dX9_refuse_4 rfl (by decide) rfl ?_
  refine V_iload_n (i := 2) dX9_refuse_5 rfl 0 rfl ?_
  refine V_if_lt (tgt := 28) dX9_refuse_6 rfl (fun q => absurd q (by decide)) (fun _ => ?_)
  refine V_iload_n (i := 2) dX9_refuse_9 rfl 0 rfl ?_
  refine V_aload_n (i := 0) dX9_refuse_10 rfl 1 rfl ?_
  refine M_getR dX9_refuse_11 lf_X9_61 rfl hx.1 hx.2.2.2.2.2.2.2.2.1.1 ?_
  refine M_alen (t := 0) dX9_refuse_14 (by decide) hx.2.2.2.2.2.2.2.2.1.2 ?_
  refine V_icmp_ge (tgt := 28) dX9_refuse_15 rfl (fun q => absurd q (by decide)) (fun _ => ?_)
  refine V_aload_n (i := 0) dX9_refuse_18 rfl 1 rfl ?_
  refine M_getR dX9_refuse_19 lf_X9_61 rfl hx.1 hx.2.2.2.2.2.2.2.2.1.1 ?_
  refine V_iload_n (i := 2) dX9_refuse_22 rfl 0 rfl ?_
  refine V_dup2_11 dX9_refuse_23 rfl rfl ?_
  refine M_ialdn (j := 2) (x := iv 56 2) dX9_refuse_24 hx.2.2.2.2.2.2.2.2.1.2 (by decide) (by omega) (rfl) ?_
  refine V_iconst (v := nI 1) dX9_refuse_25 rfl ?_
  refine V_iadd dX9_refuse_26 ?_
  refine M_iastn (j := 2) dX9_refuse_27 hx.2.2.2.2.2.2.2.2.1.2 (by decide) (by omega) ?_
  refine V_iload_n (i := 1) dX9_refuse_28 rfl 2 rfl ?_
  refine V_iret dX9_refuse_29 ⟨rfl, rfl⟩ (Nat.zero_le _) (Nat.zero_le _) ?_
  subst hQ
  exact ⟨_, _, _, rfl, rfl, rfl, rfl, rfl⟩
set_option maxRecDepth 20000 in
theorem t_refuse_3 {g : Ev} {S : St} {iv : IV} {lw : LW} (hx : IsX S) : CQ g mX9_refuse [.ref (0), .int ((-5))] S iv lw (fun w iv2 lw2 => w = .int (-5) ∧ lw = lw2 ∧ iv2 = up2 iv 56 3 (iv 56 3 + nI 1)) := by
  refine CT_ofQ rfl (by decide) (Nat.le_of_ble_eq_true rfl) (lv := [(0, .ref (0)), (1, .int ((-5)))]) rfl (fun Q hQ => ?_)
  refine V_bipush (v := (-2)) dX9_refuse_0 rfl ?_
  refine V_iload_n (i := 1) dX9_refuse_2 rfl 1 rfl ?_
  refine V_isub dX9_refuse_3 ?_
  refine M_top (x2 := nI 3) (by decide) ?_
  refine V_istore_n (lv2 := [(2, .int (nI 3)), (0, .ref (0)), (1, .int ((-5)))]) dX9_refuse_4 rfl (by decide) rfl ?_
  refine V_iload_n (i := 2) dX9_refuse_5 rfl 0 rfl ?_
  refine V_if_lt (tgt := 28) dX9_refuse_6 rfl (fun q => absurd q (by decide)) (fun _ => ?_)
  refine V_iload_n (i := 2) dX9_refuse_9 rfl 0 rfl ?_
  refine V_aload_n (i := 0) dX9_refuse_10 rfl 1 rfl ?_
  refine M_getR dX9_refuse_11 lf_X9_61 rfl hx.1 hx.2.2.2.2.2.2.2.2.1.1 ?_
  refine M_alen (t := 0) dX9_refuse_14 (by decide) hx.2.2.2.2.2.2.2.2.1.2 ?_
  refine V_icmp_ge (tgt := 28) dX9_refuse_15 rfl (fun q => absurd q (by decide)) (fun _ => ?_)
  refine V_aload_n (i := 0) dX9_refuse_18 rfl 1 rfl ?_
  refine M_getR dX9_refuse_19 lf_X9_61 rfl hx.1 hx.2.2.2.2.2.2.2.2.1.1 ?_
  refine V_iload_n (i := 2) dX9_refuse_22 rfl 0 rfl ?_
  refine V_dup2_11 dX9_refuse_23 rfl rfl ?_
  refine M_ialdn (j := 3) (x := iv 56 3) dX9_refuse_24 hx.2.2.2.2.2.2.2.2.1.2 (by decide) (by omega) (rfl) ?_
  refine V_iconst (v := nI 1) dX9_refuse_25 rfl ?_
  refine V_iadd dX9_refuse_26 ?_
  refine M_iastn (j := 3) dX9_refuse_27 hx.2.2.2.2.2.2.2.2.1.2 (by decide) (by omega) ?_
  refine V_iload_n (i := 1) dX9_refuse_28 rfl 2 rfl ?_
  refine V_iret dX9_refuse_29 ⟨rfl, rfl⟩ (Nat.zero_le _) (Nat.zero_le _) ?_
  subst hQ
  exact ⟨_, _, _, rfl, rfl, rfl, rfl, rfl⟩
set_option maxRecDepth 20000 in
theorem t_refuse_4 {g : Ev} {S : St} {iv : IV} {lw : LW} (hx : IsX S) : CQ g mX9_refuse [.ref (0), .int ((-6))] S iv lw (fun w iv2 lw2 => w = .int (-6) ∧ lw = lw2 ∧ iv2 = up2 iv 56 4 (iv 56 4 + nI 1)) := by
  refine CT_ofQ rfl (by decide) (Nat.le_of_ble_eq_true rfl) (lv := [(0, .ref (0)), (1, .int ((-6)))]) rfl (fun Q hQ => ?_)
  refine V_bipush (v := (-2)) dX9_refuse_0 rfl ?_
  refine V_iload_n (i := 1) dX9_refuse_2 rfl 1 rfl ?_
  refine V_isub dX9_refuse_3 ?_
  refine M_top (x2 := nI 4) (by decide) ?_
  refine V_istore_n (lv2 := [(2, .int (nI 4)), (0, .ref (0)), (1, .int ((-6)))]) dX9_refuse_4 rfl (by decide) rfl ?_
  refine V_iload_n (i := 2) dX9_refuse_5 rfl 0 rfl ?_
  refine V_if_lt (tgt := 28) dX9_refuse_6 rfl (fun q => absurd q (by decide)) (fun _ => ?_)
  refine V_iload_n (i := 2) dX9_refuse_9 rfl 0 rfl ?_
  refine V_aload_n (i := 0) dX9_refuse_10 rfl 1 rfl ?_
  refine M_getR dX9_refuse_11 lf_X9_61 rfl hx.1 hx.2.2.2.2.2.2.2.2.1.1 ?_
  refine M_alen (t := 0) dX9_refuse_14 (by decide) hx.2.2.2.2.2.2.2.2.1.2 ?_
  refine V_icmp_ge (tgt := 28) dX9_refuse_15 rfl (fun q => absurd q (by decide)) (fun _ => ?_)
  refine V_aload_n (i := 0) dX9_refuse_18 rfl 1 rfl ?_
  refine M_getR dX9_refuse_19 lf_X9_61 rfl hx.1 hx.2.2.2.2.2.2.2.2.1.1 ?_
  refine V_iload_n (i := 2) dX9_refuse_22 rfl 0 rfl ?_
  refine V_dup2_11 dX9_refuse_23 rfl rfl ?_
  refine M_ialdn (j := 4) (x := iv 56 4) dX9_refuse_24 hx.2.2.2.2.2.2.2.2.1.2 (by decide) (by omega) (rfl) ?_
  refine V_iconst (v := nI 1) dX9_refuse_25 rfl ?_
  refine V_iadd dX9_refuse_26 ?_
  refine M_iastn (j := 4) dX9_refuse_27 hx.2.2.2.2.2.2.2.2.1.2 (by decide) (by omega) ?_
  refine V_iload_n (i := 1) dX9_refuse_28 rfl 2 rfl ?_
  refine V_iret dX9_refuse_29 ⟨rfl, rfl⟩ (Nat.zero_le _) (Nat.zero_le _) ?_
  subst hQ
  exact ⟨_, _, _, rfl, rfl, rfl, rfl, rfl⟩
theorem t_refuse {g : Ev} {S : St} {iv : IV} {lw : LW} (hx : IsX S) {X : Xs} (hX : CX iv lw X) {j : Nat} (hj : j < 5) : CQ g mX9_refuse [.ref 0, .int (wy j)] S iv lw (fun w iv2 lw2 => w = .int (wy j) ∧ lw = lw2 ∧ CX iv2 lw (x_rf X j) ∧ Off 0 57 iv iv2) := by
  have h : CQ g mX9_refuse [.ref 0, .int (wy j)] S iv lw (fun w iv2 lw2 => w = .int (wy j) ∧ lw = lw2 ∧ iv2 = up2 iv 56 j (iv 56 j + nI 1)) := by
    have : j = 0 ∨ j = 1 ∨ j = 2 ∨ j = 3 ∨ j = 4 := by omega
    rcases this with rfl | rfl | rfl | rfl | rfl
    · exact t_refuse_0 hx
    · exact t_refuse_1 hx
    · exact t_refuse_2 hx
    · exact t_refuse_3 hx
    · exact t_refuse_4 hx
  refine h.mono fun w iv2 lw2 q => ?_
  obtain ⟨q1, q2, q3⟩ := q
  subst q3
  exact ⟨q1, q2, hX.rf, Off.rf.up (by omega) (by omega)⟩
set_option maxRecDepth 20000 in
theorem t_shelfAt_in {g : Ev} {S : St} {iv : IV} {lw : LW} (hx : IsX S) {j : Nat} (hj : j < 8) : CP g mX9_shelfAt [.ref 0, .int (nI j)] S iv lw (.ref (29 + 2 * j)) := by
  refine CT_ofQ rfl (by decide) (Nat.le_of_ble_eq_true rfl) (lv := [(0, .ref (0)), (1, .int (nI j))]) rfl (fun Q hQ => ?_)
  refine V_iload_n (i := 1) dX9_shelfAt_0 rfl 1 rfl ?_
  refine V_if_lt (tgt := 22) dX9_shelfAt_1 rfl (fun q => absurd q (nI_pos (by omega))) (fun _ => ?_)
  refine V_iload_n (i := 1) dX9_shelfAt_4 rfl 1 rfl ?_
  refine V_aload_n (i := 0) dX9_shelfAt_5 rfl 0 rfl ?_
  refine M_getR dX9_shelfAt_6 lf_X9_28 rfl hx.1 hx.2.2.2.2.2.2.2.2.2.1.1 ?_
  refine M_alen (t := 2) dX9_shelfAt_9 (by decide) hx.2.2.2.2.2.2.2.2.2.1.2 ?_
  refine V_icmp_ge (tgt := 22) dX9_shelfAt_10 rfl (fun q => absurd q (fun z => absurd ((nI_leI (by omega) (by omega)).mp z) (by omega))) (fun _ => ?_)
  refine V_aload_n (i := 0) dX9_shelfAt_13 rfl 0 rfl ?_
  refine M_getR dX9_shelfAt_14 lf_X9_28 rfl hx.1 hx.2.2.2.2.2.2.2.2.2.1.1 ?_
  refine V_iload_n (i := 1) dX9_shelfAt_17 rfl 1 rfl ?_
  refine M_aaldn (t := 0) (j := j) dX9_shelfAt_18 (by decide) hx.2.2.2.2.2.2.2.2.2.1.2 (by decide) hj ((hx.2.2.2.2.2.2.2.2.2.2 j hj).1) ?_
  refine V_goto (tgt := 23) dX9_shelfAt_19 rfl ?_
  refine V_aret dX9_shelfAt_23 ⟨rfl, rfl⟩ (Nat.zero_le _) (Nat.zero_le _) ?_
  subst hQ
  exact ⟨rfl, rfl⟩
set_option maxRecDepth 20000 in
theorem t_shelfAt_no {g : Ev} {S : St} {iv : IV} {lw : LW} (hx : IsX S) {s : Int32} (hs : ¬ inR s 8) : CP g mX9_shelfAt [.ref 0, .int s] S iv lw .null := by
  refine CT_ofQ rfl (by decide) (Nat.le_of_ble_eq_true rfl) (lv := [(0, .ref (0)), (1, .int (s))]) rfl (fun Q hQ => ?_)
  refine V_iload_n (i := 1) dX9_shelfAt_0 rfl 1 rfl ?_
  refine V_if_lt (tgt := 22) dX9_shelfAt_1 rfl (fun h1 => ?_) (fun h1 => ?_)
  · have h1 : s.toInt < 0 := by have q := i_neg.mp h1; exact q
    refine V_aconst_null dX9_shelfAt_22 ?_
    refine V_aretN dX9_shelfAt_23 ⟨rfl, rfl⟩ (Nat.zero_le _) (Nat.zero_le _) ?_
    subst hQ
    exact ⟨rfl, rfl⟩
  · have h1 : ¬ s.toInt < 0 := fun r => h1 (i_neg.mpr (by exact r))
    refine V_iload_n (i := 1) dX9_shelfAt_4 rfl 1 rfl ?_
    refine V_aload_n (i := 0) dX9_shelfAt_5 rfl 0 rfl ?_
    refine M_getR dX9_shelfAt_6 lf_X9_28 rfl hx.1 hx.2.2.2.2.2.2.2.2.2.1.1 ?_
    refine M_alen (t := 2) dX9_shelfAt_9 (by decide) hx.2.2.2.2.2.2.2.2.2.1.2 ?_
    refine V_icmp_ge (tgt := 22) dX9_shelfAt_10 rfl (fun h10 => ?_) (fun h10 => ?_)
    · have h10 : (8 : Int) ≤ s.toInt := by have q := Int32.le_iff_toInt_le.mp h10; rw [nI_toInt (n := 8) (by omega)] at q; exact q
      refine V_aconst_null dX9_shelfAt_22 ?_
      refine V_aretN dX9_shelfAt_23 ⟨rfl, rfl⟩ (Nat.zero_le _) (Nat.zero_le _) ?_
      subst hQ
      exact ⟨rfl, rfl⟩
    · have h10 : ¬ (8 : Int) ≤ s.toInt := fun r => h10 (Int32.le_iff_toInt_le.mpr (by rw [nI_toInt (n := 8) (by omega)]; exact r))
      exact absurd (show inR s 8 from ⟨by omega, by omega⟩) hs
set_option maxRecDepth 20000 in
theorem t_isDistance {g : Ev} {S : St} {iv : IV} {lw : LW} {d : Int32} : CP g mX9_isDistance [.int (d)] S iv lw (.int (bI ((0 : Int) ≤ d.toInt ∧ d.toInt ≤ 8))) := by
  refine CT_ofQ rfl (by decide) (Nat.le_of_ble_eq_true rfl) (lv := [(0, .int (d))]) rfl (fun Q hQ => ?_)
  refine V_iload_n (i := 0) dX9_isDistance_0 rfl 0 rfl ?_
  refine V_if_lt (tgt := 14) dX9_isDistance_1 rfl (fun h1 => ?_) (fun h1 => ?_)
  · have h1 : d.toInt < 0 := by have q := i_neg.mp h1; exact q
    refine V_iconst (v := nI 0) dX9_isDistance_14 rfl ?_
    refine V_zret dX9_isDistance_15 ⟨rfl, rfl⟩ (by rfl) (Nat.zero_le _) (Nat.zero_le _) ?_
    subst hQ
    exact ⟨by rw [bI_f (by omega)], rfl⟩
  · have h1 : ¬ d.toInt < 0 := fun r => h1 (i_neg.mpr (by exact r))
    refine V_iload_n (i := 0) dX9_isDistance_4 rfl 0 rfl ?_
    refine V_bipush (v := nI 8) dX9_isDistance_5 rfl ?_
    refine V_icmp_gt (tgt := 14) dX9_isDistance_7 rfl (fun h7 => ?_) (fun h7 => ?_)
    · have h7 : (8 : Int) < d.toInt := by have q := Int32.lt_iff_toInt_lt.mp h7; rw [nI_toInt (n := 8) (by omega)] at q; exact q
      refine V_iconst (v := nI 0) dX9_isDistance_14 rfl ?_
      refine V_zret dX9_isDistance_15 ⟨rfl, rfl⟩ (by rfl) (Nat.zero_le _) (Nat.zero_le _) ?_
      subst hQ
      exact ⟨by rw [bI_f (by omega)], rfl⟩
    · have h7 : ¬ (8 : Int) < d.toInt := fun r => h7 (Int32.lt_iff_toInt_lt.mpr (by rw [nI_toInt (n := 8) (by omega)]; exact r))
      refine V_iconst (v := nI 1) dX9_isDistance_10 rfl ?_
      refine V_goto (tgt := 15) dX9_isDistance_11 rfl ?_
      refine V_zret dX9_isDistance_15 ⟨rfl, rfl⟩ (by rfl) (Nat.zero_le _) (Nat.zero_le _) ?_
      subst hQ
      exact ⟨by rw [bI_t (by omega)], rfl⟩
