/-! Tape -/
def XB (iv : IV) (b n : Nat) (f : Nat → Nat) : Prop := (n ≤ 250 ∧ ∀ i, i < n → f i ≤ 255) ∧ iv b 1 = nI n ∧ ∀ i, i < n → iv (b + 1) i = nI (f i)
theorem XB.of {iv iv2 : IV} {b n : Nat} {f : Nat → Nat} (h : XB iv b n f) (h1 : iv2 b 1 = iv b 1) (h2 : iv2 (b + 1) = iv (b + 1)) : XB iv2 b n f := by
  obtain ⟨h0, h3, h4⟩ := h
  exact ⟨h0, by rw [h1]; exact h3, by rw [h2]; exact h4⟩
def XTp (iv : IV) (b n : Nat) (f : Nat → Nat) (s e : Nat) : Prop := XB iv b n f ∧ (s ≤ e ∧ e ≤ n) ∧ iv b 2 = nI s ∧ iv b 3 = nI e
theorem XTp.of {iv iv2 : IV} {b n s e : Nat} {f : Nat → Nat} (h : XTp iv b n f s e) (h1 : iv2 b = iv b) (h2 : iv2 (b + 1) = iv (b + 1)) : XTp iv2 b n f s e := by
  obtain ⟨h0, h3, h4, h5⟩ := h
  exact ⟨h0.of (by rw [h1]) h2, h3, by rw [h1]; exact h4, by rw [h1]; exact h5⟩
def bAt (n : Nat) (f : Nat → Nat) (k : Nat) : Int32 := if k < n then nI (f k) else -1
theorem bAt_in {n k : Nat} {f : Nat → Nat} (h : k < n) : bAt n f k = nI (f k) := if_pos h
theorem bAt_out {n k : Nat} {f : Nat → Nat} (h : ¬ k < n) : bAt n f k = -1 := if_neg h
def letB (n : Nat) (f : Nat → Nat) (k : Nat) : Bool := decide (k < n ∧ 97 ≤ f k ∧ f k ≤ 122)
def digB (n : Nat) (f : Nat → Nat) (k : Nat) : Bool := decide (k < n ∧ 48 ≤ f k ∧ f k ≤ 57)
def spB (n : Nat) (f : Nat → Nat) (k : Nat) : Bool := decide (k < n ∧ f k = 32)
def sgB (n : Nat) (f : Nat → Nat) (k : Nat) : Bool := decide (k < n ∧ f k = 59)
theorem bAt_let {n k : Nat} {f : Nat → Nat} (h : ∀ i, i < n → f i ≤ 255) : (97 ≤ (bAt n f k).toInt ∧ (bAt n f k).toInt ≤ 122) ↔ letB n f k = true := by
  unfold letB
  rw [decide_eq_true_eq]
  by_cases hk : k < n
  · have := h k hk
    rw [bAt_in hk, nI_toInt (by omega)]
    omega
  · rw [bAt_out hk, show (-1 : Int32).toInt = -1 by decide]
    omega
theorem bAt_dig {n k : Nat} {f : Nat → Nat} (h : ∀ i, i < n → f i ≤ 255) : (48 ≤ (bAt n f k).toInt ∧ (bAt n f k).toInt ≤ 57) ↔ digB n f k = true := by
  unfold digB
  rw [decide_eq_true_eq]
  by_cases hk : k < n
  · have := h k hk
    rw [bAt_in hk, nI_toInt (by omega)]
    omega
  · rw [bAt_out hk, show (-1 : Int32).toInt = -1 by decide]
    omega
theorem bAt_sg {n k : Nat} {f : Nat → Nat} (h : ∀ i, i < n → f i ≤ 255) : bAt n f k = nI 59 ↔ sgB n f k = true := by
  unfold sgB
  rw [decide_eq_true_eq]
  by_cases hk : k < n
  · have := h k hk
    rw [bAt_in hk, nI_eq (by omega) (by omega)]
    omega
  · rw [bAt_out hk]
    exact iff_of_false (by decide) (fun z => hk z.1)
theorem bAt_sp {n k : Nat} {f : Nat → Nat} (h : ∀ i, i < n → f i ≤ 255) : bAt n f k = nI 32 ↔ spB n f k = true := by
  unfold spB
  rw [decide_eq_true_eq]
  by_cases hk : k < n
  · have := h k hk
    rw [bAt_in hk, nI_eq (by omega) (by omega)]
    omega
  · rw [bAt_out hk]
    exact iff_of_false (by decide) (fun z => hk z.1)
/-- past all from k on that are so -/
def runTo (p : Nat → Bool) (n k : Nat) : Nat := k + fstTo (fun i => !p (k + i)) (n - k)
theorem runTo_at {p : Nat → Bool} {n k i : Nat} (hi : i ≤ n - k) (h : ∀ j, j < i → p (k + j) = true) (h2 : i = n - k ∨ p (k + i) = false) : runTo p n k = k + i := by
  unfold runTo
  by_cases e : i = n - k
  · rw [fstTo_none (n - k) (fun j hj => by rw [h j (by omega)]; rfl), e]
  · rcases h2 with h2 | h2
    · exact absurd h2 e
    · rw [fstTo_at (n - k) (k := i) (by omega) (fun j hj => by rw [h j hj]; rfl) (by rw [h2]; rfl)]
def nxE (n : Nat) (f : Nat → Nat) (s : Nat) : Nat := if letB n f s = true then runTo (letB n f) n s else if digB n f s = true then runTo (digB n f) n s else if sgB n f s = true then s + 1 else s
def XTf (iv iv2 : IV) (b n s e : Nat) : Prop := iv2 b 1 = nI n ∧ iv2 b 2 = nI s ∧ iv2 b 3 = nI e ∧ ∀ a, a ≠ b → iv2 a = iv a
theorem XTf.xb {iv iv2 : IV} {b n s e : Nat} {f : Nat → Nat} (h : XTf iv iv2 b n s e) (hb : XB iv b n f) : XB iv2 b n f := hb.of (by rw [h.1, hb.2.1]) (h.2.2.2 _ (by omega))
theorem XTf.e {iv iv2 : IV} {b n s e x : Nat} (h : XTf iv iv2 b n s e) : XTf iv (up2 iv2 b 3 (nI x)) b n s x := ⟨(up2_k (by decide)).trans h.1, (up2_k (by decide)).trans h.2.1, up2_s, fun a ha => (up2_a ha).trans (h.2.2.2 a ha)⟩
theorem XTf.s {iv iv2 : IV} {b n s e x : Nat} (h : XTf iv iv2 b n s e) : XTf iv (up2 iv2 b 2 (nI x)) b n x e := ⟨(up2_k (by decide)).trans h.1, up2_s, (up2_k (by decide)).trans h.2.2.1, fun a ha => (up2_a ha).trans (h.2.2.2 a ha)⟩
theorem XTf.xt {iv iv2 : IV} {b n s e : Nat} {f : Nat → Nat} (h : XTf iv iv2 b n s e) (hb : XB iv b n f) (h1 : s ≤ e) (h2 : e ≤ n) : XTp iv2 b n f s e := ⟨h.xb hb, ⟨h1, h2⟩, h.2.1, h.2.2.1⟩
theorem XTf.off {iv iv2 : IV} {b n s e : Nat} (h : XTf iv iv2 b n s e) : Off b 1 iv iv2 := fun a ha => h.2.2.2 a (by omega)
def wordB (n : Nat) (f : Nat → Nat) (s e i : Nat) : Bool := decide (e - s = sl i) && allTo (fun k => decide (bAt n f (s + k) = wch i k)) (sl i)
def tnB (n : Nat) (f : Nat → Nat) (k : Nat) : Bool := decide (k < n ∧ 97 ≤ f k ∧ f k ≤ 101)
def ctN (n : Nat) (f : Nat → Nat) (s e : Nat) : Nat := if e - s ≤ 8 ∧ allTo (fun i => tnB n f (s + i)) (e - s) = true then e - s else 0
def numTo (f : Nat → Nat) (s : Nat) : Nat → Nat
  | 0 => 0
  | k + 1 => 10 * numTo f s k + (f (s + k) - 48)
def nhO (n : Nat) (f : Nat → Nat) (s e : Nat) : Option Nat := if digB n f s = true ∧ e - s ≤ 4 then some (numTo f s (e - s)) else none
theorem numTo_lt {f : Nat → Nat} {s : Nat} : ∀ k, (∀ i, i < k → f (s + i) ≤ 57) → numTo f s k < 10 ^ k
  | 0, _ => by show 0 < 1; decide
  | k + 1, h => by
    have ih := numTo_lt k (fun i hi => h i (by omega))
    have h1 := h k (by omega)
    show 10 * numTo f s k + (f (s + k) - 48) < 10 ^ (k + 1)
    rw [Nat.pow_succ]
    omega
theorem tn_iff {x : Nat} (h : x ≤ 255) : ntQ ((nI x - nI 97).toInt64) ↔ (97 ≤ x ∧ x ≤ 101) := by
  unfold ntQ
  rw [i64, pk_sub_toInt (by omega) (by omega)]
  omega
set_option maxRecDepth 20000 in
theorem t_hasRoom {g : Ev} {S : St} {iv : IV} {lw : LW} {b : Nat} (hb : IsTape S b) {n : Nat} {f : Nat → Nat} {s e : Nat} (hT : XTp iv b n f s e) : CP g mX8_hasRoom [.ref (b)] S iv lw (.int (bI (n < 250))) := by
  refine CT_ofQ rfl (by decide) (Nat.le_of_ble_eq_true rfl) (lv := [(0, .ref (b))]) rfl (fun Q hQ => ?_)
  have hn := hT.1.1.1
  have hse := hT.2.1
  have hf := hT.1.1.2
  refine V_aload_n (i := 0) dX8_hasRoom_0 rfl 0 rfl ?_
  refine M_getI (x := nI n) dX8_hasRoom_1 lf_X8_15 rfl hb.1 (hT.1.2.1) ?_
  refine V_aload_n (i := 0) dX8_hasRoom_4 rfl 0 rfl ?_
  refine M_getR dX8_hasRoom_5 lf_X8_11 rfl hb.1 hb.2.1 ?_
  refine M_alen (t := 0) dX8_hasRoom_8 (by decide) hb.2.2 ?_
  refine V_icmp_ge (tgt := 16) dX8_hasRoom_9 rfl (fun h9 => ?_) (fun h9 => ?_)
  · have h9 : 250 ≤ n := (nI_leI (by omega) (by omega)).mp h9
    refine V_iconst (v := nI 0) dX8_hasRoom_16 rfl ?_
    refine V_zret dX8_hasRoom_17 ⟨rfl, rfl⟩ (by rfl) (Nat.zero_le _) (Nat.zero_le _) ?_
    subst hQ
    exact ⟨by rw [bI_f (by omega)], rfl⟩
  · have h9 : ¬ 250 ≤ n := fun q => h9 ((nI_leI (by omega) (by omega)).mpr q)
    refine V_iconst (v := nI 1) dX8_hasRoom_12 rfl ?_
    refine V_goto (tgt := 17) dX8_hasRoom_13 rfl ?_
    refine V_zret dX8_hasRoom_17 ⟨rfl, rfl⟩ (by rfl) (Nat.zero_le _) (Nat.zero_le _) ?_
    subst hQ
    exact ⟨by rw [bI_t (by omega)], rfl⟩
set_option maxRecDepth 20000 in
theorem t_append {g : Ev} {S : St} {iv : IV} {lw : LW} {b : Nat} (hb : IsTape S b) {n : Nat} {f : Nat → Nat} {s e : Nat} (hT : XTp iv b n f s e) {l : Nat} (hl : l ≤ 255) (hr : n < 250) : CQ g mX8_append [.ref (b), .int (nI l)] S iv lw (fun w iv2 lw2 => w = .int (nI (n + 1)) ∧ lw = lw2 ∧ XTp iv2 b (n + 1) (fun i => if i = n then l else f i) s e ∧ Off b 2 iv iv2) := by
  refine CT_ofQ rfl (by decide) (Nat.le_of_ble_eq_true rfl) (lv := [(0, .ref (b)), (1, .int (nI l))]) rfl (fun Q hQ => ?_)
  have hn := hT.1.1.1
  have hse := hT.2.1
  have hf := hT.1.1.2
  refine V_aload_n (i := 0) dX8_append_0 rfl 0 rfl ?_
  refine M_getI (x := nI n) dX8_append_1 lf_X8_15 rfl hb.1 (hT.1.2.1) ?_
  refine V_if_lt (tgt := 39) dX8_append_4 rfl (fun q => absurd q (nI_pos (by omega))) (fun _ => ?_)
  refine V_aload_n (i := 0) dX8_append_7 rfl 0 rfl ?_
  refine M_getI (x := nI n) dX8_append_8 lf_X8_15 rfl hb.1 (hT.1.2.1) ?_
  refine V_aload_n (i := 0) dX8_append_11 rfl 0 rfl ?_
  refine M_getR dX8_append_12 lf_X8_11 rfl hb.1 hb.2.1 ?_
  refine M_alen (t := 0) dX8_append_15 (by decide) hb.2.2 ?_
  refine V_icmp_ge (tgt := 39) dX8_append_16 rfl (fun q => absurd q (fun z => absurd ((nI_leI (by omega) (by omega)).mp z) (by omega))) (fun _ => ?_)
  refine V_aload_n (i := 0) dX8_append_19 rfl 0 rfl ?_
  refine M_getR dX8_append_20 lf_X8_11 rfl hb.1 hb.2.1 ?_
  refine V_aload_n (i := 0) dX8_append_23 rfl 0 rfl ?_
  refine M_getI (x := nI n) dX8_append_24 lf_X8_15 rfl hb.1 (hT.1.2.1) ?_
  refine V_iload_n (i := 1) dX8_append_27 rfl 1 rfl ?_
  refine M_iastn (j := n) dX8_append_28 hb.2.2 (by decide) (by omega) ?_
  refine V_aload_n (i := 0) dX8_append_29 rfl 0 rfl ?_
  refine V_dup dX8_append_30 rfl ?_
  refine M_getI (x := nI n) dX8_append_31 lf_X8_15 rfl hb.1 ((up2_ne (by omega)).trans (hT.1.2.1)) ?_
  refine V_iconst (v := nI 1) dX8_append_34 rfl ?_
  refine V_iadd dX8_append_35 ?_
  refine M_top (nI_add _ _) ?_
  refine M_putI dX8_append_36 lf_X8_15 rfl hb.1 ⟨rfl, rfl⟩ ?_
  refine V_aload_n (i := 0) dX8_append_39 rfl 0 rfl ?_
  refine M_getI (x := nI (n + 1)) dX8_append_40 lf_X8_15 rfl hb.1 (up2_s) ?_
  refine V_iret dX8_append_43 ⟨rfl, rfl⟩ (Nat.zero_le _) (Nat.zero_le _) ?_
  subst hQ
  refine ⟨_, _, _, rfl, rfl, rfl, rfl, ⟨⟨⟨by omega, fun i hi => ?_⟩, up2_s, fun i hi => ?_⟩, ⟨hse.1, by omega⟩, ?_, ?_⟩, ((Off.rf.up (by omega) (by omega)).up (by omega) (by omega))⟩
  · show (if i = n then l else f i) ≤ 255
    split
    · exact hl
    · exact hf i (by omega)
  · show _ = nI (if i = n then l else f i)
    rw [up2_ne (show b + 1 ≠ b by omega)]
    by_cases e9 : i = n
    · subst e9; rw [up2_s, if_pos rfl]
    · rw [up2_k e9, if_neg e9]; exact hT.1.2.2 i (by omega)
  · exact (up2_k (by decide)).trans ((up2_ne (by omega)).trans hT.2.2.1)
  · exact (up2_k (by decide)).trans ((up2_ne (by omega)).trans hT.2.2.2)
set_option maxRecDepth 20000 in
theorem t_empty {g : Ev} {S : St} {iv : IV} {lw : LW} {b : Nat} (hb : IsTape S b) {n : Nat} {f : Nat → Nat} {s e : Nat} (hT : XTp iv b n f s e) : CQ g mX8_empty [.ref (b)] S iv lw (fun w iv2 lw2 => w = .int (nI n) ∧ lw = lw2 ∧ XTp iv2 b 0 f 0 0 ∧ Off b 1 iv iv2) := by
  refine CT_ofQ rfl (by decide) (Nat.le_of_ble_eq_true rfl) (lv := [(0, .ref (b))]) rfl (fun Q hQ => ?_)
  have hn := hT.1.1.1
  have hse := hT.2.1
  have hf := hT.1.1.2
  refine V_aload_n (i := 0) dX8_empty_0 rfl 0 rfl ?_
  refine M_getI (x := nI n) dX8_empty_1 lf_X8_15 rfl hb.1 (hT.1.2.1) ?_
  refine V_istore_n (lv2 := [(1, .int (nI n)), (0, .ref (b))]) dX8_empty_4 rfl (by decide) rfl ?_
  refine V_aload_n (i := 0) dX8_empty_5 rfl 1 rfl ?_
  refine V_iconst (v := nI 0) dX8_empty_6 rfl ?_
  refine M_putI dX8_empty_7 lf_X8_15 rfl hb.1 ⟨rfl, rfl⟩ ?_
  refine V_aload_n (i := 0) dX8_empty_10 rfl 1 rfl ?_
  refine V_iconst (v := nI 0) dX8_empty_11 rfl ?_
  refine M_putI dX8_empty_12 lf_X8_19 rfl hb.1 ⟨rfl, rfl⟩ ?_
  refine V_aload_n (i := 0) dX8_empty_15 rfl 1 rfl ?_
  refine V_iconst (v := nI 0) dX8_empty_16 rfl ?_
  refine M_putI dX8_empty_17 lf_X8_22 rfl hb.1 ⟨rfl, rfl⟩ ?_
  refine V_iload_n (i := 1) dX8_empty_20 rfl 0 rfl ?_
  refine V_iret dX8_empty_21 ⟨rfl, rfl⟩ (Nat.zero_le _) (Nat.zero_le _) ?_
  subst hQ
  refine ⟨_, _, _, rfl, rfl, rfl, rfl, ⟨⟨⟨by omega, fun i hi => absurd hi (by omega)⟩, (up2_k (by decide)).trans ((up2_k (by decide)).trans up2_s), fun i hi => absurd hi (by omega)⟩, ⟨by omega, by omega⟩, (up2_k (by decide)).trans up2_s, up2_s⟩, (((Off.rf.up (by omega) (by omega)).up (by omega) (by omega)).up (by omega) (by omega))⟩
set_option maxRecDepth 20000 in
theorem t_byteAt {g : Ev} {S : St} {iv : IV} {lw : LW} {b : Nat} (hb : IsTape S b) {n : Nat} {f : Nat → Nat} (hB : XB iv b n f) {k : Nat} (hk : k ≤ 1000) : CP g mX8_byteAt [.ref (b), .int (nI k)] S iv lw (.int (bAt n f k)) := by
  refine CT_ofQ rfl (by decide) (Nat.le_of_ble_eq_true rfl) (lv := [(0, .ref (b)), (1, .int (nI k))]) rfl (fun Q hQ => ?_)
  have hn := hB.1.1
  refine V_iload_n (i := 1) dX8_byteAt_0 rfl 1 rfl ?_
  refine V_if_lt (tgt := 30) dX8_byteAt_1 rfl (fun q => absurd q (nI_pos (by omega))) (fun _ => ?_)
  refine V_iload_n (i := 1) dX8_byteAt_4 rfl 1 rfl ?_
  refine V_aload_n (i := 0) dX8_byteAt_5 rfl 0 rfl ?_
  refine M_getI (x := nI n) dX8_byteAt_6 lf_X8_15 rfl hb.1 (hB.2.1) ?_
  refine V_icmp_ge (tgt := 30) dX8_byteAt_9 rfl (fun h9 => ?_) (fun h9 => ?_)
  · have h9 : n ≤ k := (nI_leI (by omega) (by omega)).mp h9
    refine V_iconst (v := (-1)) dX8_byteAt_30 rfl ?_
    refine V_iret dX8_byteAt_31 ⟨rfl, rfl⟩ (Nat.zero_le _) (Nat.zero_le _) ?_
    subst hQ
    exact ⟨by rw [bAt_out (by omega)], rfl⟩
  · have h9 : ¬ n ≤ k := fun q => h9 ((nI_leI (by omega) (by omega)).mpr q)
    refine V_iload_n (i := 1) dX8_byteAt_12 rfl 1 rfl ?_
    refine V_aload_n (i := 0) dX8_byteAt_13 rfl 0 rfl ?_
    refine M_getR dX8_byteAt_14 lf_X8_11 rfl hb.1 hb.2.1 ?_
    refine M_alen (t := 0) dX8_byteAt_17 (by decide) hb.2.2 ?_
    refine V_icmp_ge (tgt := 30) dX8_byteAt_18 rfl (fun q => absurd q (fun z => absurd ((nI_leI (by omega) (by omega)).mp z) (by omega))) (fun _ => ?_)
    refine V_aload_n (i := 0) dX8_byteAt_21 rfl 0 rfl ?_
    refine M_getR dX8_byteAt_22 lf_X8_11 rfl hb.1 hb.2.1 ?_
    refine V_iload_n (i := 1) dX8_byteAt_25 rfl 1 rfl ?_
    refine M_ialdn (j := k) (x := nI (f k)) dX8_byteAt_26 hb.2.2 (by decide) (by omega) (hB.2.2 _ (by omega)) ?_
    refine V_goto (tgt := 31) dX8_byteAt_27 rfl ?_
    refine V_iret dX8_byteAt_31 ⟨rfl, rfl⟩ (Nat.zero_le _) (Nat.zero_le _) ?_
    subst hQ
    exact ⟨by rw [bAt_in (by omega)], rfl⟩
set_option maxRecDepth 20000 in
theorem t_isLetter {g : Ev} {S : St} {iv : IV} {lw : LW} {v : Int32} : CP g mX8_isLetter [.int (v)] S iv lw (.int (bI (97 ≤ v.toInt ∧ v.toInt ≤ 122))) := by
  refine CT_ofQ rfl (by decide) (Nat.le_of_ble_eq_true rfl) (lv := [(0, .int (v))]) rfl (fun Q hQ => ?_)
  refine V_iload_n (i := 0) dX8_isLetter_0 rfl 0 rfl ?_
  refine V_bipush (v := nI 97) dX8_isLetter_1 rfl ?_
  refine V_icmp_lt (tgt := 16) dX8_isLetter_3 rfl (fun h3 => ?_) (fun h3 => ?_)
  · have h3 : v.toInt < (97 : Int) := by have q := Int32.lt_iff_toInt_lt.mp h3; rw [nI_toInt (n := 97) (by omega)] at q; exact q
    refine V_iconst (v := nI 0) dX8_isLetter_16 rfl ?_
    refine V_zret dX8_isLetter_17 ⟨rfl, rfl⟩ (by rfl) (Nat.zero_le _) (Nat.zero_le _) ?_
    subst hQ
    exact ⟨by rw [bI_f (by omega)], rfl⟩
  · have h3 : ¬ v.toInt < (97 : Int) := fun r => h3 (Int32.lt_iff_toInt_lt.mpr (by rw [nI_toInt (n := 97) (by omega)]; exact r))
    refine V_iload_n (i := 0) dX8_isLetter_6 rfl 0 rfl ?_
    refine V_bipush (v := nI 122) dX8_isLetter_7 rfl ?_
    refine V_icmp_gt (tgt := 16) dX8_isLetter_9 rfl (fun h9 => ?_) (fun h9 => ?_)
    · have h9 : (122 : Int) < v.toInt := by have q := Int32.lt_iff_toInt_lt.mp h9; rw [nI_toInt (n := 122) (by omega)] at q; exact q
      refine V_iconst (v := nI 0) dX8_isLetter_16 rfl ?_
      refine V_zret dX8_isLetter_17 ⟨rfl, rfl⟩ (by rfl) (Nat.zero_le _) (Nat.zero_le _) ?_
      subst hQ
      exact ⟨by rw [bI_f (by omega)], rfl⟩
    · have h9 : ¬ (122 : Int) < v.toInt := fun r => h9 (Int32.lt_iff_toInt_lt.mpr (by rw [nI_toInt (n := 122) (by omega)]; exact r))
      refine V_iconst (v := nI 1) dX8_isLetter_12 rfl ?_
      refine V_goto (tgt := 17) dX8_isLetter_13 rfl ?_
      refine V_zret dX8_isLetter_17 ⟨rfl, rfl⟩ (by rfl) (Nat.zero_le _) (Nat.zero_le _) ?_
      subst hQ
      exact ⟨by rw [bI_t (by omega)], rfl⟩
set_option maxRecDepth 20000 in
theorem t_isDigit {g : Ev} {S : St} {iv : IV} {lw : LW} {v : Int32} : CP g mX8_isDigit [.int (v)] S iv lw (.int (bI (48 ≤ v.toInt ∧ v.toInt ≤ 57))) := by
  refine CT_ofQ rfl (by decide) (Nat.le_of_ble_eq_true rfl) (lv := [(0, .int (v))]) rfl (fun Q hQ => ?_)
  refine V_iload_n (i := 0) dX8_isDigit_0 rfl 0 rfl ?_
  refine V_bipush (v := nI 48) dX8_isDigit_1 rfl ?_
  refine V_icmp_lt (tgt := 16) dX8_isDigit_3 rfl (fun h3 => ?_) (fun h3 => ?_)
  · have h3 : v.toInt < (48 : Int) := by have q := Int32.lt_iff_toInt_lt.mp h3; rw [nI_toInt (n := 48) (by omega)] at q; exact q
    refine V_iconst (v := nI 0) dX8_isDigit_16 rfl ?_
    refine V_zret dX8_isDigit_17 ⟨rfl, rfl⟩ (by rfl) (Nat.zero_le _) (Nat.zero_le _) ?_
    subst hQ
    exact ⟨by rw [bI_f (by omega)], rfl⟩
  · have h3 : ¬ v.toInt < (48 : Int) := fun r => h3 (Int32.lt_iff_toInt_lt.mpr (by rw [nI_toInt (n := 48) (by omega)]; exact r))
    refine V_iload_n (i := 0) dX8_isDigit_6 rfl 0 rfl ?_
    refine V_bipush (v := nI 57) dX8_isDigit_7 rfl ?_
    refine V_icmp_gt (tgt := 16) dX8_isDigit_9 rfl (fun h9 => ?_) (fun h9 => ?_)
    · have h9 : (57 : Int) < v.toInt := by have q := Int32.lt_iff_toInt_lt.mp h9; rw [nI_toInt (n := 57) (by omega)] at q; exact q
      refine V_iconst (v := nI 0) dX8_isDigit_16 rfl ?_
      refine V_zret dX8_isDigit_17 ⟨rfl, rfl⟩ (by rfl) (Nat.zero_le _) (Nat.zero_le _) ?_
      subst hQ
      exact ⟨by rw [bI_f (by omega)], rfl⟩
    · have h9 : ¬ (57 : Int) < v.toInt := fun r => h9 (Int32.lt_iff_toInt_lt.mpr (by rw [nI_toInt (n := 57) (by omega)]; exact r))
      refine V_iconst (v := nI 1) dX8_isDigit_12 rfl ?_
      refine V_goto (tgt := 17) dX8_isDigit_13 rfl ?_
      refine V_zret dX8_isDigit_17 ⟨rfl, rfl⟩ (by rfl) (Nat.zero_le _) (Nat.zero_le _) ?_
      subst hQ
      exact ⟨by rw [bI_t (by omega)], rfl⟩
theorem t_isLetterAt {g : Ev} {S : St} {iv : IV} {lw : LW} {n k : Nat} {f : Nat → Nat} (hf : ∀ i, i < n → f i ≤ 255) : CP g mX8_isLetter [.int (bAt n f k)] S iv lw (.int (bI (letB n f k = true))) := CP.eq (t_isLetter) (congrArg Value.int (bI_congr (bAt_let hf)))
theorem t_isDigitAt {g : Ev} {S : St} {iv : IV} {lw : LW} {n k : Nat} {f : Nat → Nat} (hf : ∀ i, i < n → f i ≤ 255) : CP g mX8_isDigit [.int (bAt n f k)] S iv lw (.int (bI (digB n f k = true))) := CP.eq (t_isDigit) (congrArg Value.int (bI_congr (bAt_dig hf)))
set_option maxRecDepth 20000 in
theorem t_isAtEnd {g : Ev} {S : St} {iv : IV} {lw : LW} {b : Nat} (hb : IsTape S b) {n : Nat} {f : Nat → Nat} {s e : Nat} (hT : XTp iv b n f s e) : CP g mX8_isAtEnd [.ref (b)] S iv lw (.int (bI (n ≤ s))) := by
  refine CT_ofQ rfl (by decide) (Nat.le_of_ble_eq_true rfl) (lv := [(0, .ref (b))]) rfl (fun Q hQ => ?_)
  have hn := hT.1.1.1
  have hse := hT.2.1
  have hf := hT.1.1.2
  refine V_aload_n (i := 0) dX8_isAtEnd_0 rfl 0 rfl ?_
  refine M_getI (x := nI s) dX8_isAtEnd_1 lf_X8_19 rfl hb.1 (hT.2.2.1) ?_
  refine V_aload_n (i := 0) dX8_isAtEnd_4 rfl 0 rfl ?_
  refine M_getI (x := nI n) dX8_isAtEnd_5 lf_X8_15 rfl hb.1 (hT.1.2.1) ?_
  refine V_icmp_lt (tgt := 15) dX8_isAtEnd_8 rfl (fun h8 => ?_) (fun h8 => ?_)
  · have h8 : s < n := (nI_ltI (by omega) (by omega)).mp h8
    refine V_iconst (v := nI 0) dX8_isAtEnd_15 rfl ?_
    refine V_zret dX8_isAtEnd_16 ⟨rfl, rfl⟩ (by rfl) (Nat.zero_le _) (Nat.zero_le _) ?_
    subst hQ
    exact ⟨by rw [bI_f (by omega)], rfl⟩
  · have h8 : ¬ s < n := fun q => h8 ((nI_ltI (by omega) (by omega)).mpr q)
    refine V_iconst (v := nI 1) dX8_isAtEnd_11 rfl ?_
    refine V_goto (tgt := 16) dX8_isAtEnd_12 rfl ?_
    refine V_zret dX8_isAtEnd_16 ⟨rfl, rfl⟩ (by rfl) (Nat.zero_le _) (Nat.zero_le _) ?_
    subst hQ
    exact ⟨by rw [bI_t (by omega)], rfl⟩
set_option maxRecDepth 20000 in
theorem t_isAtSign {g : Ev} {S : St} {iv : IV} {lw : LW} {b : Nat} (hb : IsTape S b) {n : Nat} {f : Nat → Nat} {s e : Nat} (hT : XTp iv b n f s e) : CP g mX8_isAtSign [.ref (b)] S iv lw (.int (bI (sgB n f s = true))) := by
  refine CT_ofQ rfl (by decide) (Nat.le_of_ble_eq_true rfl) (lv := [(0, .ref (b))]) rfl (fun Q hQ => ?_)
  have hn := hT.1.1.1
  have hse := hT.2.1
  have hf := hT.1.1.2
  refine V_aload_n (i := 0) dX8_isAtSign_0 rfl 0 rfl ?_
  refine V_aload_n (i := 0) dX8_isAtSign_1 rfl 0 rfl ?_
  refine M_getI (x := nI s) dX8_isAtSign_2 lf_X8_19 rfl hb.1 (hT.2.2.1) ?_
  refine M_callVp (As := [.int (nI s)]) (st := []) dX8_isAtSign_5 lv_X8_28 ⟨by decide, by decide⟩ ⟨rfl, rfl⟩ rfl (ci := 5) hb.1 rfl rfl (Nat.le_of_ble_eq_true rfl) (t_byteAt hb (hT.1) (k := s) (by omega)) ?_
  refine V_bipush (v := nI 59) dX8_isAtSign_8 rfl ?_
  refine V_icmp_ne (tgt := 17) dX8_isAtSign_10 rfl (fun h10 => ?_) (fun h10 => ?_)
  · have h10 : ¬ sgB n f s = true := fun z => h10 ((bAt_sg hf).mpr z)
    refine V_iconst (v := nI 0) dX8_isAtSign_17 rfl ?_
    refine V_zret dX8_isAtSign_18 ⟨rfl, rfl⟩ (by rfl) (Nat.zero_le _) (Nat.zero_le _) ?_
    subst hQ
    exact ⟨by rw [bI_f h10], rfl⟩
  · have h10 : sgB n f s = true := (bAt_sg hf).mp h10
    refine V_iconst (v := nI 1) dX8_isAtSign_13 rfl ?_
    refine V_goto (tgt := 18) dX8_isAtSign_14 rfl ?_
    refine V_zret dX8_isAtSign_18 ⟨rfl, rfl⟩ (by rfl) (Nat.zero_le _) (Nat.zero_le _) ?_
    subst hQ
    exact ⟨by rw [bI_t h10], rfl⟩
set_option maxRecDepth 20000 in
theorem t_isAtWord {g : Ev} {S : St} {iv : IV} {lw : LW} {b : Nat} (hb : IsTape S b) {n : Nat} {f : Nat → Nat} {s e : Nat} (hT : XTp iv b n f s e) {i : Nat} (hi : i < 6) : CP g mX8_isAtWord [.ref (b), .ref (100000 + (1 + i))] S iv lw (.int (bI (wordB n f s e i = true))) := by
  refine CT_ofQ rfl (by decide) (Nat.le_of_ble_eq_true rfl) (lv := [(0, .ref (b)), (1, .ref (100000 + (1 + i)))]) rfl (fun Q hQ => ?_)
  have hn := hT.1.1.1
  have hse := hT.2.1
  have hf := hT.1.1.2
  have hsl := sl_le hi
  refine V_aload_n (i := 0) dX8_isAtWord_0 rfl 0 rfl ?_
  refine M_getI (x := nI e) dX8_isAtWord_1 lf_X8_22 rfl hb.1 (hT.2.2.2) ?_
  refine V_aload_n (i := 0) dX8_isAtWord_4 rfl 0 rfl ?_
  refine M_getI (x := nI s) dX8_isAtWord_5 lf_X8_19 rfl hb.1 (hT.2.2.1) ?_
  refine V_isub dX8_isAtWord_8 ?_
  refine M_top (x2 := nI (e - s)) (nI_sub hse.1) ?_
  refine V_aload_n (i := 1) dX8_isAtWord_9 rfl 1 rfl ?_
  refine M_callTp (As := []) (st := [.int (nI (e - s))]) dX8_isAtWord_10 lv_X8_39 ⟨by decide, by decide⟩ ⟨rfl, rfl⟩ rfl (hi) rfl (Nat.le_of_ble_eq_true rfl) (t_slen hi) ?_
  refine V_icmp_eq (tgt := 18) dX8_isAtWord_13 rfl (fun h13 => ?_) (fun h13 => ?_)
  · have h13 : (e - s) = (sl i) := (nI_eq (by omega) (by omega)).mp h13
    refine V_iconst (v := nI 0) dX8_isAtWord_18 rfl ?_
    refine V_istore_n (lv2 := [(2, .int (nI 0)), (0, .ref (b)), (1, .ref (100000 + (1 + i)))]) dX8_isAtWord_19 rfl (by decide) rfl ?_
    have lp20 : ∀ k, k ≤ (sl i) → allTo (fun k => decide (bAt n f (s + k) = wch i k)) k = true → VM g mX8_isAtWord 20 [(2, .int (nI k)), (0, .ref (b)), (1, .ref (100000 + (1 + i)))] [] S iv lw Q := by
      refine up_ind fun k hk ih20 => ?_
      intro hall
      refine V_iload_n (i := 2) dX8_isAtWord_20 rfl 0 rfl ?_
      refine V_aload_n (i := 1) dX8_isAtWord_21 rfl 2 rfl ?_
      refine M_callTp (As := []) (st := [.int (nI k)]) dX8_isAtWord_22 lv_X8_39 ⟨by decide, by decide⟩ ⟨rfl, rfl⟩ rfl (hi) rfl (Nat.le_of_ble_eq_true rfl) (t_slen hi) ?_
      refine V_icmp_ge (tgt := 54) dX8_isAtWord_25 rfl (fun h25 => ?_) (fun h25 => ?_)
      · have h25 : (sl i) ≤ k := (nI_leI (by omega) (by omega)).mp h25
        refine V_iconst (v := nI 1) dX8_isAtWord_54 rfl ?_
        refine V_zret dX8_isAtWord_55 ⟨rfl, rfl⟩ (by rfl) (Nat.zero_le _) (Nat.zero_le _) ?_
        subst hQ
        obtain rfl : k = sl i := by omega
        exact ⟨by rw [bI_t (by unfold wordB; rw [decide_eq_true h13, hall]; rfl)], rfl⟩
      · have h25 : ¬ (sl i) ≤ k := fun q => h25 ((nI_leI (by omega) (by omega)).mpr q)
        refine V_aload_n (i := 0) dX8_isAtWord_28 rfl 1 rfl ?_
        refine V_aload_n (i := 0) dX8_isAtWord_29 rfl 1 rfl ?_
        refine M_getI (x := nI s) dX8_isAtWord_30 lf_X8_19 rfl hb.1 (hT.2.2.1) ?_
        refine V_iload_n (i := 2) dX8_isAtWord_33 rfl 0 rfl ?_
        refine V_iadd dX8_isAtWord_34 ?_
        refine M_top (nI_add _ _) ?_
        refine M_callVp (As := [.int (nI (s + k))]) (st := []) dX8_isAtWord_35 lv_X8_28 ⟨by decide, by decide⟩ ⟨rfl, rfl⟩ rfl (ci := 5) hb.1 rfl rfl (Nat.le_of_ble_eq_true rfl) (t_byteAt hb (hT.1) (k := s + k) (by omega)) ?_
        refine V_aload_n (i := 1) dX8_isAtWord_38 rfl 2 rfl ?_
        refine V_iload_n (i := 2) dX8_isAtWord_39 rfl 0 rfl ?_
        refine M_callTp (As := [.int (nI k)]) (st := [.int (bAt n f (s + k))]) dX8_isAtWord_40 lv_X8_45 ⟨by decide, by decide⟩ ⟨rfl, rfl⟩ rfl (hi) rfl (Nat.le_of_ble_eq_true rfl) (t_charAt hi (j := k) (by omega)) ?_
        refine V_icmp_eq (tgt := 48) dX8_isAtWord_43 rfl (fun h43 => ?_) (fun h43 => ?_)
        · refine V_iinc (v := nI (k + 1)) (lv2 := [(2, .int (nI (k + 1))), (0, .ref (b)), (1, .ref (100000 + (1 + i)))]) dX8_isAtWord_48 0 rfl (nI_inc _) (by decide) rfl ?_
          refine V_goto (tgt := 20) dX8_isAtWord_51 rfl ?_
          refine V_sub [0, 1, 2] rfl ?_
          exact M_at (ih20 (by omega) (by show (allTo _ _ && decide (bAt n f (s + k) = wch i k)) = true; rw [hall, decide_eq_true h43]; rfl)) (rfl) rfl (rfl) (rfl)
        · refine V_iconst (v := nI 0) dX8_isAtWord_46 rfl ?_
          refine V_zret dX8_isAtWord_47 ⟨rfl, rfl⟩ (by rfl) (Nat.zero_le _) (Nat.zero_le _) ?_
          subst hQ
          exact ⟨by rw [bI_f (by unfold wordB; rw [allTo_bad (i := k) (by omega) (decide_eq_false h43), Bool.and_false]; decide)], rfl⟩
    refine V_sub [0, 1, 2] rfl ?_
    exact M_at (lp20 0 (Nat.zero_le _) rfl) (rfl) rfl (rfl) (rfl)
  · have h13 : ¬ (e - s) = (sl i) := fun q => h13 ((nI_eq (by omega) (by omega)).mpr q)
    refine V_iconst (v := nI 0) dX8_isAtWord_16 rfl ?_
    refine V_zret dX8_isAtWord_17 ⟨rfl, rfl⟩ (by rfl) (Nat.zero_le _) (Nat.zero_le _) ?_
    subst hQ
    exact ⟨by rw [bI_f (by unfold wordB; rw [decide_eq_false h13, Bool.false_and]; decide)], rfl⟩
set_option maxRecDepth 20000 in
theorem t_textNote {g : Ev} {S : St} {iv : IV} {lw : LW} {b : Nat} (hb : IsTape S b) {n : Nat} {f : Nat → Nat} {s e : Nat} (hT : XTp iv b n f s e) {k : Nat} (hk : s + k < n) : CP g mX8_textNote [.ref (b), .int (nI k)] S iv lw (.int (nI (f (s + k)) - nI 97)) := by
  refine CT_ofQ rfl (by decide) (Nat.le_of_ble_eq_true rfl) (lv := [(0, .ref (b)), (1, .int (nI k))]) rfl (fun Q hQ => ?_)
  have hn := hT.1.1.1
  have hse := hT.2.1
  have hf := hT.1.1.2
  refine V_aload_n (i := 0) dX8_textNote_0 rfl 0 rfl ?_
  refine V_aload_n (i := 0) dX8_textNote_1 rfl 0 rfl ?_
  refine M_getI (x := nI s) dX8_textNote_2 lf_X8_19 rfl hb.1 (hT.2.2.1) ?_
  refine V_iload_n (i := 1) dX8_textNote_5 rfl 1 rfl ?_
  refine V_iadd dX8_textNote_6 ?_
  refine M_top (nI_add _ _) ?_
  refine M_callVp (As := [.int (nI (s + k))]) (st := []) dX8_textNote_7 lv_X8_28 ⟨by decide, by decide⟩ ⟨rfl, rfl⟩ rfl (ci := 5) hb.1 rfl rfl (Nat.le_of_ble_eq_true rfl) (t_byteAt hb (hT.1) (k := s + k) (by omega)) ?_
  refine M_top (x2 := nI (f (s + k))) (bAt_in hk) ?_
  refine V_bipush (v := nI 97) dX8_textNote_10 rfl ?_
  refine V_isub dX8_textNote_12 ?_
  refine V_iret dX8_textNote_13 ⟨rfl, rfl⟩ (Nat.zero_le _) (Nat.zero_le _) ?_
  subst hQ
  exact ⟨rfl, rfl⟩
set_option maxRecDepth 20000 in
theorem t_countTextNotes {g : Ev} {S : St} {iv : IV} {lw : LW} {b : Nat} (hb : IsTape S b) {n : Nat} {f : Nat → Nat} {s e : Nat} (hT : XTp iv b n f s e) : CP g mX8_countTextNotes [.ref (b)] S iv lw (.int (nI (ctN n f s e))) := by
  refine CT_ofQ rfl (by decide) (Nat.le_of_ble_eq_true rfl) (lv := [(0, .ref (b))]) rfl (fun Q hQ => ?_)
  have hn := hT.1.1.1
  have hse := hT.2.1
  have hf := hT.1.1.2
  refine V_aload_n (i := 0) dX8_countTextNotes_0 rfl 0 rfl ?_
  refine M_getI (x := nI e) dX8_countTextNotes_1 lf_X8_22 rfl hb.1 (hT.2.2.2) ?_
  refine V_aload_n (i := 0) dX8_countTextNotes_4 rfl 0 rfl ?_
  refine M_getI (x := nI s) dX8_countTextNotes_5 lf_X8_19 rfl hb.1 (hT.2.2.1) ?_
  refine V_isub dX8_countTextNotes_8 ?_
  refine M_top (x2 := nI (e - s)) (nI_sub hse.1) ?_
  refine V_istore_n (lv2 := [(1, .int (nI (e - s))), (0, .ref (b))]) dX8_countTextNotes_9 rfl (by decide) rfl ?_
  refine V_iload_n (i := 1) dX8_countTextNotes_10 rfl 0 rfl ?_
  refine V_bipush (v := nI 8) dX8_countTextNotes_11 rfl ?_
  refine V_icmp_le (tgt := 18) dX8_countTextNotes_13 rfl (fun h13 => ?_) (fun h13 => ?_)
  · have h13 : (e - s) ≤ 8 := (nI_leI (by omega) (by omega)).mp h13
    refine V_iconst (v := nI 0) dX8_countTextNotes_18 rfl ?_
    refine V_istore_n (lv2 := [(2, .int (nI 0)), (1, .int (nI (e - s))), (0, .ref (b))]) dX8_countTextNotes_19 rfl (by decide) rfl ?_
    have lp20 : ∀ k, k ≤ (e - s) → allTo (fun i => tnB n f (s + i)) k = true → VM g mX8_countTextNotes 20 [(2, .int (nI k)), (1, .int (nI (e - s))), (0, .ref (b))] [] S iv lw Q := by
      refine up_ind fun k hk ih20 => ?_
      intro hall
      refine V_iload_n (i := 2) dX8_countTextNotes_20 rfl 0 rfl ?_
      refine V_iload_n (i := 1) dX8_countTextNotes_21 rfl 1 rfl ?_
      refine V_icmp_ge (tgt := 45) dX8_countTextNotes_22 rfl (fun h22 => ?_) (fun h22 => ?_)
      · have h22 : (e - s) ≤ k := (nI_leI (by omega) (by omega)).mp h22
        refine V_iload_n (i := 1) dX8_countTextNotes_45 rfl 1 rfl ?_
        refine V_iret dX8_countTextNotes_46 ⟨rfl, rfl⟩ (Nat.zero_le _) (Nat.zero_le _) ?_
        subst hQ
        obtain rfl : k = e - s := by omega
        exact ⟨by unfold ctN; rw [if_pos ⟨by omega, hall⟩], rfl⟩
      · have h22 : ¬ (e - s) ≤ k := fun q => h22 ((nI_leI (by omega) (by omega)).mpr q)
        refine V_aload_n (i := 0) dX8_countTextNotes_25 rfl 2 rfl ?_
        refine V_iload_n (i := 2) dX8_countTextNotes_26 rfl 0 rfl ?_
        refine M_callVp (As := [.int (nI k)]) (st := []) dX8_countTextNotes_27 lv_X8_51 ⟨by decide, by decide⟩ ⟨rfl, rfl⟩ rfl (ci := 5) hb.1 rfl rfl (Nat.le_of_ble_eq_true rfl) (t_textNote hb hT (k := k) (by omega)) ?_
        refine V_i2l dX8_countTextNotes_30 ?_
        refine M_callSp (As := [.long (((nI (f (s + k)) - nI 97)).toInt64)]) (st := []) dX8_countTextNotes_31 ls_X8_54 ⟨by decide, by decide⟩ ⟨rfl, rfl⟩ rfl (Nat.le_of_ble_eq_true rfl) (t_X0_isNote) ?_
        refine V_if_ne (tgt := 39) dX8_countTextNotes_34 rfl (fun h34 => ?_) (fun h34 => ?_)
        · have h34 : ntQ ((nI (f (s + k)) - nI 97).toInt64) := bI_ne.mp h34
          refine V_iinc (v := nI (k + 1)) (lv2 := [(2, .int (nI (k + 1))), (1, .int (nI (e - s))), (0, .ref (b))]) dX8_countTextNotes_39 0 rfl (nI_inc _) (by decide) rfl ?_
          refine V_goto (tgt := 20) dX8_countTextNotes_42 rfl ?_
          refine V_sub [0, 1, 2] rfl ?_
          exact M_at (ih20 (by omega) (by show (allTo _ _ && tnB n f (s + k)) = true; rw [hall, show tnB n f (s + k) = true from decide_eq_true ⟨by omega, (tn_iff (hf _ (by omega))).mp h34⟩]; rfl)) (rfl) rfl (rfl) (rfl)
        · have h34 : ¬ (ntQ ((nI (f (s + k)) - nI 97).toInt64)) := bI_eq0.mp h34
          refine V_iconst (v := nI 0) dX8_countTextNotes_37 rfl ?_
          refine V_iret dX8_countTextNotes_38 ⟨rfl, rfl⟩ (Nat.zero_le _) (Nat.zero_le _) ?_
          subst hQ
          exact ⟨by unfold ctN; rw [if_neg (fun z => absurd z.2 (by rw [allTo_bad (i := k) (by omega) (show tnB n f (s + k) = false from decide_eq_false (fun y => h34 ((tn_iff (hf _ (by omega))).mpr y.2)))]; decide))], rfl⟩
    refine V_sub [0, 1, 2] rfl ?_
    exact M_at (lp20 0 (Nat.zero_le _) rfl) (rfl) rfl (rfl) (rfl)
  · have h13 : ¬ (e - s) ≤ 8 := fun q => h13 ((nI_leI (by omega) (by omega)).mpr q)
    refine V_iconst (v := nI 0) dX8_countTextNotes_16 rfl ?_
    refine V_iret dX8_countTextNotes_17 ⟨rfl, rfl⟩ (Nat.zero_le _) (Nat.zero_le _) ?_
    subst hQ
    exact ⟨by unfold ctN; rw [if_neg (by omega)], rfl⟩
set_option maxRecDepth 20000 in
theorem t_numberHere {g : Ev} {S : St} {iv : IV} {lw : LW} {b : Nat} (hb : IsTape S b) {n : Nat} {f : Nat → Nat} {s e : Nat} (hT : XTp iv b n f s e) (hdg : digB n f s = true → ∀ k, s ≤ k → k < e → digB n f k = true) : CP g mX8_numberHere [.ref (b)] S iv lw (.int (oI (nhO n f s e))) := by
  refine CT_ofQ rfl (by decide) (Nat.le_of_ble_eq_true rfl) (lv := [(0, .ref (b))]) rfl (fun Q hQ => ?_)
  have hn := hT.1.1.1
  have hse := hT.2.1
  have hf := hT.1.1.2
  refine V_aload_n (i := 0) dX8_numberHere_0 rfl 0 rfl ?_
  refine V_aload_n (i := 0) dX8_numberHere_1 rfl 0 rfl ?_
  refine M_getI (x := nI s) dX8_numberHere_2 lf_X8_19 rfl hb.1 (hT.2.2.1) ?_
  refine M_callVp (As := [.int (nI s)]) (st := []) dX8_numberHere_5 lv_X8_28 ⟨by decide, by decide⟩ ⟨rfl, rfl⟩ rfl (ci := 5) hb.1 rfl rfl (Nat.le_of_ble_eq_true rfl) (t_byteAt hb (hT.1) (k := s) (by omega)) ?_
  refine M_callSp (As := [.int (bAt n f (s))]) (st := []) dX8_numberHere_8 ls_X8_36 ⟨by decide, by decide⟩ ⟨rfl, rfl⟩ rfl (Nat.le_of_ble_eq_true rfl) (t_isDigitAt hf) ?_
  refine V_if_eq (tgt := 27) dX8_numberHere_11 rfl (fun h11 => ?_) (fun h11 => ?_)
  · have h11 : ¬ (digB n f (s) = true) := bI_eq0.mp h11
    refine V_iconst (v := (-1)) dX8_numberHere_27 rfl ?_
    refine V_iret dX8_numberHere_28 ⟨rfl, rfl⟩ (Nat.zero_le _) (Nat.zero_le _) ?_
    subst hQ
    exact ⟨by unfold nhO; rw [if_neg (fun z => h11 z.1)]; rfl, rfl⟩
  · have h11 : digB n f (s) = true := bI_ne.mp h11
    refine V_aload_n (i := 0) dX8_numberHere_14 rfl 0 rfl ?_
    refine M_getI (x := nI e) dX8_numberHere_15 lf_X8_22 rfl hb.1 (hT.2.2.2) ?_
    refine V_aload_n (i := 0) dX8_numberHere_18 rfl 0 rfl ?_
    refine M_getI (x := nI s) dX8_numberHere_19 lf_X8_19 rfl hb.1 (hT.2.2.1) ?_
    refine V_isub dX8_numberHere_22 ?_
    refine M_top (x2 := nI (e - s)) (nI_sub hse.1) ?_
    refine V_iconst (v := nI 4) dX8_numberHere_23 rfl ?_
    refine V_icmp_le (tgt := 29) dX8_numberHere_24 rfl (fun h24 => ?_) (fun h24 => ?_)
    · have h24 : (e - s) ≤ 4 := (nI_leI (by omega) (by omega)).mp h24
      refine V_iconst (v := nI 0) dX8_numberHere_29 rfl ?_
      refine V_istore_n (lv2 := [(1, .int (nI 0)), (0, .ref (b))]) dX8_numberHere_30 rfl (by decide) rfl ?_
      refine V_aload_n (i := 0) dX8_numberHere_31 rfl 1 rfl ?_
      refine M_getI (x := nI s) dX8_numberHere_32 lf_X8_19 rfl hb.1 (hT.2.2.1) ?_
      refine V_istore_n (lv2 := [(2, .int (nI s)), (1, .int (nI 0)), (0, .ref (b))]) dX8_numberHere_35 rfl (by decide) rfl ?_
      have lp36 : ∀ k, k ≤ (e - s) → VM g mX8_numberHere 36 [(1, .int (nI (numTo f s k))), (2, .int (nI (s + k))), (0, .ref (b))] [] S iv lw Q := by
        refine up_ind fun k hk ih36 => ?_
        refine V_iload_n (i := 2) dX8_numberHere_36 rfl 1 rfl ?_
        refine V_aload_n (i := 0) dX8_numberHere_37 rfl 2 rfl ?_
        refine M_getI (x := nI e) dX8_numberHere_38 lf_X8_22 rfl hb.1 (hT.2.2.2) ?_
        refine V_icmp_ge (tgt := 64) dX8_numberHere_41 rfl (fun h41 => ?_) (fun h41 => ?_)
        · have h41 : e ≤ (s + k) := (nI_leI (by omega) (by omega)).mp h41
          refine V_iload_n (i := 1) dX8_numberHere_64 rfl 0 rfl ?_
          refine V_iret dX8_numberHere_65 ⟨rfl, rfl⟩ (Nat.zero_le _) (Nat.zero_le _) ?_
          subst hQ
          obtain rfl : k = e - s := by omega
          exact ⟨by unfold nhO; rw [if_pos ⟨h11, by omega⟩]; rfl, rfl⟩
        · have h41 : ¬ e ≤ (s + k) := fun q => h41 ((nI_leI (by omega) (by omega)).mpr q)
          have hdk : digB n f (s + k) = true := hdg h11 _ (by omega) (by omega)
          have hdk2 := of_decide_eq_true hdk
          have hnm : numTo f s k < 10 ^ k := numTo_lt k (fun i hi => (of_decide_eq_true (hdg h11 (s + i) (by omega) (by omega))).2.2)
          have h10k : 10 ^ k ≤ 10 ^ 4 := Nat.pow_le_pow_right (by decide) (by omega)
          refine V_bipush (v := nI 10) dX8_numberHere_44 rfl ?_
          refine V_iload_n (i := 1) dX8_numberHere_46 rfl 0 rfl ?_
          refine V_imul dX8_numberHere_47 ?_
          refine M_top (pk_mul _ _) ?_
          refine V_aload_n (i := 0) dX8_numberHere_48 rfl 2 rfl ?_
          refine V_iload_n (i := 2) dX8_numberHere_49 rfl 1 rfl ?_
          refine M_callVp (As := [.int (nI (s + k))]) (st := [.int (nI (10 * (numTo f s k)))]) dX8_numberHere_50 lv_X8_28 ⟨by decide, by decide⟩ ⟨rfl, rfl⟩ rfl (ci := 5) hb.1 rfl rfl (Nat.le_of_ble_eq_true rfl) (t_byteAt hb (hT.1) (k := s + k) (by omega)) ?_
          refine M_top (x2 := nI (f (s + k))) (bAt_in (by omega)) ?_
          refine V_iadd dX8_numberHere_53 ?_
          refine M_top (nI_add _ _) ?_
          refine V_bipush (v := nI 48) dX8_numberHere_54 rfl ?_
          refine V_isub dX8_numberHere_56 ?_
          refine M_top (x2 := nI (numTo f s (k + 1))) ((nI_sub (by omega)).trans (by show nI _ = nI (10 * numTo f s k + (f (s + k) - 48)); congr 1; omega)) ?_
          refine V_istore_n (lv2 := [(1, .int (nI (numTo f s (k + 1)))), (2, .int (nI (s + k))), (0, .ref (b))]) dX8_numberHere_57 rfl (by decide) rfl ?_
          refine V_iinc (v := nI ((s + k) + 1)) (lv2 := [(2, .int (nI ((s + k) + 1))), (1, .int (nI (numTo f s (k + 1)))), (0, .ref (b))]) dX8_numberHere_58 1 rfl (nI_inc _) (by decide) rfl ?_
          refine V_goto (tgt := 36) dX8_numberHere_61 rfl ?_
          refine V_sub [1, 0, 2] rfl ?_
          exact M_at (ih36 (by omega)) (rfl) rfl (rfl) (rfl)
      refine V_sub [1, 0, 2] rfl ?_
      exact M_at (lp36 0 (Nat.zero_le _)) (rfl) rfl (rfl) (rfl)
    · have h24 : ¬ (e - s) ≤ 4 := fun q => h24 ((nI_leI (by omega) (by omega)).mpr q)
      refine V_iconst (v := (-1)) dX8_numberHere_27 rfl ?_
      refine V_iret dX8_numberHere_28 ⟨rfl, rfl⟩ (Nat.zero_le _) (Nat.zero_le _) ?_
      subst hQ
      exact ⟨by unfold nhO; rw [if_neg (fun z => absurd z.2 (by omega))]; rfl, rfl⟩
set_option maxRecDepth 20000 in
theorem t_toNextToken {g : Ev} {S : St} {iv : IV} {lw : LW} {b : Nat} (hb : IsTape S b) {n : Nat} {f : Nat → Nat} (hB : XB iv b n f) {e : Nat} (hen : e ≤ n) (he : iv b 3 = nI e) : CN g mX8_toNextToken [.ref (b)] S iv lw (fun iv2 lw2 => lw = lw2 ∧ XTp iv2 b n f (runTo (spB n f) n e) (nxE n f (runTo (spB n f) n e)) ∧ Off b 1 iv iv2) := by
  refine CT_ofQ rfl (by decide) (Nat.le_of_ble_eq_true rfl) (lv := [(0, .ref (b))]) rfl (fun Q hQ => ?_)
  have hn := hB.1.1
  have hf := hB.1.2
  refine V_aload_n (i := 0) dX8_toNextToken_0 rfl 0 rfl ?_
  refine V_aload_n (i := 0) dX8_toNextToken_1 rfl 0 rfl ?_
  refine M_getI (x := nI e) dX8_toNextToken_2 lf_X8_22 rfl hb.1 (he) ?_
  refine M_putI dX8_toNextToken_5 lf_X8_19 rfl hb.1 ⟨rfl, rfl⟩ ?_
  have lp8 : ∀ i, i ≤ (n - e) → ∀ iv2 : IV, XTf iv iv2 b n (e + i) e → (∀ j, j < i → spB n f (e + j) = true) → VM g mX8_toNextToken 8 [(0, .ref (b))] [] S iv2 lw Q := by
    refine up_ind fun i hi ih8 => ?_
    intro iv2 hx hr
    refine V_aload_n (i := 0) dX8_toNextToken_8 rfl 0 rfl ?_
    refine M_getI (x := nI (e + i)) dX8_toNextToken_9 lf_X8_19 rfl hb.1 (hx.2.1) ?_
    refine V_aload_n (i := 0) dX8_toNextToken_12 rfl 0 rfl ?_
    refine M_getI (x := nI n) dX8_toNextToken_13 lf_X8_15 rfl hb.1 (hx.1) ?_
    refine V_icmp_ge (tgt := 45) dX8_toNextToken_16 rfl (fun h16 => ?_) (fun h16 => ?_)
    · have h16 : n ≤ (e + i) := (nI_leI (by omega) (by omega)).mp h16
      have hS : runTo (spB n f) n e = e + i := runTo_at (by omega) hr (Or.inl (by omega))
      refine V_aload_n (i := 0) dX8_toNextToken_45 rfl 0 rfl ?_
      refine V_aload_n (i := 0) dX8_toNextToken_46 rfl 0 rfl ?_
      refine M_getI (x := nI (e + i)) dX8_toNextToken_47 lf_X8_19 rfl hb.1 (hx.2.1) ?_
      refine M_putI dX8_toNextToken_50 lf_X8_22 rfl hb.1 ⟨rfl, rfl⟩ ?_
      refine V_aload_n (i := 0) dX8_toNextToken_53 rfl 0 rfl ?_
      refine V_aload_n (i := 0) dX8_toNextToken_54 rfl 0 rfl ?_
      refine M_getI (x := nI (e + i)) dX8_toNextToken_55 lf_X8_19 rfl hb.1 ((up2_k (by omega)).trans (hx.2.1)) ?_
      refine M_callVp (As := [.int (nI (e + i))]) (st := []) dX8_toNextToken_58 lv_X8_28 ⟨by decide, by decide⟩ ⟨rfl, rfl⟩ rfl (ci := 5) hb.1 rfl rfl (Nat.le_of_ble_eq_true rfl) (t_byteAt hb (hx.e.xb hB) (k := e + i) (by omega)) ?_
      refine M_callSp (As := [.int (bAt n f (e + i))]) (st := []) dX8_toNextToken_61 ls_X8_32 ⟨by decide, by decide⟩ ⟨rfl, rfl⟩ rfl (Nat.le_of_ble_eq_true rfl) (t_isLetterAt hf) ?_
      refine V_if_eq (tgt := 105) dX8_toNextToken_64 rfl (fun h64 => ?_) (fun h64 => ?_)
      · have h64 : ¬ (letB n f (e + i) = true) := bI_eq0.mp h64
        refine V_aload_n (i := 0) dX8_toNextToken_105 rfl 0 rfl ?_
        refine V_aload_n (i := 0) dX8_toNextToken_106 rfl 0 rfl ?_
        refine M_getI (x := nI (e + i)) dX8_toNextToken_107 lf_X8_19 rfl hb.1 ((up2_k (by omega)).trans (hx.2.1)) ?_
        refine M_callVp (As := [.int (nI (e + i))]) (st := []) dX8_toNextToken_110 lv_X8_28 ⟨by decide, by decide⟩ ⟨rfl, rfl⟩ rfl (ci := 5) hb.1 rfl rfl (Nat.le_of_ble_eq_true rfl) (t_byteAt hb (hx.e.xb hB) (k := e + i) (by omega)) ?_
        refine M_callSp (As := [.int (bAt n f (e + i))]) (st := []) dX8_toNextToken_113 ls_X8_36 ⟨by decide, by decide⟩ ⟨rfl, rfl⟩ rfl (Nat.le_of_ble_eq_true rfl) (t_isDigitAt hf) ?_
        refine V_if_eq (tgt := 157) dX8_toNextToken_116 rfl (fun h116 => ?_) (fun h116 => ?_)
        · have h116 : ¬ (digB n f (e + i) = true) := bI_eq0.mp h116
          refine V_aload_n (i := 0) dX8_toNextToken_157 rfl 0 rfl ?_
          refine V_aload_n (i := 0) dX8_toNextToken_158 rfl 0 rfl ?_
          refine M_getI (x := nI (e + i)) dX8_toNextToken_159 lf_X8_19 rfl hb.1 ((up2_k (by omega)).trans (hx.2.1)) ?_
          refine M_callVp (As := [.int (nI (e + i))]) (st := []) dX8_toNextToken_162 lv_X8_28 ⟨by decide, by decide⟩ ⟨rfl, rfl⟩ rfl (ci := 5) hb.1 rfl rfl (Nat.le_of_ble_eq_true rfl) (t_byteAt hb (hx.e.xb hB) (k := e + i) (by omega)) ?_
          refine V_bipush (v := nI 59) dX8_toNextToken_165 rfl ?_
          refine V_icmp_ne (tgt := 180) dX8_toNextToken_167 rfl (fun h167 => ?_) (fun h167 => ?_)
          · have h167 : ¬ sgB n f (e + i) = true := fun z => h167 ((bAt_sg hf).mpr z)
            refine V_vret dX8_toNextToken_180 ⟨rfl, rfl⟩ (Nat.zero_le _) (Nat.zero_le _) ?_
            subst hQ
            have hE : nxE n f (e + i) = e + i := by unfold nxE; rw [if_neg h64, if_neg h116, if_neg h167]
            exact ⟨_, _, rfl, rfl, rfl, by rw [hS, hE]; exact hx.e.xt hB (by omega) (by omega), hx.e.off⟩
          · have h167 : sgB n f (e + i) = true := (bAt_sg hf).mp h167
            refine V_aload_n (i := 0) dX8_toNextToken_170 rfl 0 rfl ?_
            refine V_dup dX8_toNextToken_171 rfl ?_
            refine M_getI (x := nI (e + i)) dX8_toNextToken_172 lf_X8_22 rfl hb.1 (up2_s) ?_
            refine V_iconst (v := nI 1) dX8_toNextToken_175 rfl ?_
            refine V_iadd dX8_toNextToken_176 ?_
            refine M_top (nI_add _ _) ?_
            refine M_putI dX8_toNextToken_177 lf_X8_22 rfl hb.1 ⟨rfl, rfl⟩ ?_
            refine V_vret dX8_toNextToken_180 ⟨rfl, rfl⟩ (Nat.zero_le _) (Nat.zero_le _) ?_
            subst hQ
            have hE : nxE n f (e + i) = e + i + 1 := by unfold nxE; rw [if_neg h64, if_neg h116, if_pos h167]
            have hlt := (of_decide_eq_true h167).1
            exact ⟨_, _, rfl, rfl, rfl, by rw [hS, hE]; exact hx.e.e.xt hB (by omega) (by omega), hx.e.e.off⟩
        · have h116 : digB n f (e + i) = true := bI_ne.mp h116
          have lp119 : ∀ k, k ≤ (n - (e + i)) → ∀ iv3 : IV, XTf iv iv3 b n (e + i) (e + i + k) → (∀ j, j < k → digB n f (e + i + j) = true) → VM g mX8_toNextToken 119 [(0, .ref (b))] [] S iv3 lw Q := by
            refine up_ind fun k hk ih119 => ?_
            intro iv3 hx3 hr3
            refine V_aload_n (i := 0) dX8_toNextToken_119 rfl 0 rfl ?_
            refine M_getI (x := nI (e + i + k)) dX8_toNextToken_120 lf_X8_22 rfl hb.1 (hx3.2.2.1) ?_
            refine V_aload_n (i := 0) dX8_toNextToken_123 rfl 0 rfl ?_
            refine M_getI (x := nI n) dX8_toNextToken_124 lf_X8_15 rfl hb.1 (hx3.1) ?_
            refine V_icmp_ge (tgt := 180) dX8_toNextToken_127 rfl (fun h127 => ?_) (fun h127 => ?_)
            · have h127 : n ≤ (e + i + k) := (nI_leI (by omega) (by omega)).mp h127
              refine V_vret dX8_toNextToken_180 ⟨rfl, rfl⟩ (Nat.zero_le _) (Nat.zero_le _) ?_
              subst hQ
              have hE : nxE n f (e + i) = e + i + k := by unfold nxE; rw [if_neg h64, if_pos h116]; exact runTo_at (by omega) hr3 (Or.inl (by omega))
              exact ⟨_, _, rfl, rfl, rfl, by rw [hS, hE]; exact hx3.xt hB (by omega) (by omega), hx3.off⟩
            · have h127 : ¬ n ≤ (e + i + k) := fun q => h127 ((nI_leI (by omega) (by omega)).mpr q)
              refine V_aload_n (i := 0) dX8_toNextToken_130 rfl 0 rfl ?_
              refine V_aload_n (i := 0) dX8_toNextToken_131 rfl 0 rfl ?_
              refine M_getI (x := nI (e + i + k)) dX8_toNextToken_132 lf_X8_22 rfl hb.1 (hx3.2.2.1) ?_
              refine M_callVp (As := [.int (nI (e + i + k))]) (st := []) dX8_toNextToken_135 lv_X8_28 ⟨by decide, by decide⟩ ⟨rfl, rfl⟩ rfl (ci := 5) hb.1 rfl rfl (Nat.le_of_ble_eq_true rfl) (t_byteAt hb (hx3.xb hB) (k := e + i + k) (by omega)) ?_
              refine M_callSp (As := [.int (bAt n f (e + i + k))]) (st := []) dX8_toNextToken_138 ls_X8_36 ⟨by decide, by decide⟩ ⟨rfl, rfl⟩ rfl (Nat.le_of_ble_eq_true rfl) (t_isDigitAt hf) ?_
              refine V_if_eq (tgt := 180) dX8_toNextToken_141 rfl (fun h141 => ?_) (fun h141 => ?_)
              · have h141 : ¬ (digB n f (e + i + k) = true) := bI_eq0.mp h141
                refine V_vret dX8_toNextToken_180 ⟨rfl, rfl⟩ (Nat.zero_le _) (Nat.zero_le _) ?_
                subst hQ
                have hE : nxE n f (e + i) = e + i + k := by unfold nxE; rw [if_neg h64, if_pos h116]; exact runTo_at (by omega) hr3 (Or.inr (Bool.eq_false_iff.mpr h141))
                exact ⟨_, _, rfl, rfl, rfl, by rw [hS, hE]; exact hx3.xt hB (by omega) (by omega), hx3.off⟩
              · have h141 : digB n f (e + i + k) = true := bI_ne.mp h141
                refine V_aload_n (i := 0) dX8_toNextToken_144 rfl 0 rfl ?_
                refine V_dup dX8_toNextToken_145 rfl ?_
                refine M_getI (x := nI (e + i + k)) dX8_toNextToken_146 lf_X8_22 rfl hb.1 (hx3.2.2.1) ?_
                refine V_iconst (v := nI 1) dX8_toNextToken_149 rfl ?_
                refine V_iadd dX8_toNextToken_150 ?_
                refine M_top (nI_add _ _) ?_
                refine M_putI dX8_toNextToken_151 lf_X8_22 rfl hb.1 ⟨rfl, rfl⟩ ?_
                refine V_goto (tgt := 119) dX8_toNextToken_154 rfl ?_
                refine V_sub [0] rfl ?_
                exact M_at (ih119 (by omega) (up2 iv3 b 3 (nI (e + i + k + 1))) hx3.e (fun j hj => (Nat.lt_or_ge j k).elim (hr3 j) (fun z => by have e9 : j = k := (by omega); rw [e9]; exact h141))) (rfl) rfl (rfl) (rfl)
          refine V_sub [0] rfl ?_
          exact M_at (lp119 0 (Nat.zero_le _) (up2 iv2 b 3 (nI (e + i))) hx.e (fun j hj => absurd hj (by omega))) (rfl) rfl (rfl) (rfl)
      · have h64 : letB n f (e + i) = true := bI_ne.mp h64
        have lp67 : ∀ k, k ≤ (n - (e + i)) → ∀ iv3 : IV, XTf iv iv3 b n (e + i) (e + i + k) → (∀ j, j < k → letB n f (e + i + j) = true) → VM g mX8_toNextToken 67 [(0, .ref (b))] [] S iv3 lw Q := by
          refine up_ind fun k hk ih67 => ?_
          intro iv3 hx3 hr3
          refine V_aload_n (i := 0) dX8_toNextToken_67 rfl 0 rfl ?_
          refine M_getI (x := nI (e + i + k)) dX8_toNextToken_68 lf_X8_22 rfl hb.1 (hx3.2.2.1) ?_
          refine V_aload_n (i := 0) dX8_toNextToken_71 rfl 0 rfl ?_
          refine M_getI (x := nI n) dX8_toNextToken_72 lf_X8_15 rfl hb.1 (hx3.1) ?_
          refine V_icmp_ge (tgt := 180) dX8_toNextToken_75 rfl (fun h75 => ?_) (fun h75 => ?_)
          · have h75 : n ≤ (e + i + k) := (nI_leI (by omega) (by omega)).mp h75
            refine V_vret dX8_toNextToken_180 ⟨rfl, rfl⟩ (Nat.zero_le _) (Nat.zero_le _) ?_
            subst hQ
            have hE : nxE n f (e + i) = e + i + k := by unfold nxE; rw [if_pos h64]; exact runTo_at (by omega) hr3 (Or.inl (by omega))
            exact ⟨_, _, rfl, rfl, rfl, by rw [hS, hE]; exact hx3.xt hB (by omega) (by omega), hx3.off⟩
          · have h75 : ¬ n ≤ (e + i + k) := fun q => h75 ((nI_leI (by omega) (by omega)).mpr q)
            refine V_aload_n (i := 0) dX8_toNextToken_78 rfl 0 rfl ?_
            refine V_aload_n (i := 0) dX8_toNextToken_79 rfl 0 rfl ?_
            refine M_getI (x := nI (e + i + k)) dX8_toNextToken_80 lf_X8_22 rfl hb.1 (hx3.2.2.1) ?_
            refine M_callVp (As := [.int (nI (e + i + k))]) (st := []) dX8_toNextToken_83 lv_X8_28 ⟨by decide, by decide⟩ ⟨rfl, rfl⟩ rfl (ci := 5) hb.1 rfl rfl (Nat.le_of_ble_eq_true rfl) (t_byteAt hb (hx3.xb hB) (k := e + i + k) (by omega)) ?_
            refine M_callSp (As := [.int (bAt n f (e + i + k))]) (st := []) dX8_toNextToken_86 ls_X8_32 ⟨by decide, by decide⟩ ⟨rfl, rfl⟩ rfl (Nat.le_of_ble_eq_true rfl) (t_isLetterAt hf) ?_
            refine V_if_eq (tgt := 180) dX8_toNextToken_89 rfl (fun h89 => ?_) (fun h89 => ?_)
            · have h89 : ¬ (letB n f (e + i + k) = true) := bI_eq0.mp h89
              refine V_vret dX8_toNextToken_180 ⟨rfl, rfl⟩ (Nat.zero_le _) (Nat.zero_le _) ?_
              subst hQ
              have hE : nxE n f (e + i) = e + i + k := by unfold nxE; rw [if_pos h64]; exact runTo_at (by omega) hr3 (Or.inr (Bool.eq_false_iff.mpr h89))
              exact ⟨_, _, rfl, rfl, rfl, by rw [hS, hE]; exact hx3.xt hB (by omega) (by omega), hx3.off⟩
            · have h89 : letB n f (e + i + k) = true := bI_ne.mp h89
              refine V_aload_n (i := 0) dX8_toNextToken_92 rfl 0 rfl ?_
              refine V_dup dX8_toNextToken_93 rfl ?_
              refine M_getI (x := nI (e + i + k)) dX8_toNextToken_94 lf_X8_22 rfl hb.1 (hx3.2.2.1) ?_
              refine V_iconst (v := nI 1) dX8_toNextToken_97 rfl ?_
              refine V_iadd dX8_toNextToken_98 ?_
              refine M_top (nI_add _ _) ?_
              refine M_putI dX8_toNextToken_99 lf_X8_22 rfl hb.1 ⟨rfl, rfl⟩ ?_
              refine V_goto (tgt := 67) dX8_toNextToken_102 rfl ?_
              refine V_sub [0] rfl ?_
              exact M_at (ih67 (by omega) (up2 iv3 b 3 (nI (e + i + k + 1))) hx3.e (fun j hj => (Nat.lt_or_ge j k).elim (hr3 j) (fun z => by have e9 : j = k := (by omega); rw [e9]; exact h89))) (rfl) rfl (rfl) (rfl)
        refine V_sub [0] rfl ?_
        exact M_at (lp67 0 (Nat.zero_le _) (up2 iv2 b 3 (nI (e + i))) hx.e (fun j hj => absurd hj (by omega))) (rfl) rfl (rfl) (rfl)
    · have h16 : ¬ n ≤ (e + i) := fun q => h16 ((nI_leI (by omega) (by omega)).mpr q)
      refine V_aload_n (i := 0) dX8_toNextToken_19 rfl 0 rfl ?_
      refine V_aload_n (i := 0) dX8_toNextToken_20 rfl 0 rfl ?_
      refine M_getI (x := nI (e + i)) dX8_toNextToken_21 lf_X8_19 rfl hb.1 (hx.2.1) ?_
      refine M_callVp (As := [.int (nI (e + i))]) (st := []) dX8_toNextToken_24 lv_X8_28 ⟨by decide, by decide⟩ ⟨rfl, rfl⟩ rfl (ci := 5) hb.1 rfl rfl (Nat.le_of_ble_eq_true rfl) (t_byteAt hb (hx.xb hB) (k := e + i) (by omega)) ?_
      refine V_bipush (v := nI 32) dX8_toNextToken_27 rfl ?_
      refine V_icmp_ne (tgt := 45) dX8_toNextToken_29 rfl (fun h29 => ?_) (fun h29 => ?_)
      · have h29 : ¬ spB n f (e + i) = true := fun z => h29 ((bAt_sp hf).mpr z)
        have hS : runTo (spB n f) n e = e + i := runTo_at (by omega) hr (Or.inr (Bool.eq_false_iff.mpr h29))
        refine V_aload_n (i := 0) dX8_toNextToken_45 rfl 0 rfl ?_
        refine V_aload_n (i := 0) dX8_toNextToken_46 rfl 0 rfl ?_
        refine M_getI (x := nI (e + i)) dX8_toNextToken_47 lf_X8_19 rfl hb.1 (hx.2.1) ?_
        refine M_putI dX8_toNextToken_50 lf_X8_22 rfl hb.1 ⟨rfl, rfl⟩ ?_
        refine V_aload_n (i := 0) dX8_toNextToken_53 rfl 0 rfl ?_
        refine V_aload_n (i := 0) dX8_toNextToken_54 rfl 0 rfl ?_
        refine M_getI (x := nI (e + i)) dX8_toNextToken_55 lf_X8_19 rfl hb.1 ((up2_k (by omega)).trans (hx.2.1)) ?_
        refine M_callVp (As := [.int (nI (e + i))]) (st := []) dX8_toNextToken_58 lv_X8_28 ⟨by decide, by decide⟩ ⟨rfl, rfl⟩ rfl (ci := 5) hb.1 rfl rfl (Nat.le_of_ble_eq_true rfl) (t_byteAt hb (hx.e.xb hB) (k := e + i) (by omega)) ?_
        refine M_callSp (As := [.int (bAt n f (e + i))]) (st := []) dX8_toNextToken_61 ls_X8_32 ⟨by decide, by decide⟩ ⟨rfl, rfl⟩ rfl (Nat.le_of_ble_eq_true rfl) (t_isLetterAt hf) ?_
        refine V_if_eq (tgt := 105) dX8_toNextToken_64 rfl (fun h64 => ?_) (fun h64 => ?_)
        · have h64 : ¬ (letB n f (e + i) = true) := bI_eq0.mp h64
          refine V_aload_n (i := 0) dX8_toNextToken_105 rfl 0 rfl ?_
          refine V_aload_n (i := 0) dX8_toNextToken_106 rfl 0 rfl ?_
          refine M_getI (x := nI (e + i)) dX8_toNextToken_107 lf_X8_19 rfl hb.1 ((up2_k (by omega)).trans (hx.2.1)) ?_
          refine M_callVp (As := [.int (nI (e + i))]) (st := []) dX8_toNextToken_110 lv_X8_28 ⟨by decide, by decide⟩ ⟨rfl, rfl⟩ rfl (ci := 5) hb.1 rfl rfl (Nat.le_of_ble_eq_true rfl) (t_byteAt hb (hx.e.xb hB) (k := e + i) (by omega)) ?_
          refine M_callSp (As := [.int (bAt n f (e + i))]) (st := []) dX8_toNextToken_113 ls_X8_36 ⟨by decide, by decide⟩ ⟨rfl, rfl⟩ rfl (Nat.le_of_ble_eq_true rfl) (t_isDigitAt hf) ?_
          refine V_if_eq (tgt := 157) dX8_toNextToken_116 rfl (fun h116 => ?_) (fun h116 => ?_)
          · have h116 : ¬ (digB n f (e + i) = true) := bI_eq0.mp h116
            refine V_aload_n (i := 0) dX8_toNextToken_157 rfl 0 rfl ?_
            refine V_aload_n (i := 0) dX8_toNextToken_158 rfl 0 rfl ?_
            refine M_getI (x := nI (e + i)) dX8_toNextToken_159 lf_X8_19 rfl hb.1 ((up2_k (by omega)).trans (hx.2.1)) ?_
            refine M_callVp (As := [.int (nI (e + i))]) (st := []) dX8_toNextToken_162 lv_X8_28 ⟨by decide, by decide⟩ ⟨rfl, rfl⟩ rfl (ci := 5) hb.1 rfl rfl (Nat.le_of_ble_eq_true rfl) (t_byteAt hb (hx.e.xb hB) (k := e + i) (by omega)) ?_
            refine V_bipush (v := nI 59) dX8_toNextToken_165 rfl ?_
            refine V_icmp_ne (tgt := 180) dX8_toNextToken_167 rfl (fun h167 => ?_) (fun h167 => ?_)
            · have h167 : ¬ sgB n f (e + i) = true := fun z => h167 ((bAt_sg hf).mpr z)
              refine V_vret dX8_toNextToken_180 ⟨rfl, rfl⟩ (Nat.zero_le _) (Nat.zero_le _) ?_
              subst hQ
              have hE : nxE n f (e + i) = e + i := by unfold nxE; rw [if_neg h64, if_neg h116, if_neg h167]
              exact ⟨_, _, rfl, rfl, rfl, by rw [hS, hE]; exact hx.e.xt hB (by omega) (by omega), hx.e.off⟩
            · have h167 : sgB n f (e + i) = true := (bAt_sg hf).mp h167
              refine V_aload_n (i := 0) dX8_toNextToken_170 rfl 0 rfl ?_
              refine V_dup dX8_toNextToken_171 rfl ?_
              refine M_getI (x := nI (e + i)) dX8_toNextToken_172 lf_X8_22 rfl hb.1 (up2_s) ?_
              refine V_iconst (v := nI 1) dX8_toNextToken_175 rfl ?_
              refine V_iadd dX8_toNextToken_176 ?_
              refine M_top (nI_add _ _) ?_
              refine M_putI dX8_toNextToken_177 lf_X8_22 rfl hb.1 ⟨rfl, rfl⟩ ?_
              refine V_vret dX8_toNextToken_180 ⟨rfl, rfl⟩ (Nat.zero_le _) (Nat.zero_le _) ?_
              subst hQ
              have hE : nxE n f (e + i) = e + i + 1 := by unfold nxE; rw [if_neg h64, if_neg h116, if_pos h167]
              have hlt := (of_decide_eq_true h167).1
              exact ⟨_, _, rfl, rfl, rfl, by rw [hS, hE]; exact hx.e.e.xt hB (by omega) (by omega), hx.e.e.off⟩
          · have h116 : digB n f (e + i) = true := bI_ne.mp h116
            have lp119 : ∀ k, k ≤ (n - (e + i)) → ∀ iv3 : IV, XTf iv iv3 b n (e + i) (e + i + k) → (∀ j, j < k → digB n f (e + i + j) = true) → VM g mX8_toNextToken 119 [(0, .ref (b))] [] S iv3 lw Q := by
              refine up_ind fun k hk ih119 => ?_
              intro iv3 hx3 hr3
              refine V_aload_n (i := 0) dX8_toNextToken_119 rfl 0 rfl ?_
              refine M_getI (x := nI (e + i + k)) dX8_toNextToken_120 lf_X8_22 rfl hb.1 (hx3.2.2.1) ?_
              refine V_aload_n (i := 0) dX8_toNextToken_123 rfl 0 rfl ?_
              refine M_getI (x := nI n) dX8_toNextToken_124 lf_X8_15 rfl hb.1 (hx3.1) ?_
              refine V_icmp_ge (tgt := 180) dX8_toNextToken_127 rfl (fun h127 => ?_) (fun h127 => ?_)
              · have h127 : n ≤ (e + i + k) := (nI_leI (by omega) (by omega)).mp h127
                refine V_vret dX8_toNextToken_180 ⟨rfl, rfl⟩ (Nat.zero_le _) (Nat.zero_le _) ?_
                subst hQ
                have hE : nxE n f (e + i) = e + i + k := by unfold nxE; rw [if_neg h64, if_pos h116]; exact runTo_at (by omega) hr3 (Or.inl (by omega))
                exact ⟨_, _, rfl, rfl, rfl, by rw [hS, hE]; exact hx3.xt hB (by omega) (by omega), hx3.off⟩
              · have h127 : ¬ n ≤ (e + i + k) := fun q => h127 ((nI_leI (by omega) (by omega)).mpr q)
                refine V_aload_n (i := 0) dX8_toNextToken_130 rfl 0 rfl ?_
                refine V_aload_n (i := 0) dX8_toNextToken_131 rfl 0 rfl ?_
                refine M_getI (x := nI (e + i + k)) dX8_toNextToken_132 lf_X8_22 rfl hb.1 (hx3.2.2.1) ?_
                refine M_callVp (As := [.int (nI (e + i + k))]) (st := []) dX8_toNextToken_135 lv_X8_28 ⟨by decide, by decide⟩ ⟨rfl, rfl⟩ rfl (ci := 5) hb.1 rfl rfl (Nat.le_of_ble_eq_true rfl) (t_byteAt hb (hx3.xb hB) (k := e + i + k) (by omega)) ?_
                refine M_callSp (As := [.int (bAt n f (e + i + k))]) (st := []) dX8_toNextToken_138 ls_X8_36 ⟨by decide, by decide⟩ ⟨rfl, rfl⟩ rfl (Nat.le_of_ble_eq_true rfl) (t_isDigitAt hf) ?_
                refine V_if_eq (tgt := 180) dX8_toNextToken_141 rfl (fun h141 => ?_) (fun h141 => ?_)
                · have h141 : ¬ (digB n f (e + i + k) = true) := bI_eq0.mp h141
                  refine V_vret dX8_toNextToken_180 ⟨rfl, rfl⟩ (Nat.zero_le _) (Nat.zero_le _) ?_
                  subst hQ
                  have hE : nxE n f (e + i) = e + i + k := by unfold nxE; rw [if_neg h64, if_pos h116]; exact runTo_at (by omega) hr3 (Or.inr (Bool.eq_false_iff.mpr h141))
                  exact ⟨_, _, rfl, rfl, rfl, by rw [hS, hE]; exact hx3.xt hB (by omega) (by omega), hx3.off⟩
                · have h141 : digB n f (e + i + k) = true := bI_ne.mp h141
                  refine V_aload_n (i := 0) dX8_toNextToken_144 rfl 0 rfl ?_
                  refine V_dup dX8_toNextToken_145 rfl ?_
                  refine M_getI (x := nI (e + i + k)) dX8_toNextToken_146 lf_X8_22 rfl hb.1 (hx3.2.2.1) ?_
                  refine V_iconst (v := nI 1) dX8_toNextToken_149 rfl ?_
                  refine V_iadd dX8_toNextToken_150 ?_
                  refine M_top (nI_add _ _) ?_
                  refine M_putI dX8_toNextToken_151 lf_X8_22 rfl hb.1 ⟨rfl, rfl⟩ ?_
                  refine V_goto (tgt := 119) dX8_toNextToken_154 rfl ?_
                  refine V_sub [0] rfl ?_
                  exact M_at (ih119 (by omega) (up2 iv3 b 3 (nI (e + i + k + 1))) hx3.e (fun j hj => (Nat.lt_or_ge j k).elim (hr3 j) (fun z => by have e9 : j = k := (by omega); rw [e9]; exact h141))) (rfl) rfl (rfl) (rfl)
            refine V_sub [0] rfl ?_
            exact M_at (lp119 0 (Nat.zero_le _) (up2 iv2 b 3 (nI (e + i))) hx.e (fun j hj => absurd hj (by omega))) (rfl) rfl (rfl) (rfl)
        · have h64 : letB n f (e + i) = true := bI_ne.mp h64
          have lp67 : ∀ k, k ≤ (n - (e + i)) → ∀ iv3 : IV, XTf iv iv3 b n (e + i) (e + i + k) → (∀ j, j < k → letB n f (e + i + j) = true) → VM g mX8_toNextToken 67 [(0, .ref (b))] [] S iv3 lw Q := by
            refine up_ind fun k hk ih67 => ?_
            intro iv3 hx3 hr3
            refine V_aload_n (i := 0) dX8_toNextToken_67 rfl 0 rfl ?_
            refine M_getI (x := nI (e + i + k)) dX8_toNextToken_68 lf_X8_22 rfl hb.1 (hx3.2.2.1) ?_
            refine V_aload_n (i := 0) dX8_toNextToken_71 rfl 0 rfl ?_
            refine M_getI (x := nI n) dX8_toNextToken_72 lf_X8_15 rfl hb.1 (hx3.1) ?_
            refine V_icmp_ge (tgt := 180) dX8_toNextToken_75 rfl (fun h75 => ?_) (fun h75 => ?_)
            · have h75 : n ≤ (e + i + k) := (nI_leI (by omega) (by omega)).mp h75
              refine V_vret dX8_toNextToken_180 ⟨rfl, rfl⟩ (Nat.zero_le _) (Nat.zero_le _) ?_
              subst hQ
              have hE : nxE n f (e + i) = e + i + k := by unfold nxE; rw [if_pos h64]; exact runTo_at (by omega) hr3 (Or.inl (by omega))
              exact ⟨_, _, rfl, rfl, rfl, by rw [hS, hE]; exact hx3.xt hB (by omega) (by omega), hx3.off⟩
            · have h75 : ¬ n ≤ (e + i + k) := fun q => h75 ((nI_leI (by omega) (by omega)).mpr q)
              refine V_aload_n (i := 0) dX8_toNextToken_78 rfl 0 rfl ?_
              refine V_aload_n (i := 0) dX8_toNextToken_79 rfl 0 rfl ?_
              refine M_getI (x := nI (e + i + k)) dX8_toNextToken_80 lf_X8_22 rfl hb.1 (hx3.2.2.1) ?_
              refine M_callVp (As := [.int (nI (e + i + k))]) (st := []) dX8_toNextToken_83 lv_X8_28 ⟨by decide, by decide⟩ ⟨rfl, rfl⟩ rfl (ci := 5) hb.1 rfl rfl (Nat.le_of_ble_eq_true rfl) (t_byteAt hb (hx3.xb hB) (k := e + i + k) (by omega)) ?_
              refine M_callSp (As := [.int (bAt n f (e + i + k))]) (st := []) dX8_toNextToken_86 ls_X8_32 ⟨by decide, by decide⟩ ⟨rfl, rfl⟩ rfl (Nat.le_of_ble_eq_true rfl) (t_isLetterAt hf) ?_
              refine V_if_eq (tgt := 180) dX8_toNextToken_89 rfl (fun h89 => ?_) (fun h89 => ?_)
              · have h89 : ¬ (letB n f (e + i + k) = true) := bI_eq0.mp h89
                refine V_vret dX8_toNextToken_180 ⟨rfl, rfl⟩ (Nat.zero_le _) (Nat.zero_le _) ?_
                subst hQ
                have hE : nxE n f (e + i) = e + i + k := by unfold nxE; rw [if_pos h64]; exact runTo_at (by omega) hr3 (Or.inr (Bool.eq_false_iff.mpr h89))
                exact ⟨_, _, rfl, rfl, rfl, by rw [hS, hE]; exact hx3.xt hB (by omega) (by omega), hx3.off⟩
              · have h89 : letB n f (e + i + k) = true := bI_ne.mp h89
                refine V_aload_n (i := 0) dX8_toNextToken_92 rfl 0 rfl ?_
                refine V_dup dX8_toNextToken_93 rfl ?_
                refine M_getI (x := nI (e + i + k)) dX8_toNextToken_94 lf_X8_22 rfl hb.1 (hx3.2.2.1) ?_
                refine V_iconst (v := nI 1) dX8_toNextToken_97 rfl ?_
                refine V_iadd dX8_toNextToken_98 ?_
                refine M_top (nI_add _ _) ?_
                refine M_putI dX8_toNextToken_99 lf_X8_22 rfl hb.1 ⟨rfl, rfl⟩ ?_
                refine V_goto (tgt := 67) dX8_toNextToken_102 rfl ?_
                refine V_sub [0] rfl ?_
                exact M_at (ih67 (by omega) (up2 iv3 b 3 (nI (e + i + k + 1))) hx3.e (fun j hj => (Nat.lt_or_ge j k).elim (hr3 j) (fun z => by have e9 : j = k := (by omega); rw [e9]; exact h89))) (rfl) rfl (rfl) (rfl)
          refine V_sub [0] rfl ?_
          exact M_at (lp67 0 (Nat.zero_le _) (up2 iv2 b 3 (nI (e + i))) hx.e (fun j hj => absurd hj (by omega))) (rfl) rfl (rfl) (rfl)
      · have h29 : spB n f (e + i) = true := (bAt_sp hf).mp h29
        refine V_aload_n (i := 0) dX8_toNextToken_32 rfl 0 rfl ?_
        refine V_dup dX8_toNextToken_33 rfl ?_
        refine M_getI (x := nI (e + i)) dX8_toNextToken_34 lf_X8_19 rfl hb.1 (hx.2.1) ?_
        refine V_iconst (v := nI 1) dX8_toNextToken_37 rfl ?_
        refine V_iadd dX8_toNextToken_38 ?_
        refine M_top (nI_add _ _) ?_
        refine M_putI dX8_toNextToken_39 lf_X8_19 rfl hb.1 ⟨rfl, rfl⟩ ?_
        refine V_goto (tgt := 8) dX8_toNextToken_42 rfl ?_
        refine V_sub [0] rfl ?_
        exact M_at (ih8 (by omega) (up2 iv2 b 2 (nI (e + i + 1))) hx.s (fun j hj => (Nat.lt_or_ge j i).elim (hr j) (fun z => by have e9 : j = i := (by omega); rw [e9]; exact h29))) (rfl) rfl (rfl) (rfl)
  refine V_sub [0] rfl ?_
  exact M_at (lp8 0 (Nat.zero_le _) (up2 iv b 2 (nI e)) ⟨(up2_k (by decide)).trans hB.2.1, up2_s, (up2_k (by decide)).trans he, fun a ha => up2_a ha⟩ (fun j hj => absurd hj (by omega))) (rfl) rfl (rfl) (rfl)
set_option maxRecDepth 20000 in
theorem t_toFirstToken {g : Ev} {S : St} {iv : IV} {lw : LW} {b : Nat} (hb : IsTape S b) {n : Nat} {f : Nat → Nat} (hB : XB iv b n f) : CN g mX8_toFirstToken [.ref (b)] S iv lw (fun iv2 lw2 => lw = lw2 ∧ XTp iv2 b n f (runTo (spB n f) n 0) (nxE n f (runTo (spB n f) n 0)) ∧ Off b 1 iv iv2) := by
  refine CT_ofQ rfl (by decide) (Nat.le_of_ble_eq_true rfl) (lv := [(0, .ref (b))]) rfl (fun Q hQ => ?_)
  refine V_aload_n (i := 0) dX8_toFirstToken_0 rfl 0 rfl ?_
  refine V_iconst (v := nI 0) dX8_toFirstToken_1 rfl ?_
  refine M_putI dX8_toFirstToken_2 lf_X8_22 rfl hb.1 ⟨rfl, rfl⟩ ?_
  refine V_aload_n (i := 0) dX8_toFirstToken_5 rfl 0 rfl ?_
  refine M_callVn (As := []) (st := []) dX8_toFirstToken_6 lv_X8_25 ⟨by decide, by decide⟩ ⟨rfl, rfl⟩ rfl (ci := 5) hb.1 rfl rfl (Nat.le_of_ble_eq_true rfl) (t_toNextToken hb (iv := up2 iv b 3 (nI 0)) (n := n) (f := f) (e := 0) (hB.of (up2_k (by decide)) (up2_a (by omega))) (by omega) up2_s) (fun iv6 lw6 q6 => ?_)
  obtain ⟨e1, hX6, hO6⟩ := q6
  subst e1
  refine V_vret dX8_toFirstToken_9 ⟨rfl, rfl⟩ (Nat.zero_le _) (Nat.zero_le _) ?_
  subst hQ
  exact ⟨_, _, rfl, rfl, rfl, hX6, Off.tr (Off.rf.up (by omega) (by omega)) hO6⟩
