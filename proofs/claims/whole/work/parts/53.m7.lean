/-! the reference reads -/
def kdT (n : Nat) (f : Nat → Nat) (s : Nat) : Nat := if ¬ s < n then 0 else if letB n f s = true then 1 else if digB n f s = true then 2 else if sgB n f s = true then 3 else 4
def atT (n : Nat) (f : Nat → Nat) (s : Nat) : Nat := if kdT n f s = 4 then s + 1 else nxE n f s
def figK (f : Nat → Nat) (s k : Nat) : Nat := if k ≤ 4 then numTo f s k else 100000
def figT (n : Nat) (f : Nat → Nat) (s : Nat) : Nat := figK f s (nxE n f s - s)
/-- a token has been read: it begins at s -/
def MTk (iv : IV) (b n : Nat) (f : Nat → Nat) (s : Nat) : Prop := s ≤ n ∧ iv b 27 = nI s ∧ iv b 26 = nI (kdT n f s) ∧ iv b 25 = nI (atT n f s) ∧ (kdT n f s = 2 → iv b 28 = nI (figT n f s))
/-- only the token has changed -/
def MTt (b : Nat) (iv iv2 : IV) : Prop := ∀ a k, ¬ (a = b ∧ 25 ≤ k ∧ k ≤ 28) → iv2 a k = iv a k
theorem MTt.rf {b : Nat} {iv : IV} : MTt b iv iv := fun _ _ _ => rfl
theorem MTt.tr {b : Nat} {iv iv2 iv3 : IV} (h : MTt b iv iv2) (h2 : MTt b iv2 iv3) : MTt b iv iv3 := fun a k p => (h2 a k p).trans (h a k p)
theorem MTt.up {b k : Nat} {iv iv2 : IV} {v : Int32} (h : MTt b iv iv2) (hk : 25 ≤ k ∧ k ≤ 28) : MTt b iv (up2 iv2 b k v) := fun a q p => by
  rw [up2_o (by omega)]
  exact h a q p
theorem MTt.mt {b n : Nat} {f : Nat → Nat} {iv iv2 : IV} (h : MTt b iv iv2) (hT : MT iv b n f) : MT iv2 b n f := hT.fr (h _ _ (by omega)) (fun k => h _ _ (by omega))
theorem run_to {p : Nat → Bool} {n e j : Nat} (h1 : e ≤ j) (h2 : j ≤ n) (h : ∀ k, e ≤ k → k < j → p k = true) (h3 : j = n ∨ p j = false) : runTo p n e = j := by
  have := runTo_at (p := p) (n := n) (k := e) (i := j - e) (by omega) (fun q hq => h (e + q) (by omega) (by omega)) (by rw [show e + (j - e) = j by omega]; exact h3.elim (fun q => Or.inl (by omega)) Or.inr)
  omega
abbrev tpQ (n : Nat) (f : Nat → Nat) : Prop := n ≤ 250 ∧ ∀ i, i < n → f i ≤ 255
theorem let_i {n k : Nat} {f : Nat → Nat} (h : k < n) : (97 ≤ f k ∧ f k ≤ 122) ↔ letB n f k = true := by unfold letB; rw [decide_eq_true_eq]; omega
theorem dig_i {n k : Nat} {f : Nat → Nat} (h : k < n) : (48 ≤ f k ∧ f k ≤ 57) ↔ digB n f k = true := by unfold digB; rw [decide_eq_true_eq]; omega
theorem bl_f {p : Prop} [Decidable p] (h : ¬ p) : decide p = false := decide_eq_false h
theorem k_0 {n s : Nat} {f : Nat → Nat} (h : ¬ s < n) : kdT n f s = 0 := if_pos h
theorem k_1 {n s : Nat} {f : Nat → Nat} (h : s < n) (h1 : letB n f s = true) : kdT n f s = 1 := by unfold kdT; rw [if_neg (fun z => z h), if_pos h1]
theorem k_2 {n s : Nat} {f : Nat → Nat} (h : s < n) (h1 : ¬ letB n f s = true) (h2 : digB n f s = true) : kdT n f s = 2 := by unfold kdT; rw [if_neg (fun z => z h), if_neg h1, if_pos h2]
theorem k_3 {n s : Nat} {f : Nat → Nat} (h : s < n) (h1 : ¬ letB n f s = true) (h2 : ¬ digB n f s = true) (h3 : sgB n f s = true) : kdT n f s = 3 := by unfold kdT; rw [if_neg (fun z => z h), if_neg h1, if_neg h2, if_pos h3]
theorem k_4 {n s : Nat} {f : Nat → Nat} (h : s < n) (h1 : ¬ letB n f s = true) (h2 : ¬ digB n f s = true) (h3 : ¬ sgB n f s = true) : kdT n f s = 4 := by unfold kdT; rw [if_neg (fun z => z h), if_neg h1, if_neg h2, if_neg h3]
theorem nx_0 {n s : Nat} {f : Nat → Nat} (h : ¬ s < n) : nxE n f s = s := by
  unfold nxE
  rw [if_neg (fun z => h (of_decide_eq_true z).1), if_neg (fun z => h (of_decide_eq_true z).1), if_neg (fun z => h (of_decide_eq_true z).1)]
theorem at_n {n s : Nat} {f : Nat → Nat} (h : ¬ kdT n f s = 4) : atT n f s = nxE n f s := if_neg h
theorem k_eq {n s : Nat} {f : Nat → Nat} : (kdT n f s = 0 ∧ ¬ s < n) ∨ (kdT n f s = 1 ∧ letB n f s = true) ∨ (kdT n f s = 2 ∧ digB n f s = true ∧ ¬ letB n f s = true) ∨ (kdT n f s = 3 ∧ sgB n f s = true) ∨ (kdT n f s = 4 ∧ ¬ letB n f s = true ∧ ¬ digB n f s = true ∧ ¬ sgB n f s = true) := by
  by_cases h : s < n
  · by_cases h1 : letB n f s = true
    · exact Or.inr (Or.inl ⟨k_1 h h1, h1⟩)
    · by_cases h2 : digB n f s = true
      · exact Or.inr (Or.inr (Or.inl ⟨k_2 h h1 h2, h2, h1⟩))
      · by_cases h3 : sgB n f s = true
        · exact Or.inr (Or.inr (Or.inr (Or.inl ⟨k_3 h h1 h2 h3, h3⟩)))
        · exact Or.inr (Or.inr (Or.inr (Or.inr ⟨k_4 h h1 h2 h3, h1, h2, h3⟩)))
  · exact Or.inl ⟨k_0 h, h⟩
theorem nx_le {n s : Nat} {f : Nat → Nat} (h : s ≤ n) : s ≤ nxE n f s ∧ nxE n f s ≤ n := by
  have hr : ∀ p : Nat → Bool, s ≤ runTo p n s := fun p => by unfold runTo; omega
  unfold nxE
  split
  · exact ⟨hr _, runTo_le h⟩
  · split
    · exact ⟨hr _, runTo_le h⟩
    · split
      · rename_i hs
        have := (of_decide_eq_true hs).1
        omega
      · exact ⟨Nat.le_refl _, h⟩
theorem fig_s {f : Nat → Nat} {s k : Nat} (h : k < 4) (h48 : 48 ≤ f (s + k)) : nI (figK f s k * 10 + f (s + k)) - nI 48 = nI (figK f s (k + 1)) := by
  rw [nI_sub (by omega)]
  unfold figK
  rw [if_pos (show k ≤ 4 by omega), if_pos (show k + 1 ≤ 4 by omega)]
  show _ = nI (10 * numTo f s k + (f (s + k) - 48))
  congr 1
  omega
theorem fig_o {f : Nat → Nat} {s k : Nat} (h : 4 ≤ k) : nI 100000 = nI (figK f s (k + 1)) := by unfold figK; rw [if_neg (by omega)]
theorem wch_let : ∀ i, i < 6 → 97 ≤ (wch i 0).toInt ∧ (wch i 0).toInt ≤ 122 := by decide +kernel
theorem sl_3 : ∀ i, i < 6 → 3 ≤ sl i := by decide +kernel
theorem word_k {n : Nat} {f : Nat → Nat} {s e i : Nat} (hi : i < 6) (hq : tpQ n f) (h : wordB n f s e i = true) : letB n f s = true := by
  unfold wordB at h
  rw [Bool.and_eq_true] at h
  have h0 := of_decide_eq_true ((allTo_iff (sl i)).mp h.2 0 (by have := sl_3 i hi; omega))
  rw [Nat.add_zero] at h0
  exact (bAt_let hq.2).mp (by rw [h0]; exact wch_let i hi)
theorem word_go {n : Nat} {f : Nat → Nat} {s e i : Nat} (h : e - s = sl i) : wordB n f s e i = allTo (fun k => decide (bAt n f (s + k) = wch i k)) (sl i) := by unfold wordB; rw [decide_eq_true h, Bool.true_and]
theorem let_k {n s : Nat} {f : Nat → Nat} (h : letB n f s = true) : kdT n f s = 1 := k_1 (of_decide_eq_true h).1 h
set_option maxRecDepth 20000 in
theorem r_isLetter {g : Ev} {S : St} {iv : IV} {lw : LW} {x : Nat} (hx : x ≤ 255) : CP g mX10_isLetter [.int (nI x)] S iv lw (.int (bI (97 ≤ x ∧ x ≤ 122))) := by
  refine CT_ofQ rfl (by decide) (Nat.le_of_ble_eq_true rfl) (lv := [(0, .int (nI x))]) rfl (fun Q hQ => ?_)
  refine V_iload_n (i := 0) dX10_isLetter_0 rfl 0 rfl ?_
  refine V_bipush (v := nI 97) dX10_isLetter_1 rfl ?_
  refine V_icmp_lt (tgt := 16) dX10_isLetter_3 rfl (fun h3 => ?_) (fun h3 => ?_)
  · have h3 : x < 97 := (nI_ltI (by omega) (by omega)).mp h3
    refine V_iconst (v := nI 0) dX10_isLetter_16 rfl ?_
    refine V_zret dX10_isLetter_17 ⟨rfl, rfl⟩ (by rfl) (Nat.zero_le _) (Nat.zero_le _) ?_
    subst hQ
    exact ⟨by rw [bI_f (by omega)], rfl⟩
  · have h3 : ¬ x < 97 := fun q => h3 ((nI_ltI (by omega) (by omega)).mpr q)
    refine V_iload_n (i := 0) dX10_isLetter_6 rfl 0 rfl ?_
    refine V_bipush (v := nI 122) dX10_isLetter_7 rfl ?_
    refine V_icmp_gt (tgt := 16) dX10_isLetter_9 rfl (fun h9 => ?_) (fun h9 => ?_)
    · have h9 : 122 < x := (nI_ltI (by omega) (by omega)).mp h9
      refine V_iconst (v := nI 0) dX10_isLetter_16 rfl ?_
      refine V_zret dX10_isLetter_17 ⟨rfl, rfl⟩ (by rfl) (Nat.zero_le _) (Nat.zero_le _) ?_
      subst hQ
      exact ⟨by rw [bI_f (by omega)], rfl⟩
    · have h9 : ¬ 122 < x := fun q => h9 ((nI_ltI (by omega) (by omega)).mpr q)
      refine V_iconst (v := nI 1) dX10_isLetter_12 rfl ?_
      refine V_goto (tgt := 17) dX10_isLetter_13 rfl ?_
      refine V_zret dX10_isLetter_17 ⟨rfl, rfl⟩ (by rfl) (Nat.zero_le _) (Nat.zero_le _) ?_
      subst hQ
      exact ⟨by rw [bI_t (by omega)], rfl⟩
set_option maxRecDepth 20000 in
theorem r_isDigit {g : Ev} {S : St} {iv : IV} {lw : LW} {x : Nat} (hx : x ≤ 255) : CP g mX10_isDigit [.int (nI x)] S iv lw (.int (bI (48 ≤ x ∧ x ≤ 57))) := by
  refine CT_ofQ rfl (by decide) (Nat.le_of_ble_eq_true rfl) (lv := [(0, .int (nI x))]) rfl (fun Q hQ => ?_)
  refine V_iload_n (i := 0) dX10_isDigit_0 rfl 0 rfl ?_
  refine V_bipush (v := nI 48) dX10_isDigit_1 rfl ?_
  refine V_icmp_lt (tgt := 16) dX10_isDigit_3 rfl (fun h3 => ?_) (fun h3 => ?_)
  · have h3 : x < 48 := (nI_ltI (by omega) (by omega)).mp h3
    refine V_iconst (v := nI 0) dX10_isDigit_16 rfl ?_
    refine V_zret dX10_isDigit_17 ⟨rfl, rfl⟩ (by rfl) (Nat.zero_le _) (Nat.zero_le _) ?_
    subst hQ
    exact ⟨by rw [bI_f (by omega)], rfl⟩
  · have h3 : ¬ x < 48 := fun q => h3 ((nI_ltI (by omega) (by omega)).mpr q)
    refine V_iload_n (i := 0) dX10_isDigit_6 rfl 0 rfl ?_
    refine V_bipush (v := nI 57) dX10_isDigit_7 rfl ?_
    refine V_icmp_gt (tgt := 16) dX10_isDigit_9 rfl (fun h9 => ?_) (fun h9 => ?_)
    · have h9 : 57 < x := (nI_ltI (by omega) (by omega)).mp h9
      refine V_iconst (v := nI 0) dX10_isDigit_16 rfl ?_
      refine V_zret dX10_isDigit_17 ⟨rfl, rfl⟩ (by rfl) (Nat.zero_le _) (Nat.zero_le _) ?_
      subst hQ
      exact ⟨by rw [bI_f (by omega)], rfl⟩
    · have h9 : ¬ 57 < x := fun q => h9 ((nI_ltI (by omega) (by omega)).mpr q)
      refine V_iconst (v := nI 1) dX10_isDigit_12 rfl ?_
      refine V_goto (tgt := 17) dX10_isDigit_13 rfl ?_
      refine V_zret dX10_isDigit_17 ⟨rfl, rfl⟩ (by rfl) (Nat.zero_le _) (Nat.zero_le _) ?_
      subst hQ
      exact ⟨by rw [bI_t (by omega)], rfl⟩
set_option maxRecDepth 20000 in
theorem r_token {g : Ev} {S : St} {iv : IV} {lw : LW} {b : Nat} (hb : IsMod S b) {n : Nat} {f : Nat → Nat} (hT : MT iv b n f) (hq : tpQ n f) {e : Nat} (he : e ≤ n) (h25 : iv b 25 = nI e) : CN g mX10_token [.ref (b)] S iv lw (fun iv2 lw2 => lw = lw2 ∧ MTk iv2 b n f (tok n f e).1 ∧ MTt b iv iv2) := by
  refine CT_ofQ rfl (by decide) (Nat.le_of_ble_eq_true rfl) (lv := [(0, .ref (b))]) rfl (fun Q hQ => ?_)
  have hn250 := hq.1
  have lp0 : ∀ j, j ≤ n → ∀ iv2 : IV, iv2 b 25 = nI j → MTt b iv iv2 → (∀ k, e ≤ k → k < j → spB n f k = true) → e ≤ j → VM g mX10_token 0 [(0, .ref (b))] [] S iv2 lw Q := by
    refine up_ind fun j hj ih0 => ?_
    intro iv2 h25 hO hsp hej
    refine V_aload_n (i := 0) dX10_token_0 rfl 0 rfl ?_
    refine M_getI (x := nI j) dX10_token_1 lf_X10_167 rfl hb.1 (h25) ?_
    refine V_aload_n (i := 0) dX10_token_4 rfl 0 rfl ?_
    refine M_getI (x := nI n) dX10_token_5 lf_X10_164 rfl hb.1 ((hO _ _ (by omega)).trans hT.1) ?_
    refine V_icmp_ge (tgt := 38) dX10_token_8 rfl (fun h8 => ?_) (fun h8 => ?_)
    · have h8 : n ≤ j := (nI_leI (by omega) (by omega)).mp h8
      have hs9 : (runTo (spB n f) n e) = j := run_to hej hj hsp (Or.inl (by omega))
      refine V_aload_n (i := 0) dX10_token_38 rfl 0 rfl ?_
      refine V_aload_n (i := 0) dX10_token_39 rfl 0 rfl ?_
      refine M_getI (x := nI j) dX10_token_40 lf_X10_167 rfl hb.1 (h25) ?_
      refine M_putI dX10_token_43 lf_X10_170 rfl hb.1 ⟨rfl, rfl⟩ ?_
      refine V_aload_n (i := 0) dX10_token_46 rfl 0 rfl ?_
      refine V_iconst (v := nI 0) dX10_token_47 rfl ?_
      refine M_putI dX10_token_48 lf_X10_173 rfl hb.1 ⟨rfl, rfl⟩ ?_
      refine V_aload_n (i := 0) dX10_token_51 rfl 0 rfl ?_
      refine M_getI (x := nI j) dX10_token_52 lf_X10_167 rfl hb.1 ((up2_k (by omega)).trans ((up2_k (by omega)).trans (h25))) ?_
      refine V_aload_n (i := 0) dX10_token_55 rfl 0 rfl ?_
      refine M_getI (x := nI n) dX10_token_56 lf_X10_164 rfl hb.1 ((up2_k (by omega)).trans ((up2_k (by omega)).trans ((hO _ _ (by omega)).trans hT.1))) ?_
      refine V_icmp_ne (tgt := 70) dX10_token_59 rfl (fun q => absurd (by rw [show j = n by omega]) q) (fun _ => ?_)
      refine V_aload_n (i := 0) dX10_token_62 rfl 0 rfl ?_
      refine V_iconst (v := nI 0) dX10_token_63 rfl ?_
      refine M_putI dX10_token_64 lf_X10_176 rfl hb.1 ⟨rfl, rfl⟩ ?_
      refine V_goto (tgt := 263) dX10_token_67 rfl ?_
      refine V_vret dX10_token_263 ⟨rfl, rfl⟩ (Nat.zero_le _) (Nat.zero_le _) ?_
      subst hQ
      have hkd : kdT n f j = 0 := k_0 (by omega)
      have hat : atT n f j = j := (at_n (by rw [hkd]; decide)).trans (nx_0 (by omega))
      exact ⟨_, _, rfl, rfl, rfl, by show MTk _ b n f (runTo (spB n f) n e); rw [hs9]; exact ⟨hj, (up2_k (by decide)).trans ((up2_k (by decide)).trans up2_s), by rw [hkd]; exact up2_s, by rw [hat]; exact (up2_k (by decide)).trans ((up2_k (by decide)).trans ((up2_k (by decide)).trans h25)), fun z => by rw [hkd] at z; cases z⟩, ((hO.up (by omega)).up (by omega)).up (by omega)⟩
    · have h8 : ¬ n ≤ j := fun q => h8 ((nI_leI (by omega) (by omega)).mpr q)
      refine V_aload_n (i := 0) dX10_token_11 rfl 0 rfl ?_
      refine M_getR dX10_token_12 lf_X10_31 rfl hb.1 hb.2.2.2.2.2.2.2.1.1 ?_
      refine V_aload_n (i := 0) dX10_token_15 rfl 0 rfl ?_
      refine M_getI (x := nI j) dX10_token_16 lf_X10_167 rfl hb.1 (h25) ?_
      have hfj := hq.2 j (by omega)
      refine M_ialdn (j := j) (x := nI (f j)) dX10_token_19 hb.2.2.2.2.2.2.2.1.2 (by decide) (by omega) ((hO _ _ (by omega)).trans (hT.2 j (by omega))) ?_
      refine V_bipush (v := nI 32) dX10_token_20 rfl ?_
      refine V_icmp_ne (tgt := 38) dX10_token_22 rfl (fun h22 => ?_) (fun h22 => ?_)
      · have h22 : ¬ (f j) = 32 := fun q => h22 ((nI_eq (by omega) (by omega)).mpr q)
        have hs9 : (runTo (spB n f) n e) = j := run_to hej hj hsp (Or.inr (decide_eq_false (fun z => h22 z.2)))
        refine V_aload_n (i := 0) dX10_token_38 rfl 0 rfl ?_
        refine V_aload_n (i := 0) dX10_token_39 rfl 0 rfl ?_
        refine M_getI (x := nI j) dX10_token_40 lf_X10_167 rfl hb.1 (h25) ?_
        refine M_putI dX10_token_43 lf_X10_170 rfl hb.1 ⟨rfl, rfl⟩ ?_
        refine V_aload_n (i := 0) dX10_token_46 rfl 0 rfl ?_
        refine V_iconst (v := nI 0) dX10_token_47 rfl ?_
        refine M_putI dX10_token_48 lf_X10_173 rfl hb.1 ⟨rfl, rfl⟩ ?_
        refine V_aload_n (i := 0) dX10_token_51 rfl 0 rfl ?_
        refine M_getI (x := nI j) dX10_token_52 lf_X10_167 rfl hb.1 ((up2_k (by omega)).trans ((up2_k (by omega)).trans (h25))) ?_
        refine V_aload_n (i := 0) dX10_token_55 rfl 0 rfl ?_
        refine M_getI (x := nI n) dX10_token_56 lf_X10_164 rfl hb.1 ((up2_k (by omega)).trans ((up2_k (by omega)).trans ((hO _ _ (by omega)).trans hT.1))) ?_
        refine V_icmp_ne (tgt := 70) dX10_token_59 rfl (fun h59 => ?_) (fun h59 => ?_)
        · have h59 : ¬ j = n := fun q => h59 ((nI_eq (by omega) (by omega)).mpr q)
          refine V_aload_n (i := 0) dX10_token_70 rfl 0 rfl ?_
          refine M_getR dX10_token_71 lf_X10_31 rfl hb.1 hb.2.2.2.2.2.2.2.1.1 ?_
          refine V_aload_n (i := 0) dX10_token_74 rfl 0 rfl ?_
          refine M_getI (x := nI j) dX10_token_75 lf_X10_167 rfl hb.1 ((up2_k (by omega)).trans ((up2_k (by omega)).trans (h25))) ?_
          refine M_ialdn (j := j) (x := nI (f j)) dX10_token_78 hb.2.2.2.2.2.2.2.1.2 (by decide) (by omega) ((up2_ne (by omega)).trans ((up2_ne (by omega)).trans ((hO _ _ (by omega)).trans (hT.2 j (by omega))))) ?_
          refine M_callSp (As := [.int (nI (f j))]) (st := []) dX10_token_79 ls_X10_179 ⟨by decide, by decide⟩ ⟨rfl, rfl⟩ rfl (Nat.le_of_ble_eq_true rfl) (r_isLetter (x := f j) (hq.2 j (by omega))) ?_
          refine V_if_eq (tgt := 129) dX10_token_82 rfl (fun h82 => ?_) (fun h82 => ?_)
          · have h82 : ¬ (97 ≤ f j ∧ f j ≤ 122) := bI_eq0.mp h82
            refine V_aload_n (i := 0) dX10_token_129 rfl 0 rfl ?_
            refine M_getR dX10_token_130 lf_X10_31 rfl hb.1 hb.2.2.2.2.2.2.2.1.1 ?_
            refine V_aload_n (i := 0) dX10_token_133 rfl 0 rfl ?_
            refine M_getI (x := nI j) dX10_token_134 lf_X10_167 rfl hb.1 ((up2_k (by omega)).trans ((up2_k (by omega)).trans (h25))) ?_
            refine M_ialdn (j := j) (x := nI (f j)) dX10_token_137 hb.2.2.2.2.2.2.2.1.2 (by decide) (by omega) ((up2_ne (by omega)).trans ((up2_ne (by omega)).trans ((hO _ _ (by omega)).trans (hT.2 j (by omega))))) ?_
            refine M_callSp (As := [.int (nI (f j))]) (st := []) dX10_token_138 ls_X10_182 ⟨by decide, by decide⟩ ⟨rfl, rfl⟩ rfl (Nat.le_of_ble_eq_true rfl) (r_isDigit (x := f j) (hq.2 j (by omega))) ?_
            refine V_if_eq (tgt := 230) dX10_token_141 rfl (fun h141 => ?_) (fun h141 => ?_)
            · have h141 : ¬ (48 ≤ f j ∧ f j ≤ 57) := bI_eq0.mp h141
              refine V_aload_n (i := 0) dX10_token_230 rfl 0 rfl ?_
              refine V_aload_n (i := 0) dX10_token_231 rfl 0 rfl ?_
              refine M_getR dX10_token_232 lf_X10_31 rfl hb.1 hb.2.2.2.2.2.2.2.1.1 ?_
              refine V_aload_n (i := 0) dX10_token_235 rfl 0 rfl ?_
              refine M_getI (x := nI j) dX10_token_236 lf_X10_167 rfl hb.1 ((up2_k (by omega)).trans ((up2_k (by omega)).trans (h25))) ?_
              refine M_ialdn (j := j) (x := nI (f j)) dX10_token_239 hb.2.2.2.2.2.2.2.1.2 (by decide) (by omega) ((up2_ne (by omega)).trans ((up2_ne (by omega)).trans ((hO _ _ (by omega)).trans (hT.2 j (by omega))))) ?_
              refine V_bipush (v := nI 59) dX10_token_240 rfl ?_
              refine V_icmp_ne (tgt := 249) dX10_token_242 rfl (fun h242 => ?_) (fun h242 => ?_)
              · have h242 : ¬ (f j) = 59 := fun q => h242 ((nI_eq (by omega) (by omega)).mpr q)
                refine V_iconst (v := nI 4) dX10_token_249 rfl ?_
                refine M_putI dX10_token_250 lf_X10_176 rfl hb.1 ⟨rfl, rfl⟩ ?_
                refine V_aload_n (i := 0) dX10_token_253 rfl 0 rfl ?_
                refine V_dup dX10_token_254 rfl ?_
                refine M_getI (x := nI j) dX10_token_255 lf_X10_167 rfl hb.1 ((up2_k (by omega)).trans ((up2_k (by omega)).trans ((up2_k (by omega)).trans (h25)))) ?_
                refine V_iconst (v := nI 1) dX10_token_258 rfl ?_
                refine V_iadd dX10_token_259 ?_
                refine M_top (nI_add _ _) ?_
                refine M_putI dX10_token_260 lf_X10_167 rfl hb.1 ⟨rfl, rfl⟩ ?_
                refine V_vret dX10_token_263 ⟨rfl, rfl⟩ (Nat.zero_le _) (Nat.zero_le _) ?_
                subst hQ
                have hsg : ¬ sgB n f j = true := by unfold sgB; rw [decide_eq_true_eq]; omega
                have hkd : kdT n f j = 4 := k_4 (by omega) (fun z => h82 ((let_i (by omega)).mpr z)) (fun z => h141 ((dig_i (by omega)).mpr z)) hsg
                have hat : atT n f j = j + 1 := if_pos hkd
                exact ⟨_, _, rfl, rfl, rfl, by show MTk _ b n f (runTo (spB n f) n e); rw [hs9]; exact ⟨hj, (up2_k (by decide)).trans ((up2_k (by decide)).trans ((up2_k (by decide)).trans up2_s)), by rw [hkd]; exact (up2_k (by decide)).trans up2_s, by rw [hat]; exact up2_s, fun z => by rw [hkd] at z; cases z⟩, (((hO.up (by omega)).up (by omega)).up (by omega)).up (by omega)⟩
              · have h242 : (f j) = 59 := (nI_eq (by omega) (by omega)).mp h242
                refine V_iconst (v := nI 3) dX10_token_245 rfl ?_
                refine V_goto (tgt := 250) dX10_token_246 rfl ?_
                refine M_putI dX10_token_250 lf_X10_176 rfl hb.1 ⟨rfl, rfl⟩ ?_
                refine V_aload_n (i := 0) dX10_token_253 rfl 0 rfl ?_
                refine V_dup dX10_token_254 rfl ?_
                refine M_getI (x := nI j) dX10_token_255 lf_X10_167 rfl hb.1 ((up2_k (by omega)).trans ((up2_k (by omega)).trans ((up2_k (by omega)).trans (h25)))) ?_
                refine V_iconst (v := nI 1) dX10_token_258 rfl ?_
                refine V_iadd dX10_token_259 ?_
                refine M_top (nI_add _ _) ?_
                refine M_putI dX10_token_260 lf_X10_167 rfl hb.1 ⟨rfl, rfl⟩ ?_
                refine V_vret dX10_token_263 ⟨rfl, rfl⟩ (Nat.zero_le _) (Nat.zero_le _) ?_
                subst hQ
                have hsg : sgB n f j = true := by unfold sgB; rw [decide_eq_true_eq]; omega
                have hkd : kdT n f j = 3 := k_3 (by omega) (fun z => h82 ((let_i (by omega)).mpr z)) (fun z => h141 ((dig_i (by omega)).mpr z)) hsg
                have hat : atT n f j = j + 1 := (at_n (by rw [hkd]; decide)).trans (by unfold nxE; rw [if_neg (fun z => h82 ((let_i (by omega)).mpr z)), if_neg (fun z => h141 ((dig_i (by omega)).mpr z)), if_pos hsg])
                exact ⟨_, _, rfl, rfl, rfl, by show MTk _ b n f (runTo (spB n f) n e); rw [hs9]; exact ⟨hj, (up2_k (by decide)).trans ((up2_k (by decide)).trans ((up2_k (by decide)).trans up2_s)), by rw [hkd]; exact (up2_k (by decide)).trans up2_s, by rw [hat]; exact up2_s, fun z => by rw [hkd] at z; cases z⟩, (((hO.up (by omega)).up (by omega)).up (by omega)).up (by omega)⟩
            · have h141 : 48 ≤ f j ∧ f j ≤ 57 := bI_ne.mp h141
              refine V_aload_n (i := 0) dX10_token_144 rfl 0 rfl ?_
              refine V_iconst (v := nI 2) dX10_token_145 rfl ?_
              refine M_putI dX10_token_146 lf_X10_176 rfl hb.1 ⟨rfl, rfl⟩ ?_
              have lp149 : ∀ i, i ≤ n → ∀ iv3 : IV, iv3 b 25 = nI i → iv3 b 27 = nI j → iv3 b 26 = nI 2 → iv3 b 28 = nI (figK f j (i - j)) → MTt b iv iv3 → (∀ k, j ≤ k → k < i → digB n f k = true) → j ≤ i → VM g mX10_token 149 [(0, .ref (b))] [] S iv3 lw Q := by
                refine up_ind fun i hi ihi => ?_
                intro iv3 h25i h27 h26 h28 hO3 hal hji
                refine V_aload_n (i := 0) dX10_token_149 rfl 0 rfl ?_
                refine M_getI (x := nI i) dX10_token_150 lf_X10_167 rfl hb.1 (h25i) ?_
                refine V_aload_n (i := 0) dX10_token_153 rfl 0 rfl ?_
                refine M_getI (x := nI n) dX10_token_154 lf_X10_164 rfl hb.1 ((hO3 _ _ (by omega)).trans hT.1) ?_
                refine V_icmp_ge (tgt := 263) dX10_token_157 rfl (fun h157 => ?_) (fun h157 => ?_)
                · have h157 : n ≤ i := (nI_leI (by omega) (by omega)).mp h157
                  refine V_vret dX10_token_263 ⟨rfl, rfl⟩ (Nat.zero_le _) (Nat.zero_le _) ?_
                  subst hQ
                  have hnl : ¬ letB n f j = true := fun z => h82 ((let_i (by omega)).mpr z)
                  have hdj := (dig_i (show j < n by omega)).mp h141
                  have hkd : kdT n f j = 2 := k_2 (by omega) hnl hdj
                  have hr9 : runTo (digB n f) n j = i := run_to hji hi hal (Or.inl (by omega))
                  have hnx : nxE n f j = i := by unfold nxE; rw [if_neg hnl, if_pos hdj]; exact hr9
                  have hat : atT n f j = i := (at_n (by rw [hkd]; decide)).trans hnx
                  exact ⟨_, _, rfl, rfl, rfl, by show MTk _ b n f (runTo (spB n f) n e); rw [hs9]; exact ⟨hj, h27, by rw [hkd]; exact h26, by rw [hat]; exact h25i, fun _ => by unfold figT; rw [hnx]; exact h28⟩, hO3⟩
                · have h157 : ¬ n ≤ i := fun q => h157 ((nI_leI (by omega) (by omega)).mpr q)
                  refine V_aload_n (i := 0) dX10_token_160 rfl 0 rfl ?_
                  refine M_getR dX10_token_161 lf_X10_31 rfl hb.1 hb.2.2.2.2.2.2.2.1.1 ?_
                  refine V_aload_n (i := 0) dX10_token_164 rfl 0 rfl ?_
                  refine M_getI (x := nI i) dX10_token_165 lf_X10_167 rfl hb.1 (h25i) ?_
                  refine M_ialdn (j := i) (x := nI (f i)) dX10_token_168 hb.2.2.2.2.2.2.2.1.2 (by decide) (by omega) ((hO3 _ _ (by omega)).trans (hT.2 i (by omega))) ?_
                  refine M_callSp (As := [.int (nI (f i))]) (st := []) dX10_token_169 ls_X10_182 ⟨by decide, by decide⟩ ⟨rfl, rfl⟩ rfl (Nat.le_of_ble_eq_true rfl) (r_isDigit (x := f i) (hq.2 i (by omega))) ?_
                  refine V_if_eq (tgt := 263) dX10_token_172 rfl (fun h172 => ?_) (fun h172 => ?_)
                  · have h172 : ¬ (48 ≤ f i ∧ f i ≤ 57) := bI_eq0.mp h172
                    refine V_vret dX10_token_263 ⟨rfl, rfl⟩ (Nat.zero_le _) (Nat.zero_le _) ?_
                    subst hQ
                    have hnl : ¬ letB n f j = true := fun z => h82 ((let_i (by omega)).mpr z)
                    have hdj := (dig_i (show j < n by omega)).mp h141
                    have hkd : kdT n f j = 2 := k_2 (by omega) hnl hdj
                    have hr9 : runTo (digB n f) n j = i := run_to hji hi hal (Or.inr (Bool.eq_false_iff.mpr (fun z => h172 ((dig_i (by omega)).mpr z))))
                    have hnx : nxE n f j = i := by unfold nxE; rw [if_neg hnl, if_pos hdj]; exact hr9
                    have hat : atT n f j = i := (at_n (by rw [hkd]; decide)).trans hnx
                    exact ⟨_, _, rfl, rfl, rfl, by show MTk _ b n f (runTo (spB n f) n e); rw [hs9]; exact ⟨hj, h27, by rw [hkd]; exact h26, by rw [hat]; exact h25i, fun _ => by unfold figT; rw [hnx]; exact h28⟩, hO3⟩
                  · have h172 : 48 ≤ f i ∧ f i ≤ 57 := bI_ne.mp h172
                    refine V_aload_n (i := 0) dX10_token_175 rfl 0 rfl ?_
                    refine V_aload_n (i := 0) dX10_token_176 rfl 0 rfl ?_
                    refine M_getI (x := nI i) dX10_token_177 lf_X10_167 rfl hb.1 (h25i) ?_
                    refine V_aload_n (i := 0) dX10_token_180 rfl 0 rfl ?_
                    refine M_getI (x := nI j) dX10_token_181 lf_X10_170 rfl hb.1 (h27) ?_
                    have hfi := hq.2 i (by omega)
                    refine V_isub dX10_token_184 ?_
                    refine M_top (x2 := nI (i - j)) (nI_sub (by omega)) ?_
                    refine V_iconst (v := nI 4) dX10_token_185 rfl ?_
                    refine V_icmp_ge (tgt := 212) dX10_token_186 rfl (fun h186 => ?_) (fun h186 => ?_)
                    · have h186 : 4 ≤ (i - j) := (nI_leI (by omega) (by omega)).mp h186
                      refine V_ldc (v := nI 100000) dX10_token_212 mw_1357 ?_
                      refine M_top (x2 := nI (figK f j (i - j + 1))) (fig_o (by omega)) ?_
                      refine M_putI dX10_token_214 lf_X10_173 rfl hb.1 ⟨rfl, rfl⟩ ?_
                      refine V_aload_n (i := 0) dX10_token_217 rfl 0 rfl ?_
                      refine V_dup dX10_token_218 rfl ?_
                      refine M_getI (x := nI i) dX10_token_219 lf_X10_167 rfl hb.1 ((up2_k (by omega)).trans (h25i)) ?_
                      refine V_iconst (v := nI 1) dX10_token_222 rfl ?_
                      refine V_iadd dX10_token_223 ?_
                      refine M_top (nI_add _ _) ?_
                      refine M_putI dX10_token_224 lf_X10_167 rfl hb.1 ⟨rfl, rfl⟩ ?_
                      refine V_goto (tgt := 149) dX10_token_227 rfl ?_
                      refine V_sub [0] rfl ?_
                      exact M_at (ihi (by omega) _ up2_s ((up2_k (by decide)).trans ((up2_k (by decide)).trans h27)) ((up2_k (by decide)).trans ((up2_k (by decide)).trans h26)) ((up2_k (by decide)).trans (up2_s.trans (by rw [show i + 1 - j = i - j + 1 by omega]))) ((hO3.up (by omega)).up (by omega)) (fun k h1 h2 => if e9 : k = i then e9 ▸ (dig_i (by omega)).mp h172 else hal k h1 (by omega)) (by omega)) (rfl) rfl (rfl) (rfl)
                    · have h186 : ¬ 4 ≤ (i - j) := fun q => h186 ((nI_leI (by omega) (by omega)).mpr q)
                      refine V_aload_n (i := 0) dX10_token_189 rfl 0 rfl ?_
                      refine M_getI (x := nI (figK f j (i - j))) dX10_token_190 lf_X10_173 rfl hb.1 (h28) ?_
                      refine V_bipush (v := nI 10) dX10_token_193 rfl ?_
                      refine V_imul dX10_token_195 ?_
                      refine M_top (pk_mul _ _) ?_
                      refine V_aload_n (i := 0) dX10_token_196 rfl 0 rfl ?_
                      refine M_getR dX10_token_197 lf_X10_31 rfl hb.1 hb.2.2.2.2.2.2.2.1.1 ?_
                      refine V_aload_n (i := 0) dX10_token_200 rfl 0 rfl ?_
                      refine M_getI (x := nI i) dX10_token_201 lf_X10_167 rfl hb.1 (h25i) ?_
                      refine M_ialdn (j := i) (x := nI (f i)) dX10_token_204 hb.2.2.2.2.2.2.2.1.2 (by decide) (by omega) ((hO3 _ _ (by omega)).trans (hT.2 i (by omega))) ?_
                      refine V_iadd dX10_token_205 ?_
                      refine M_top (nI_add _ _) ?_
                      refine V_bipush (v := nI 48) dX10_token_206 rfl ?_
                      refine V_isub dX10_token_208 ?_
                      refine M_top (x2 := nI (figK f j (i - j + 1))) (by rw [show f i = f (j + (i - j)) by rw [show j + (i - j) = i by omega]]; exact fig_s (by omega) (by rw [show j + (i - j) = i by omega]; exact h172.1)) ?_
                      refine V_goto (tgt := 214) dX10_token_209 rfl ?_
                      refine M_putI dX10_token_214 lf_X10_173 rfl hb.1 ⟨rfl, rfl⟩ ?_
                      refine V_aload_n (i := 0) dX10_token_217 rfl 0 rfl ?_
                      refine V_dup dX10_token_218 rfl ?_
                      refine M_getI (x := nI i) dX10_token_219 lf_X10_167 rfl hb.1 ((up2_k (by omega)).trans (h25i)) ?_
                      refine V_iconst (v := nI 1) dX10_token_222 rfl ?_
                      refine V_iadd dX10_token_223 ?_
                      refine M_top (nI_add _ _) ?_
                      refine M_putI dX10_token_224 lf_X10_167 rfl hb.1 ⟨rfl, rfl⟩ ?_
                      refine V_goto (tgt := 149) dX10_token_227 rfl ?_
                      refine V_sub [0] rfl ?_
                      exact M_at (ihi (by omega) _ up2_s ((up2_k (by decide)).trans ((up2_k (by decide)).trans h27)) ((up2_k (by decide)).trans ((up2_k (by decide)).trans h26)) ((up2_k (by decide)).trans (up2_s.trans (by rw [show i + 1 - j = i - j + 1 by omega]))) ((hO3.up (by omega)).up (by omega)) (fun k h1 h2 => if e9 : k = i then e9 ▸ (dig_i (by omega)).mp h172 else hal k h1 (by omega)) (by omega)) (rfl) rfl (rfl) (rfl)
              refine V_sub [0] rfl ?_
              exact M_at (lp149 j hj (up2 (up2 (up2 iv2 b 27 (nI j)) b 28 (nI 0)) b 26 (nI 2)) ((up2_k (by decide)).trans ((up2_k (by decide)).trans ((up2_k (by decide)).trans h25))) ((up2_k (by decide)).trans ((up2_k (by decide)).trans up2_s)) up2_s ((up2_k (by decide)).trans (up2_s.trans (by rw [Nat.sub_self]; rfl))) (((hO.up (by omega)).up (by omega)).up (by omega)) (fun k h1 h2 => absurd h1 (by omega)) (Nat.le_refl _)) (rfl) rfl (rfl) (rfl)
          · have h82 : 97 ≤ f j ∧ f j ≤ 122 := bI_ne.mp h82
            refine V_aload_n (i := 0) dX10_token_85 rfl 0 rfl ?_
            refine V_iconst (v := nI 1) dX10_token_86 rfl ?_
            refine M_putI dX10_token_87 lf_X10_176 rfl hb.1 ⟨rfl, rfl⟩ ?_
            have lp90 : ∀ i, i ≤ n → ∀ iv3 : IV, iv3 b 25 = nI i → iv3 b 27 = nI j → iv3 b 26 = nI 1 → MTt b iv iv3 → (∀ k, j ≤ k → k < i → letB n f k = true) → j ≤ i → VM g mX10_token 90 [(0, .ref (b))] [] S iv3 lw Q := by
              refine up_ind fun i hi ihi => ?_
              intro iv3 h25i h27 h26 hO3 hal hji
              refine V_aload_n (i := 0) dX10_token_90 rfl 0 rfl ?_
              refine M_getI (x := nI i) dX10_token_91 lf_X10_167 rfl hb.1 (h25i) ?_
              refine V_aload_n (i := 0) dX10_token_94 rfl 0 rfl ?_
              refine M_getI (x := nI n) dX10_token_95 lf_X10_164 rfl hb.1 ((hO3 _ _ (by omega)).trans hT.1) ?_
              refine V_icmp_ge (tgt := 263) dX10_token_98 rfl (fun h98 => ?_) (fun h98 => ?_)
              · have h98 : n ≤ i := (nI_leI (by omega) (by omega)).mp h98
                refine V_vret dX10_token_263 ⟨rfl, rfl⟩ (Nat.zero_le _) (Nat.zero_le _) ?_
                subst hQ
                have hlj := (let_i (show j < n by omega)).mp h82
                have hkd : kdT n f j = 1 := k_1 (by omega) hlj
                have hr9 : runTo (letB n f) n j = i := run_to hji hi hal (Or.inl (by omega))
                have hat : atT n f j = i := (at_n (by rw [hkd]; decide)).trans (by unfold nxE; rw [if_pos hlj]; exact hr9)
                exact ⟨_, _, rfl, rfl, rfl, by show MTk _ b n f (runTo (spB n f) n e); rw [hs9]; exact ⟨hj, h27, by rw [hkd]; exact h26, by rw [hat]; exact h25i, fun z => by rw [hkd] at z; cases z⟩, hO3⟩
              · have h98 : ¬ n ≤ i := fun q => h98 ((nI_leI (by omega) (by omega)).mpr q)
                refine V_aload_n (i := 0) dX10_token_101 rfl 0 rfl ?_
                refine M_getR dX10_token_102 lf_X10_31 rfl hb.1 hb.2.2.2.2.2.2.2.1.1 ?_
                refine V_aload_n (i := 0) dX10_token_105 rfl 0 rfl ?_
                refine M_getI (x := nI i) dX10_token_106 lf_X10_167 rfl hb.1 (h25i) ?_
                refine M_ialdn (j := i) (x := nI (f i)) dX10_token_109 hb.2.2.2.2.2.2.2.1.2 (by decide) (by omega) ((hO3 _ _ (by omega)).trans (hT.2 i (by omega))) ?_
                refine M_callSp (As := [.int (nI (f i))]) (st := []) dX10_token_110 ls_X10_179 ⟨by decide, by decide⟩ ⟨rfl, rfl⟩ rfl (Nat.le_of_ble_eq_true rfl) (r_isLetter (x := f i) (hq.2 i (by omega))) ?_
                refine V_if_eq (tgt := 263) dX10_token_113 rfl (fun h113 => ?_) (fun h113 => ?_)
                · have h113 : ¬ (97 ≤ f i ∧ f i ≤ 122) := bI_eq0.mp h113
                  refine V_vret dX10_token_263 ⟨rfl, rfl⟩ (Nat.zero_le _) (Nat.zero_le _) ?_
                  subst hQ
                  have hlj := (let_i (show j < n by omega)).mp h82
                  have hkd : kdT n f j = 1 := k_1 (by omega) hlj
                  have hr9 : runTo (letB n f) n j = i := run_to hji hi hal (Or.inr (Bool.eq_false_iff.mpr (fun z => h113 ((let_i (by omega)).mpr z))))
                  have hat : atT n f j = i := (at_n (by rw [hkd]; decide)).trans (by unfold nxE; rw [if_pos hlj]; exact hr9)
                  exact ⟨_, _, rfl, rfl, rfl, by show MTk _ b n f (runTo (spB n f) n e); rw [hs9]; exact ⟨hj, h27, by rw [hkd]; exact h26, by rw [hat]; exact h25i, fun z => by rw [hkd] at z; cases z⟩, hO3⟩
                · have h113 : 97 ≤ f i ∧ f i ≤ 122 := bI_ne.mp h113
                  refine V_aload_n (i := 0) dX10_token_116 rfl 0 rfl ?_
                  refine V_dup dX10_token_117 rfl ?_
                  refine M_getI (x := nI i) dX10_token_118 lf_X10_167 rfl hb.1 (h25i) ?_
                  refine V_iconst (v := nI 1) dX10_token_121 rfl ?_
                  refine V_iadd dX10_token_122 ?_
                  refine M_top (nI_add _ _) ?_
                  refine M_putI dX10_token_123 lf_X10_167 rfl hb.1 ⟨rfl, rfl⟩ ?_
                  refine V_goto (tgt := 90) dX10_token_126 rfl ?_
                  refine V_sub [0] rfl ?_
                  exact M_at (ihi (by omega) _ up2_s ((up2_k (by decide)).trans h27) ((up2_k (by decide)).trans h26) (hO3.up (by omega)) (fun k h1 h2 => if e9 : k = i then e9 ▸ (let_i (by omega)).mp h113 else hal k h1 (by omega)) (by omega)) (rfl) rfl (rfl) (rfl)
            refine V_sub [0] rfl ?_
            exact M_at (lp90 j hj (up2 (up2 (up2 iv2 b 27 (nI j)) b 28 (nI 0)) b 26 (nI 1)) ((up2_k (by decide)).trans ((up2_k (by decide)).trans ((up2_k (by decide)).trans h25))) ((up2_k (by decide)).trans ((up2_k (by decide)).trans up2_s)) up2_s (((hO.up (by omega)).up (by omega)).up (by omega)) (fun k h1 h2 => absurd h1 (by omega)) (Nat.le_refl _)) (rfl) rfl (rfl) (rfl)
        · have h59 : j = n := (nI_eq (by omega) (by omega)).mp h59
          refine V_aload_n (i := 0) dX10_token_62 rfl 0 rfl ?_
          refine V_iconst (v := nI 0) dX10_token_63 rfl ?_
          refine M_putI dX10_token_64 lf_X10_176 rfl hb.1 ⟨rfl, rfl⟩ ?_
          refine V_goto (tgt := 263) dX10_token_67 rfl ?_
          refine V_vret dX10_token_263 ⟨rfl, rfl⟩ (Nat.zero_le _) (Nat.zero_le _) ?_
          subst hQ
          have hkd : kdT n f j = 0 := k_0 (by omega)
          have hat : atT n f j = j := (at_n (by rw [hkd]; decide)).trans (nx_0 (by omega))
          exact ⟨_, _, rfl, rfl, rfl, by show MTk _ b n f (runTo (spB n f) n e); rw [hs9]; exact ⟨hj, (up2_k (by decide)).trans ((up2_k (by decide)).trans up2_s), by rw [hkd]; exact up2_s, by rw [hat]; exact (up2_k (by decide)).trans ((up2_k (by decide)).trans ((up2_k (by decide)).trans h25)), fun z => by rw [hkd] at z; cases z⟩, ((hO.up (by omega)).up (by omega)).up (by omega)⟩
      · have h22 : (f j) = 32 := (nI_eq (by omega) (by omega)).mp h22
        refine V_aload_n (i := 0) dX10_token_25 rfl 0 rfl ?_
        refine V_dup dX10_token_26 rfl ?_
        refine M_getI (x := nI j) dX10_token_27 lf_X10_167 rfl hb.1 (h25) ?_
        refine V_iconst (v := nI 1) dX10_token_30 rfl ?_
        refine V_iadd dX10_token_31 ?_
        refine M_top (nI_add _ _) ?_
        refine M_putI dX10_token_32 lf_X10_167 rfl hb.1 ⟨rfl, rfl⟩ ?_
        refine V_goto (tgt := 0) dX10_token_35 rfl ?_
        refine V_sub [0] rfl ?_
        exact M_at (ih0 (by omega) _ up2_s (hO.up (by omega)) (fun k h1 h2 => if e9 : k = j then e9 ▸ decide_eq_true ⟨by omega, h22⟩ else hsp k h1 (by omega)) (by omega)) (rfl) rfl (rfl) (rfl)
  refine V_sub [0] rfl ?_
  exact M_at (lp0 e he iv h25 MTt.rf (fun k h1 h2 => absurd h1 (by omega)) (Nat.le_refl _)) (rfl) rfl (rfl) (rfl)
set_option maxRecDepth 20000 in
theorem r_wrong {g : Ev} {S : St} {iv : IV} {lw : LW} {b : Nat} (hb : IsMod S b) {s : Nat} (h27 : iv b 27 = nI s) : CQ g mX10_wrong [.ref (b)] S iv lw (fun w iv2 lw2 => w = .int (nI 0) ∧ lw = lw2 ∧ iv2 = up2 iv b 29 (nI s)) := by
  refine CT_ofQ rfl (by decide) (Nat.le_of_ble_eq_true rfl) (lv := [(0, .ref (b))]) rfl (fun Q hQ => ?_)
  refine V_aload_n (i := 0) dX10_wrong_0 rfl 0 rfl ?_
  refine V_aload_n (i := 0) dX10_wrong_1 rfl 0 rfl ?_
  refine M_getI (x := nI s) dX10_wrong_2 lf_X10_170 rfl hb.1 (h27) ?_
  refine M_putI dX10_wrong_5 lf_X10_186 rfl hb.1 ⟨rfl, rfl⟩ ?_
  refine V_iconst (v := nI 0) dX10_wrong_8 rfl ?_
  refine V_zret dX10_wrong_9 ⟨rfl, rfl⟩ (by rfl) (Nat.zero_le _) (Nat.zero_le _) ?_
  subst hQ
  exact ⟨_, _, _, rfl, rfl, rfl, rfl, rfl⟩
set_option maxRecDepth 20000 in
theorem r_isWord {g : Ev} {S : St} {iv : IV} {lw : LW} {b : Nat} (hb : IsMod S b) {n : Nat} {f : Nat → Nat} (hT : MT iv b n f) (hq : tpQ n f) {s : Nat} (hk : MTk iv b n f s) {i : Nat} (hi : i < 6) : CP g mX10_isWord [.ref (b), .ref (100000 + (1 + i))] S iv lw (.int (bI (wordB n f s (nxE n f s) i = true))) := by
  refine CT_ofQ rfl (by decide) (Nat.le_of_ble_eq_true rfl) (lv := [(0, .ref (b)), (1, .ref (100000 + (1 + i)))]) rfl (fun Q hQ => ?_)
  have hn250 := hq.1
  have hnx := nx_le (f := f) hk.1
  have hs3 := sl_3 i hi
  have hs4 := sl_le hi
  have hkk := k_eq (n := n) (s := s) (f := f)
  have hk4 : kdT n f s ≤ 4 := by omega
  refine V_aload_n (i := 0) dX10_isWord_0 rfl 0 rfl ?_
  refine M_getI (x := nI (kdT n f s)) dX10_isWord_1 lf_X10_176 rfl hb.1 (hk.2.2.1) ?_
  refine V_iconst (v := nI 1) dX10_isWord_4 rfl ?_
  refine V_icmp_ne (tgt := 24) dX10_isWord_5 rfl (fun h5 => ?_) (fun h5 => ?_)
  · have h5 : ¬ (kdT n f s) = 1 := fun q => h5 ((nI_eq (by omega) (by omega)).mpr q)
    refine V_iconst (v := nI 0) dX10_isWord_24 rfl ?_
    refine V_zret dX10_isWord_25 ⟨rfl, rfl⟩ (by rfl) (Nat.zero_le _) (Nat.zero_le _) ?_
    subst hQ
    exact ⟨by rw [bI_f (fun z => h5 (let_k (word_k hi hq z)))], rfl⟩
  · have h5 : (kdT n f s) = 1 := (nI_eq (by omega) (by omega)).mp h5
    refine V_aload_n (i := 0) dX10_isWord_8 rfl 0 rfl ?_
    refine M_getI (x := nI (nxE n f s)) dX10_isWord_9 lf_X10_167 rfl hb.1 (hk.2.2.2.1.trans (by rw [at_n (by omega)])) ?_
    refine V_aload_n (i := 0) dX10_isWord_12 rfl 0 rfl ?_
    refine M_getI (x := nI s) dX10_isWord_13 lf_X10_170 rfl hb.1 (hk.2.1) ?_
    refine V_isub dX10_isWord_16 ?_
    refine M_top (x2 := nI (nxE n f s - s)) (nI_sub (by omega)) ?_
    refine V_aload_n (i := 1) dX10_isWord_17 rfl 1 rfl ?_
    refine M_callTp (As := []) (st := [.int (nI (nxE n f s - s))]) dX10_isWord_18 lv_X10_189 ⟨by decide, by decide⟩ ⟨rfl, rfl⟩ rfl (hi) rfl (Nat.le_of_ble_eq_true rfl) (t_slen hi) ?_
    refine V_icmp_eq (tgt := 26) dX10_isWord_21 rfl (fun h21 => ?_) (fun h21 => ?_)
    · have h21 : (nxE n f s - s) = (sl i) := (nI_eq (by omega) (by omega)).mp h21
      refine V_iconst (v := nI 0) dX10_isWord_26 rfl ?_
      refine V_istore_n (lv2 := [(2, .int (nI 0)), (0, .ref (b)), (1, .ref (100000 + (1 + i)))]) dX10_isWord_27 rfl (by decide) rfl ?_
      have lp28 : ∀ j, j ≤ (sl i) → (∀ k, k < j → bAt n f (s + k) = wch i k) → VM g mX10_isWord 28 [(2, .int (nI j)), (0, .ref (b)), (1, .ref (100000 + (1 + i)))] [] S iv lw Q := by
        refine up_ind fun j hj ih28 => ?_
        intro hall
        refine V_iload_n (i := 2) dX10_isWord_28 rfl 0 rfl ?_
        refine V_aload_n (i := 1) dX10_isWord_29 rfl 2 rfl ?_
        refine M_callTp (As := []) (st := [.int (nI j)]) dX10_isWord_30 lv_X10_189 ⟨by decide, by decide⟩ ⟨rfl, rfl⟩ rfl (hi) rfl (Nat.le_of_ble_eq_true rfl) (t_slen hi) ?_
        refine V_icmp_ge (tgt := 63) dX10_isWord_33 rfl (fun h33 => ?_) (fun h33 => ?_)
        · have h33 : (sl i) ≤ j := (nI_leI (by omega) (by omega)).mp h33
          refine V_iconst (v := nI 1) dX10_isWord_63 rfl ?_
          refine V_zret dX10_isWord_64 ⟨rfl, rfl⟩ (by rfl) (Nat.zero_le _) (Nat.zero_le _) ?_
          subst hQ
          exact ⟨by rw [bI_t (by rw [word_go h21]; exact (allTo_iff (sl i)).mpr (fun k hk => decide_eq_true (hall k (by omega))))], rfl⟩
        · have h33 : ¬ (sl i) ≤ j := fun q => h33 ((nI_leI (by omega) (by omega)).mpr q)
          refine V_aload_n (i := 0) dX10_isWord_36 rfl 1 rfl ?_
          refine M_getR dX10_isWord_37 lf_X10_31 rfl hb.1 hb.2.2.2.2.2.2.2.1.1 ?_
          refine V_aload_n (i := 0) dX10_isWord_40 rfl 1 rfl ?_
          refine M_getI (x := nI s) dX10_isWord_41 lf_X10_170 rfl hb.1 (hk.2.1) ?_
          refine V_iload_n (i := 2) dX10_isWord_44 rfl 0 rfl ?_
          refine V_iadd dX10_isWord_45 ?_
          refine M_top (nI_add _ _) ?_
          refine M_ialdn (j := (s + j)) (x := nI (f (s + j))) dX10_isWord_46 hb.2.2.2.2.2.2.2.1.2 (by decide) (by omega) (hT.2 (s + j) (by omega)) ?_
          refine V_aload_n (i := 1) dX10_isWord_47 rfl 2 rfl ?_
          refine V_iload_n (i := 2) dX10_isWord_48 rfl 0 rfl ?_
          refine M_callTp (As := [.int (nI j)]) (st := [.int (nI (f (s + j)))]) dX10_isWord_49 lv_X10_195 ⟨by decide, by decide⟩ ⟨rfl, rfl⟩ rfl (hi) rfl (Nat.le_of_ble_eq_true rfl) (t_charAt hi (by omega)) ?_
          refine V_icmp_eq (tgt := 57) dX10_isWord_52 rfl (fun h52 => ?_) (fun h52 => ?_)
          · refine V_iinc (v := nI (j + 1)) (lv2 := [(2, .int (nI (j + 1))), (0, .ref (b)), (1, .ref (100000 + (1 + i)))]) dX10_isWord_57 0 rfl (nI_inc _) (by decide) rfl ?_
            refine V_goto (tgt := 28) dX10_isWord_60 rfl ?_
            refine V_sub [0, 1, 2] rfl ?_
            exact M_at (ih28 (by omega) (fun k hk => if e9 : k = j then e9 ▸ (bAt_in (by omega)).trans h52 else hall k (by omega))) (rfl) rfl (rfl) (rfl)
          · refine V_iconst (v := nI 0) dX10_isWord_55 rfl ?_
            refine V_zret dX10_isWord_56 ⟨rfl, rfl⟩ (by rfl) (Nat.zero_le _) (Nat.zero_le _) ?_
            subst hQ
            exact ⟨by rw [bI_f (fun z => h52 (by rw [word_go h21] at z; have z2 := of_decide_eq_true ((allTo_iff (sl i)).mp z j (by omega)); rw [bAt_in (by omega)] at z2; exact z2))], rfl⟩
      refine V_sub [0, 1, 2] rfl ?_
      exact M_at (lp28 0 (Nat.zero_le _) (fun k hk => absurd hk (by omega))) (rfl) rfl (rfl) (rfl)
    · have h21 : ¬ (nxE n f s - s) = (sl i) := fun q => h21 ((nI_eq (by omega) (by omega)).mpr q)
      refine V_iconst (v := nI 0) dX10_isWord_24 rfl ?_
      refine V_zret dX10_isWord_25 ⟨rfl, rfl⟩ (by rfl) (Nat.zero_le _) (Nat.zero_le _) ?_
      subst hQ
      exact ⟨by rw [bI_f (fun z => by unfold wordB at z; rw [decide_eq_false h21] at z; cases z)], rfl⟩
