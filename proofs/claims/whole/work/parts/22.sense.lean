/-! Sense -/
theorem perK_le {a b : Nat} (ha : a ≤ 20000) : perK a b ≤ 20000000 := by
  unfold perK
  split
  · exact Nat.le_trans (Nat.div_le_self _ _) (by omega)
  · omega
/-- the first of the least -/
def bestLo (f : Nat → Nat) : Nat → Option Nat
  | 0 => none
  | n + 1 => match bestLo f n with
    | none => some n
    | some b => if f n < f b then some n else some b
def bestHi (f : Nat → Nat) : Nat → Option Nat
  | 0 => none
  | n + 1 => match bestHi f n with
    | none => some n
    | some b => if f b < f n then some n else some b
def valO (f : Nat → Nat) (o : Option Nat) : Nat := match o with
  | none => 0
  | some b => f b
theorem bestLo_lt {f : Nat → Nat} : ∀ n {k}, bestLo f n = some k → k < n
  | 0, _, h => by cases h
  | n + 1, k, h => by
    unfold bestLo at h
    cases e : bestLo f n with
    | none => rw [e] at h; cases h; omega
    | some b =>
      rw [e] at h
      have := bestLo_lt n e
      simp only at h
      split at h <;> cases h <;> omega
theorem bestHi_lt {f : Nat → Nat} : ∀ n {k}, bestHi f n = some k → k < n
  | 0, _, h => by cases h
  | n + 1, k, h => by
    unfold bestHi at h
    cases e : bestHi f n with
    | none => rw [e] at h; cases h; omega
    | some b =>
      rw [e] at h
      have := bestHi_lt n e
      simp only at h
      split at h <;> cases h <;> omega
theorem bestLo_new {f : Nat → Nat} {n : Nat} (h : bestLo f n = none ∨ f n < valO f (bestLo f n)) : bestLo f (n + 1) = some n := by
  unfold bestLo
  cases e : bestLo f n with
  | none => rfl
  | some b =>
    rw [e] at h
    rcases h with h | h
    · cases h
    · exact if_pos h
theorem bestLo_old {f : Nat → Nat} {n : Nat} (h : ¬ bestLo f n = none) (h2 : ¬ f n < valO f (bestLo f n)) : bestLo f (n + 1) = bestLo f n := by
  cases e : bestLo f n with
  | none => exact absurd e h
  | some b =>
    rw [e] at h2
    show (match bestLo f n with | none => some n | some b => if f n < f b then some n else some b) = some b
    rw [e]
    exact if_neg h2
theorem bestHi_new {f : Nat → Nat} {n : Nat} (h : bestHi f n = none ∨ valO f (bestHi f n) < f n) : bestHi f (n + 1) = some n := by
  unfold bestHi
  cases e : bestHi f n with
  | none => rfl
  | some b =>
    rw [e] at h
    rcases h with h | h
    · cases h
    · exact if_pos h
theorem bestHi_old {f : Nat → Nat} {n : Nat} (h : ¬ bestHi f n = none) (h2 : ¬ valO f (bestHi f n) < f n) : bestHi f (n + 1) = bestHi f n := by
  cases e : bestHi f n with
  | none => exact absurd e h
  | some b =>
    rw [e] at h2
    show (match bestHi f n with | none => some n | some b => if f b < f n then some n else some b) = some b
    rw [e]
    exact if_neg h2
theorem valLo_le {f : Nat → Nat} {n M : Nat} (h : ∀ i, i < n → f i ≤ M) : valO f (bestLo f n) ≤ M := by
  cases e : bestLo f n with
  | none => exact Nat.zero_le _
  | some k => exact h k (bestLo_lt n e)
theorem valHi_le {f : Nat → Nat} {n M : Nat} (h : ∀ i, i < n → f i ≤ M) : valO f (bestHi f n) ≤ M := by
  cases e : bestHi f n with
  | none => exact Nat.zero_le _
  | some k => exact h k (bestHi_lt n e)
theorem oI_m1 {o : Option Nat} {n : Nat} (h : ∀ k, o = some k → k < n) (hn : n ≤ 100000) : oI o = (-1) ↔ o = none := by
  cases o with
  | none => exact iff_of_true rfl rfl
  | some k =>
    refine iff_of_false (fun q => ?_) (fun q => by cases q)
    have h1 : nI k = (-1 : Int32) := q
    have h2 : (nI k).toInt = (-1 : Int32).toInt := congrArg Int32.toInt h1
    rw [nI_toInt (by have := h k rfl; omega)] at h2
    have h3 : (-1 : Int32).toInt = -1 := by decide
    omega
theorem behind_le (V : Cv) (c e : Nat) : behind V c e ≤ v_sz V c + 2 := by
  unfold behind
  split
  · omega
  · split <;> omega
def riskV (V : Cv) (c e : Nat) : Nat :=
  if 0 < usF V (hearOf V c e (v_sz V c) true) e then sumTo (fun k => if (!decide (k = c) && fitB V (hearOf V c e (v_sz V c) true) e k) = true then worth V k else 0) (v_nc V) / usF V (hearOf V c e (v_sz V c) true) e else 0
theorem rsum_le {V : Cv} {c e m : Nat} {H : Hv} (h : VOK V) (hm : m ≤ v_nc V) : sumTo (fun k => if (!decide (k = c) && fitB V H e k) = true then worth V k else 0) m ≤ 117612 := by
  have h1 : sumTo (fun k => if (!decide (k = c) && fitB V H e k) = true then worth V k else 0) m ≤ m * 9801 := sumTo_le m (fun i hi => by
    have := worth_le h (c := i) (by omega)
    show (if (!decide (i = c) && fitB V H e i) = true then worth V i else 0) ≤ 9801
    split <;> omega)
  have := h.nc
  have : m * 9801 ≤ 12 * 9801 := Nat.mul_le_mul_right _ (by omega)
  omega
theorem riskV_le {V : Cv} {c e : Nat} (h : VOK V) : riskV V c e ≤ 117612 := by
  unfold riskV
  split
  · exact Nat.le_trans (Nat.div_le_self _ _) (rsum_le h (Nat.le_refl _))
  · omega
def nxB (V : Cv) (n e c : Nat) : Nat := if n < v_sz V c then (if noteBy V c e n = 9 then 5 else noteBy V c e n) else 6
def bitsTo (V : Cv) (H : Hv) (e : Nat) : Nat → Nat
  | 0 => 0
  | c + 1 => if fitB V H e c = true then bitsTo V H e c ||| 2 ^ nxB V H.1 e c else bitsTo V H e c
theorem noteBy_lt9 {V : Cv} {c e i : Nat} (h : VOK V) (hc : c < v_nc V) (hi : i < v_sz V c) (hn : ¬ noteBy V c e i = 9) : noteBy V c e i ≤ 4 := by
  have h1 := h.nt hc hi
  have h2 : v_nt V c (i - 1) ≤ 4 := h.nt hc (by omega)
  unfold noteBy at hn ⊢
  repeat' split at hn
  all_goals (repeat' split)
  all_goals omega
theorem nxB_le {V : Cv} {n e c : Nat} (h : VOK V) (hc : c < v_nc V) : nxB V n e c ≤ 6 := by
  unfold nxB
  split
  · rename_i q
    split
    · omega
    · rename_i q2
      have := noteBy_lt9 h hc q q2
      omega
  · omega
theorem inR_n {n m : Nat} (hn : n < 2 ^ 31) : inR (nI n) m ↔ n < m := by
  unfold inR
  rw [nI_toInt hn]
  omega
def mixB (V : Cv) (e c d : Nat) : Bool := fitB V (hearOf V c e (v_sz V c) true) e d
def mixN (V : Cv) (e c m : Nat) : Nat := cntTo (fun d => decide (c < d) && mixB V e c d) m
theorem mixN_0 (V : Cv) (e c : Nat) : mixN V e c (c + 1) = 0 := by
  have : ∀ m, m ≤ c + 1 → mixN V e c m = 0 := by
    intro m
    induction m with
    | zero => intro _; rfl
    | succ m ih => intro h; unfold mixN at ih ⊢; rw [cntTo_f (by simp; omega)]; exact ih (by omega)
  exact this _ (Nat.le_refl _)
def mixAll (V : Cv) (e : Nat) (m : Nat) : Nat := sumTo (fun c => mixN V e c (v_nc V)) m
theorem mixAll_le {V : Cv} (h : VOK V) (e m : Nat) (hm : m ≤ v_nc V) : mixAll V e m ≤ 144 := by
  have h0 := h.nc
  have h1 : mixAll V e m ≤ m * 12 := sumTo_le m (fun i hi => Nat.le_trans (cntTo_le _ _) h0)
  omega
def fmAt (V : Cv) (e c : Nat) : Option Nat := if fstTo (fun d => decide (c < d) && mixB V e c d) (v_nc V) < v_nc V then some (100 * c + fstTo (fun d => decide (c < d) && mixB V e c d) (v_nc V)) else none
def fmTo (V : Cv) (e : Nat) : Nat → Option Nat
  | 0 => none
  | c + 1 => match fmTo V e c with
    | some x => some x
    | none => fmAt V e c
theorem fmTo_some {V : Cv} {e c x : Nat} : ∀ n, c < n → fmTo V e c = none → fmAt V e c = some x → fmTo V e n = some x
  | 0, h, _, _ => absurd h (by omega)
  | n + 1, h, h1, h2 => by
    unfold fmTo
    by_cases q : c < n
    · rw [fmTo_some n q h1 h2]
    · have : c = n := by omega
      subst this
      rw [h1]; exact h2
def difV (V : Cv) (H : Hv) (c : Nat) : Nat := ((v_sz V c - H.1) + (H.1 - v_sz V c)) + cntTo (fun i => !decide (H.2.2 i = 9) && !decide (H.2.2 i = v_nt V c i)) (min (v_sz V c) H.1)
theorem difV_le {V : Cv} {H : Hv} {c : Nat} (h : VOK V) (hc : c < v_nc V) (hH : H.1 ≤ 8) : difV V H c ≤ 24 := by
  have h1 := h.sz hc
  have h2 := cntTo_le (fun i => !decide (H.2.2 i = 9) && !decide (H.2.2 i = v_nt V c i)) (min (v_sz V c) H.1)
  unfold difV
  omega
def sureB (V : Cv) (H : Hv) (e n : Nat) : Bool := match gsTo V (n, false, H.2.2) e (v_nc V) with
  | none => false
  | some k => decide (v_su V ≤ likeOf V (n, false, H.2.2) e k)
def whenV (V : Cv) (H : Hv) (e : Nat) : Option Nat := if fstTo (sureB V H e) (H.1 + 1) ≤ H.1 then some (fstTo (sureB V H e) (H.1 + 1)) else none
theorem like_le {V : Cv} {H : Hv} {e c : Nat} (h : VOK V) (hc : c < v_nc V) : likeOf V H e c ≤ 99000 := by
  unfold likeOf
  split
  · unfold perK
    split
    · have := h.us hc
      exact Nat.le_trans (Nat.div_le_self _ _) (by omega)
    · omega
  · omega
set_option maxRecDepth 20000 in
theorem t_perThousand {g : Ev} {S : St} {iv : IV} {lw : LW} {a b : Nat} (ha : a ≤ 20000) (hb : b ≤ 100000) : CP g mX6_perThousand [.int (nI a), .int (nI b)] S iv lw (.int (nI (perK a b))) := by
  refine CT_ofQ rfl (by decide) (Nat.le_of_ble_eq_true rfl) (lv := [(0, .int (nI a)), (1, .int (nI b))]) rfl (fun Q hQ => ?_)
  refine V_iload_n (i := 1) dX6_perThousand_0 rfl 1 rfl ?_
  refine V_if_le (tgt := 14) dX6_perThousand_1 rfl (fun h1 => ?_) (fun h1 => ?_)
  · have h1 : b ≤ 0 := (nI_leI (b := 0) (by omega) (by omega)).mp h1
    refine V_iconst (v := nI 0) dX6_perThousand_14 rfl ?_
    refine V_iret dX6_perThousand_15 ⟨rfl, rfl⟩ (Nat.zero_le _) (Nat.zero_le _) ?_
    subst hQ
    exact ⟨by unfold perK; rw [if_neg (by omega)], rfl⟩
  · have h1 : ¬ b ≤ 0 := fun q => h1 ((nI_leI (b := 0) (by omega) (by omega)).mpr q)
    refine V_sipush (v := nI 1000) dX6_perThousand_4 rfl ?_
    refine V_iload_n (i := 0) dX6_perThousand_7 rfl 0 rfl ?_
    refine V_imul dX6_perThousand_8 ?_
    refine M_top (pk_mul _ _) ?_
    refine V_iload_n (i := 1) dX6_perThousand_9 rfl 1 rfl ?_
    refine V_idiv dX6_perThousand_10 (nI_ne0 (by omega) (by omega)) ?_
    refine M_top (x2 := nI (1000 * a / b)) (pk_div (by omega) (by omega) (by omega)) ?_
    refine V_goto (tgt := 15) dX6_perThousand_11 rfl ?_
    refine V_iret dX6_perThousand_15 ⟨rfl, rfl⟩ (Nat.zero_le _) (Nat.zero_le _) ?_
    subst hQ
    exact ⟨by unfold perK; rw [if_pos (by omega)], rfl⟩
set_option maxRecDepth 20000 in
theorem t_usesThatFit {g : Ev} {S : St} {iv : IV} {lw : LW} {b : Nat} (hb : IsCamp S b) {V : Cv} (hV : XC iv b V) {q : Nat} (hq : IsHear S q) {H : Hv} (hH : XH iv q H) {e : Nat} (he : e < v_ne V) : CP g mX6_usesThatFit [.ref (b), .ref (q), .int (nI e)] S iv lw (.int (nI (usF V H e))) := by
  refine CT_ofQ rfl (by decide) (Nat.le_of_ble_eq_true rfl) (lv := [(0, .ref (b)), (1, .ref (q)), (2, .int (nI e))]) rfl (fun Q hQ => ?_)
  have hnc := hV.ok.nc
  refine V_iconst (v := nI 0) dX6_usesThatFit_0 rfl ?_
  refine V_istore_n (lv2 := [(3, .int (nI 0)), (0, .ref (b)), (1, .ref (q)), (2, .int (nI e))]) dX6_usesThatFit_1 rfl (by decide) rfl ?_
  refine V_iconst (v := nI 0) dX6_usesThatFit_2 rfl ?_
  refine V_istore (lv2 := [(4, .int (nI 0)), (3, .int (nI 0)), (0, .ref (b)), (1, .ref (q)), (2, .int (nI e))]) dX6_usesThatFit_3 (by decide) rfl ?_
  have lp5 : ∀ j, j ≤ (v_nc V) → VM g mX6_usesThatFit 5 [(3, .int (nI (sumTo (fun c => if fitB V H e c = true then v_us V c else 0) j))), (4, .int (nI j)), (0, .ref (b)), (1, .ref (q)), (2, .int (nI e))] [] S iv lw Q := by
    refine up_ind fun j hj ih5 => ?_
    refine V_iload dX6_usesThatFit_5 1 rfl ?_
    refine V_aload_n (i := 0) dX6_usesThatFit_7 rfl 2 rfl ?_
    refine M_getI (x := nI (v_nc V)) dX6_usesThatFit_8 lf_X6_56 rfl hb.1 (hV.nc) ?_
    refine V_icmp_ge (tgt := 40) dX6_usesThatFit_11 rfl (fun h11 => ?_) (fun h11 => ?_)
    · have h11 : (v_nc V) ≤ j := (nI_leI (by omega) (by omega)).mp h11
      refine V_iload_n (i := 3) dX6_usesThatFit_40 rfl 0 rfl ?_
      refine V_iret dX6_usesThatFit_41 ⟨rfl, rfl⟩ (Nat.zero_le _) (Nat.zero_le _) ?_
      subst hQ
      exact ⟨by rw [show j = v_nc V by omega]; rfl, rfl⟩
    · have h11 : ¬ (v_nc V) ≤ j := fun q => h11 ((nI_leI (by omega) (by omega)).mpr q)
      refine V_aload_n (i := 0) dX6_usesThatFit_14 rfl 2 rfl ?_
      refine V_aload_n (i := 1) dX6_usesThatFit_15 rfl 3 rfl ?_
      refine V_iload_n (i := 2) dX6_usesThatFit_16 rfl 4 rfl ?_
      refine V_iload dX6_usesThatFit_17 1 rfl ?_
      refine M_callSp (As := [.ref (b), .ref (q), .int (nI e), .int (nI j)]) (st := []) dX6_usesThatFit_19 ls_X6_59 ⟨by decide, by decide⟩ ⟨rfl, rfl⟩ rfl (Nat.le_of_ble_eq_true rfl) (t_isFit hb hV hq hH he (c := j) (by omega)) ?_
      refine V_if_eq (tgt := 34) dX6_usesThatFit_22 rfl (fun h22 => ?_) (fun h22 => ?_)
      · have h22 : ¬ (fitB V H e j = true) := bI_eq0.mp h22
        refine V_iinc (v := nI (j + 1)) (lv2 := [(4, .int (nI (j + 1))), (3, .int (nI (sumTo (fun c => if fitB V H e c = true then v_us V c else 0) j))), (0, .ref (b)), (1, .ref (q)), (2, .int (nI e))]) dX6_usesThatFit_34 1 rfl (nI_inc _) (by decide) rfl ?_
        refine V_goto (tgt := 5) dX6_usesThatFit_37 rfl ?_
        refine V_sub [1, 0, 2, 3, 4] rfl ?_
        exact M_at (ih5 (by omega)) (by rw [sumTo_f h22]; rfl) rfl (rfl) (rfl)
      · have h22 : fitB V H e j = true := bI_ne.mp h22
        refine V_iload_n (i := 3) dX6_usesThatFit_25 rfl 0 rfl ?_
        refine V_aload_n (i := 0) dX6_usesThatFit_26 rfl 2 rfl ?_
        refine V_iload dX6_usesThatFit_27 1 rfl ?_
        refine M_callVp (As := [.int (nI j)]) (st := [.int (nI (sumTo (fun c => if fitB V H e c = true then v_us V c else 0) j))]) dX6_usesThatFit_29 lv_X6_63 ⟨by decide, by decide⟩ ⟨rfl, rfl⟩ rfl (ci := 0) hb.1 rfl rfl (Nat.le_of_ble_eq_true rfl) (t_X0_useOf hb hV (c := j) (by omega)) ?_
        refine V_iadd dX6_usesThatFit_32 ?_
        refine M_top (nI_add _ _) ?_
        refine V_istore_n (lv2 := [(3, .int (nI ((sumTo (fun c => if fitB V H e c = true then v_us V c else 0) j) + (v_us V j)))), (4, .int (nI j)), (0, .ref (b)), (1, .ref (q)), (2, .int (nI e))]) dX6_usesThatFit_33 rfl (by decide) rfl ?_
        refine V_iinc (v := nI (j + 1)) (lv2 := [(4, .int (nI (j + 1))), (3, .int (nI ((sumTo (fun c => if fitB V H e c = true then v_us V c else 0) j) + (v_us V j)))), (0, .ref (b)), (1, .ref (q)), (2, .int (nI e))]) dX6_usesThatFit_34 1 rfl (nI_inc _) (by decide) rfl ?_
        refine V_goto (tgt := 5) dX6_usesThatFit_37 rfl ?_
        refine V_sub [1, 0, 2, 3, 4] rfl ?_
        exact M_at (ih5 (by omega)) (by rw [sumTo_t h22]; rfl) rfl (rfl) (rfl)
  refine V_sub [1, 0, 2, 3, 4] rfl ?_
  exact M_at (lp5 0 (Nat.zero_le _)) (rfl) rfl (rfl) (rfl)
set_option maxRecDepth 20000 in
theorem t_likelyOf {g : Ev} {S : St} {iv : IV} {lw : LW} {b : Nat} (hb : IsCamp S b) {V : Cv} (hV : XC iv b V) {q : Nat} (hq : IsHear S q) {H : Hv} (hH : XH iv q H) {e c : Nat} (he : e < v_ne V) (hc : c < v_nc V) : CP g mX6_likelyOf [.ref (b), .ref (q), .int (nI e), .int (nI c)] S iv lw (.int (nI (likeOf V H e c))) := by
  refine CT_ofQ rfl (by decide) (Nat.le_of_ble_eq_true rfl) (lv := [(0, .ref (b)), (1, .ref (q)), (2, .int (nI e)), (3, .int (nI c))]) rfl (fun Q hQ => ?_)
  refine V_aload_n (i := 0) dX6_likelyOf_0 rfl 0 rfl ?_
  refine V_aload_n (i := 1) dX6_likelyOf_1 rfl 1 rfl ?_
  refine V_iload_n (i := 2) dX6_likelyOf_2 rfl 2 rfl ?_
  refine V_iload_n (i := 3) dX6_likelyOf_3 rfl 3 rfl ?_
  refine M_callSp (As := [.ref (b), .ref (q), .int (nI e), .int (nI c)]) (st := []) dX6_likelyOf_4 ls_X6_59 ⟨by decide, by decide⟩ ⟨rfl, rfl⟩ rfl (Nat.le_of_ble_eq_true rfl) (t_isFit hb hV hq hH he hc) ?_
  refine V_if_ne (tgt := 12) dX6_likelyOf_7 rfl (fun h7 => ?_) (fun h7 => ?_)
  · have h7 : fitB V H e c = true := bI_ne.mp h7
    refine V_aload_n (i := 0) dX6_likelyOf_12 rfl 0 rfl ?_
    refine V_iload_n (i := 3) dX6_likelyOf_13 rfl 3 rfl ?_
    refine M_callVp (As := [.int (nI c)]) (st := []) dX6_likelyOf_14 lv_X6_63 ⟨by decide, by decide⟩ ⟨rfl, rfl⟩ rfl (ci := 0) hb.1 rfl rfl (Nat.le_of_ble_eq_true rfl) (t_X0_useOf hb hV hc) ?_
    refine V_aload_n (i := 0) dX6_likelyOf_17 rfl 0 rfl ?_
    refine V_aload_n (i := 1) dX6_likelyOf_18 rfl 1 rfl ?_
    refine V_iload_n (i := 2) dX6_likelyOf_19 rfl 2 rfl ?_
    refine M_callSp (As := [.ref (b), .ref (q), .int (nI e)]) (st := [.int (nI (v_us V c))]) dX6_likelyOf_20 ls_X6_66 ⟨by decide, by decide⟩ ⟨rfl, rfl⟩ rfl (Nat.le_of_ble_eq_true rfl) (t_usesThatFit hb hV hq hH he) ?_
    have hu := hV.ok.us hc
    have hf : usF V H e ≤ 1188 := usF_le hV.ok _ (Nat.le_refl _)
    refine M_callSp (As := [.int (nI (v_us V c)), .int (nI (usF V H e))]) (st := []) dX6_likelyOf_23 ls_X6_70 ⟨by decide, by decide⟩ ⟨rfl, rfl⟩ rfl (Nat.le_of_ble_eq_true rfl) (t_perThousand (by omega) (by omega)) ?_
    refine V_iret dX6_likelyOf_26 ⟨rfl, rfl⟩ (Nat.zero_le _) (Nat.zero_le _) ?_
    subst hQ
    exact ⟨by unfold likeOf; rw [if_pos h7], rfl⟩
  · have h7 : ¬ (fitB V H e c = true) := bI_eq0.mp h7
    refine V_iconst (v := nI 0) dX6_likelyOf_10 rfl ?_
    refine V_iret dX6_likelyOf_11 ⟨rfl, rfl⟩ (Nat.zero_le _) (Nat.zero_le _) ?_
    subst hQ
    exact ⟨by unfold likeOf; rw [if_neg h7], rfl⟩
theorem t_useOf_o {g : Ev} {S : St} {iv : IV} {lw : LW} {b : Nat} (hb : IsCamp S b) {V : Cv} (hV : XC iv b V) {o : Option Nat} (ho : ∀ k, o = some k → k < v_nc V) : CP g mX0_useOf [.ref (b), .int (oI o)] S iv lw (.int (nI (usO V o))) := by
  cases o with
  | none => exact t_X0_useOf_no hb
  | some k => exact t_X0_useOf hb hV (ho k rfl)
set_option maxRecDepth 20000 in
theorem t_guessOf {g : Ev} {S : St} {iv : IV} {lw : LW} {b : Nat} (hb : IsCamp S b) {V : Cv} (hV : XC iv b V) {q : Nat} (hq : IsHear S q) {H : Hv} (hH : XH iv q H) {e : Nat} (he : e < v_ne V) : CP g mX6_guessOf [.ref (b), .ref (q), .int (nI e)] S iv lw (.int (oI (gsTo V H e (v_nc V)))) := by
  refine CT_ofQ rfl (by decide) (Nat.le_of_ble_eq_true rfl) (lv := [(0, .ref (b)), (1, .ref (q)), (2, .int (nI e))]) rfl (fun Q hQ => ?_)
  have hnc := hV.ok.nc
  refine V_iconst (v := (-1)) dX6_guessOf_0 rfl ?_
  refine V_istore_n (lv2 := [(3, .int ((-1))), (0, .ref (b)), (1, .ref (q)), (2, .int (nI e))]) dX6_guessOf_1 rfl (by decide) rfl ?_
  refine V_iconst (v := nI 0) dX6_guessOf_2 rfl ?_
  refine V_istore (lv2 := [(4, .int (nI 0)), (3, .int ((-1))), (0, .ref (b)), (1, .ref (q)), (2, .int (nI e))]) dX6_guessOf_3 (by decide) rfl ?_
  have lp5 : ∀ j, j ≤ (v_nc V) → VM g mX6_guessOf 5 [(3, .int (oI (gsTo V H e j))), (4, .int (nI j)), (0, .ref (b)), (1, .ref (q)), (2, .int (nI e))] [] S iv lw Q := by
    refine up_ind fun j hj ih5 => ?_
    refine V_iload dX6_guessOf_5 1 rfl ?_
    refine V_aload_n (i := 0) dX6_guessOf_7 rfl 2 rfl ?_
    refine M_getI (x := nI (v_nc V)) dX6_guessOf_8 lf_X6_56 rfl hb.1 (hV.nc) ?_
    refine V_icmp_ge (tgt := 48) dX6_guessOf_11 rfl (fun h11 => ?_) (fun h11 => ?_)
    · have h11 : (v_nc V) ≤ j := (nI_leI (by omega) (by omega)).mp h11
      refine V_iload_n (i := 3) dX6_guessOf_48 rfl 0 rfl ?_
      refine V_iret dX6_guessOf_49 ⟨rfl, rfl⟩ (Nat.zero_le _) (Nat.zero_le _) ?_
      subst hQ
      exact ⟨by rw [show j = v_nc V by omega], rfl⟩
    · have h11 : ¬ (v_nc V) ≤ j := fun q => h11 ((nI_leI (by omega) (by omega)).mpr q)
      refine V_aload_n (i := 0) dX6_guessOf_14 rfl 2 rfl ?_
      refine V_iload dX6_guessOf_15 1 rfl ?_
      refine M_callVp (As := [.int (nI j)]) (st := []) dX6_guessOf_17 lv_X6_63 ⟨by decide, by decide⟩ ⟨rfl, rfl⟩ rfl (ci := 0) hb.1 rfl rfl (Nat.le_of_ble_eq_true rfl) (t_X0_useOf hb hV (c := j) (by omega)) ?_
      refine V_aload_n (i := 0) dX6_guessOf_20 rfl 2 rfl ?_
      refine V_iload_n (i := 3) dX6_guessOf_21 rfl 0 rfl ?_
      refine M_callVp (As := [.int (oI (gsTo V H e j))]) (st := [.int (nI (v_us V j))]) dX6_guessOf_22 lv_X6_63 ⟨by decide, by decide⟩ ⟨rfl, rfl⟩ rfl (ci := 0) hb.1 rfl rfl (Nat.le_of_ble_eq_true rfl) (t_useOf_o hb hV (fun k hk => by have := gsTo_lt j hk; omega)) ?_
      have hu1 := hV.ok.us (c := j) (by omega)
      have hu2 := usO_le (H := H) (e := e) (n := j) hV.ok (by omega)
      refine V_icmp_le (tgt := 42) dX6_guessOf_25 rfl (fun h25 => ?_) (fun h25 => ?_)
      · have h25 : (v_us V j) ≤ (usO V (gsTo V H e j)) := (nI_leI (by omega) (by omega)).mp h25
        refine V_iinc (v := nI (j + 1)) (lv2 := [(4, .int (nI (j + 1))), (3, .int (oI (gsTo V H e j))), (0, .ref (b)), (1, .ref (q)), (2, .int (nI e))]) dX6_guessOf_42 1 rfl (nI_inc _) (by decide) rfl ?_
        refine V_goto (tgt := 5) dX6_guessOf_45 rfl ?_
        refine V_sub [1, 0, 2, 3, 4] rfl ?_
        exact M_at (ih5 (by omega)) (by rw [gsTo_f (fun z => by omega)]; rfl) rfl (rfl) (rfl)
      · have h25 : ¬ (v_us V j) ≤ (usO V (gsTo V H e j)) := fun q => h25 ((nI_leI (by omega) (by omega)).mpr q)
        have h25 : usO V (gsTo V H e j) < v_us V j := by omega
        refine V_aload_n (i := 0) dX6_guessOf_28 rfl 2 rfl ?_
        refine V_aload_n (i := 1) dX6_guessOf_29 rfl 3 rfl ?_
        refine V_iload_n (i := 2) dX6_guessOf_30 rfl 4 rfl ?_
        refine V_iload dX6_guessOf_31 1 rfl ?_
        refine M_callSp (As := [.ref (b), .ref (q), .int (nI e), .int (nI j)]) (st := []) dX6_guessOf_33 ls_X6_59 ⟨by decide, by decide⟩ ⟨rfl, rfl⟩ rfl (Nat.le_of_ble_eq_true rfl) (t_isFit hb hV hq hH he (c := j) (by omega)) ?_
        refine V_if_eq (tgt := 42) dX6_guessOf_36 rfl (fun h36 => ?_) (fun h36 => ?_)
        · have h36 : ¬ (fitB V H e j = true) := bI_eq0.mp h36
          refine V_iinc (v := nI (j + 1)) (lv2 := [(4, .int (nI (j + 1))), (3, .int (oI (gsTo V H e j))), (0, .ref (b)), (1, .ref (q)), (2, .int (nI e))]) dX6_guessOf_42 1 rfl (nI_inc _) (by decide) rfl ?_
          refine V_goto (tgt := 5) dX6_guessOf_45 rfl ?_
          refine V_sub [1, 0, 2, 3, 4] rfl ?_
          exact M_at (ih5 (by omega)) (by rw [gsTo_f (fun z => h36 z.2)]; rfl) rfl (rfl) (rfl)
        · have h36 : fitB V H e j = true := bI_ne.mp h36
          refine V_iload dX6_guessOf_39 1 rfl ?_
          refine V_istore_n (lv2 := [(3, .int (nI j)), (4, .int (nI j)), (0, .ref (b)), (1, .ref (q)), (2, .int (nI e))]) dX6_guessOf_41 rfl (by decide) rfl ?_
          refine V_iinc (v := nI (j + 1)) (lv2 := [(4, .int (nI (j + 1))), (3, .int (nI j)), (0, .ref (b)), (1, .ref (q)), (2, .int (nI e))]) dX6_guessOf_42 1 rfl (nI_inc _) (by decide) rfl ?_
          refine V_goto (tgt := 5) dX6_guessOf_45 rfl ?_
          refine V_sub [1, 0, 2, 3, 4] rfl ?_
          exact M_at (ih5 (by omega)) (by rw [gsTo_t h25 h36]; rfl) rfl (rfl) (rfl)
  refine V_sub [1, 0, 2, 3, 4] rfl ?_
  exact M_at (lp5 0 (Nat.zero_le _)) (rfl) rfl (rfl) (rfl)
set_option maxRecDepth 20000 in
theorem t_fitsAnother {g : Ev} {S : St} {iv : IV} {lw : LW} {b : Nat} (hb : IsCamp S b) {V : Cv} (hV : XC iv b V) {q : Nat} (hq : IsHear S q) {H : Hv} (hH : XH iv q H) {e c : Nat} (he : e < v_ne V) (hc : c < v_nc V) : CP g mX6_fitsAnother [.ref (b), .ref (q), .int (nI e), .int (nI c)] S iv lw (.int (bI (alone V H e c = false))) := by
  refine CT_ofQ rfl (by decide) (Nat.le_of_ble_eq_true rfl) (lv := [(0, .ref (b)), (1, .ref (q)), (2, .int (nI e)), (3, .int (nI c))]) rfl (fun Q hQ => ?_)
  have hnc := hV.ok.nc
  refine V_iconst (v := nI 0) dX6_fitsAnother_0 rfl ?_
  refine V_istore (lv2 := [(4, .int (nI 0)), (0, .ref (b)), (1, .ref (q)), (2, .int (nI e)), (3, .int (nI c))]) dX6_fitsAnother_1 (by decide) rfl ?_
  have lp3 : ∀ j, j ≤ (v_nc V) → allTo (fun k => decide (k = c) || !fitB V H e k) j = true → VM g mX6_fitsAnother 3 [(4, .int (nI j)), (0, .ref (b)), (1, .ref (q)), (2, .int (nI e)), (3, .int (nI c))] [] S iv lw Q := by
    refine up_ind fun j hj ih3 => ?_
    intro hall
    refine V_iload dX6_fitsAnother_3 0 rfl ?_
    refine V_aload_n (i := 0) dX6_fitsAnother_5 rfl 1 rfl ?_
    refine M_getI (x := nI (v_nc V)) dX6_fitsAnother_6 lf_X6_56 rfl hb.1 (hV.nc) ?_
    refine V_icmp_ge (tgt := 37) dX6_fitsAnother_9 rfl (fun h9 => ?_) (fun h9 => ?_)
    · have h9 : (v_nc V) ≤ j := (nI_leI (by omega) (by omega)).mp h9
      refine V_iconst (v := nI 0) dX6_fitsAnother_37 rfl ?_
      refine V_zret dX6_fitsAnother_38 ⟨rfl, rfl⟩ (by rfl) (Nat.zero_le _) (Nat.zero_le _) ?_
      subst hQ
      obtain rfl : j = v_nc V := by omega
      exact ⟨by rw [bI_f (by rw [show alone V H e c = true from hall]; decide)], rfl⟩
    · have h9 : ¬ (v_nc V) ≤ j := fun q => h9 ((nI_leI (by omega) (by omega)).mpr q)
      refine V_iload dX6_fitsAnother_12 0 rfl ?_
      refine V_iload_n (i := 3) dX6_fitsAnother_14 rfl 4 rfl ?_
      refine V_icmp_eq (tgt := 31) dX6_fitsAnother_15 rfl (fun h15 => ?_) (fun h15 => ?_)
      · have h15 : j = c := (nI_eq (by omega) (by omega)).mp h15
        refine V_iinc (v := nI (j + 1)) (lv2 := [(4, .int (nI (j + 1))), (0, .ref (b)), (1, .ref (q)), (2, .int (nI e)), (3, .int (nI c))]) dX6_fitsAnother_31 0 rfl (nI_inc _) (by decide) rfl ?_
        refine V_goto (tgt := 3) dX6_fitsAnother_34 rfl ?_
        have hk1 : (true && (decide (j = c) || !fitB V H e j)) = true := by simp [h15]
        refine V_sub [0, 1, 2, 3, 4] rfl ?_
        exact M_at (ih3 (by omega) (by show (allTo _ _ && _) = true; rw [hall]; exact hk1)) (rfl) rfl (rfl) (rfl)
      · have h15 : ¬ j = c := fun q => h15 ((nI_eq (by omega) (by omega)).mpr q)
        refine V_aload_n (i := 0) dX6_fitsAnother_18 rfl 1 rfl ?_
        refine V_aload_n (i := 1) dX6_fitsAnother_19 rfl 2 rfl ?_
        refine V_iload_n (i := 2) dX6_fitsAnother_20 rfl 3 rfl ?_
        refine V_iload dX6_fitsAnother_21 0 rfl ?_
        refine M_callSp (As := [.ref (b), .ref (q), .int (nI e), .int (nI j)]) (st := []) dX6_fitsAnother_23 ls_X6_59 ⟨by decide, by decide⟩ ⟨rfl, rfl⟩ rfl (Nat.le_of_ble_eq_true rfl) (t_isFit hb hV hq hH he (c := j) (by omega)) ?_
        refine V_if_eq (tgt := 31) dX6_fitsAnother_26 rfl (fun h26 => ?_) (fun h26 => ?_)
        · have h26 : ¬ (fitB V H e j = true) := bI_eq0.mp h26
          refine V_iinc (v := nI (j + 1)) (lv2 := [(4, .int (nI (j + 1))), (0, .ref (b)), (1, .ref (q)), (2, .int (nI e)), (3, .int (nI c))]) dX6_fitsAnother_31 0 rfl (nI_inc _) (by decide) rfl ?_
          refine V_goto (tgt := 3) dX6_fitsAnother_34 rfl ?_
          have hk1 : (true && (decide (j = c) || !fitB V H e j)) = true := by simp [h26]
          refine V_sub [0, 1, 2, 3, 4] rfl ?_
          exact M_at (ih3 (by omega) (by show (allTo _ _ && _) = true; rw [hall]; exact hk1)) (rfl) rfl (rfl) (rfl)
        · have h26 : fitB V H e j = true := bI_ne.mp h26
          refine V_iconst (v := nI 1) dX6_fitsAnother_29 rfl ?_
          refine V_zret dX6_fitsAnother_30 ⟨rfl, rfl⟩ (by rfl) (Nat.zero_le _) (Nat.zero_le _) ?_
          subst hQ
          exact ⟨by rw [bI_t (show alone V H e c = false from allTo_bad (i := j) (by omega) (by simp [h15, h26]))], rfl⟩
  refine V_sub [0, 1, 2, 3, 4] rfl ?_
  exact M_at (lp3 0 (Nat.zero_le _) rfl) (rfl) rfl (rfl) (rfl)
set_option maxRecDepth 20000 in
theorem t_countedBehind {g : Ev} {S : St} {iv : IV} {lw : LW} {b : Nat} (hb : IsCamp S b) {V : Cv} (hV : XC iv b V) {q : Nat} (hq : IsHear S q) (hd : b + 8 < q) {c e : Nat} (hc : c < v_nc V) (he : e < v_ne V) : CQ g mX6_countedBehind [.ref (b), .ref (q), .int (nI c), .int (nI e)] S iv lw (fun w iv2 lw2 => w = .int (nI (behind V c e)) ∧ lw = lw2 ∧ Off q 2 iv iv2) := by
  refine CT_ofQ rfl (by decide) (Nat.le_of_ble_eq_true rfl) (lv := [(0, .ref (b)), (1, .ref (q)), (2, .int (nI c)), (3, .int (nI e))]) rfl (fun Q hQ => ?_)
  have hsz := hV.ok.sz hc
  refine V_aload_n (i := 1) dX6_countedBehind_0 rfl 1 rfl ?_
  refine V_aload_n (i := 0) dX6_countedBehind_1 rfl 0 rfl ?_
  refine V_iload_n (i := 2) dX6_countedBehind_2 rfl 2 rfl ?_
  refine V_iload_n (i := 3) dX6_countedBehind_3 rfl 3 rfl ?_
  refine M_callVn (As := [.ref (b), .int (nI c), .int (nI e)]) (st := []) dX6_countedBehind_4 lv_X6_73 ⟨by decide, by decide⟩ ⟨rfl, rfl⟩ rfl (ci := 2) hq.1 rfl rfl (Nat.le_of_ble_eq_true rfl) (t_takeCall hq hb hV hd hc he) (fun iv4 lw4 q4 => ?_)
  obtain ⟨e1, hX4, hO4⟩ := q4
  subst e1
  have hV4 := hV.off hO4 hd
  refine V_aload_n (i := 0) dX6_countedBehind_7 rfl 0 rfl ?_
  refine V_iload_n (i := 2) dX6_countedBehind_8 rfl 2 rfl ?_
  refine M_callVp (As := [.int (nI c)]) (st := []) dX6_countedBehind_9 lv_X6_18 ⟨by decide, by decide⟩ ⟨rfl, rfl⟩ rfl (ci := 0) hb.1 rfl rfl (Nat.le_of_ble_eq_true rfl) (t_X0_sizeOf hb hV4 hc) ?_
  refine V_istore (lv2 := [(4, .int (nI (v_sz V c))), (0, .ref (b)), (1, .ref (q)), (2, .int (nI c)), (3, .int (nI e))]) dX6_countedBehind_12 (by decide) rfl ?_
  refine V_iconst (v := nI 0) dX6_countedBehind_14 rfl ?_
  refine V_istore (lv2 := [(5, .int (nI 0)), (4, .int (nI (v_sz V c))), (0, .ref (b)), (1, .ref (q)), (2, .int (nI c)), (3, .int (nI e))]) dX6_countedBehind_15 (by decide) rfl ?_
  have lp17 : ∀ j, j ≤ (v_sz V c + 1) → ∀ iv2 : IV, Off q 2 iv iv2 → (∀ i, i < v_sz V c → iv2 (q + 1) i = nI (noteBy V c e i)) → (∀ k, k < j → alone V (hearOf V c e k false) e c = false) → VM g mX6_countedBehind 17 [(5, .int (nI j)), (4, .int (nI (v_sz V c))), (0, .ref (b)), (1, .ref (q)), (2, .int (nI c)), (3, .int (nI e))] [] S iv2 lw Q := by
    refine up_ind fun j hj ih17 => ?_
    intro iv2 hO hrow hal
    have hV2 := hV.off hO hd
    refine V_iload dX6_countedBehind_17 0 rfl ?_
    refine V_iload dX6_countedBehind_19 1 rfl ?_
    refine V_icmp_gt (tgt := 50) dX6_countedBehind_21 rfl (fun h21 => ?_) (fun h21 => ?_)
    · have h21 : (v_sz V c) < j := (nI_ltI (by omega) (by omega)).mp h21
      refine V_aload_n (i := 1) dX6_countedBehind_50 rfl 3 rfl ?_
      refine V_iload dX6_countedBehind_51 1 rfl ?_
      refine V_iconst (v := nI 1) dX6_countedBehind_53 rfl ?_
      refine M_callVn (As := [.int (nI (v_sz V c)), .int (nI 1)]) (st := []) dX6_countedBehind_54 lv_X6_77 ⟨by decide, by decide⟩ ⟨rfl, rfl⟩ rfl (ci := 2) hq.1 rfl rfl (Nat.le_of_ble_eq_true rfl) (t_cutTo hq (n := v_sz V c) (by omega) (o := true) rfl) (fun iv54 lw54 q54 => ?_)
      obtain ⟨rfl, e2⟩ := q54
      subst e2
      have hOj : Off q 2 iv (up2 (up2 iv2 q 1 (nI (v_sz V c))) q 2 (nI 1)) := hO.tr off_cut
      have hVj := hV.off hOj hd
      have hXj : XH (up2 (up2 iv2 q 1 (nI (v_sz V c))) q 2 (nI 1)) q (hearOf V c e (v_sz V c) true) := xh_cut hrow (by omega) (by omega) (fun i hi => noteBy_le hV.ok hc (by omega)) rfl
      have hk : fstTo (fun n => alone V (hearOf V c e n false) e c) (v_sz V c + 1) = v_sz V c + 1 := fstTo_none _ (fun i hi => hal i (by omega))
      refine V_aload_n (i := 0) dX6_countedBehind_57 rfl 2 rfl ?_
      refine V_aload_n (i := 1) dX6_countedBehind_58 rfl 3 rfl ?_
      refine V_iload_n (i := 3) dX6_countedBehind_59 rfl 5 rfl ?_
      refine V_iload_n (i := 2) dX6_countedBehind_60 rfl 4 rfl ?_
      refine M_callSp (As := [.ref (b), .ref (q), .int (nI e), .int (nI c)]) (st := []) dX6_countedBehind_61 ls_X6_81 ⟨by decide, by decide⟩ ⟨rfl, rfl⟩ rfl (Nat.le_of_ble_eq_true rfl) (t_fitsAnother hb hVj hq hXj he hc) ?_
      refine V_if_eq (tgt := 74) dX6_countedBehind_64 rfl (fun h64 => ?_) (fun h64 => ?_)
      · have h64 : ¬ (alone V (hearOf V c e (v_sz V c) true) e c = false) := bI_eq0.mp h64
        refine V_iload dX6_countedBehind_74 1 rfl ?_
        refine V_iconst (v := nI 1) dX6_countedBehind_76 rfl ?_
        refine V_iadd dX6_countedBehind_77 ?_
        refine M_top (nI_add _ _) ?_
        refine V_iret dX6_countedBehind_78 ⟨rfl, rfl⟩ (Nat.zero_le _) (Nat.zero_le _) ?_
        subst hQ
        exact ⟨_, _, _, rfl, rfl, by unfold behind; rw [hk, if_neg (by omega), if_pos (by simpa using h64)], rfl, hOj⟩
      · have h64 : alone V (hearOf V c e (v_sz V c) true) e c = false := bI_ne.mp h64
        refine V_iload dX6_countedBehind_67 1 rfl ?_
        refine V_iconst (v := nI 2) dX6_countedBehind_69 rfl ?_
        refine V_iadd dX6_countedBehind_70 ?_
        refine M_top (nI_add _ _) ?_
        refine V_goto (tgt := 78) dX6_countedBehind_71 rfl ?_
        refine V_iret dX6_countedBehind_78 ⟨rfl, rfl⟩ (Nat.zero_le _) (Nat.zero_le _) ?_
        subst hQ
        exact ⟨_, _, _, rfl, rfl, by unfold behind; rw [hk, if_neg (by omega), if_neg (by simpa using h64)], rfl, hOj⟩
    · have h21 : ¬ (v_sz V c) < j := fun q => h21 ((nI_ltI (by omega) (by omega)).mpr q)
      refine V_aload_n (i := 1) dX6_countedBehind_24 rfl 3 rfl ?_
      refine V_iload dX6_countedBehind_25 0 rfl ?_
      refine V_iconst (v := nI 0) dX6_countedBehind_27 rfl ?_
      refine M_callVn (As := [.int (nI j), .int (nI 0)]) (st := []) dX6_countedBehind_28 lv_X6_77 ⟨by decide, by decide⟩ ⟨rfl, rfl⟩ rfl (ci := 2) hq.1 rfl rfl (Nat.le_of_ble_eq_true rfl) (t_cutTo hq (n := j) (by omega) (o := false) rfl) (fun iv28 lw28 q28 => ?_)
      obtain ⟨rfl, e2⟩ := q28
      subst e2
      have hOj : Off q 2 iv (up2 (up2 iv2 q 1 (nI j)) q 2 (nI 0)) := hO.tr off_cut
      have hVj := hV.off hOj hd
      have hXj : XH (up2 (up2 iv2 q 1 (nI j)) q 2 (nI 0)) q (hearOf V c e j false) := xh_cut hrow (by omega) (by omega) (fun i hi => noteBy_le hV.ok hc (by omega)) rfl
      refine V_aload_n (i := 0) dX6_countedBehind_31 rfl 2 rfl ?_
      refine V_aload_n (i := 1) dX6_countedBehind_32 rfl 3 rfl ?_
      refine V_iload_n (i := 3) dX6_countedBehind_33 rfl 5 rfl ?_
      refine V_iload_n (i := 2) dX6_countedBehind_34 rfl 4 rfl ?_
      refine M_callSp (As := [.ref (b), .ref (q), .int (nI e), .int (nI c)]) (st := []) dX6_countedBehind_35 ls_X6_81 ⟨by decide, by decide⟩ ⟨rfl, rfl⟩ rfl (Nat.le_of_ble_eq_true rfl) (t_fitsAnother hb hVj hq hXj he hc) ?_
      refine V_if_ne (tgt := 44) dX6_countedBehind_38 rfl (fun h38 => ?_) (fun h38 => ?_)
      · have h38 : alone V (hearOf V c e j false) e c = false := bI_ne.mp h38
        refine V_iinc (v := nI (j + 1)) (lv2 := [(5, .int (nI (j + 1))), (4, .int (nI (v_sz V c))), (0, .ref (b)), (1, .ref (q)), (2, .int (nI c)), (3, .int (nI e))]) dX6_countedBehind_44 0 rfl (nI_inc _) (by decide) rfl ?_
        refine V_goto (tgt := 17) dX6_countedBehind_47 rfl ?_
        refine V_sub [0, 1, 2, 3, 4, 5] rfl ?_
        exact M_at (ih17 (by omega) (up2 (up2 iv2 q 1 (nI j)) q 2 (nI 0)) hOj (fun i hi => by rw [up2_a (by omega), up2_a (by omega)]; exact hrow i hi) (fun k hk => (Nat.lt_or_ge k j).elim (hal k) (fun z => by have e9 : k = j := (by omega); rw [e9]; exact h38))) (rfl) rfl (rfl) (rfl)
      · have h38 : ¬ (alone V (hearOf V c e j false) e c = false) := bI_eq0.mp h38
        refine V_iload dX6_countedBehind_41 0 rfl ?_
        refine V_iret dX6_countedBehind_43 ⟨rfl, rfl⟩ (Nat.zero_le _) (Nat.zero_le _) ?_
        subst hQ
        have hk : fstTo (fun n => alone V (hearOf V c e n false) e c) (v_sz V c + 1) = j := fstTo_at _ (by omega) hal (by simpa using h38)
        exact ⟨_, _, _, rfl, rfl, by unfold behind; rw [hk, if_pos (by omega)], rfl, hOj⟩
  refine V_sub [0, 1, 2, 3, 4, 5] rfl ?_
  exact M_at (lp17 0 (Nat.zero_le _) iv4 hO4 hX4.2.2.2 (fun k hk => absurd hk (by omega))) (rfl) rfl (rfl) (rfl)
