/-! the reference: how far apart, rows, sets -/
theorem pk_dig {f : Nat → Nat} {n i : Nat} (hf : ∀ i, i < n → f i ≤ 6) : pkTo f n / 8 ^ i % 8 = if i < n then f i + 1 else 0 := by
  by_cases h : i < n
  · rw [if_pos h]; exact pkTo_get n h hf
  · rw [if_neg h]
    have h1 := pkTo_bound n hf
    have h2 : 8 ^ n ≤ 8 ^ i := Nat.pow_le_pow_right (by decide) (by omega)
    rw [Nat.div_eq_of_lt (by omega)]
theorem cntTo_ext {p : Nat → Bool} {a : Nat} : ∀ k, (∀ i, a ≤ i → p i = false) → cntTo p (a + k) = cntTo p a
  | 0, _ => rfl
  | k + 1, h => by
    show cntTo p (a + k + 1) = _
    rw [cntTo_s, h (a + k) (by omega), cntTo_ext k h]
    rfl
def apP (f g : Nat → Nat) (n m i : Nat) : Bool := decide (¬ (i < n ∧ i < m)) || !decide (f i = g i)
theorem dst_pk {f g : Nat → Nat} {n m : Nat} (hn : n ≤ 8) (hm : m ≤ 8) (hf : ∀ i, i < n → f i ≤ 6) (hg : ∀ i, i < m → g i ≤ 6) : dst (pkTo f n) (pkTo g m) = cntTo (apP f g n m) (max n m) := by
  have h1 : ∀ i, decide (¬ pkTo f n / 8 ^ i % 8 = pkTo g m / 8 ^ i % 8) = decide (¬ (if i < n then f i + 1 else 0) = (if i < m then g i + 1 else 0)) := fun i => by rw [pk_dig hf, pk_dig hg]
  unfold dst
  rw [cntTo_congr 8 (fun i _ => h1 i)]
  have h2 := cntTo_ext (p := fun i => decide (¬ (if i < n then f i + 1 else 0) = (if i < m then g i + 1 else 0))) (a := max n m) (8 - max n m) (fun i hi => by
    show decide _ = false
    rw [if_neg (by omega), if_neg (by omega)]
    rfl)
  rw [show max n m + (8 - max n m) = 8 by omega] at h2
  rw [h2]
  refine cntTo_congr _ (fun i hi => ?_)
  unfold apP
  by_cases a : i < n
  · by_cases c : i < m
    · rw [if_pos a, if_pos c, decide_eq_false (show ¬ ¬ (i < n ∧ i < m) from fun z => z ⟨a, c⟩), Bool.false_or]
      by_cases e : f i = g i
      · rw [decide_eq_true e, decide_eq_false (fun z => z (by rw [e]))]; rfl
      · rw [decide_eq_false e, decide_eq_true (show ¬ f i + 1 = g i + 1 by omega)]; rfl
    · rw [if_pos a, if_neg c, decide_eq_true (show ¬ f i + 1 = 0 by omega), decide_eq_true (show ¬ (i < n ∧ i < m) from fun z => c z.2), Bool.true_or]
  · have c : i < m := by omega
    rw [if_neg a, if_pos c, decide_eq_true (show ¬ 0 = g i + 1 by omega), decide_eq_true (show ¬ (i < n ∧ i < m) from fun z => a z.1), Bool.true_or]
theorem ap_t1 {f g : Nat → Nat} {n m i : Nat} (h : ¬ (i < n ∧ i < m)) : apP f g n m i = true := by unfold apP; rw [decide_eq_true h]; rfl
theorem ap_t2 {f g : Nat → Nat} {n m i : Nat} (h : ¬ f i = g i) : apP f g n m i = true := by unfold apP; rw [decide_eq_false h]; cases decide (¬ (i < n ∧ i < m)) <;> rfl
theorem ap_f {f g : Nat → Nat} {n m i : Nat} (h : i < n ∧ i < m) (h2 : f i = g i) : apP f g n m i = false := by unfold apP; rw [decide_eq_false (fun z => z h), decide_eq_true h2]; rfl
theorem apP_sym {f g : Nat → Nat} {n m i : Nat} : apP f g n m i = apP g f m n i := by
  by_cases h : i < n ∧ i < m
  · by_cases h2 : f i = g i
    · rw [ap_f h h2, ap_f ⟨h.2, h.1⟩ h2.symm]
    · rw [ap_t2 h2, ap_t2 (fun z => h2 z.symm)]
  · rw [ap_t1 h, ap_t1 (fun z => h ⟨z.2, z.1⟩)]
theorem nt6 {V : Cv} (hv : VOK V) {c : Nat} (hc : c < v_nc V) : ∀ i, i < v_sz V c → v_nt V c i ≤ 6 := fun i hi => Nat.le_trans (hv.nt hc hi) (by decide)
theorem dpk_ap {V : Cv} (hv : VOK V) {c d : Nat} (hc : c < v_nc V) (hd : d < v_nc V) : cntTo (apP (v_nt V c) (v_nt V d) (v_sz V c) (v_sz V d)) (max (v_sz V c) (v_sz V d)) = dpk V c d := (dst_pk (hv.sz hc) (hv.sz hd) (nt6 hv hc) (nt6 hv hd)).symm
theorem dpk_le (V : Cv) (c d : Nat) : dpk V c d ≤ 8 := dst_le _ _
theorem dst_sym (x y : Nat) : dst x y = dst y x := by unfold dst; exact cntTo_congr 8 (fun i _ => decide_eq_decide.mpr (by constructor <;> intro h z <;> exact h z.symm))
theorem dpk_sym (V : Cv) (c d : Nat) : dpk V c d = dpk V d c := dst_sym _ _
/-- the row of the reference -/
def MRw (iv : IV) (b n : Nat) (r : Nat → Nat) : Prop := ∀ i, i < n → iv (b + 39) i = nI (r i)
theorem far_ap {V : Cv} (hv : VOK V) {c n : Nat} {r : Nat → Nat} (hc : c < v_nc V) (hn : n ≤ 8) (hr : ∀ i, r i ≤ 4) : cntTo (apP (v_nt V c) r (v_sz V c) n) (max (v_sz V c) n) = dst (pkTo r n) (v_pk V c) := by
  rw [dst_sym]
  exact (dst_pk (hv.sz hc) hn (nt6 hv hc) (fun i _ => Nat.le_trans (hr i) (by decide))).symm
theorem clr_t {V : Cv} {x d j : Nat} {but : Option Nat} (h : but = some j ∨ d ≤ dst x (v_pk V j)) : (decide (but = some j) || decide (d ≤ dst x (v_pk V j))) = true := by
  rcases h with h | h
  · rw [decide_eq_true h]; rfl
  · rw [decide_eq_true h, Bool.or_true]
theorem clr_f {V : Cv} {x d j : Nat} {but : Option Nat} (h : ¬ but = some j) (h2 : ¬ d ≤ dst x (v_pk V j)) : (decide (but = some j) || decide (d ≤ dst x (v_pk V j))) = false := by rw [decide_eq_false h, decide_eq_false h2]; rfl
theorem p5_div {x j : Nat} : x / 5 ^ j / 5 = x / 5 ^ (j + 1) := by rw [Nat.div_div_eq_div_mul, Nat.pow_succ]
theorem dn1 (k : Nat) : nI k + Int32.ofInt (-1) = nI k - nI 1 := by
  show nI k + (-1) = nI k - 1
  rw [Int32.sub_eq_add_neg]
theorem ch_cnt {f g : Nat → Nat} {n : Nat} : cntTo (apP f g n n) (max n n) = cntTo (fun i => !decide (f i = g i)) n := by
  rw [Nat.max_self]
  exact cntTo_congr n (fun i hi => by unfold apP; rw [decide_eq_false (fun z => z ⟨hi, hi⟩), Bool.false_or])
theorem nearTo_bit {V : Cv} {d c : Nat} : ∀ n k, (nearTo V d c n).testBit k = (decide (k < n) && !decide (k = c) && decide (dpk V c k < d))
  | 0, k => by show (0 : Nat).testBit k = _; rw [Nat.zero_testBit]; simp
  | n + 1, k => by
    have ih := nearTo_bit (V := V) (d := d) (c := c) n k
    by_cases h : ¬ n = c ∧ dpk V c n < d
    · rw [nearTo_t h, Nat.testBit_or, ih, Nat.testBit_two_pow]
      by_cases e : n = k
      · subst e; simp [h.1, h.2]
      · have : (k < n + 1) ↔ (k < n) := by omega
        simp [e, this]
    · rw [nearTo_f h, ih]
      by_cases e : k = n
      · subst e
        have h9 : k = c ∨ ¬ dpk V c k < d := by omega
        rcases h9 with h9 | h9
        · simp [h9]
        · simp [h9]
      · have : (k < n + 1) ↔ (k < n) := by omega
        simp [this]
/-- a set whose calls are far enough apart -/
def apartS (V : Cv) (d t : Nat) : Prop := ∀ c, c < v_nc V → ∀ k, k < c → ¬ (t.testBit c = true ∧ t.testBit k = true ∧ dpk V c k < d)
theorem kV_t {V : Cv} {d t : Nat} (h : apartS V d t) : kV V d t = sumTo (fun c => if t.testBit c = true then v_us V c else 0) (v_nc V) := by
  unfold kV
  rw [if_pos]
  refine (allTo_iff (v_nc V)).mpr (fun c hc => ?_)
  unfold uB
  cases ht : t.testBit c with
  | false => rfl
  | true =>
    rw [Bool.true_and, Bool.not_not]
    refine decide_eq_true ?_
    apply Nat.eq_of_testBit_eq
    intro k
    rw [Nat.testBit_and, nearTo_bit, Nat.zero_testBit]
    cases htk : t.testBit k with
    | false => rw [Bool.and_false]
    | true =>
      rw [Bool.and_true]
      by_cases hk : k < v_nc V
      · by_cases e : k = c
        · simp [e]
        · have hd : ¬ dpk V c k < d := by
            rcases Nat.lt_or_ge k c with q | q
            · exact fun z => h c hc k q ⟨ht, htk, z⟩
            · exact fun z => h k hk c (by omega) ⟨htk, ht, by rw [dpk_sym]; exact z⟩
          simp [hd]
      · simp [hk]
theorem kV_f {V : Cv} {d t c k : Nat} (hc : c < v_nc V) (hk : k < c) (h1 : t.testBit c = true) (h2 : t.testBit k = true) (h3 : dpk V c k < d) : kV V d t = 0 := by
  unfold kV
  rw [if_neg]
  intro q
  have h4 := (allTo_iff (v_nc V)).mp q c hc
  unfold uB at h4
  rw [h1, Bool.true_and, Bool.not_not] at h4
  have h5 := of_decide_eq_true h4
  have h6 : (nearTo V d c (v_nc V) &&& t).testBit k = true := by
    rw [Nat.testBit_and, nearTo_bit, h2]
    have e : ¬ k = c := by omega
    have e2 : k < v_nc V := by omega
    simp [e, e2, h3]
  rw [h5, Nat.zero_testBit] at h6
  cases h6
/-- the order of learning -/
theorem ah_lt {V : Cv} {a c : Nat} (ha : a < v_nc V) (h : aheadB V c a = true) : aheadN V a < aheadN V c := by
  have h1 : ∀ o, aheadB V a o = true → aheadB V c o = true := fun o ho => by
    unfold aheadB at h ho ⊢
    simp only [Bool.or_eq_true, Bool.and_eq_true, decide_eq_true_eq] at h ho ⊢
    omega
  have h2 : aheadB V a a = false := by unfold aheadB; simp
  have : ∀ n, cntTo (aheadB V a) n + (if a < n then 1 else 0) ≤ cntTo (aheadB V c) n := by
    intro n
    induction n with
    | zero => simp [cntTo, sumTo]
    | succ n ih =>
      rw [cntTo_s, cntTo_s]
      by_cases e : a = n
      · subst e
        rw [h2, h, if_neg (show ¬ (false : Bool) = true by decide), if_pos (rfl : (true : Bool) = true), if_pos (show a < a + 1 by omega)]
        rw [if_neg (show ¬ a < a by omega)] at ih
        omega
      · by_cases q : aheadB V a n = true
        · rw [if_pos q, if_pos (h1 n q)]
          by_cases z : a < n
          · rw [if_pos z] at ih; rw [if_pos (by omega)]; omega
          · rw [if_neg z] at ih; rw [if_neg (by omega)]; omega
        · rw [if_neg q]
          by_cases z : a < n
          · rw [if_pos z] at ih; rw [if_pos (by omega)]; split <;> omega
          · rw [if_neg z] at ih; rw [if_neg (by omega)]; split <;> omega
  have h3 := this (v_nc V)
  rw [if_pos ha] at h3
  unfold aheadN
  omega
theorem ah_tot {V : Cv} {a c : Nat} (h : ¬ a = c) : aheadB V a c = true ∨ aheadB V c a = true := by
  unfold aheadB
  simp only [Bool.or_eq_true, Bool.and_eq_true, decide_eq_true_eq]
  omega
theorem ah_inj {V : Cv} {a c : Nat} (ha : a < v_nc V) (hc : c < v_nc V) (h : aheadN V a = aheadN V c) : a = c := by
  apply Decidable.byContradiction
  intro e
  rcases ah_tot e with q | q
  · have := ah_lt hc q; omega
  · have := ah_lt ha q; omega
/-- the best of those not taken: k have been -/
def lrB (V : Cv) (k : Nat) : Nat → Option Nat
  | 0 => none
  | n + 1 => if k ≤ aheadN V n ∧ (lrB V k n = none ∨ worth V ((lrB V k n).getD 0) < worth V n) then some n else lrB V k n
theorem lrB_lt {V : Cv} {k : Nat} : ∀ n q, lrB V k n = some q → q < n ∧ k ≤ aheadN V q
  | 0, q, h => by cases h
  | n + 1, q, h => by
    unfold lrB at h
    split at h
    · rename_i z; cases h; exact ⟨by omega, z.1⟩
    · have := lrB_lt n q h; exact ⟨by omega, this.2⟩
theorem lrB_best {V : Cv} {k : Nat} : ∀ n q, lrB V k n = some q → ∀ o, o < n → k ≤ aheadN V o → aheadB V q o = false
  | 0, q, h, _, _, _ => by cases h
  | n + 1, q, h, o, ho, hk => by
    unfold lrB at h
    by_cases z : k ≤ aheadN V n ∧ (lrB V k n = none ∨ worth V ((lrB V k n).getD 0) < worth V n)
    · rw [if_pos z] at h
      cases h
      by_cases e : o = n
      · subst e; unfold aheadB; simp
      · rcases z.2 with z2 | z2
        · exact absurd (show ∃ o, o < n ∧ k ≤ aheadN V o from ⟨o, by omega, hk⟩) (fun ⟨o2, h1, h2⟩ => by
            have : ∀ m, lrB V k m = none → ∀ o, o < m → ¬ k ≤ aheadN V o := by
              intro m
              induction m with
              | zero => intro _ o h9; omega
              | succ m ih =>
                intro hm o h9 h8
                unfold lrB at hm
                split at hm
                · cases hm
                · rename_i q9
                  by_cases e2 : o = m
                  · subst e2; exact q9 ⟨h8, Or.inl hm⟩
                  · exact ih hm o (by omega) h8
            exact this n z2 o2 h1 h2)
        · cases e3 : lrB V k n with
          | none =>
            rw [e3] at z2
            have : ∀ m, lrB V k m = none → ∀ o, o < m → ¬ k ≤ aheadN V o := by
              intro m
              induction m with
              | zero => intro _ o h9; omega
              | succ m ih =>
                intro hm o h9 h8
                unfold lrB at hm
                split at hm
                · cases hm
                · rename_i q9
                  by_cases e2 : o = m
                  · subst e2; exact q9 ⟨h8, Or.inl hm⟩
                  · exact ih hm o (by omega) h8
            exact absurd hk (this n e3 o (by omega))
          | some q2 =>
            have h5 := lrB_best n q2 e3 o (by omega) hk
            rw [e3] at z2
            have z3 : worth V q2 < worth V n := z2
            unfold aheadB at h5 ⊢
            simp only [Bool.or_eq_false_iff, Bool.and_eq_false_iff, decide_eq_false_iff_not] at h5 ⊢
            omega
    · rw [if_neg z] at h
      by_cases e : o = n
      · subst e
        have z2 : ¬ worth V ((lrB V k o).getD 0) < worth V o := fun y => z ⟨hk, Or.inr y⟩
        rw [h] at z2
        have z3 : ¬ worth V q < worth V o := z2
        have := (lrB_lt o q h).1
        unfold aheadB
        simp only [Bool.or_eq_false_iff, Bool.and_eq_false_iff, decide_eq_false_iff_not]
        omega
      · exact lrB_best n q h o (by omega) hk
theorem lrB_none {V : Cv} {k : Nat} : ∀ n, lrB V k n = none → ∀ o, o < n → ¬ k ≤ aheadN V o
  | 0, _, o, h => by omega
  | n + 1, hm, o, h9 => by
    intro h8
    unfold lrB at hm
    split at hm
    · cases hm
    · rename_i q9
      by_cases e2 : o = n
      · subst e2; exact q9 ⟨h8, Or.inl hm⟩
      · exact lrB_none n hm o (by omega) h8
theorem cnt_one {p q : Nat → Bool} {c n : Nat} (hc : c < n) (h1 : p c = false) (h2 : q c = true) (h3 : ∀ i, i < n → ¬ i = c → p i = q i) : cntTo q n = cntTo p n + 1 := by
  have : ∀ m, m ≤ n → cntTo q m = cntTo p m + (if c < m then 1 else 0) := by
    intro m
    induction m with
    | zero => intro _; simp [cntTo, sumTo]
    | succ m ih =>
      intro hm
      rw [cntTo_s, cntTo_s, ih (by omega)]
      by_cases e : m = c
      · subst e; rw [h1, h2, if_neg (show ¬ m < m by omega), if_pos (rfl : (true : Bool) = true), if_neg (show ¬ (false : Bool) = true by decide), if_pos (show m < m + 1 by omega)]
      · rw [h3 m (by omega) e]
        by_cases z : c < m
        · rw [if_pos z, if_pos (show c < m + 1 by omega)]; omega
        · rw [if_neg z, if_neg (show ¬ c < m + 1 by omega)]; omega
  rw [this n (Nat.le_refl _), if_pos hc]
/-- as many are taken as were looked for; the next one is ahead of just those not taken -/
theorem lr_inv {V : Cv} : ∀ k, k ≤ v_nc V → cntTo (fun c => decide (aheadN V c < k)) (v_nc V) = k ∧ (k < v_nc V → ∃ q, lrB V k (v_nc V) = some q ∧ aheadN V q = k)
  | k, hk => by
    have hcnt : cntTo (fun c => decide (aheadN V c < k)) (v_nc V) = k := by
      match k, hk with
      | 0, _ =>
        have : ∀ n, cntTo (fun c => decide (aheadN V c < 0)) n = 0 := by
          intro n
          induction n with
          | zero => rfl
          | succ n ih => rw [cntTo_s, ih]; simp
        exact this _
      | k + 1, hk =>
        obtain ⟨h1, h2⟩ := lr_inv (V := V) k (by omega)
        obtain ⟨q, hq, hq2⟩ := h2 (by omega)
        have := cnt_one (p := fun c => decide (aheadN V c < k)) (q := fun c => decide (aheadN V c < k + 1)) (c := q) (n := v_nc V) (lrB_lt _ _ hq).1 (decide_eq_false (by omega)) (decide_eq_true (by omega)) (fun i hi hne => decide_eq_decide.mpr ⟨fun z => by omega, fun z => by
          have : ¬ aheadN V i = k := fun y => hne (ah_inj hi (lrB_lt _ _ hq).1 (y.trans hq2.symm))
          omega⟩)
        rw [this, h1]
    refine ⟨hcnt, fun hlt => ?_⟩
    cases e : lrB V k (v_nc V) with
    | none =>
      have h1 := lrB_none _ e
      have h2 : cntTo (fun c => decide (aheadN V c < k)) (v_nc V) = v_nc V := by
        have : ∀ n, n ≤ v_nc V → cntTo (fun c => decide (aheadN V c < k)) n = n := by
          intro n
          induction n with
          | zero => intro _; rfl
          | succ n ih => intro hn; rw [cntTo_s, ih (by omega), if_pos (decide_eq_true (by have := h1 n (by omega); omega))]
        exact this _ (Nat.le_refl _)
      omega
    | some q =>
      refine ⟨q, rfl, ?_⟩
      obtain ⟨q1, q2⟩ := lrB_lt _ _ e
      have h3 : cntTo (aheadB V q) (v_nc V) = cntTo (fun c => decide (aheadN V c < k)) (v_nc V) := cntTo_congr _ (fun o ho => by
        by_cases z : aheadN V o < k
        · rw [decide_eq_true z]
          have hne : ¬ o = q := fun y => by rw [y] at z; omega
          rcases ah_tot hne with y | y
          · have := ah_lt q1 y; omega
          · exact y
        · rw [decide_eq_false z]; exact lrB_best _ _ e o ho (by omega))
      show cntTo (aheadB V q) (v_nc V) = k
      rw [h3, hcnt]
/-- the bits of those taken -/
def tkTo (V : Cv) : Nat → Nat
  | 0 => 0
  | k + 1 => tkTo V k ||| 2 ^ ((lrB V k (v_nc V)).getD 0)
theorem tk_bit {V : Cv} : ∀ k, k ≤ v_nc V → ∀ c, c < v_nc V → (tkTo V k).testBit c = decide (aheadN V c < k)
  | 0, _, c, _ => by show (0 : Nat).testBit c = _; rw [Nat.zero_testBit]; simp
  | k + 1, hk, c, hc => by
    obtain ⟨q, hq, hq2⟩ := (lr_inv (V := V) k (by omega)).2 (by omega)
    show (tkTo V k ||| 2 ^ ((lrB V k (v_nc V)).getD 0)).testBit c = _
    rw [Nat.testBit_or, tk_bit k (by omega) c hc, hq]
    show (_ || (2 ^ q).testBit c) = _
    rw [Nat.testBit_two_pow]
    by_cases e : q = c
    · subst e; rw [decide_eq_true rfl, Bool.or_true, decide_eq_true (show aheadN V q < k + 1 by omega)]
    · rw [decide_eq_false e, Bool.or_false]
      exact decide_eq_decide.mpr ⟨fun z => by omega, fun z => by
        have : ¬ aheadN V c = k := fun y => e (ah_inj (lrB_lt _ _ hq).1 hc (hq2.trans y.symm))
        omega⟩
theorem tk_lt {V : Cv} : ∀ k, k ≤ v_nc V → tkTo V k < 2 ^ v_nc V
  | 0, _ => Nat.pow_pos (by decide)
  | k + 1, hk => by
    obtain ⟨q, hq, hq2⟩ := (lr_inv (V := V) k (by omega)).2 (by omega)
    show (tkTo V k ||| 2 ^ ((lrB V k (v_nc V)).getD 0)) < _
    rw [hq]
    exact Nat.or_lt_two_pow (tk_lt k (by omega)) (Nat.pow_lt_pow_right (by decide) (lrB_lt _ _ hq).1)
theorem lr_ff {V : Cv} {i q : Nat} (hi : i < v_nc V) (h : lrB V i (v_nc V) = some q) : ffO (fun c => decide (aheadN V c = i)) (v_nc V) = some q := by
  obtain ⟨q2, h1, h2⟩ := (lr_inv (V := V) i (by omega)).2 hi
  rw [h] at h1
  cases h1
  exact ffO_at (lrB_lt _ _ h).1 (fun c hc => decide_eq_false (fun y => by have := ah_inj (V := V) (by have := (lrB_lt _ _ h).1; omega) (lrB_lt _ _ h).1 (y.trans h2.symm); omega)) (decide_eq_true h2)
theorem same_n {V : Cv} {c d j : Nat} (h : j = min (v_sz V c) (v_sz V d)) (h2 : ∀ k, k < j → v_nt V c k = v_nt V d k) : sameV V c d = j := by
  subst h
  exact fstTo_none _ (fun i hi => by rw [decide_eq_true (h2 i hi)]; rfl)
theorem same_at {V : Cv} {c d j : Nat} (h : j < min (v_sz V c) (v_sz V d)) (h2 : ∀ k, k < j → v_nt V c k = v_nt V d k) (h3 : ¬ v_nt V c j = v_nt V d j) : sameV V c d = j := fstTo_at _ h (fun i hi => by rw [decide_eq_true (h2 i hi)]; rfl) (by rw [decide_eq_false h3]; rfl)
theorem al0 {p : Nat → Bool} : bI (allTo p 0 = false) = nI 0 := bI_f (fun z => by cases (show true = false from z))
theorem bI_or1 {p : Prop} [Decidable p] : bI p ||| nI 1 = nI 1 := by
  by_cases h : p
  · rw [bI_t h]; rfl
  · rw [bI_f h]; rfl
theorem bI_or0 {p : Prop} [Decidable p] : bI p ||| nI 0 = bI p := by
  by_cases h : p
  · rw [bI_t h]; rfl
  · rw [bI_f h]; rfl
theorem tw_t {V : Cv} {i j : Nat} (h : j = i ∨ 1 ≤ dpk V j i) : bI (allTo (fun k => decide (some j = some k) || decide (1 ≤ dst (v_pk V j) (v_pk V k))) (i + 1) = false) = bI (allTo (fun k => decide (some j = some k) || decide (1 ≤ dst (v_pk V j) (v_pk V k))) i = false) := by
  have h2 : (decide (some j = some i) || decide (1 ≤ dst (v_pk V j) (v_pk V i))) = true := clr_t (h.elim (fun e => Or.inl (congrArg some e)) Or.inr)
  refine bI_congr ?_
  show (allTo _ i && (decide (some j = some i) || decide (1 ≤ dst (v_pk V j) (v_pk V i)))) = false ↔ _
  rw [h2, Bool.and_true]
theorem tw_f {V : Cv} {i j : Nat} (h : ¬ j = i) (h1 : dpk V j i = 0) : bI (allTo (fun k => decide (some j = some k) || decide (1 ≤ dst (v_pk V j) (v_pk V k))) (i + 1) = false) = nI 1 := by
  have h2 : (decide (some j = some i) || decide (1 ≤ dst (v_pk V j) (v_pk V i))) = false := clr_f (fun e => h (Option.some.inj e)) (show ¬ 1 ≤ dpk V j i by omega)
  refine bI_t ?_
  show (allTo _ i && (decide (some j = some i) || decide (1 ≤ dst (v_pk V j) (v_pk V i)))) = false
  rw [h2, Bool.and_false]
theorem d5_at {m j x : Nat} (h : j < m) : nI (x / 5 ^ j % 5) = nI (d5 m x (m - j - 1)) := by
  unfold d5
  rw [show m - 1 - (m - j - 1) = j by omega]
theorem ch_others {V : Cv} (hv : VOK V) {c x : Nat} (hc : c < v_nc V) : cntTo (fun i => !decide (d5 (v_sz V c) x i = v_nt V c i)) (v_sz V c) = dst (rowP (v_sz V c) x) (v_pk V c) := by
  unfold rowP
  rw [show v_pk V c = pkTo (v_nt V c) (v_sz V c) from rfl, dst_pk (hv.sz hc) (hv.sz hc) (fun i _ => Nat.le_trans (d5_le _ _ _) (by decide)) (nt6 hv hc), ch_cnt]
/-- the first mixed one, as far as read -/
def fmI (V : Cv) (e c : Nat) (o : Option Nat) : Nat → Option Nat
  | 0 => o
  | n + 1 => if fmI V e c o n = none ∧ (decide (c < n) && mixB V e c n) = true then some (100 * c + n) else fmI V e c o n
theorem fmI_0 {V : Cv} {e c : Nat} {o : Option Nat} : ∀ n, n ≤ c + 1 → fmI V e c o n = o
  | 0, _ => rfl
  | n + 1, h => by
    unfold fmI
    rw [if_neg (fun z => by have z2 := z.2; rw [decide_eq_false (by omega)] at z2; cases z2)]
    exact fmI_0 n (by omega)
theorem fmI_s {V : Cv} {e c x : Nat} : ∀ n, fmI V e c (some x) n = some x
  | 0 => rfl
  | n + 1 => by
    unfold fmI
    rw [fmI_s n, if_neg (fun z => by cases z.1)]
theorem fmI_n {V : Cv} {e c : Nat} : ∀ n, fmI V e c none n = if fstTo (fun d => decide (c < d) && mixB V e c d) n < n then some (100 * c + fstTo (fun d => decide (c < d) && mixB V e c d) n) else none
  | 0 => rfl
  | n + 1 => by
    have ih := fmI_n (V := V) (e := e) (c := c) n
    have hle := fstTo_le (fun d => decide (c < d) && mixB V e c d) n
    have hs : fstTo (fun d => decide (c < d) && mixB V e c d) (n + 1) = if fstTo (fun d => decide (c < d) && mixB V e c d) n < n then fstTo (fun d => decide (c < d) && mixB V e c d) n else if (decide (c < n) && mixB V e c n) = true then n else n + 1 := rfl
    unfold fmI
    rw [ih, hs]
    by_cases h : fstTo (fun d => decide (c < d) && mixB V e c d) n < n
    · rw [if_pos h, if_neg (fun z => by cases z.1), if_pos h, if_pos (by omega)]
    · rw [if_neg h, if_neg h]
      by_cases h2 : (decide (c < n) && mixB V e c n) = true
      · rw [if_pos ⟨rfl, h2⟩, if_pos h2, if_pos (by omega)]
      · rw [if_neg (fun z => h2 z.2), if_neg h2, if_neg (by omega)]
theorem fm_end {V : Cv} {e c : Nat} : fmI V e c (fmTo V e c) (v_nc V) = fmTo V e (c + 1) := by
  have h : fmTo V e (c + 1) = (match fmTo V e c with | some x => some x | none => fmAt V e c) := rfl
  rw [h]
  cases fmTo V e c with
  | some x => exact fmI_s _
  | none => exact fmI_n _
theorem fmI_lt {V : Cv} {e c : Nat} {o : Option Nat} (ho : ∀ k, o = some k → k < 1300) (hc : c < 12) : ∀ n, n ≤ 12 → ∀ k, fmI V e c o n = some k → k < 1300
  | 0, _, k, h => ho k h
  | n + 1, hn, k, h => by
    unfold fmI at h
    split at h
    · cases h; omega
    · exact fmI_lt ho hc n (by omega) k h
theorem fmTo_lt7 {V : Cv} {e : Nat} (hv : v_nc V ≤ 12) : ∀ n, n ≤ 12 → ∀ k, fmTo V e n = some k → k < 1300
  | 0, _, k, h => by cases h
  | n + 1, hn, k, h => by
    rw [← fm_end] at h
    exact fmI_lt (fmTo_lt7 hv n (by omega)) (by omega) _ hv k h
theorem fmi_f {V : Cv} {e c n : Nat} {o : Option Nat} (h : ¬ (decide (c < n) && mixB V e c n) = true) : fmI V e c o (n + 1) = fmI V e c o n := if_neg (fun z => h z.2)
theorem fmi_t {V : Cv} {e c n : Nat} {o : Option Nat} (h : fmI V e c o n = none) (h2 : (decide (c < n) && mixB V e c n) = true) : fmI V e c o (n + 1) = some (100 * c + n) := if_pos ⟨h, h2⟩
theorem fmi_s {V : Cv} {e c n : Nat} {o : Option Nat} (h : ¬ fmI V e c o n = none) : fmI V e c o (n + 1) = fmI V e c o n := if_neg (fun z => h z.1)
def apB (V : Cv) (d t : Nat) : Bool := allTo (fun c => allTo (fun k => !(t.testBit c && (t.testBit k && decide (dpk V c k < d)))) c) (v_nc V)
theorem apB_t {V : Cv} {d t : Nat} (h : apB V d t = true) : apartS V d t := fun c hc k hk z => by
  have h1 := (allTo_iff c).mp ((allTo_iff (v_nc V)).mp h c hc) k hk
  rw [z.1, z.2.1, decide_eq_true z.2.2] at h1
  cases h1
theorem apB_f {V : Cv} {d t : Nat} (h : ¬ apB V d t = true) : kV V d t = 0 := by
  apply Decidable.byContradiction
  intro h0
  refine h ((allTo_iff (v_nc V)).mpr fun c hc => (allTo_iff c).mpr fun k hk => ?_)
  by_cases z : t.testBit c = true ∧ t.testBit k = true ∧ dpk V c k < d
  · exact absurd (kV_f hc hk z.1 z.2.1 z.2.2) h0
  · cases h1 : t.testBit c with
    | false => rfl
    | true =>
      cases h2 : t.testBit k with
      | false => rfl
      | true => rw [decide_eq_false (fun y => z ⟨h1, h2, y⟩)]; rfl
theorem apB_0 {V : Cv} {d : Nat} : apB V d 0 = true := (allTo_iff (v_nc V)).mpr fun c hc => (allTo_iff c).mpr fun k hk => by rw [Nat.zero_testBit]; rfl
abbrev kS (V : Cv) (t n : Nat) : Nat := sumTo (fun c => if t.testBit c = true then v_us V c else 0) n
theorem kS_0 {V : Cv} : ∀ n, kS V 0 n = 0
  | 0 => rfl
  | n + 1 => by
    show kS V 0 n + (if (0 : Nat).testBit n = true then v_us V n else 0) = 0
    rw [kS_0 n, Nat.zero_testBit]
    rfl
theorem kV_leS {V : Cv} {d t : Nat} : kV V d t ≤ kS V t (v_nc V) := by
  unfold kV
  split
  · exact Nat.le_refl _
  · exact Nat.zero_le _
def kmI (f : Nat → Nat) (j : Nat) : Int32 := if j = 0 then -1 else nI (ksTo f j).2
theorem km_le {f : Nat → Nat} {s j : Nat} (hs : s ≤ 10000) (hf : (ksTo f j).2 ≤ 10000) : nI s ≤ kmI f j ↔ (0 < j ∧ s ≤ (ksTo f j).2) := by
  unfold kmI
  by_cases h : j = 0
  · rw [if_pos h]
    refine iff_of_false (fun z => ?_) (by omega)
    have z2 := Int32.le_iff_toInt_le.mp z
    rw [nI_toInt (by omega)] at z2
    have z3 : (-1 : Int32).toInt = -1 := by decide
    omega
  · rw [if_neg h, nI_leI (by omega) (by omega)]
    omega
theorem ks_old {f : Nat → Nat} {j : Nat} (h : f j ≤ (ksTo f j).2) : ksTo f (j + 1) = ksTo f j := if_neg (by omega)
theorem ks_new {V : Cv} {d j : Nat} (h : ¬ (0 < j ∧ kS V j (v_nc V) ≤ (ksTo (kV V d) j).2)) (h2 : apB V d j = true) : ksTo (kV V d) (j + 1) = (j, kS V j (v_nc V)) := by
  have hk : kV V d j = kS V j (v_nc V) := kV_t (apB_t h2)
  by_cases e : j = 0
  · subst e; rw [kS_0]; exact ksTo_1
  · show (if (ksTo (kV V d) j).2 < kV V d j then (j, kV V d j) else ksTo (kV V d) j) = _
    rw [hk, if_pos (by omega)]
theorem lr_old {V : Cv} {k n : Nat} (h : ¬ (k ≤ aheadN V n ∧ (lrB V k n = none ∨ worth V ((lrB V k n).getD 0) < worth V n))) : lrB V k (n + 1) = lrB V k n := if_neg h
theorem lr_new {V : Cv} {k n : Nat} (h : k ≤ aheadN V n) (h2 : lrB V k n = none ∨ worth V ((lrB V k n).getD 0) < worth V n) : lrB V k (n + 1) = some n := if_pos ⟨h, h2⟩
def lrP (V : Cv) (k : Nat) : Int32 := match k with
  | 0 => -1
  | k + 1 => oI (lrB V k (v_nc V))
set_option maxRecDepth 20000 in
theorem r_apartOf {g : Ev} {S : St} {iv : IV} {lw : LW} {b : Nat} (hb : IsMod S b) {V : Cv} (hV : MC iv b V) (hv : VOK V) {c d : Nat} (hc : c < v_nc V) (hd : d < v_nc V) : CP g mX10_apartOf [.ref (b), .int (nI c), .int (nI d)] S iv lw (.int (nI (dpk V c d))) := by
  refine CT_ofQ rfl (by decide) (Nat.le_of_ble_eq_true rfl) (lv := [(0, .ref (b)), (1, .int (nI c)), (2, .int (nI d))]) rfl (fun Q hQ => ?_)
  have hnc := hv.nc
  have hne := hv.ne
  have hnm := hv.nm
  have hs8 := hv.sz hc
  have hs9 := hv.sz hd
  refine V_aload_n (i := 0) dX10_apartOf_0 rfl 0 rfl ?_
  refine M_getR dX10_apartOf_1 lf_X10_42 rfl hb.1 hb.2.2.2.2.2.2.2.2.2.2.1.1 ?_
  refine V_iload_n (i := 1) dX10_apartOf_4 rfl 1 rfl ?_
  refine M_ialdn (j := c) (x := nI (v_sz V c)) dX10_apartOf_5 hb.2.2.2.2.2.2.2.2.2.2.1.2 (by decide) (by omega) (hV.sz (c := c) (by omega)) ?_
  refine V_aload_n (i := 0) dX10_apartOf_6 rfl 0 rfl ?_
  refine M_getR dX10_apartOf_7 lf_X10_42 rfl hb.1 hb.2.2.2.2.2.2.2.2.2.2.1.1 ?_
  refine V_iload_n (i := 2) dX10_apartOf_10 rfl 2 rfl ?_
  refine M_ialdn (j := d) (x := nI (v_sz V d)) dX10_apartOf_11 hb.2.2.2.2.2.2.2.2.2.2.1.2 (by decide) (by omega) (hV.sz (c := d) (by omega)) ?_
  refine V_icmp_le (tgt := 24) dX10_apartOf_12 rfl (fun h12 => ?_) (fun h12 => ?_)
  · have h12 : (v_sz V c) ≤ (v_sz V d) := (nI_leI (by omega) (by omega)).mp h12
    refine V_aload_n (i := 0) dX10_apartOf_24 rfl 0 rfl ?_
    refine M_getR dX10_apartOf_25 lf_X10_42 rfl hb.1 hb.2.2.2.2.2.2.2.2.2.2.1.1 ?_
    refine V_iload_n (i := 2) dX10_apartOf_28 rfl 2 rfl ?_
    refine M_ialdn (j := d) (x := nI (v_sz V d)) dX10_apartOf_29 hb.2.2.2.2.2.2.2.2.2.2.1.2 (by decide) (by omega) (hV.sz (c := d) (by omega)) ?_
    refine M_top (x2 := nI (max (v_sz V c) (v_sz V d))) (by congr 1; omega) ?_
    refine V_istore_n (lv2 := [(3, .int (nI (max (v_sz V c) (v_sz V d)))), (0, .ref (b)), (1, .int (nI c)), (2, .int (nI d))]) dX10_apartOf_30 rfl (by decide) rfl ?_
    refine V_iconst (v := nI 0) dX10_apartOf_31 rfl ?_
    refine V_istore (lv2 := [(4, .int (nI 0)), (3, .int (nI (max (v_sz V c) (v_sz V d)))), (0, .ref (b)), (1, .int (nI c)), (2, .int (nI d))]) dX10_apartOf_32 (by decide) rfl ?_
    refine V_iconst (v := nI 0) dX10_apartOf_34 rfl ?_
    refine V_istore (lv2 := [(5, .int (nI 0)), (4, .int (nI 0)), (3, .int (nI (max (v_sz V c) (v_sz V d)))), (0, .ref (b)), (1, .int (nI c)), (2, .int (nI d))]) dX10_apartOf_35 (by decide) rfl ?_
    have lp37 : ∀ j, j ≤ (max (v_sz V c) (v_sz V d)) → VM g mX10_apartOf 37 [(5, .int (nI j)), (4, .int (nI (cntTo (apP (v_nt V c) (v_nt V d) (v_sz V c) (v_sz V d)) j))), (3, .int (nI (max (v_sz V c) (v_sz V d)))), (0, .ref (b)), (1, .int (nI c)), (2, .int (nI d))] [] S iv lw Q := by
      refine up_ind fun j hj ih37 => ?_
      refine V_iload dX10_apartOf_37 0 rfl ?_
      refine V_iload_n (i := 3) dX10_apartOf_39 rfl 2 rfl ?_
      refine V_icmp_ge (tgt := 102) dX10_apartOf_40 rfl (fun h40 => ?_) (fun h40 => ?_)
      · have h40 : (max (v_sz V c) (v_sz V d)) ≤ j := (nI_leI (by omega) (by omega)).mp h40
        refine V_iload dX10_apartOf_102 1 rfl ?_
        refine V_iret dX10_apartOf_104 ⟨rfl, rfl⟩ (Nat.zero_le _) (Nat.zero_le _) ?_
        subst hQ
        exact ⟨by rw [show j = max (v_sz V c) (v_sz V d) by omega, dpk_ap hv hc hd], rfl⟩
      · have h40 : ¬ (max (v_sz V c) (v_sz V d)) ≤ j := fun q => h40 ((nI_leI (by omega) (by omega)).mpr q)
        refine V_iload dX10_apartOf_43 1 rfl ?_
        refine V_iload dX10_apartOf_45 0 rfl ?_
        refine V_aload_n (i := 0) dX10_apartOf_47 rfl 3 rfl ?_
        refine M_getR dX10_apartOf_48 lf_X10_42 rfl hb.1 hb.2.2.2.2.2.2.2.2.2.2.1.1 ?_
        refine V_iload_n (i := 1) dX10_apartOf_51 rfl 4 rfl ?_
        refine M_ialdn (j := c) (x := nI (v_sz V c)) dX10_apartOf_52 hb.2.2.2.2.2.2.2.2.2.2.1.2 (by decide) (by omega) (hV.sz (c := c) (by omega)) ?_
        refine V_icmp_ge (tgt := 88) dX10_apartOf_53 rfl (fun h53 => ?_) (fun h53 => ?_)
        · have h53 : (v_sz V c) ≤ j := (nI_leI (by omega) (by omega)).mp h53
          refine V_iconst (v := nI 1) dX10_apartOf_88 rfl ?_
          refine V_goto (tgt := 93) dX10_apartOf_89 rfl ?_
          refine V_iadd dX10_apartOf_93 ?_
          refine M_top (nI_add _ _) ?_
          refine V_istore (lv2 := [(4, .int (nI ((cntTo (apP (v_nt V c) (v_nt V d) (v_sz V c) (v_sz V d)) j) + 1))), (5, .int (nI j)), (3, .int (nI (max (v_sz V c) (v_sz V d)))), (0, .ref (b)), (1, .int (nI c)), (2, .int (nI d))]) dX10_apartOf_94 (by decide) rfl ?_
          refine V_iinc (v := nI (j + 1)) (lv2 := [(5, .int (nI (j + 1))), (4, .int (nI ((cntTo (apP (v_nt V c) (v_nt V d) (v_sz V c) (v_sz V d)) j) + 1))), (3, .int (nI (max (v_sz V c) (v_sz V d)))), (0, .ref (b)), (1, .int (nI c)), (2, .int (nI d))]) dX10_apartOf_96 1 rfl (nI_inc _) (by decide) rfl ?_
          refine V_goto (tgt := 37) dX10_apartOf_99 rfl ?_
          refine V_sub [0, 1, 2, 3, 4, 5] rfl ?_
          exact M_at (ih37 (by omega)) (by rw [cntTo_t (ap_t1 (by omega))]; rfl) rfl (rfl) (rfl)
        · have h53 : ¬ (v_sz V c) ≤ j := fun q => h53 ((nI_leI (by omega) (by omega)).mpr q)
          refine V_iload dX10_apartOf_56 0 rfl ?_
          refine V_aload_n (i := 0) dX10_apartOf_58 rfl 3 rfl ?_
          refine M_getR dX10_apartOf_59 lf_X10_42 rfl hb.1 hb.2.2.2.2.2.2.2.2.2.2.1.1 ?_
          refine V_iload_n (i := 2) dX10_apartOf_62 rfl 5 rfl ?_
          refine M_ialdn (j := d) (x := nI (v_sz V d)) dX10_apartOf_63 hb.2.2.2.2.2.2.2.2.2.2.1.2 (by decide) (by omega) (hV.sz (c := d) (by omega)) ?_
          refine V_icmp_ge (tgt := 88) dX10_apartOf_64 rfl (fun h64 => ?_) (fun h64 => ?_)
          · have h64 : (v_sz V d) ≤ j := (nI_leI (by omega) (by omega)).mp h64
            refine V_iconst (v := nI 1) dX10_apartOf_88 rfl ?_
            refine V_goto (tgt := 93) dX10_apartOf_89 rfl ?_
            refine V_iadd dX10_apartOf_93 ?_
            refine M_top (nI_add _ _) ?_
            refine V_istore (lv2 := [(4, .int (nI ((cntTo (apP (v_nt V c) (v_nt V d) (v_sz V c) (v_sz V d)) j) + 1))), (5, .int (nI j)), (3, .int (nI (max (v_sz V c) (v_sz V d)))), (0, .ref (b)), (1, .int (nI c)), (2, .int (nI d))]) dX10_apartOf_94 (by decide) rfl ?_
            refine V_iinc (v := nI (j + 1)) (lv2 := [(5, .int (nI (j + 1))), (4, .int (nI ((cntTo (apP (v_nt V c) (v_nt V d) (v_sz V c) (v_sz V d)) j) + 1))), (3, .int (nI (max (v_sz V c) (v_sz V d)))), (0, .ref (b)), (1, .int (nI c)), (2, .int (nI d))]) dX10_apartOf_96 1 rfl (nI_inc _) (by decide) rfl ?_
            refine V_goto (tgt := 37) dX10_apartOf_99 rfl ?_
            refine V_sub [0, 1, 2, 3, 4, 5] rfl ?_
            exact M_at (ih37 (by omega)) (by rw [cntTo_t (ap_t1 (by omega))]; rfl) rfl (rfl) (rfl)
          · have h64 : ¬ (v_sz V d) ≤ j := fun q => h64 ((nI_leI (by omega) (by omega)).mpr q)
            refine V_aload_n (i := 0) dX10_apartOf_67 rfl 3 rfl ?_
            refine M_getR dX10_apartOf_68 lf_X10_39 rfl hb.1 hb.2.2.2.2.2.2.2.2.2.1.1 ?_
            refine V_iload_n (i := 1) dX10_apartOf_71 rfl 4 rfl ?_
            refine M_aaldn (t := 1) (j := c) dX10_apartOf_72 (by decide) hb.2.2.2.2.2.2.2.2.2.1.2 (by decide) (by omega) ((hb.2.2.2.2.2.2.2.2.2.2.2.2.2.2.2.2.2.2.2.2.2.2.2 c (by omega)).1) ?_
            refine V_iload dX10_apartOf_73 0 rfl ?_
            refine M_ialdn (j := j) (x := nI (v_nt V c j)) dX10_apartOf_75 (hb.2.2.2.2.2.2.2.2.2.2.2.2.2.2.2.2.2.2.2.2.2.2.2 c (by omega)).2 (by decide) (by omega) (hV.nt (c := c) (i := j) (by omega) (by omega)) ?_
            refine V_aload_n (i := 0) dX10_apartOf_76 rfl 3 rfl ?_
            refine M_getR dX10_apartOf_77 lf_X10_39 rfl hb.1 hb.2.2.2.2.2.2.2.2.2.1.1 ?_
            refine V_iload_n (i := 2) dX10_apartOf_80 rfl 5 rfl ?_
            refine M_aaldn (t := 1) (j := d) dX10_apartOf_81 (by decide) hb.2.2.2.2.2.2.2.2.2.1.2 (by decide) (by omega) ((hb.2.2.2.2.2.2.2.2.2.2.2.2.2.2.2.2.2.2.2.2.2.2.2 d (by omega)).1) ?_
            refine V_iload dX10_apartOf_82 0 rfl ?_
            refine M_ialdn (j := j) (x := nI (v_nt V d j)) dX10_apartOf_84 (hb.2.2.2.2.2.2.2.2.2.2.2.2.2.2.2.2.2.2.2.2.2.2.2 d (by omega)).2 (by decide) (by omega) (hV.nt (c := d) (i := j) (by omega) (by omega)) ?_
            have hn4 := hv.nt hc (i := j) (by omega)
            have hn5 := hv.nt hd (i := j) (by omega)
            refine V_icmp_eq (tgt := 92) dX10_apartOf_85 rfl (fun h85 => ?_) (fun h85 => ?_)
            · have h85 : (v_nt V c j) = (v_nt V d j) := (nI_eq (by omega) (by omega)).mp h85
              refine V_iconst (v := nI 0) dX10_apartOf_92 rfl ?_
              refine V_iadd dX10_apartOf_93 ?_
              refine M_top (nI_add _ _) ?_
              refine V_istore (lv2 := [(4, .int (nI ((cntTo (apP (v_nt V c) (v_nt V d) (v_sz V c) (v_sz V d)) j) + 0))), (5, .int (nI j)), (3, .int (nI (max (v_sz V c) (v_sz V d)))), (0, .ref (b)), (1, .int (nI c)), (2, .int (nI d))]) dX10_apartOf_94 (by decide) rfl ?_
              refine V_iinc (v := nI (j + 1)) (lv2 := [(5, .int (nI (j + 1))), (4, .int (nI ((cntTo (apP (v_nt V c) (v_nt V d) (v_sz V c) (v_sz V d)) j) + 0))), (3, .int (nI (max (v_sz V c) (v_sz V d)))), (0, .ref (b)), (1, .int (nI c)), (2, .int (nI d))]) dX10_apartOf_96 1 rfl (nI_inc _) (by decide) rfl ?_
              refine V_goto (tgt := 37) dX10_apartOf_99 rfl ?_
              refine V_sub [0, 1, 2, 3, 4, 5] rfl ?_
              exact M_at (ih37 (by omega)) (by rw [cntTo_f (ap_f (by omega) (by omega))]; rfl) rfl (rfl) (rfl)
            · have h85 : ¬ (v_nt V c j) = (v_nt V d j) := fun q => h85 ((nI_eq (by omega) (by omega)).mpr q)
              refine V_iconst (v := nI 1) dX10_apartOf_88 rfl ?_
              refine V_goto (tgt := 93) dX10_apartOf_89 rfl ?_
              refine V_iadd dX10_apartOf_93 ?_
              refine M_top (nI_add _ _) ?_
              refine V_istore (lv2 := [(4, .int (nI ((cntTo (apP (v_nt V c) (v_nt V d) (v_sz V c) (v_sz V d)) j) + 1))), (5, .int (nI j)), (3, .int (nI (max (v_sz V c) (v_sz V d)))), (0, .ref (b)), (1, .int (nI c)), (2, .int (nI d))]) dX10_apartOf_94 (by decide) rfl ?_
              refine V_iinc (v := nI (j + 1)) (lv2 := [(5, .int (nI (j + 1))), (4, .int (nI ((cntTo (apP (v_nt V c) (v_nt V d) (v_sz V c) (v_sz V d)) j) + 1))), (3, .int (nI (max (v_sz V c) (v_sz V d)))), (0, .ref (b)), (1, .int (nI c)), (2, .int (nI d))]) dX10_apartOf_96 1 rfl (nI_inc _) (by decide) rfl ?_
              refine V_goto (tgt := 37) dX10_apartOf_99 rfl ?_
              refine V_sub [0, 1, 2, 3, 4, 5] rfl ?_
              exact M_at (ih37 (by omega)) (by rw [cntTo_t (ap_t2 (by omega))]; rfl) rfl (rfl) (rfl)
    refine V_sub [0, 1, 2, 3, 4, 5] rfl ?_
    exact M_at (lp37 0 (Nat.zero_le _)) (rfl) rfl (rfl) (rfl)
  · have h12 : ¬ (v_sz V c) ≤ (v_sz V d) := fun q => h12 ((nI_leI (by omega) (by omega)).mpr q)
    refine V_aload_n (i := 0) dX10_apartOf_15 rfl 0 rfl ?_
    refine M_getR dX10_apartOf_16 lf_X10_42 rfl hb.1 hb.2.2.2.2.2.2.2.2.2.2.1.1 ?_
    refine V_iload_n (i := 1) dX10_apartOf_19 rfl 1 rfl ?_
    refine M_ialdn (j := c) (x := nI (v_sz V c)) dX10_apartOf_20 hb.2.2.2.2.2.2.2.2.2.2.1.2 (by decide) (by omega) (hV.sz (c := c) (by omega)) ?_
    refine M_top (x2 := nI (max (v_sz V c) (v_sz V d))) (by congr 1; omega) ?_
    refine V_goto (tgt := 30) dX10_apartOf_21 rfl ?_
    refine V_istore_n (lv2 := [(3, .int (nI (max (v_sz V c) (v_sz V d)))), (0, .ref (b)), (1, .int (nI c)), (2, .int (nI d))]) dX10_apartOf_30 rfl (by decide) rfl ?_
    refine V_iconst (v := nI 0) dX10_apartOf_31 rfl ?_
    refine V_istore (lv2 := [(4, .int (nI 0)), (3, .int (nI (max (v_sz V c) (v_sz V d)))), (0, .ref (b)), (1, .int (nI c)), (2, .int (nI d))]) dX10_apartOf_32 (by decide) rfl ?_
    refine V_iconst (v := nI 0) dX10_apartOf_34 rfl ?_
    refine V_istore (lv2 := [(5, .int (nI 0)), (4, .int (nI 0)), (3, .int (nI (max (v_sz V c) (v_sz V d)))), (0, .ref (b)), (1, .int (nI c)), (2, .int (nI d))]) dX10_apartOf_35 (by decide) rfl ?_
    have lp37 : ∀ j, j ≤ (max (v_sz V c) (v_sz V d)) → VM g mX10_apartOf 37 [(5, .int (nI j)), (4, .int (nI (cntTo (apP (v_nt V c) (v_nt V d) (v_sz V c) (v_sz V d)) j))), (3, .int (nI (max (v_sz V c) (v_sz V d)))), (0, .ref (b)), (1, .int (nI c)), (2, .int (nI d))] [] S iv lw Q := by
      refine up_ind fun j hj ih37 => ?_
      refine V_iload dX10_apartOf_37 0 rfl ?_
      refine V_iload_n (i := 3) dX10_apartOf_39 rfl 2 rfl ?_
      refine V_icmp_ge (tgt := 102) dX10_apartOf_40 rfl (fun h40 => ?_) (fun h40 => ?_)
      · have h40 : (max (v_sz V c) (v_sz V d)) ≤ j := (nI_leI (by omega) (by omega)).mp h40
        refine V_iload dX10_apartOf_102 1 rfl ?_
        refine V_iret dX10_apartOf_104 ⟨rfl, rfl⟩ (Nat.zero_le _) (Nat.zero_le _) ?_
        subst hQ
        exact ⟨by rw [show j = max (v_sz V c) (v_sz V d) by omega, dpk_ap hv hc hd], rfl⟩
      · have h40 : ¬ (max (v_sz V c) (v_sz V d)) ≤ j := fun q => h40 ((nI_leI (by omega) (by omega)).mpr q)
        refine V_iload dX10_apartOf_43 1 rfl ?_
        refine V_iload dX10_apartOf_45 0 rfl ?_
        refine V_aload_n (i := 0) dX10_apartOf_47 rfl 3 rfl ?_
        refine M_getR dX10_apartOf_48 lf_X10_42 rfl hb.1 hb.2.2.2.2.2.2.2.2.2.2.1.1 ?_
        refine V_iload_n (i := 1) dX10_apartOf_51 rfl 4 rfl ?_
        refine M_ialdn (j := c) (x := nI (v_sz V c)) dX10_apartOf_52 hb.2.2.2.2.2.2.2.2.2.2.1.2 (by decide) (by omega) (hV.sz (c := c) (by omega)) ?_
        refine V_icmp_ge (tgt := 88) dX10_apartOf_53 rfl (fun h53 => ?_) (fun h53 => ?_)
        · have h53 : (v_sz V c) ≤ j := (nI_leI (by omega) (by omega)).mp h53
          refine V_iconst (v := nI 1) dX10_apartOf_88 rfl ?_
          refine V_goto (tgt := 93) dX10_apartOf_89 rfl ?_
          refine V_iadd dX10_apartOf_93 ?_
          refine M_top (nI_add _ _) ?_
          refine V_istore (lv2 := [(4, .int (nI ((cntTo (apP (v_nt V c) (v_nt V d) (v_sz V c) (v_sz V d)) j) + 1))), (5, .int (nI j)), (3, .int (nI (max (v_sz V c) (v_sz V d)))), (0, .ref (b)), (1, .int (nI c)), (2, .int (nI d))]) dX10_apartOf_94 (by decide) rfl ?_
          refine V_iinc (v := nI (j + 1)) (lv2 := [(5, .int (nI (j + 1))), (4, .int (nI ((cntTo (apP (v_nt V c) (v_nt V d) (v_sz V c) (v_sz V d)) j) + 1))), (3, .int (nI (max (v_sz V c) (v_sz V d)))), (0, .ref (b)), (1, .int (nI c)), (2, .int (nI d))]) dX10_apartOf_96 1 rfl (nI_inc _) (by decide) rfl ?_
          refine V_goto (tgt := 37) dX10_apartOf_99 rfl ?_
          refine V_sub [0, 1, 2, 3, 4, 5] rfl ?_
          exact M_at (ih37 (by omega)) (by rw [cntTo_t (ap_t1 (by omega))]; rfl) rfl (rfl) (rfl)
        · have h53 : ¬ (v_sz V c) ≤ j := fun q => h53 ((nI_leI (by omega) (by omega)).mpr q)
          refine V_iload dX10_apartOf_56 0 rfl ?_
          refine V_aload_n (i := 0) dX10_apartOf_58 rfl 3 rfl ?_
          refine M_getR dX10_apartOf_59 lf_X10_42 rfl hb.1 hb.2.2.2.2.2.2.2.2.2.2.1.1 ?_
          refine V_iload_n (i := 2) dX10_apartOf_62 rfl 5 rfl ?_
          refine M_ialdn (j := d) (x := nI (v_sz V d)) dX10_apartOf_63 hb.2.2.2.2.2.2.2.2.2.2.1.2 (by decide) (by omega) (hV.sz (c := d) (by omega)) ?_
          refine V_icmp_ge (tgt := 88) dX10_apartOf_64 rfl (fun h64 => ?_) (fun h64 => ?_)
          · have h64 : (v_sz V d) ≤ j := (nI_leI (by omega) (by omega)).mp h64
            refine V_iconst (v := nI 1) dX10_apartOf_88 rfl ?_
            refine V_goto (tgt := 93) dX10_apartOf_89 rfl ?_
            refine V_iadd dX10_apartOf_93 ?_
            refine M_top (nI_add _ _) ?_
            refine V_istore (lv2 := [(4, .int (nI ((cntTo (apP (v_nt V c) (v_nt V d) (v_sz V c) (v_sz V d)) j) + 1))), (5, .int (nI j)), (3, .int (nI (max (v_sz V c) (v_sz V d)))), (0, .ref (b)), (1, .int (nI c)), (2, .int (nI d))]) dX10_apartOf_94 (by decide) rfl ?_
            refine V_iinc (v := nI (j + 1)) (lv2 := [(5, .int (nI (j + 1))), (4, .int (nI ((cntTo (apP (v_nt V c) (v_nt V d) (v_sz V c) (v_sz V d)) j) + 1))), (3, .int (nI (max (v_sz V c) (v_sz V d)))), (0, .ref (b)), (1, .int (nI c)), (2, .int (nI d))]) dX10_apartOf_96 1 rfl (nI_inc _) (by decide) rfl ?_
            refine V_goto (tgt := 37) dX10_apartOf_99 rfl ?_
            refine V_sub [0, 1, 2, 3, 4, 5] rfl ?_
            exact M_at (ih37 (by omega)) (by rw [cntTo_t (ap_t1 (by omega))]; rfl) rfl (rfl) (rfl)
          · have h64 : ¬ (v_sz V d) ≤ j := fun q => h64 ((nI_leI (by omega) (by omega)).mpr q)
            refine V_aload_n (i := 0) dX10_apartOf_67 rfl 3 rfl ?_
            refine M_getR dX10_apartOf_68 lf_X10_39 rfl hb.1 hb.2.2.2.2.2.2.2.2.2.1.1 ?_
            refine V_iload_n (i := 1) dX10_apartOf_71 rfl 4 rfl ?_
            refine M_aaldn (t := 1) (j := c) dX10_apartOf_72 (by decide) hb.2.2.2.2.2.2.2.2.2.1.2 (by decide) (by omega) ((hb.2.2.2.2.2.2.2.2.2.2.2.2.2.2.2.2.2.2.2.2.2.2.2 c (by omega)).1) ?_
            refine V_iload dX10_apartOf_73 0 rfl ?_
            refine M_ialdn (j := j) (x := nI (v_nt V c j)) dX10_apartOf_75 (hb.2.2.2.2.2.2.2.2.2.2.2.2.2.2.2.2.2.2.2.2.2.2.2 c (by omega)).2 (by decide) (by omega) (hV.nt (c := c) (i := j) (by omega) (by omega)) ?_
            refine V_aload_n (i := 0) dX10_apartOf_76 rfl 3 rfl ?_
            refine M_getR dX10_apartOf_77 lf_X10_39 rfl hb.1 hb.2.2.2.2.2.2.2.2.2.1.1 ?_
            refine V_iload_n (i := 2) dX10_apartOf_80 rfl 5 rfl ?_
            refine M_aaldn (t := 1) (j := d) dX10_apartOf_81 (by decide) hb.2.2.2.2.2.2.2.2.2.1.2 (by decide) (by omega) ((hb.2.2.2.2.2.2.2.2.2.2.2.2.2.2.2.2.2.2.2.2.2.2.2 d (by omega)).1) ?_
            refine V_iload dX10_apartOf_82 0 rfl ?_
            refine M_ialdn (j := j) (x := nI (v_nt V d j)) dX10_apartOf_84 (hb.2.2.2.2.2.2.2.2.2.2.2.2.2.2.2.2.2.2.2.2.2.2.2 d (by omega)).2 (by decide) (by omega) (hV.nt (c := d) (i := j) (by omega) (by omega)) ?_
            have hn4 := hv.nt hc (i := j) (by omega)
            have hn5 := hv.nt hd (i := j) (by omega)
            refine V_icmp_eq (tgt := 92) dX10_apartOf_85 rfl (fun h85 => ?_) (fun h85 => ?_)
            · have h85 : (v_nt V c j) = (v_nt V d j) := (nI_eq (by omega) (by omega)).mp h85
              refine V_iconst (v := nI 0) dX10_apartOf_92 rfl ?_
              refine V_iadd dX10_apartOf_93 ?_
              refine M_top (nI_add _ _) ?_
              refine V_istore (lv2 := [(4, .int (nI ((cntTo (apP (v_nt V c) (v_nt V d) (v_sz V c) (v_sz V d)) j) + 0))), (5, .int (nI j)), (3, .int (nI (max (v_sz V c) (v_sz V d)))), (0, .ref (b)), (1, .int (nI c)), (2, .int (nI d))]) dX10_apartOf_94 (by decide) rfl ?_
              refine V_iinc (v := nI (j + 1)) (lv2 := [(5, .int (nI (j + 1))), (4, .int (nI ((cntTo (apP (v_nt V c) (v_nt V d) (v_sz V c) (v_sz V d)) j) + 0))), (3, .int (nI (max (v_sz V c) (v_sz V d)))), (0, .ref (b)), (1, .int (nI c)), (2, .int (nI d))]) dX10_apartOf_96 1 rfl (nI_inc _) (by decide) rfl ?_
              refine V_goto (tgt := 37) dX10_apartOf_99 rfl ?_
              refine V_sub [0, 1, 2, 3, 4, 5] rfl ?_
              exact M_at (ih37 (by omega)) (by rw [cntTo_f (ap_f (by omega) (by omega))]; rfl) rfl (rfl) (rfl)
            · have h85 : ¬ (v_nt V c j) = (v_nt V d j) := fun q => h85 ((nI_eq (by omega) (by omega)).mpr q)
              refine V_iconst (v := nI 1) dX10_apartOf_88 rfl ?_
              refine V_goto (tgt := 93) dX10_apartOf_89 rfl ?_
              refine V_iadd dX10_apartOf_93 ?_
              refine M_top (nI_add _ _) ?_
              refine V_istore (lv2 := [(4, .int (nI ((cntTo (apP (v_nt V c) (v_nt V d) (v_sz V c) (v_sz V d)) j) + 1))), (5, .int (nI j)), (3, .int (nI (max (v_sz V c) (v_sz V d)))), (0, .ref (b)), (1, .int (nI c)), (2, .int (nI d))]) dX10_apartOf_94 (by decide) rfl ?_
              refine V_iinc (v := nI (j + 1)) (lv2 := [(5, .int (nI (j + 1))), (4, .int (nI ((cntTo (apP (v_nt V c) (v_nt V d) (v_sz V c) (v_sz V d)) j) + 1))), (3, .int (nI (max (v_sz V c) (v_sz V d)))), (0, .ref (b)), (1, .int (nI c)), (2, .int (nI d))]) dX10_apartOf_96 1 rfl (nI_inc _) (by decide) rfl ?_
              refine V_goto (tgt := 37) dX10_apartOf_99 rfl ?_
              refine V_sub [0, 1, 2, 3, 4, 5] rfl ?_
              exact M_at (ih37 (by omega)) (by rw [cntTo_t (ap_t2 (by omega))]; rfl) rfl (rfl) (rfl)
    refine V_sub [0, 1, 2, 3, 4, 5] rfl ?_
    exact M_at (lp37 0 (Nat.zero_le _)) (rfl) rfl (rfl) (rfl)
set_option maxRecDepth 20000 in
theorem q_apart {g : Ev} {S : St} {iv : IV} {lw : LW} {b : Nat} (hs : SS S b) {X : Xs} (hX : MX S iv lw b X) (hk : XOK X) {c : Int32} {d : Int32} : CQ g mX10_apart [.ref (b), .int (c), .int (d)] S iv lw (fun w iv2 lw2 => MP S b iv lw (o_apart X c d) w iv2 lw2) := by
  refine CT_ofQ rfl (by decide) (Nat.le_of_ble_eq_true rfl) (lv := [(0, .ref (b)), (1, .int (c)), (2, .int (d))]) rfl (fun Q hQ => ?_)
  have hb := hs.1
  have hA := hX.1
  have hv := hk.1
  have hnc := hv.nc
  have hne := hv.ne
  have hnm := hv.nm
  refine V_aload_n (i := 0) dX10_apart_0 rfl 0 rfl ?_
  refine V_iload_n (i := 1) dX10_apart_1 rfl 1 rfl ?_
  refine M_callVp (As := [.int (c)]) (st := []) dX10_apart_2 lv_X10_155 ⟨by decide, by decide⟩ ⟨rfl, rfl⟩ rfl (ci := 7) hb.1 rfl rfl (Nat.le_of_ble_eq_true rfl) (r_isCall hb hA hv) ?_
  refine V_if_eq (tgt := 25) dX10_apart_5 rfl (fun h5 => ?_) (fun h5 => ?_)
  · have h5 : ¬ (inR c (v_nc (x_A X))) := bI_eq0.mp h5
    refine V_aload_n (i := 0) dX10_apart_25 rfl 0 rfl ?_
    refine V_bipush (v := (-2)) dX10_apart_26 rfl ?_
    refine M_callVq (As := [.int ((-2))]) (st := []) dX10_apart_28 lv_X10_107 ⟨by decide, by decide⟩ ⟨rfl, rfl⟩ rfl (ci := 7) hb.1 rfl rfl (Nat.le_of_ble_eq_true rfl) (q_refuse hs hX hk (j := 0) (by decide)) (fun w28 iv28 lw28 q28 => ?_)
    obtain ⟨rfl, e1, hXr, hOr⟩ := q28
    subst e1
    refine V_iret dX10_apart_31 ⟨rfl, rfl⟩ (Nat.zero_le _) (Nat.zero_le _) ?_
    subst hQ
    exact ⟨_, _, _, rfl, rfl, by unfold o_apart; rw [if_pos (fun z => h5 z.1)]; exact ⟨rfl, hXr, hOr, Off.rf⟩⟩
  · have h5 : inR c (v_nc (x_A X)) := bI_ne.mp h5
    refine V_aload_n (i := 0) dX10_apart_8 rfl 0 rfl ?_
    refine V_iload_n (i := 2) dX10_apart_9 rfl 2 rfl ?_
    refine M_callVp (As := [.int (d)]) (st := []) dX10_apart_10 lv_X10_155 ⟨by decide, by decide⟩ ⟨rfl, rfl⟩ rfl (ci := 7) hb.1 rfl rfl (Nat.le_of_ble_eq_true rfl) (r_isCall hb hA hv) ?_
    refine V_if_eq (tgt := 25) dX10_apart_13 rfl (fun h13 => ?_) (fun h13 => ?_)
    · have h13 : ¬ (inR d (v_nc (x_A X))) := bI_eq0.mp h13
      refine V_aload_n (i := 0) dX10_apart_25 rfl 0 rfl ?_
      refine V_bipush (v := (-2)) dX10_apart_26 rfl ?_
      refine M_callVq (As := [.int ((-2))]) (st := []) dX10_apart_28 lv_X10_107 ⟨by decide, by decide⟩ ⟨rfl, rfl⟩ rfl (ci := 7) hb.1 rfl rfl (Nat.le_of_ble_eq_true rfl) (q_refuse hs hX hk (j := 0) (by decide)) (fun w28 iv28 lw28 q28 => ?_)
      obtain ⟨rfl, e1, hXr, hOr⟩ := q28
      subst e1
      refine V_iret dX10_apart_31 ⟨rfl, rfl⟩ (Nat.zero_le _) (Nat.zero_le _) ?_
      subst hQ
      exact ⟨_, _, _, rfl, rfl, by unfold o_apart; rw [if_pos (fun z => h13 z.2)]; exact ⟨rfl, hXr, hOr, Off.rf⟩⟩
    · have h13 : inR d (v_nc (x_A X)) := bI_ne.mp h13
      have cc := iN_eq (k := c) (by omega)
      have cd := iN_eq (k := d) (by omega)
      have dc := iN_i (k := c) (by omega)
      have dd := iN_i (k := d) (by omega)
      refine M_at (lv2 := [(0, .ref (b)), (1, .int (nI (iN c))), (2, .int (nI (iN d)))]) (st2 := []) ?_ (by rw [← cc, ← cd]) rfl rfl rfl
      refine V_aload_n (i := 0) dX10_apart_16 rfl 0 rfl ?_
      refine V_iload_n (i := 1) dX10_apart_17 rfl 1 rfl ?_
      refine V_iload_n (i := 2) dX10_apart_18 rfl 2 rfl ?_
      refine M_callVp (As := [.int (nI (iN c)), .int (nI (iN d))]) (st := []) dX10_apart_19 lv_X10_282 ⟨by decide, by decide⟩ ⟨rfl, rfl⟩ rfl (ci := 7) hb.1 rfl rfl (Nat.le_of_ble_eq_true rfl) (r_apartOf hb hA hv (c := iN c) (d := iN d) (by omega) (by omega)) ?_
      refine V_goto (tgt := 31) dX10_apart_22 rfl ?_
      refine V_iret dX10_apart_31 ⟨rfl, rfl⟩ (Nat.zero_le _) (Nat.zero_le _) ?_
      subst hQ
      exact ⟨_, _, _, rfl, rfl, by unfold o_apart; rw [if_neg (fun z => z ⟨h5, h13⟩)]; exact MP.same hX⟩
set_option maxRecDepth 20000 in
theorem q_alikeFirst {g : Ev} {S : St} {iv : IV} {lw : LW} {b : Nat} (hs : SS S b) {X : Xs} (hX : MX S iv lw b X) (hk : XOK X) {c : Int32} {d : Int32} : CQ g mX10_alikeFirst [.ref (b), .int (c), .int (d)] S iv lw (fun w iv2 lw2 => MP S b iv lw (o_alikeFirst X c d) w iv2 lw2) := by
  refine CT_ofQ rfl (by decide) (Nat.le_of_ble_eq_true rfl) (lv := [(0, .ref (b)), (1, .int (c)), (2, .int (d))]) rfl (fun Q hQ => ?_)
  have hb := hs.1
  have hA := hX.1
  have hv := hk.1
  have hnc := hv.nc
  have hne := hv.ne
  have hnm := hv.nm
  refine V_aload_n (i := 0) dX10_alikeFirst_0 rfl 0 rfl ?_
  refine V_iload_n (i := 1) dX10_alikeFirst_1 rfl 1 rfl ?_
  refine M_callVp (As := [.int (c)]) (st := []) dX10_alikeFirst_2 lv_X10_155 ⟨by decide, by decide⟩ ⟨rfl, rfl⟩ rfl (ci := 7) hb.1 rfl rfl (Nat.le_of_ble_eq_true rfl) (r_isCall hb hA hv) ?_
  refine V_if_eq (tgt := 16) dX10_alikeFirst_5 rfl (fun h5 => ?_) (fun h5 => ?_)
  · have h5 : ¬ (inR c (v_nc (x_A X))) := bI_eq0.mp h5
    refine V_aload_n (i := 0) dX10_alikeFirst_16 rfl 0 rfl ?_
    refine V_bipush (v := (-2)) dX10_alikeFirst_17 rfl ?_
    refine M_callVq (As := [.int ((-2))]) (st := []) dX10_alikeFirst_19 lv_X10_107 ⟨by decide, by decide⟩ ⟨rfl, rfl⟩ rfl (ci := 7) hb.1 rfl rfl (Nat.le_of_ble_eq_true rfl) (q_refuse hs hX hk (j := 0) (by decide)) (fun w19 iv19 lw19 q19 => ?_)
    obtain ⟨rfl, e1, hXr, hOr⟩ := q19
    subst e1
    refine V_iret dX10_alikeFirst_22 ⟨rfl, rfl⟩ (Nat.zero_le _) (Nat.zero_le _) ?_
    subst hQ
    exact ⟨_, _, _, rfl, rfl, by unfold o_alikeFirst; rw [if_pos (fun z => h5 z.1)]; exact ⟨rfl, hXr, hOr, Off.rf⟩⟩
  · have h5 : inR c (v_nc (x_A X)) := bI_ne.mp h5
    refine V_aload_n (i := 0) dX10_alikeFirst_8 rfl 0 rfl ?_
    refine V_iload_n (i := 2) dX10_alikeFirst_9 rfl 2 rfl ?_
    refine M_callVp (As := [.int (d)]) (st := []) dX10_alikeFirst_10 lv_X10_155 ⟨by decide, by decide⟩ ⟨rfl, rfl⟩ rfl (ci := 7) hb.1 rfl rfl (Nat.le_of_ble_eq_true rfl) (r_isCall hb hA hv) ?_
    refine V_if_ne (tgt := 23) dX10_alikeFirst_13 rfl (fun h13 => ?_) (fun h13 => ?_)
    · have h13 : inR d (v_nc (x_A X)) := bI_ne.mp h13
      have cc := iN_eq (k := c) (by omega)
      have cd := iN_eq (k := d) (by omega)
      have dc := iN_i (k := c) (by omega)
      have dd := iN_i (k := d) (by omega)
      refine M_at (lv2 := [(0, .ref (b)), (1, .int (nI (iN c))), (2, .int (nI (iN d)))]) (st2 := []) ?_ (by rw [← cc, ← cd]) rfl rfl rfl
      refine V_iconst (v := nI 0) dX10_alikeFirst_23 rfl ?_
      have hs8 := hv.sz (c := iN c) (by omega)
      have hs9 := hv.sz (c := iN d) (by omega)
      refine V_istore_n (lv2 := [(3, .int (nI 0)), (0, .ref (b)), (1, .int (nI (iN c))), (2, .int (nI (iN d)))]) dX10_alikeFirst_24 rfl (by decide) rfl ?_
      have lp25 : ∀ j, j ≤ (min (v_sz (x_A X) (iN c)) (v_sz (x_A X) (iN d))) → (∀ k, k < j → v_nt (x_A X) (iN c) k = v_nt (x_A X) (iN d) k) → VM g mX10_alikeFirst 25 [(3, .int (nI j)), (0, .ref (b)), (1, .int (nI (iN c))), (2, .int (nI (iN d)))] [] S iv lw Q := by
        refine up_ind fun j hj ih25 => ?_
        intro hsm
        refine V_iload_n (i := 3) dX10_alikeFirst_25 rfl 0 rfl ?_
        refine V_aload_n (i := 0) dX10_alikeFirst_26 rfl 1 rfl ?_
        refine M_getR dX10_alikeFirst_27 lf_X10_42 rfl hb.1 hb.2.2.2.2.2.2.2.2.2.2.1.1 ?_
        refine V_iload_n (i := 1) dX10_alikeFirst_30 rfl 2 rfl ?_
        refine M_ialdn (j := (iN c)) (x := nI (v_sz (x_A X) (iN c))) dX10_alikeFirst_31 hb.2.2.2.2.2.2.2.2.2.2.1.2 (by decide) (by omega) (hA.sz (c := (iN c)) (by omega)) ?_
        refine V_icmp_ge (tgt := 70) dX10_alikeFirst_32 rfl (fun h32 => ?_) (fun h32 => ?_)
        · have h32 : (v_sz (x_A X) (iN c)) ≤ j := (nI_leI (by omega) (by omega)).mp h32
          refine V_iload_n (i := 3) dX10_alikeFirst_70 rfl 0 rfl ?_
          refine V_iret dX10_alikeFirst_71 ⟨rfl, rfl⟩ (Nat.zero_le _) (Nat.zero_le _) ?_
          subst hQ
          have hj9 : j = min (v_sz (x_A X) (iN c)) (v_sz (x_A X) (iN d)) := by omega
          exact ⟨_, _, _, rfl, rfl, by unfold o_alikeFirst; rw [if_neg (fun z => z ⟨h5, h13⟩), same_n hj9 hsm]; exact MP.same hX⟩
        · have h32 : ¬ (v_sz (x_A X) (iN c)) ≤ j := fun q => h32 ((nI_leI (by omega) (by omega)).mpr q)
          refine V_iload_n (i := 3) dX10_alikeFirst_35 rfl 0 rfl ?_
          refine V_aload_n (i := 0) dX10_alikeFirst_36 rfl 1 rfl ?_
          refine M_getR dX10_alikeFirst_37 lf_X10_42 rfl hb.1 hb.2.2.2.2.2.2.2.2.2.2.1.1 ?_
          refine V_iload_n (i := 2) dX10_alikeFirst_40 rfl 3 rfl ?_
          refine M_ialdn (j := (iN d)) (x := nI (v_sz (x_A X) (iN d))) dX10_alikeFirst_41 hb.2.2.2.2.2.2.2.2.2.2.1.2 (by decide) (by omega) (hA.sz (c := (iN d)) (by omega)) ?_
          refine V_icmp_ge (tgt := 70) dX10_alikeFirst_42 rfl (fun h42 => ?_) (fun h42 => ?_)
          · have h42 : (v_sz (x_A X) (iN d)) ≤ j := (nI_leI (by omega) (by omega)).mp h42
            refine V_iload_n (i := 3) dX10_alikeFirst_70 rfl 0 rfl ?_
            refine V_iret dX10_alikeFirst_71 ⟨rfl, rfl⟩ (Nat.zero_le _) (Nat.zero_le _) ?_
            subst hQ
            have hj9 : j = min (v_sz (x_A X) (iN c)) (v_sz (x_A X) (iN d)) := by omega
            exact ⟨_, _, _, rfl, rfl, by unfold o_alikeFirst; rw [if_neg (fun z => z ⟨h5, h13⟩), same_n hj9 hsm]; exact MP.same hX⟩
          · have h42 : ¬ (v_sz (x_A X) (iN d)) ≤ j := fun q => h42 ((nI_leI (by omega) (by omega)).mpr q)
            refine V_aload_n (i := 0) dX10_alikeFirst_45 rfl 1 rfl ?_
            refine M_getR dX10_alikeFirst_46 lf_X10_39 rfl hb.1 hb.2.2.2.2.2.2.2.2.2.1.1 ?_
            refine V_iload_n (i := 1) dX10_alikeFirst_49 rfl 2 rfl ?_
            refine M_aaldn (t := 1) (j := (iN c)) dX10_alikeFirst_50 (by decide) hb.2.2.2.2.2.2.2.2.2.1.2 (by decide) (by omega) ((hb.2.2.2.2.2.2.2.2.2.2.2.2.2.2.2.2.2.2.2.2.2.2.2 (iN c) (by omega)).1) ?_
            refine V_iload_n (i := 3) dX10_alikeFirst_51 rfl 0 rfl ?_
            refine M_ialdn (j := j) (x := nI (v_nt (x_A X) (iN c) j)) dX10_alikeFirst_52 (hb.2.2.2.2.2.2.2.2.2.2.2.2.2.2.2.2.2.2.2.2.2.2.2 (iN c) (by omega)).2 (by decide) (by omega) (hA.nt (c := (iN c)) (i := j) (by omega) (by omega)) ?_
            refine V_aload_n (i := 0) dX10_alikeFirst_53 rfl 1 rfl ?_
            refine M_getR dX10_alikeFirst_54 lf_X10_39 rfl hb.1 hb.2.2.2.2.2.2.2.2.2.1.1 ?_
            refine V_iload_n (i := 2) dX10_alikeFirst_57 rfl 3 rfl ?_
            refine M_aaldn (t := 1) (j := (iN d)) dX10_alikeFirst_58 (by decide) hb.2.2.2.2.2.2.2.2.2.1.2 (by decide) (by omega) ((hb.2.2.2.2.2.2.2.2.2.2.2.2.2.2.2.2.2.2.2.2.2.2.2 (iN d) (by omega)).1) ?_
            refine V_iload_n (i := 3) dX10_alikeFirst_59 rfl 0 rfl ?_
            refine M_ialdn (j := j) (x := nI (v_nt (x_A X) (iN d) j)) dX10_alikeFirst_60 (hb.2.2.2.2.2.2.2.2.2.2.2.2.2.2.2.2.2.2.2.2.2.2.2 (iN d) (by omega)).2 (by decide) (by omega) (hA.nt (c := (iN d)) (i := j) (by omega) (by omega)) ?_
            have hn4 := hv.nt (c := iN c) (i := j) (by omega) (by omega)
            have hn5 := hv.nt (c := iN d) (i := j) (by omega) (by omega)
            refine V_icmp_ne (tgt := 70) dX10_alikeFirst_61 rfl (fun h61 => ?_) (fun h61 => ?_)
            · have h61 : ¬ (v_nt (x_A X) (iN c) j) = (v_nt (x_A X) (iN d) j) := fun q => h61 ((nI_eq (by omega) (by omega)).mpr q)
              refine V_iload_n (i := 3) dX10_alikeFirst_70 rfl 0 rfl ?_
              refine V_iret dX10_alikeFirst_71 ⟨rfl, rfl⟩ (Nat.zero_le _) (Nat.zero_le _) ?_
              subst hQ
              exact ⟨_, _, _, rfl, rfl, by unfold o_alikeFirst; rw [if_neg (fun z => z ⟨h5, h13⟩), same_at (by omega) hsm h61]; exact MP.same hX⟩
            · have h61 : (v_nt (x_A X) (iN c) j) = (v_nt (x_A X) (iN d) j) := (nI_eq (by omega) (by omega)).mp h61
              refine V_iinc (v := nI (j + 1)) (lv2 := [(3, .int (nI (j + 1))), (0, .ref (b)), (1, .int (nI (iN c))), (2, .int (nI (iN d)))]) dX10_alikeFirst_64 0 rfl (nI_inc _) (by decide) rfl ?_
              refine V_goto (tgt := 25) dX10_alikeFirst_67 rfl ?_
              refine V_sub [0, 1, 2, 3] rfl ?_
              exact M_at (ih25 (by omega) (fun k hk => if e : k = j then e ▸ h61 else hsm k (by omega))) (rfl) rfl (rfl) (rfl)
      refine V_sub [0, 1, 2, 3] rfl ?_
      exact M_at (lp25 0 (Nat.zero_le _) (fun k hk => absurd hk (by omega))) (rfl) rfl (rfl) (rfl)
    · have h13 : ¬ (inR d (v_nc (x_A X))) := bI_eq0.mp h13
      refine V_aload_n (i := 0) dX10_alikeFirst_16 rfl 0 rfl ?_
      refine V_bipush (v := (-2)) dX10_alikeFirst_17 rfl ?_
      refine M_callVq (As := [.int ((-2))]) (st := []) dX10_alikeFirst_19 lv_X10_107 ⟨by decide, by decide⟩ ⟨rfl, rfl⟩ rfl (ci := 7) hb.1 rfl rfl (Nat.le_of_ble_eq_true rfl) (q_refuse hs hX hk (j := 0) (by decide)) (fun w19 iv19 lw19 q19 => ?_)
      obtain ⟨rfl, e1, hXr, hOr⟩ := q19
      subst e1
      refine V_iret dX10_alikeFirst_22 ⟨rfl, rfl⟩ (Nat.zero_le _) (Nat.zero_le _) ?_
      subst hQ
      exact ⟨_, _, _, rfl, rfl, by unfold o_alikeFirst; rw [if_pos (fun z => h13 z.2)]; exact ⟨rfl, hXr, hOr, Off.rf⟩⟩
set_option maxRecDepth 20000 in
theorem q_notes {g : Ev} {S : St} {iv : IV} {lw : LW} {b : Nat} (hs : SS S b) {X : Xs} (hX : MX S iv lw b X) (hk : XOK X) {t : Int32} : CQ g mX10_notes [.ref (b), .int (t)] S iv lw (fun w iv2 lw2 => MP S b iv lw (o_notes X t) w iv2 lw2) := by
  refine CT_ofQ rfl (by decide) (Nat.le_of_ble_eq_true rfl) (lv := [(0, .ref (b)), (1, .int (t))]) rfl (fun Q hQ => ?_)
  have hb := hs.1
  have hA := hX.1
  have hv := hk.1
  have hnc := hv.nc
  have hne := hv.ne
  have hnm := hv.nm
  refine V_iload_n (i := 1) dX10_notes_0 rfl 1 rfl ?_
  refine V_i2l dX10_notes_1 ?_
  refine V_lconst (v := lN 0) dX10_notes_2 rfl ?_
  refine V_ldc2 (v := lN 4) dX10_notes_3 mw_1219 ?_
  refine M_callSp (As := [.long ((t).toInt64), .long (lN 0), .long (lN 4)]) (st := []) dX10_notes_6 ls_X10_91 ⟨by decide, by decide⟩ ⟨rfl, rfl⟩ rfl (Nat.le_of_ble_eq_true rfl) (r_inK (by decide) (by decide)) ?_
  refine V_if_ne (tgt := 19) dX10_notes_9 rfl (fun h9 => ?_) (fun h9 => ?_)
  · have h9 : (0 : Int) ≤ t.toInt ∧ t.toInt ≤ 4 := bI_ne.mp h9
    have ct := iN_eq (k := t) (by omega)
    have dt := iN_i (k := t) (by omega)
    refine M_at (lv2 := [(0, .ref (b)), (1, .int (nI (iN t)))]) (st2 := []) ?_ (by rw [← ct]) rfl rfl rfl
    refine V_iconst (v := nI 0) dX10_notes_19 rfl ?_
    refine V_istore_n (lv2 := [(2, .int (nI 0)), (0, .ref (b)), (1, .int (nI (iN t)))]) dX10_notes_20 rfl (by decide) rfl ?_
    refine V_iconst (v := nI 0) dX10_notes_21 rfl ?_
    refine V_istore_n (lv2 := [(3, .int (nI 0)), (2, .int (nI 0)), (0, .ref (b)), (1, .int (nI (iN t)))]) dX10_notes_22 rfl (by decide) rfl ?_
    have lp23 : ∀ j, j ≤ (v_nc (x_A X)) → VM g mX10_notes 23 [(3, .int (nI j)), (2, .int (nI (sumTo (fun c => cntTo (fun i => decide (v_nt (x_A X) c i = iN t)) (v_sz (x_A X) c)) j))), (0, .ref (b)), (1, .int (nI (iN t)))] [] S iv lw Q := by
      refine up_ind fun j hj ih23 => ?_
      refine V_iload_n (i := 3) dX10_notes_23 rfl 0 rfl ?_
      refine V_aload_n (i := 0) dX10_notes_24 rfl 2 rfl ?_
      refine M_getI (x := nI (v_nc (x_A X))) dX10_notes_25 lf_X10_88 rfl hb.1 (hA.nc) ?_
      refine V_icmp_ge (tgt := 78) dX10_notes_28 rfl (fun h28 => ?_) (fun h28 => ?_)
      · have h28 : (v_nc (x_A X)) ≤ j := (nI_leI (by omega) (by omega)).mp h28
        refine V_iload_n (i := 2) dX10_notes_78 rfl 1 rfl ?_
        refine V_iret dX10_notes_79 ⟨rfl, rfl⟩ (Nat.zero_le _) (Nat.zero_le _) ?_
        subst hQ
        obtain rfl : j = v_nc (x_A X) := by omega
        exact ⟨_, _, _, rfl, rfl, by unfold o_notes; rw [if_pos h9]; exact MP.same hX⟩
      · have h28 : ¬ (v_nc (x_A X)) ≤ j := fun q => h28 ((nI_leI (by omega) (by omega)).mpr q)
        have hs8 := hv.sz (c := j) (by omega)
        refine V_iconst (v := nI 0) dX10_notes_31 rfl ?_
        refine V_istore (lv2 := [(4, .int (nI 0)), (3, .int (nI j)), (2, .int (nI (sumTo (fun c => cntTo (fun i => decide (v_nt (x_A X) c i = iN t)) (v_sz (x_A X) c)) j))), (0, .ref (b)), (1, .int (nI (iN t)))]) dX10_notes_32 (by decide) rfl ?_
        have lp34 : ∀ i, i ≤ (v_sz (x_A X) j) → VM g mX10_notes 34 [(4, .int (nI i)), (2, .int (nI (sumTo (fun c => cntTo (fun i => decide (v_nt (x_A X) c i = iN t)) (v_sz (x_A X) c)) j + cntTo (fun i => decide (v_nt (x_A X) j i = iN t)) i))), (3, .int (nI j)), (0, .ref (b)), (1, .int (nI (iN t)))] [] S iv lw Q := by
          refine up_ind fun i hi ihi => ?_
          refine V_iload dX10_notes_34 0 rfl ?_
          refine V_aload_n (i := 0) dX10_notes_36 rfl 3 rfl ?_
          refine M_getR dX10_notes_37 lf_X10_42 rfl hb.1 hb.2.2.2.2.2.2.2.2.2.2.1.1 ?_
          refine V_iload_n (i := 3) dX10_notes_40 rfl 2 rfl ?_
          refine M_ialdn (j := j) (x := nI (v_sz (x_A X) j)) dX10_notes_41 hb.2.2.2.2.2.2.2.2.2.2.1.2 (by decide) (by omega) (hA.sz (c := j) (by omega)) ?_
          refine V_icmp_ge (tgt := 72) dX10_notes_42 rfl (fun h42 => ?_) (fun h42 => ?_)
          · have h42 : (v_sz (x_A X) j) ≤ i := (nI_leI (by omega) (by omega)).mp h42
            have hi9 : i = v_sz (x_A X) j := by omega
            refine M_at (lv2 := [(4, .int (nI i)), (2, .int (nI (sumTo (fun c => cntTo (fun i => decide (v_nt (x_A X) c i = iN t)) (v_sz (x_A X) c)) (j + 1)))), (3, .int (nI j)), (0, .ref (b)), (1, .int (nI (iN t)))]) (st2 := []) ?_ (by rw [hi9]; rfl) rfl rfl rfl
            refine V_iinc (v := nI (j + 1)) (lv2 := [(3, .int (nI (j + 1))), (4, .int (nI i)), (2, .int (nI (sumTo (fun c => cntTo (fun i => decide (v_nt (x_A X) c i = iN t)) (v_sz (x_A X) c)) (j + 1)))), (0, .ref (b)), (1, .int (nI (iN t)))]) dX10_notes_72 2 rfl (nI_inc _) (by decide) rfl ?_
            refine V_goto (tgt := 23) dX10_notes_75 rfl ?_
            refine V_sub [0, 2, 3, 4] rfl ?_
            exact M_at (ih23 (by omega)) (rfl) rfl (rfl) (rfl)
          · have h42 : ¬ (v_sz (x_A X) j) ≤ i := fun q => h42 ((nI_leI (by omega) (by omega)).mpr q)
            refine V_iload_n (i := 2) dX10_notes_45 rfl 1 rfl ?_
            refine V_aload_n (i := 0) dX10_notes_46 rfl 3 rfl ?_
            refine M_getR dX10_notes_47 lf_X10_39 rfl hb.1 hb.2.2.2.2.2.2.2.2.2.1.1 ?_
            refine V_iload_n (i := 3) dX10_notes_50 rfl 2 rfl ?_
            refine M_aaldn (t := 1) (j := j) dX10_notes_51 (by decide) hb.2.2.2.2.2.2.2.2.2.1.2 (by decide) (by omega) ((hb.2.2.2.2.2.2.2.2.2.2.2.2.2.2.2.2.2.2.2.2.2.2.2 j (by omega)).1) ?_
            refine V_iload dX10_notes_52 0 rfl ?_
            refine M_ialdn (j := i) (x := nI (v_nt (x_A X) j i)) dX10_notes_54 (hb.2.2.2.2.2.2.2.2.2.2.2.2.2.2.2.2.2.2.2.2.2.2.2 j (by omega)).2 (by decide) (by omega) (hA.nt (c := j) (i := i) (by omega) (by omega)) ?_
            refine V_iload_n (i := 1) dX10_notes_55 rfl 4 rfl ?_
            have hn4 := hv.nt (c := j) (i := i) (by omega) (by omega)
            refine V_icmp_ne (tgt := 63) dX10_notes_56 rfl (fun h56 => ?_) (fun h56 => ?_)
            · have h56 : ¬ (v_nt (x_A X) j i) = (iN t) := fun q => h56 ((nI_eq (by omega) (by omega)).mpr q)
              refine V_iconst (v := nI 0) dX10_notes_63 rfl ?_
              refine V_iadd dX10_notes_64 ?_
              refine M_top (nI_add _ _) ?_
              refine V_istore_n (lv2 := [(2, .int (nI ((sumTo (fun c => cntTo (fun i => decide (v_nt (x_A X) c i = iN t)) (v_sz (x_A X) c)) j + cntTo (fun i => decide (v_nt (x_A X) j i = iN t)) i) + 0))), (4, .int (nI i)), (3, .int (nI j)), (0, .ref (b)), (1, .int (nI (iN t)))]) dX10_notes_65 rfl (by decide) rfl ?_
              refine V_iinc (v := nI (i + 1)) (lv2 := [(4, .int (nI (i + 1))), (2, .int (nI ((sumTo (fun c => cntTo (fun i => decide (v_nt (x_A X) c i = iN t)) (v_sz (x_A X) c)) j + cntTo (fun i => decide (v_nt (x_A X) j i = iN t)) i) + 0))), (3, .int (nI j)), (0, .ref (b)), (1, .int (nI (iN t)))]) dX10_notes_66 1 rfl (nI_inc _) (by decide) rfl ?_
              refine V_goto (tgt := 34) dX10_notes_69 rfl ?_
              refine V_sub [0, 1, 2, 3, 4] rfl ?_
              exact M_at (ihi (by omega)) (by rw [cntTo_f (decide_eq_false h56)]; rfl) rfl (rfl) (rfl)
            · have h56 : (v_nt (x_A X) j i) = (iN t) := (nI_eq (by omega) (by omega)).mp h56
              refine V_iconst (v := nI 1) dX10_notes_59 rfl ?_
              refine V_goto (tgt := 64) dX10_notes_60 rfl ?_
              refine V_iadd dX10_notes_64 ?_
              refine M_top (nI_add _ _) ?_
              refine V_istore_n (lv2 := [(2, .int (nI ((sumTo (fun c => cntTo (fun i => decide (v_nt (x_A X) c i = iN t)) (v_sz (x_A X) c)) j + cntTo (fun i => decide (v_nt (x_A X) j i = iN t)) i) + 1))), (4, .int (nI i)), (3, .int (nI j)), (0, .ref (b)), (1, .int (nI (iN t)))]) dX10_notes_65 rfl (by decide) rfl ?_
              refine V_iinc (v := nI (i + 1)) (lv2 := [(4, .int (nI (i + 1))), (2, .int (nI ((sumTo (fun c => cntTo (fun i => decide (v_nt (x_A X) c i = iN t)) (v_sz (x_A X) c)) j + cntTo (fun i => decide (v_nt (x_A X) j i = iN t)) i) + 1))), (3, .int (nI j)), (0, .ref (b)), (1, .int (nI (iN t)))]) dX10_notes_66 1 rfl (nI_inc _) (by decide) rfl ?_
              refine V_goto (tgt := 34) dX10_notes_69 rfl ?_
              refine V_sub [0, 1, 2, 3, 4] rfl ?_
              exact M_at (ihi (by omega)) (by rw [cntTo_t (decide_eq_true h56)]; rfl) rfl (rfl) (rfl)
        refine V_sub [0, 2, 1, 3, 4] rfl ?_
        exact M_at (lp34 0 (Nat.zero_le _)) (rfl) rfl (rfl) (rfl)
    refine V_sub [0, 1, 2, 3] rfl ?_
    exact M_at (lp23 0 (Nat.zero_le _)) (rfl) rfl (rfl) (rfl)
  · have h9 : ¬ ((0 : Int) ≤ t.toInt ∧ t.toInt ≤ 4) := bI_eq0.mp h9
    refine V_aload_n (i := 0) dX10_notes_12 rfl 0 rfl ?_
    refine V_bipush (v := (-2)) dX10_notes_13 rfl ?_
    refine M_callVq (As := [.int ((-2))]) (st := []) dX10_notes_15 lv_X10_107 ⟨by decide, by decide⟩ ⟨rfl, rfl⟩ rfl (ci := 7) hb.1 rfl rfl (Nat.le_of_ble_eq_true rfl) (q_refuse hs hX hk (j := 0) (by decide)) (fun w15 iv15 lw15 q15 => ?_)
    obtain ⟨rfl, e1, hXr, hOr⟩ := q15
    subst e1
    refine V_iret dX10_notes_18 ⟨rfl, rfl⟩ (Nat.zero_le _) (Nat.zero_le _) ?_
    subst hQ
    exact ⟨_, _, _, rfl, rfl, by unfold o_notes; rw [if_neg h9]; exact ⟨rfl, hXr, hOr, Off.rf⟩⟩
set_option maxRecDepth 20000 in
theorem q_twins {g : Ev} {S : St} {iv : IV} {lw : LW} {b : Nat} (hs : SS S b) {X : Xs} (hX : MX S iv lw b X) (hk : XOK X) : CQ g mX10_twins [.ref (b)] S iv lw (fun w iv2 lw2 => MP S b iv lw (o_twins X) w iv2 lw2) := by
  refine CT_ofQ rfl (by decide) (Nat.le_of_ble_eq_true rfl) (lv := [(0, .ref (b))]) rfl (fun Q hQ => ?_)
  have hb := hs.1
  have hA := hX.1
  have hv := hk.1
  have hnc := hv.nc
  have hne := hv.ne
  have hnm := hv.nm
  refine V_iconst (v := nI 0) dX10_twins_0 rfl ?_
  refine V_istore_n (lv2 := [(1, .int (nI 0)), (0, .ref (b))]) dX10_twins_1 rfl (by decide) rfl ?_
  refine V_iconst (v := nI 0) dX10_twins_2 rfl ?_
  refine V_istore_n (lv2 := [(2, .int (nI 0)), (1, .int (nI 0)), (0, .ref (b))]) dX10_twins_3 rfl (by decide) rfl ?_
  have lp4 : ∀ j, j ≤ (v_nc (x_A X)) → VM g mX10_twins 4 [(2, .int (nI j)), (1, .int (nI (cntTo (fun c => !clearB (x_A X) (v_pk (x_A X) c) 1 (some c)) j))), (0, .ref (b))] [] S iv lw Q := by
    refine up_ind fun j hj ih4 => ?_
    refine V_iload_n (i := 2) dX10_twins_4 rfl 0 rfl ?_
    refine V_aload_n (i := 0) dX10_twins_5 rfl 2 rfl ?_
    refine M_getI (x := nI (v_nc (x_A X))) dX10_twins_6 lf_X10_88 rfl hb.1 (hA.nc) ?_
    refine V_icmp_ge (tgt := 74) dX10_twins_9 rfl (fun h9 => ?_) (fun h9 => ?_)
    · have h9 : (v_nc (x_A X)) ≤ j := (nI_leI (by omega) (by omega)).mp h9
      refine V_iload_n (i := 1) dX10_twins_74 rfl 1 rfl ?_
      refine V_iret dX10_twins_75 ⟨rfl, rfl⟩ (Nat.zero_le _) (Nat.zero_le _) ?_
      subst hQ
      obtain rfl : j = v_nc (x_A X) := by omega
      exact ⟨_, _, _, rfl, rfl, MP.same hX⟩
    · have h9 : ¬ (v_nc (x_A X)) ≤ j := fun q => h9 ((nI_leI (by omega) (by omega)).mpr q)
      refine V_iconst (v := nI 0) dX10_twins_12 rfl ?_
      refine V_istore_n (lv2 := [(3, .int (nI 0)), (2, .int (nI j)), (1, .int (nI (cntTo (fun c => !clearB (x_A X) (v_pk (x_A X) c) 1 (some c)) j))), (0, .ref (b))]) dX10_twins_13 rfl (by decide) rfl ?_
      refine V_iconst (v := nI 0) dX10_twins_14 rfl ?_
      refine V_istore (lv2 := [(4, .int (nI 0)), (3, .int (nI 0)), (2, .int (nI j)), (1, .int (nI (cntTo (fun c => !clearB (x_A X) (v_pk (x_A X) c) 1 (some c)) j))), (0, .ref (b))]) dX10_twins_15 (by decide) rfl ?_
      have lp17 : ∀ i, i ≤ (v_nc (x_A X)) → VM g mX10_twins 17 [(4, .int (nI i)), (3, .int (bI (allTo (fun k => decide (some j = some k) || decide (1 ≤ dst (v_pk (x_A X) j) (v_pk (x_A X) k))) i = false))), (2, .int (nI j)), (1, .int (nI (cntTo (fun c => !clearB (x_A X) (v_pk (x_A X) c) 1 (some c)) j))), (0, .ref (b))] [] S iv lw Q := by
        refine up_ind fun i hi ihi => ?_
        refine V_iload dX10_twins_17 0 rfl ?_
        refine V_aload_n (i := 0) dX10_twins_19 rfl 4 rfl ?_
        refine M_getI (x := nI (v_nc (x_A X))) dX10_twins_20 lf_X10_88 rfl hb.1 (hA.nc) ?_
        refine V_icmp_ge (tgt := 56) dX10_twins_23 rfl (fun h23 => ?_) (fun h23 => ?_)
        · have h23 : (v_nc (x_A X)) ≤ i := (nI_leI (by omega) (by omega)).mp h23
          refine V_iload_n (i := 1) dX10_twins_56 rfl 3 rfl ?_
          refine V_iload_n (i := 3) dX10_twins_57 rfl 1 rfl ?_
          refine V_if_eq (tgt := 65) dX10_twins_58 rfl (fun h58 => ?_) (fun h58 => ?_)
          · have h58 := eq_true_of_ne_false (bI_eq0.mp h58)
            rw [show i = v_nc (x_A X) by omega] at h58
            refine V_iconst (v := nI 0) dX10_twins_65 rfl ?_
            refine V_iadd dX10_twins_66 ?_
            refine M_top (nI_add _ _) ?_
            refine V_istore_n (lv2 := [(1, .int (nI ((cntTo (fun c => !clearB (x_A X) (v_pk (x_A X) c) 1 (some c)) j) + 0))), (4, .int (nI i)), (3, .int (bI (allTo (fun k => decide (some j = some k) || decide (1 ≤ dst (v_pk (x_A X) j) (v_pk (x_A X) k))) i = false))), (2, .int (nI j)), (0, .ref (b))]) dX10_twins_67 rfl (by decide) rfl ?_
            refine V_iinc (v := nI (j + 1)) (lv2 := [(2, .int (nI (j + 1))), (1, .int (nI ((cntTo (fun c => !clearB (x_A X) (v_pk (x_A X) c) 1 (some c)) j) + 0))), (4, .int (nI i)), (3, .int (bI (allTo (fun k => decide (some j = some k) || decide (1 ≤ dst (v_pk (x_A X) j) (v_pk (x_A X) k))) i = false))), (0, .ref (b))]) dX10_twins_68 3 rfl (nI_inc _) (by decide) rfl ?_
            refine V_goto (tgt := 4) dX10_twins_71 rfl ?_
            refine V_sub [0, 1, 4] rfl ?_
            exact M_at (ih4 (by omega)) (by rw [cntTo_f (by rw [show clearB (x_A X) (v_pk (x_A X) j) 1 (some j) = true from h58]; decide)]; rfl) rfl (rfl) (rfl)
          · have h58 := bI_ne.mp h58
            rw [show i = v_nc (x_A X) by omega] at h58
            refine V_iconst (v := nI 1) dX10_twins_61 rfl ?_
            refine V_goto (tgt := 66) dX10_twins_62 rfl ?_
            refine V_iadd dX10_twins_66 ?_
            refine M_top (nI_add _ _) ?_
            refine V_istore_n (lv2 := [(1, .int (nI ((cntTo (fun c => !clearB (x_A X) (v_pk (x_A X) c) 1 (some c)) j) + 1))), (4, .int (nI i)), (3, .int (bI (allTo (fun k => decide (some j = some k) || decide (1 ≤ dst (v_pk (x_A X) j) (v_pk (x_A X) k))) i = false))), (2, .int (nI j)), (0, .ref (b))]) dX10_twins_67 rfl (by decide) rfl ?_
            refine V_iinc (v := nI (j + 1)) (lv2 := [(2, .int (nI (j + 1))), (1, .int (nI ((cntTo (fun c => !clearB (x_A X) (v_pk (x_A X) c) 1 (some c)) j) + 1))), (4, .int (nI i)), (3, .int (bI (allTo (fun k => decide (some j = some k) || decide (1 ≤ dst (v_pk (x_A X) j) (v_pk (x_A X) k))) i = false))), (0, .ref (b))]) dX10_twins_68 3 rfl (nI_inc _) (by decide) rfl ?_
            refine V_goto (tgt := 4) dX10_twins_71 rfl ?_
            refine V_sub [0, 1, 4] rfl ?_
            exact M_at (ih4 (by omega)) (by rw [cntTo_t (by rw [show clearB (x_A X) (v_pk (x_A X) j) 1 (some j) = false from h58]; rfl)]; rfl) rfl (rfl) (rfl)
        · have h23 : ¬ (v_nc (x_A X)) ≤ i := fun q => h23 ((nI_leI (by omega) (by omega)).mpr q)
          refine V_iload_n (i := 3) dX10_twins_26 rfl 1 rfl ?_
          refine V_iload dX10_twins_27 0 rfl ?_
          refine V_iload_n (i := 2) dX10_twins_29 rfl 2 rfl ?_
          refine V_icmp_eq (tgt := 47) dX10_twins_30 rfl (fun h30 => ?_) (fun h30 => ?_)
          · have h30 : i = j := (nI_eq (by omega) (by omega)).mp h30
            refine V_iconst (v := nI 0) dX10_twins_47 rfl ?_
            refine V_ior dX10_twins_48 ?_
            refine M_top (x2 := bI (allTo (fun k => decide (some j = some k) || decide (1 ≤ dst (v_pk (x_A X) j) (v_pk (x_A X) k))) i = false)) (bI_or0) ?_
            refine V_istore_n (lv2 := [(3, .int (bI (allTo (fun k => decide (some j = some k) || decide (1 ≤ dst (v_pk (x_A X) j) (v_pk (x_A X) k))) i = false))), (4, .int (nI i)), (2, .int (nI j)), (1, .int (nI (cntTo (fun c => !clearB (x_A X) (v_pk (x_A X) c) 1 (some c)) j))), (0, .ref (b))]) dX10_twins_49 rfl (by decide) rfl ?_
            refine V_iinc (v := nI (i + 1)) (lv2 := [(4, .int (nI (i + 1))), (3, .int (bI (allTo (fun k => decide (some j = some k) || decide (1 ≤ dst (v_pk (x_A X) j) (v_pk (x_A X) k))) i = false))), (2, .int (nI j)), (1, .int (nI (cntTo (fun c => !clearB (x_A X) (v_pk (x_A X) c) 1 (some c)) j))), (0, .ref (b))]) dX10_twins_50 1 rfl (nI_inc _) (by decide) rfl ?_
            refine V_goto (tgt := 17) dX10_twins_53 rfl ?_
            refine V_sub [0, 1, 2, 3, 4] rfl ?_
            exact M_at (ihi (by omega)) (by rw [tw_t (Or.inl (show j = i by omega))]; try rfl) rfl (rfl) (rfl)
          · have h30 : ¬ i = j := fun q => h30 ((nI_eq (by omega) (by omega)).mpr q)
            refine V_aload_n (i := 0) dX10_twins_33 rfl 4 rfl ?_
            refine V_iload_n (i := 2) dX10_twins_34 rfl 2 rfl ?_
            refine V_iload dX10_twins_35 0 rfl ?_
            refine M_callVp (As := [.int (nI j), .int (nI i)]) (st := [.int (bI (allTo (fun k => decide (some j = some k) || decide (1 ≤ dst (v_pk (x_A X) j) (v_pk (x_A X) k))) i = false))]) dX10_twins_37 lv_X10_282 ⟨by decide, by decide⟩ ⟨rfl, rfl⟩ rfl (ci := 7) hb.1 rfl rfl (Nat.le_of_ble_eq_true rfl) (r_apartOf hb hA hv (c := j) (d := i) (by omega) (by omega)) ?_
            have hd8 := dpk_le (x_A X) j i
            refine V_if_ne (tgt := 47) dX10_twins_40 rfl (fun h40 => ?_) (fun h40 => ?_)
            · have h40 : ¬ (dpk (x_A X) j i) = 0 := fun q => h40 ((nI_eq (b := 0) (by omega) (by omega)).mpr q)
              refine V_iconst (v := nI 0) dX10_twins_47 rfl ?_
              refine V_ior dX10_twins_48 ?_
              refine M_top (x2 := bI (allTo (fun k => decide (some j = some k) || decide (1 ≤ dst (v_pk (x_A X) j) (v_pk (x_A X) k))) i = false)) (bI_or0) ?_
              refine V_istore_n (lv2 := [(3, .int (bI (allTo (fun k => decide (some j = some k) || decide (1 ≤ dst (v_pk (x_A X) j) (v_pk (x_A X) k))) i = false))), (4, .int (nI i)), (2, .int (nI j)), (1, .int (nI (cntTo (fun c => !clearB (x_A X) (v_pk (x_A X) c) 1 (some c)) j))), (0, .ref (b))]) dX10_twins_49 rfl (by decide) rfl ?_
              refine V_iinc (v := nI (i + 1)) (lv2 := [(4, .int (nI (i + 1))), (3, .int (bI (allTo (fun k => decide (some j = some k) || decide (1 ≤ dst (v_pk (x_A X) j) (v_pk (x_A X) k))) i = false))), (2, .int (nI j)), (1, .int (nI (cntTo (fun c => !clearB (x_A X) (v_pk (x_A X) c) 1 (some c)) j))), (0, .ref (b))]) dX10_twins_50 1 rfl (nI_inc _) (by decide) rfl ?_
              refine V_goto (tgt := 17) dX10_twins_53 rfl ?_
              refine V_sub [0, 1, 2, 3, 4] rfl ?_
              exact M_at (ihi (by omega)) (by rw [tw_t (Or.inr (show 1 ≤ dpk (x_A X) j i by omega))]; try rfl) rfl (rfl) (rfl)
            · have h40 : (dpk (x_A X) j i) = 0 := (nI_eq (b := 0) (by omega) (by omega)).mp h40
              refine V_iconst (v := nI 1) dX10_twins_43 rfl ?_
              refine V_goto (tgt := 48) dX10_twins_44 rfl ?_
              refine V_ior dX10_twins_48 ?_
              refine M_top (x2 := nI 1) (bI_or1) ?_
              refine V_istore_n (lv2 := [(3, .int (nI 1)), (4, .int (nI i)), (2, .int (nI j)), (1, .int (nI (cntTo (fun c => !clearB (x_A X) (v_pk (x_A X) c) 1 (some c)) j))), (0, .ref (b))]) dX10_twins_49 rfl (by decide) rfl ?_
              refine V_iinc (v := nI (i + 1)) (lv2 := [(4, .int (nI (i + 1))), (3, .int (nI 1)), (2, .int (nI j)), (1, .int (nI (cntTo (fun c => !clearB (x_A X) (v_pk (x_A X) c) 1 (some c)) j))), (0, .ref (b))]) dX10_twins_50 1 rfl (nI_inc _) (by decide) rfl ?_
              refine V_goto (tgt := 17) dX10_twins_53 rfl ?_
              refine V_sub [0, 1, 2, 3, 4] rfl ?_
              exact M_at (ihi (by omega)) (by rw [tw_f (show ¬ j = i by omega) h40]; try rfl) rfl (rfl) (rfl)
      refine V_sub [0, 1, 2, 3, 4] rfl ?_
      exact M_at (lp17 0 (Nat.zero_le _)) (by rw [al0]; rfl) rfl (rfl) (rfl)
  refine V_sub [0, 1, 2] rfl ?_
  exact M_at (lp4 0 (Nat.zero_le _)) (rfl) rfl (rfl) (rfl)
set_option maxRecDepth 20000 in
theorem r_farFrom {g : Ev} {S : St} {iv : IV} {lw : LW} {b : Nat} (hb : IsMod S b) {V : Cv} (hV : MC iv b V) (hv : VOK V) {m : Nat} {r : Nat → Nat} (hR : MRw iv b m r) (hm : m ≤ 8) (hr : ∀ i, r i ≤ 4) {c : Nat} (hc : c < v_nc V) : CP g mX10_farFrom [.ref (b), .int (nI c), .int (nI m)] S iv lw (.int (nI (dst (pkTo r m) (v_pk V c)))) := by
  refine CT_ofQ rfl (by decide) (Nat.le_of_ble_eq_true rfl) (lv := [(0, .ref (b)), (1, .int (nI c)), (2, .int (nI m))]) rfl (fun Q hQ => ?_)
  have hnc := hv.nc
  have hne := hv.ne
  have hnm := hv.nm
  have hs8 := hv.sz hc
  refine V_aload_n (i := 0) dX10_farFrom_0 rfl 0 rfl ?_
  refine M_getR dX10_farFrom_1 lf_X10_42 rfl hb.1 hb.2.2.2.2.2.2.2.2.2.2.1.1 ?_
  refine V_iload_n (i := 1) dX10_farFrom_4 rfl 1 rfl ?_
  refine M_ialdn (j := c) (x := nI (v_sz V c)) dX10_farFrom_5 hb.2.2.2.2.2.2.2.2.2.2.1.2 (by decide) (by omega) (hV.sz (c := c) (by omega)) ?_
  refine V_iload_n (i := 2) dX10_farFrom_6 rfl 2 rfl ?_
  refine V_icmp_le (tgt := 19) dX10_farFrom_7 rfl (fun h7 => ?_) (fun h7 => ?_)
  · have h7 : (v_sz V c) ≤ m := (nI_leI (by omega) (by omega)).mp h7
    refine V_iload_n (i := 2) dX10_farFrom_19 rfl 2 rfl ?_
    refine M_top (x2 := nI (max (v_sz V c) m)) (by congr 1; omega) ?_
    refine V_istore_n (lv2 := [(3, .int (nI (max (v_sz V c) m))), (0, .ref (b)), (1, .int (nI c)), (2, .int (nI m))]) dX10_farFrom_20 rfl (by decide) rfl ?_
    refine V_iconst (v := nI 0) dX10_farFrom_21 rfl ?_
    refine V_istore (lv2 := [(4, .int (nI 0)), (3, .int (nI (max (v_sz V c) m))), (0, .ref (b)), (1, .int (nI c)), (2, .int (nI m))]) dX10_farFrom_22 (by decide) rfl ?_
    refine V_iconst (v := nI 0) dX10_farFrom_24 rfl ?_
    refine V_istore (lv2 := [(5, .int (nI 0)), (4, .int (nI 0)), (3, .int (nI (max (v_sz V c) m))), (0, .ref (b)), (1, .int (nI c)), (2, .int (nI m))]) dX10_farFrom_25 (by decide) rfl ?_
    have lp27 : ∀ j, j ≤ (max (v_sz V c) m) → VM g mX10_farFrom 27 [(5, .int (nI j)), (4, .int (nI (cntTo (apP (v_nt V c) r (v_sz V c) m) j))), (3, .int (nI (max (v_sz V c) m))), (0, .ref (b)), (1, .int (nI c)), (2, .int (nI m))] [] S iv lw Q := by
      refine up_ind fun j hj ih27 => ?_
      refine V_iload dX10_farFrom_27 0 rfl ?_
      refine V_iload_n (i := 3) dX10_farFrom_29 rfl 2 rfl ?_
      refine V_icmp_ge (tgt := 85) dX10_farFrom_30 rfl (fun h30 => ?_) (fun h30 => ?_)
      · have h30 : (max (v_sz V c) m) ≤ j := (nI_leI (by omega) (by omega)).mp h30
        refine V_iload dX10_farFrom_85 1 rfl ?_
        refine V_iret dX10_farFrom_87 ⟨rfl, rfl⟩ (Nat.zero_le _) (Nat.zero_le _) ?_
        subst hQ
        exact ⟨by rw [show j = max (v_sz V c) m by omega, far_ap hv hc hm hr], rfl⟩
      · have h30 : ¬ (max (v_sz V c) m) ≤ j := fun q => h30 ((nI_leI (by omega) (by omega)).mpr q)
        refine V_iload dX10_farFrom_33 1 rfl ?_
        refine V_iload dX10_farFrom_35 0 rfl ?_
        refine V_aload_n (i := 0) dX10_farFrom_37 rfl 3 rfl ?_
        refine M_getR dX10_farFrom_38 lf_X10_42 rfl hb.1 hb.2.2.2.2.2.2.2.2.2.2.1.1 ?_
        refine V_iload_n (i := 1) dX10_farFrom_41 rfl 4 rfl ?_
        refine M_ialdn (j := c) (x := nI (v_sz V c)) dX10_farFrom_42 hb.2.2.2.2.2.2.2.2.2.2.1.2 (by decide) (by omega) (hV.sz (c := c) (by omega)) ?_
        refine V_icmp_ge (tgt := 71) dX10_farFrom_43 rfl (fun h43 => ?_) (fun h43 => ?_)
        · have h43 : (v_sz V c) ≤ j := (nI_leI (by omega) (by omega)).mp h43
          refine V_iconst (v := nI 1) dX10_farFrom_71 rfl ?_
          refine V_goto (tgt := 76) dX10_farFrom_72 rfl ?_
          refine V_iadd dX10_farFrom_76 ?_
          refine M_top (nI_add _ _) ?_
          refine V_istore (lv2 := [(4, .int (nI ((cntTo (apP (v_nt V c) r (v_sz V c) m) j) + 1))), (5, .int (nI j)), (3, .int (nI (max (v_sz V c) m))), (0, .ref (b)), (1, .int (nI c)), (2, .int (nI m))]) dX10_farFrom_77 (by decide) rfl ?_
          refine V_iinc (v := nI (j + 1)) (lv2 := [(5, .int (nI (j + 1))), (4, .int (nI ((cntTo (apP (v_nt V c) r (v_sz V c) m) j) + 1))), (3, .int (nI (max (v_sz V c) m))), (0, .ref (b)), (1, .int (nI c)), (2, .int (nI m))]) dX10_farFrom_79 1 rfl (nI_inc _) (by decide) rfl ?_
          refine V_goto (tgt := 27) dX10_farFrom_82 rfl ?_
          refine V_sub [0, 1, 2, 3, 4, 5] rfl ?_
          exact M_at (ih27 (by omega)) (by rw [cntTo_t (ap_t1 (by omega))]; rfl) rfl (rfl) (rfl)
        · have h43 : ¬ (v_sz V c) ≤ j := fun q => h43 ((nI_leI (by omega) (by omega)).mpr q)
          refine V_iload dX10_farFrom_46 0 rfl ?_
          refine V_iload_n (i := 2) dX10_farFrom_48 rfl 5 rfl ?_
          refine V_icmp_ge (tgt := 71) dX10_farFrom_49 rfl (fun h49 => ?_) (fun h49 => ?_)
          · have h49 : m ≤ j := (nI_leI (by omega) (by omega)).mp h49
            refine V_iconst (v := nI 1) dX10_farFrom_71 rfl ?_
            refine V_goto (tgt := 76) dX10_farFrom_72 rfl ?_
            refine V_iadd dX10_farFrom_76 ?_
            refine M_top (nI_add _ _) ?_
            refine V_istore (lv2 := [(4, .int (nI ((cntTo (apP (v_nt V c) r (v_sz V c) m) j) + 1))), (5, .int (nI j)), (3, .int (nI (max (v_sz V c) m))), (0, .ref (b)), (1, .int (nI c)), (2, .int (nI m))]) dX10_farFrom_77 (by decide) rfl ?_
            refine V_iinc (v := nI (j + 1)) (lv2 := [(5, .int (nI (j + 1))), (4, .int (nI ((cntTo (apP (v_nt V c) r (v_sz V c) m) j) + 1))), (3, .int (nI (max (v_sz V c) m))), (0, .ref (b)), (1, .int (nI c)), (2, .int (nI m))]) dX10_farFrom_79 1 rfl (nI_inc _) (by decide) rfl ?_
            refine V_goto (tgt := 27) dX10_farFrom_82 rfl ?_
            refine V_sub [0, 1, 2, 3, 4, 5] rfl ?_
            exact M_at (ih27 (by omega)) (by rw [cntTo_t (ap_t1 (by omega))]; rfl) rfl (rfl) (rfl)
          · have h49 : ¬ m ≤ j := fun q => h49 ((nI_leI (by omega) (by omega)).mpr q)
            refine V_aload_n (i := 0) dX10_farFrom_52 rfl 3 rfl ?_
            refine M_getR dX10_farFrom_53 lf_X10_39 rfl hb.1 hb.2.2.2.2.2.2.2.2.2.1.1 ?_
            refine V_iload_n (i := 1) dX10_farFrom_56 rfl 4 rfl ?_
            refine M_aaldn (t := 1) (j := c) dX10_farFrom_57 (by decide) hb.2.2.2.2.2.2.2.2.2.1.2 (by decide) (by omega) ((hb.2.2.2.2.2.2.2.2.2.2.2.2.2.2.2.2.2.2.2.2.2.2.2 c (by omega)).1) ?_
            refine V_iload dX10_farFrom_58 0 rfl ?_
            refine M_ialdn (j := j) (x := nI (v_nt V c j)) dX10_farFrom_60 (hb.2.2.2.2.2.2.2.2.2.2.2.2.2.2.2.2.2.2.2.2.2.2.2 c (by omega)).2 (by decide) (by omega) (hV.nt (c := c) (i := j) (by omega) (by omega)) ?_
            refine V_aload_n (i := 0) dX10_farFrom_61 rfl 3 rfl ?_
            refine M_getR dX10_farFrom_62 lf_X10_79 rfl hb.1 hb.2.2.2.2.2.2.2.2.2.2.2.2.2.2.2.2.2.2.2.1.1 ?_
            refine V_iload dX10_farFrom_65 0 rfl ?_
            refine M_ialdn (j := j) (x := nI (r j)) dX10_farFrom_67 hb.2.2.2.2.2.2.2.2.2.2.2.2.2.2.2.2.2.2.2.1.2 (by decide) (by omega) (hR j (by omega)) ?_
            have hn4 := hv.nt hc (i := j) (by omega)
            have hn5 := hr j
            refine V_icmp_eq (tgt := 75) dX10_farFrom_68 rfl (fun h68 => ?_) (fun h68 => ?_)
            · have h68 : (v_nt V c j) = (r j) := (nI_eq (by omega) (by omega)).mp h68
              refine V_iconst (v := nI 0) dX10_farFrom_75 rfl ?_
              refine V_iadd dX10_farFrom_76 ?_
              refine M_top (nI_add _ _) ?_
              refine V_istore (lv2 := [(4, .int (nI ((cntTo (apP (v_nt V c) r (v_sz V c) m) j) + 0))), (5, .int (nI j)), (3, .int (nI (max (v_sz V c) m))), (0, .ref (b)), (1, .int (nI c)), (2, .int (nI m))]) dX10_farFrom_77 (by decide) rfl ?_
              refine V_iinc (v := nI (j + 1)) (lv2 := [(5, .int (nI (j + 1))), (4, .int (nI ((cntTo (apP (v_nt V c) r (v_sz V c) m) j) + 0))), (3, .int (nI (max (v_sz V c) m))), (0, .ref (b)), (1, .int (nI c)), (2, .int (nI m))]) dX10_farFrom_79 1 rfl (nI_inc _) (by decide) rfl ?_
              refine V_goto (tgt := 27) dX10_farFrom_82 rfl ?_
              refine V_sub [0, 1, 2, 3, 4, 5] rfl ?_
              exact M_at (ih27 (by omega)) (by rw [cntTo_f (ap_f (by omega) (by omega))]; rfl) rfl (rfl) (rfl)
            · have h68 : ¬ (v_nt V c j) = (r j) := fun q => h68 ((nI_eq (by omega) (by omega)).mpr q)
              refine V_iconst (v := nI 1) dX10_farFrom_71 rfl ?_
              refine V_goto (tgt := 76) dX10_farFrom_72 rfl ?_
              refine V_iadd dX10_farFrom_76 ?_
              refine M_top (nI_add _ _) ?_
              refine V_istore (lv2 := [(4, .int (nI ((cntTo (apP (v_nt V c) r (v_sz V c) m) j) + 1))), (5, .int (nI j)), (3, .int (nI (max (v_sz V c) m))), (0, .ref (b)), (1, .int (nI c)), (2, .int (nI m))]) dX10_farFrom_77 (by decide) rfl ?_
              refine V_iinc (v := nI (j + 1)) (lv2 := [(5, .int (nI (j + 1))), (4, .int (nI ((cntTo (apP (v_nt V c) r (v_sz V c) m) j) + 1))), (3, .int (nI (max (v_sz V c) m))), (0, .ref (b)), (1, .int (nI c)), (2, .int (nI m))]) dX10_farFrom_79 1 rfl (nI_inc _) (by decide) rfl ?_
              refine V_goto (tgt := 27) dX10_farFrom_82 rfl ?_
              refine V_sub [0, 1, 2, 3, 4, 5] rfl ?_
              exact M_at (ih27 (by omega)) (by rw [cntTo_t (ap_t2 (by omega))]; rfl) rfl (rfl) (rfl)
    refine V_sub [0, 1, 2, 3, 4, 5] rfl ?_
    exact M_at (lp27 0 (Nat.zero_le _)) (rfl) rfl (rfl) (rfl)
  · have h7 : ¬ (v_sz V c) ≤ m := fun q => h7 ((nI_leI (by omega) (by omega)).mpr q)
    refine V_aload_n (i := 0) dX10_farFrom_10 rfl 0 rfl ?_
    refine M_getR dX10_farFrom_11 lf_X10_42 rfl hb.1 hb.2.2.2.2.2.2.2.2.2.2.1.1 ?_
    refine V_iload_n (i := 1) dX10_farFrom_14 rfl 1 rfl ?_
    refine M_ialdn (j := c) (x := nI (v_sz V c)) dX10_farFrom_15 hb.2.2.2.2.2.2.2.2.2.2.1.2 (by decide) (by omega) (hV.sz (c := c) (by omega)) ?_
    refine M_top (x2 := nI (max (v_sz V c) m)) (by congr 1; omega) ?_
    refine V_goto (tgt := 20) dX10_farFrom_16 rfl ?_
    refine V_istore_n (lv2 := [(3, .int (nI (max (v_sz V c) m))), (0, .ref (b)), (1, .int (nI c)), (2, .int (nI m))]) dX10_farFrom_20 rfl (by decide) rfl ?_
    refine V_iconst (v := nI 0) dX10_farFrom_21 rfl ?_
    refine V_istore (lv2 := [(4, .int (nI 0)), (3, .int (nI (max (v_sz V c) m))), (0, .ref (b)), (1, .int (nI c)), (2, .int (nI m))]) dX10_farFrom_22 (by decide) rfl ?_
    refine V_iconst (v := nI 0) dX10_farFrom_24 rfl ?_
    refine V_istore (lv2 := [(5, .int (nI 0)), (4, .int (nI 0)), (3, .int (nI (max (v_sz V c) m))), (0, .ref (b)), (1, .int (nI c)), (2, .int (nI m))]) dX10_farFrom_25 (by decide) rfl ?_
    have lp27 : ∀ j, j ≤ (max (v_sz V c) m) → VM g mX10_farFrom 27 [(5, .int (nI j)), (4, .int (nI (cntTo (apP (v_nt V c) r (v_sz V c) m) j))), (3, .int (nI (max (v_sz V c) m))), (0, .ref (b)), (1, .int (nI c)), (2, .int (nI m))] [] S iv lw Q := by
      refine up_ind fun j hj ih27 => ?_
      refine V_iload dX10_farFrom_27 0 rfl ?_
      refine V_iload_n (i := 3) dX10_farFrom_29 rfl 2 rfl ?_
      refine V_icmp_ge (tgt := 85) dX10_farFrom_30 rfl (fun h30 => ?_) (fun h30 => ?_)
      · have h30 : (max (v_sz V c) m) ≤ j := (nI_leI (by omega) (by omega)).mp h30
        refine V_iload dX10_farFrom_85 1 rfl ?_
        refine V_iret dX10_farFrom_87 ⟨rfl, rfl⟩ (Nat.zero_le _) (Nat.zero_le _) ?_
        subst hQ
        exact ⟨by rw [show j = max (v_sz V c) m by omega, far_ap hv hc hm hr], rfl⟩
      · have h30 : ¬ (max (v_sz V c) m) ≤ j := fun q => h30 ((nI_leI (by omega) (by omega)).mpr q)
        refine V_iload dX10_farFrom_33 1 rfl ?_
        refine V_iload dX10_farFrom_35 0 rfl ?_
        refine V_aload_n (i := 0) dX10_farFrom_37 rfl 3 rfl ?_
        refine M_getR dX10_farFrom_38 lf_X10_42 rfl hb.1 hb.2.2.2.2.2.2.2.2.2.2.1.1 ?_
        refine V_iload_n (i := 1) dX10_farFrom_41 rfl 4 rfl ?_
        refine M_ialdn (j := c) (x := nI (v_sz V c)) dX10_farFrom_42 hb.2.2.2.2.2.2.2.2.2.2.1.2 (by decide) (by omega) (hV.sz (c := c) (by omega)) ?_
        refine V_icmp_ge (tgt := 71) dX10_farFrom_43 rfl (fun h43 => ?_) (fun h43 => ?_)
        · have h43 : (v_sz V c) ≤ j := (nI_leI (by omega) (by omega)).mp h43
          refine V_iconst (v := nI 1) dX10_farFrom_71 rfl ?_
          refine V_goto (tgt := 76) dX10_farFrom_72 rfl ?_
          refine V_iadd dX10_farFrom_76 ?_
          refine M_top (nI_add _ _) ?_
          refine V_istore (lv2 := [(4, .int (nI ((cntTo (apP (v_nt V c) r (v_sz V c) m) j) + 1))), (5, .int (nI j)), (3, .int (nI (max (v_sz V c) m))), (0, .ref (b)), (1, .int (nI c)), (2, .int (nI m))]) dX10_farFrom_77 (by decide) rfl ?_
          refine V_iinc (v := nI (j + 1)) (lv2 := [(5, .int (nI (j + 1))), (4, .int (nI ((cntTo (apP (v_nt V c) r (v_sz V c) m) j) + 1))), (3, .int (nI (max (v_sz V c) m))), (0, .ref (b)), (1, .int (nI c)), (2, .int (nI m))]) dX10_farFrom_79 1 rfl (nI_inc _) (by decide) rfl ?_
          refine V_goto (tgt := 27) dX10_farFrom_82 rfl ?_
          refine V_sub [0, 1, 2, 3, 4, 5] rfl ?_
          exact M_at (ih27 (by omega)) (by rw [cntTo_t (ap_t1 (by omega))]; rfl) rfl (rfl) (rfl)
        · have h43 : ¬ (v_sz V c) ≤ j := fun q => h43 ((nI_leI (by omega) (by omega)).mpr q)
          refine V_iload dX10_farFrom_46 0 rfl ?_
          refine V_iload_n (i := 2) dX10_farFrom_48 rfl 5 rfl ?_
          refine V_icmp_ge (tgt := 71) dX10_farFrom_49 rfl (fun h49 => ?_) (fun h49 => ?_)
          · have h49 : m ≤ j := (nI_leI (by omega) (by omega)).mp h49
            refine V_iconst (v := nI 1) dX10_farFrom_71 rfl ?_
            refine V_goto (tgt := 76) dX10_farFrom_72 rfl ?_
            refine V_iadd dX10_farFrom_76 ?_
            refine M_top (nI_add _ _) ?_
            refine V_istore (lv2 := [(4, .int (nI ((cntTo (apP (v_nt V c) r (v_sz V c) m) j) + 1))), (5, .int (nI j)), (3, .int (nI (max (v_sz V c) m))), (0, .ref (b)), (1, .int (nI c)), (2, .int (nI m))]) dX10_farFrom_77 (by decide) rfl ?_
            refine V_iinc (v := nI (j + 1)) (lv2 := [(5, .int (nI (j + 1))), (4, .int (nI ((cntTo (apP (v_nt V c) r (v_sz V c) m) j) + 1))), (3, .int (nI (max (v_sz V c) m))), (0, .ref (b)), (1, .int (nI c)), (2, .int (nI m))]) dX10_farFrom_79 1 rfl (nI_inc _) (by decide) rfl ?_
            refine V_goto (tgt := 27) dX10_farFrom_82 rfl ?_
            refine V_sub [0, 1, 2, 3, 4, 5] rfl ?_
            exact M_at (ih27 (by omega)) (by rw [cntTo_t (ap_t1 (by omega))]; rfl) rfl (rfl) (rfl)
          · have h49 : ¬ m ≤ j := fun q => h49 ((nI_leI (by omega) (by omega)).mpr q)
            refine V_aload_n (i := 0) dX10_farFrom_52 rfl 3 rfl ?_
            refine M_getR dX10_farFrom_53 lf_X10_39 rfl hb.1 hb.2.2.2.2.2.2.2.2.2.1.1 ?_
            refine V_iload_n (i := 1) dX10_farFrom_56 rfl 4 rfl ?_
            refine M_aaldn (t := 1) (j := c) dX10_farFrom_57 (by decide) hb.2.2.2.2.2.2.2.2.2.1.2 (by decide) (by omega) ((hb.2.2.2.2.2.2.2.2.2.2.2.2.2.2.2.2.2.2.2.2.2.2.2 c (by omega)).1) ?_
            refine V_iload dX10_farFrom_58 0 rfl ?_
            refine M_ialdn (j := j) (x := nI (v_nt V c j)) dX10_farFrom_60 (hb.2.2.2.2.2.2.2.2.2.2.2.2.2.2.2.2.2.2.2.2.2.2.2 c (by omega)).2 (by decide) (by omega) (hV.nt (c := c) (i := j) (by omega) (by omega)) ?_
            refine V_aload_n (i := 0) dX10_farFrom_61 rfl 3 rfl ?_
            refine M_getR dX10_farFrom_62 lf_X10_79 rfl hb.1 hb.2.2.2.2.2.2.2.2.2.2.2.2.2.2.2.2.2.2.2.1.1 ?_
            refine V_iload dX10_farFrom_65 0 rfl ?_
            refine M_ialdn (j := j) (x := nI (r j)) dX10_farFrom_67 hb.2.2.2.2.2.2.2.2.2.2.2.2.2.2.2.2.2.2.2.1.2 (by decide) (by omega) (hR j (by omega)) ?_
            have hn4 := hv.nt hc (i := j) (by omega)
            have hn5 := hr j
            refine V_icmp_eq (tgt := 75) dX10_farFrom_68 rfl (fun h68 => ?_) (fun h68 => ?_)
            · have h68 : (v_nt V c j) = (r j) := (nI_eq (by omega) (by omega)).mp h68
              refine V_iconst (v := nI 0) dX10_farFrom_75 rfl ?_
              refine V_iadd dX10_farFrom_76 ?_
              refine M_top (nI_add _ _) ?_
              refine V_istore (lv2 := [(4, .int (nI ((cntTo (apP (v_nt V c) r (v_sz V c) m) j) + 0))), (5, .int (nI j)), (3, .int (nI (max (v_sz V c) m))), (0, .ref (b)), (1, .int (nI c)), (2, .int (nI m))]) dX10_farFrom_77 (by decide) rfl ?_
              refine V_iinc (v := nI (j + 1)) (lv2 := [(5, .int (nI (j + 1))), (4, .int (nI ((cntTo (apP (v_nt V c) r (v_sz V c) m) j) + 0))), (3, .int (nI (max (v_sz V c) m))), (0, .ref (b)), (1, .int (nI c)), (2, .int (nI m))]) dX10_farFrom_79 1 rfl (nI_inc _) (by decide) rfl ?_
              refine V_goto (tgt := 27) dX10_farFrom_82 rfl ?_
              refine V_sub [0, 1, 2, 3, 4, 5] rfl ?_
              exact M_at (ih27 (by omega)) (by rw [cntTo_f (ap_f (by omega) (by omega))]; rfl) rfl (rfl) (rfl)
            · have h68 : ¬ (v_nt V c j) = (r j) := fun q => h68 ((nI_eq (by omega) (by omega)).mpr q)
              refine V_iconst (v := nI 1) dX10_farFrom_71 rfl ?_
              refine V_goto (tgt := 76) dX10_farFrom_72 rfl ?_
              refine V_iadd dX10_farFrom_76 ?_
              refine M_top (nI_add _ _) ?_
              refine V_istore (lv2 := [(4, .int (nI ((cntTo (apP (v_nt V c) r (v_sz V c) m) j) + 1))), (5, .int (nI j)), (3, .int (nI (max (v_sz V c) m))), (0, .ref (b)), (1, .int (nI c)), (2, .int (nI m))]) dX10_farFrom_77 (by decide) rfl ?_
              refine V_iinc (v := nI (j + 1)) (lv2 := [(5, .int (nI (j + 1))), (4, .int (nI ((cntTo (apP (v_nt V c) r (v_sz V c) m) j) + 1))), (3, .int (nI (max (v_sz V c) m))), (0, .ref (b)), (1, .int (nI c)), (2, .int (nI m))]) dX10_farFrom_79 1 rfl (nI_inc _) (by decide) rfl ?_
              refine V_goto (tgt := 27) dX10_farFrom_82 rfl ?_
              refine V_sub [0, 1, 2, 3, 4, 5] rfl ?_
              exact M_at (ih27 (by omega)) (by rw [cntTo_t (ap_t2 (by omega))]; rfl) rfl (rfl) (rfl)
    refine V_sub [0, 1, 2, 3, 4, 5] rfl ?_
    exact M_at (lp27 0 (Nat.zero_le _)) (rfl) rfl (rfl) (rfl)
set_option maxRecDepth 20000 in
theorem r_isFar {g : Ev} {S : St} {iv : IV} {lw : LW} {b : Nat} (hb : IsMod S b) {V : Cv} (hV : MC iv b V) (hv : VOK V) {m : Nat} {r : Nat → Nat} (hR : MRw iv b m r) (hm : m ≤ 8) (hr : ∀ i, r i ≤ 4) {d : Nat} {but : Option Nat} (hd : d ≤ 8) (hbut : ∀ k, but = some k → k < 12) : CP g mX10_isFar [.ref (b), .int (nI m), .int (nI d), .int (oI but)] S iv lw (.int (bI (clearB V (pkTo r m) d but = true))) := by
  refine CT_ofQ rfl (by decide) (Nat.le_of_ble_eq_true rfl) (lv := [(0, .ref (b)), (1, .int (nI m)), (2, .int (nI d)), (3, .int (oI but))]) rfl (fun Q hQ => ?_)
  have hnc := hv.nc
  have hne := hv.ne
  have hnm := hv.nm
  refine V_iconst (v := nI 0) dX10_isFar_0 rfl ?_
  refine V_istore (lv2 := [(4, .int (nI 0)), (0, .ref (b)), (1, .int (nI m)), (2, .int (nI d)), (3, .int (oI but))]) dX10_isFar_1 (by decide) rfl ?_
  have lp3 : ∀ j, j ≤ (v_nc V) → allTo (fun c => decide (but = some c) || decide (d ≤ dst (pkTo r m) (v_pk V c))) j = true → VM g mX10_isFar 3 [(4, .int (nI j)), (0, .ref (b)), (1, .int (nI m)), (2, .int (nI d)), (3, .int (oI but))] [] S iv lw Q := by
    refine up_ind fun j hj ih3 => ?_
    intro hall
    refine V_iload dX10_isFar_3 0 rfl ?_
    refine V_aload_n (i := 0) dX10_isFar_5 rfl 1 rfl ?_
    refine M_getI (x := nI (v_nc V)) dX10_isFar_6 lf_X10_88 rfl hb.1 (hV.nc) ?_
    refine V_icmp_ge (tgt := 37) dX10_isFar_9 rfl (fun h9 => ?_) (fun h9 => ?_)
    · have h9 : (v_nc V) ≤ j := (nI_leI (by omega) (by omega)).mp h9
      refine V_iconst (v := nI 1) dX10_isFar_37 rfl ?_
      refine V_zret dX10_isFar_38 ⟨rfl, rfl⟩ (by rfl) (Nat.zero_le _) (Nat.zero_le _) ?_
      subst hQ
      obtain rfl : j = v_nc V := by omega
      exact ⟨by rw [bI_t (show clearB V (pkTo r m) d but = true from hall)], rfl⟩
    · have h9 : ¬ (v_nc V) ≤ j := fun q => h9 ((nI_leI (by omega) (by omega)).mpr q)
      refine V_iload dX10_isFar_12 0 rfl ?_
      refine V_iload_n (i := 3) dX10_isFar_14 rfl 4 rfl ?_
      refine V_icmp_eq (tgt := 31) dX10_isFar_15 rfl (fun h15 => ?_) (fun h15 => ?_)
      · have h15 := (oI_eq hbut (by omega) (by omega)).mp h15
        refine V_iinc (v := nI (j + 1)) (lv2 := [(4, .int (nI (j + 1))), (0, .ref (b)), (1, .int (nI m)), (2, .int (nI d)), (3, .int (oI but))]) dX10_isFar_31 0 rfl (nI_inc _) (by decide) rfl ?_
        refine V_goto (tgt := 3) dX10_isFar_34 rfl ?_
        refine V_sub [0, 1, 2, 3, 4] rfl ?_
        exact M_at (ih3 (by omega) (by show (allTo _ j && (decide (but = some j) || decide (d ≤ dst (pkTo r m) (v_pk V j)))) = true; rw [hall, clr_t (Or.inl h15)]; rfl)) (rfl) rfl (rfl) (rfl)
      · have h15 : ¬ but = some j := fun z => h15 ((oI_eq hbut (by omega) (by omega)).mpr z)
        refine V_aload_n (i := 0) dX10_isFar_18 rfl 1 rfl ?_
        refine V_iload dX10_isFar_19 0 rfl ?_
        refine V_iload_n (i := 1) dX10_isFar_21 rfl 2 rfl ?_
        refine M_callVp (As := [.int (nI j), .int (nI m)]) (st := []) dX10_isFar_22 lv_X10_304 ⟨by decide, by decide⟩ ⟨rfl, rfl⟩ rfl (ci := 7) hb.1 rfl rfl (Nat.le_of_ble_eq_true rfl) (r_farFrom hb hV hv hR hm hr (c := j) (by omega)) ?_
        refine V_iload_n (i := 2) dX10_isFar_25 rfl 3 rfl ?_
        have hd8 := dst_le (pkTo r m) (v_pk V j)
        refine V_icmp_ge (tgt := 31) dX10_isFar_26 rfl (fun h26 => ?_) (fun h26 => ?_)
        · have h26 : d ≤ (dst (pkTo r m) (v_pk V j)) := (nI_leI (by omega) (by omega)).mp h26
          refine V_iinc (v := nI (j + 1)) (lv2 := [(4, .int (nI (j + 1))), (0, .ref (b)), (1, .int (nI m)), (2, .int (nI d)), (3, .int (oI but))]) dX10_isFar_31 0 rfl (nI_inc _) (by decide) rfl ?_
          refine V_goto (tgt := 3) dX10_isFar_34 rfl ?_
          refine V_sub [0, 1, 2, 3, 4] rfl ?_
          exact M_at (ih3 (by omega) (by show (allTo _ j && (decide (but = some j) || decide (d ≤ dst (pkTo r m) (v_pk V j)))) = true; rw [hall, clr_t (Or.inr (by omega))]; rfl)) (rfl) rfl (rfl) (rfl)
        · have h26 : ¬ d ≤ (dst (pkTo r m) (v_pk V j)) := fun q => h26 ((nI_leI (by omega) (by omega)).mpr q)
          refine V_iconst (v := nI 0) dX10_isFar_29 rfl ?_
          refine V_zret dX10_isFar_30 ⟨rfl, rfl⟩ (by rfl) (Nat.zero_le _) (Nat.zero_le _) ?_
          subst hQ
          exact ⟨by rw [bI_f (show ¬ clearB V (pkTo r m) d but = true from by rw [show clearB V (pkTo r m) d but = false from allTo_bad (i := j) (by omega) (clr_f h15 (by omega))]; decide)], rfl⟩
  refine V_sub [0, 1, 2, 3, 4] rfl ?_
  exact M_at (lp3 0 (Nat.zero_le _) rfl) (rfl) rfl (rfl) (rfl)
set_option maxRecDepth 20000 in
theorem r_becomes {g : Ev} {S : St} {iv : IV} {lw : LW} {b : Nat} (hb : IsMod S b) {x m : Nat} (hx : x < 2 ^ 31) (hm : m ≤ 5) : CQ g mX10_becomes [.ref (b), .int (nI x), .int (nI m)] S iv lw (fun w iv2 lw2 => w = .int (nI (5 ^ m)) ∧ lw = lw2 ∧ MA b iv iv2 ∧ MRw iv2 b m (d5 m x)) := by
  refine CT_ofQ rfl (by decide) (Nat.le_of_ble_eq_true rfl) (lv := [(0, .ref (b)), (1, .int (nI x)), (2, .int (nI m))]) rfl (fun Q hQ => ?_)
  refine V_iload_n (i := 1) dX10_becomes_0 rfl 1 rfl ?_
  refine V_istore_n (lv2 := [(3, .int (nI x)), (0, .ref (b)), (1, .int (nI x)), (2, .int (nI m))]) dX10_becomes_1 rfl (by decide) rfl ?_
  refine V_iconst (v := nI 1) dX10_becomes_2 rfl ?_
  refine V_istore (lv2 := [(4, .int (nI 1)), (3, .int (nI x)), (0, .ref (b)), (1, .int (nI x)), (2, .int (nI m))]) dX10_becomes_3 (by decide) rfl ?_
  refine V_iload_n (i := 2) dX10_becomes_5 rfl 4 rfl ?_
  refine V_iconst (v := nI 1) dX10_becomes_6 rfl ?_
  refine V_isub dX10_becomes_7 ?_
  refine V_istore (lv2 := [(5, .int ((nI m - nI 1))), (4, .int (nI 1)), (3, .int (nI x)), (0, .ref (b)), (1, .int (nI x)), (2, .int (nI m))]) dX10_becomes_8 (by decide) rfl ?_
  have lp10 : ∀ j, j ≤ m → ∀ iv2 : IV, MA b iv iv2 → (∀ i, m - j ≤ i → i < m → iv2 (b + 39) i = nI (d5 m x i)) → VM g mX10_becomes 10 [(5, .int ((nI (m - j) - nI 1))), (4, .int (nI (5 ^ j))), (3, .int (nI (x / 5 ^ j))), (0, .ref (b)), (1, .int (nI x)), (2, .int (nI m))] [] S iv2 lw Q := by
    refine up_ind fun j hj ih10 => ?_
    intro iv2 hM hrw
    have hxj : x / 5 ^ j ≤ x := Nat.div_le_self _ _
    refine V_iload dX10_becomes_10 0 rfl ?_
    refine V_if_lt (tgt := 41) dX10_becomes_12 rfl (fun h12 => ?_) (fun h12 => ?_)
    · have h12 : m - j = 0 := (sub1_neg (by omega)).mp h12
      refine V_iload dX10_becomes_41 1 rfl ?_
      refine V_iret dX10_becomes_43 ⟨rfl, rfl⟩ (Nat.zero_le _) (Nat.zero_le _) ?_
      subst hQ
      obtain rfl : j = m := by omega
      exact ⟨_, _, _, rfl, rfl, rfl, rfl, hM, fun i hi => hrw i (by omega) hi⟩
    · have h12 : ¬ m - j = 0 := fun z => h12 ((sub1_neg (by omega)).mpr z)
      refine M_at (lv2 := [(5, .int (nI (m - j - 1))), (4, .int (nI (5 ^ j))), (3, .int (nI (x / 5 ^ j))), (0, .ref (b)), (1, .int (nI x)), (2, .int (nI m))]) (st2 := []) ?_ (by rw [nI_sub (by omega)]) rfl rfl rfl
      refine V_aload_n (i := 0) dX10_becomes_15 rfl 3 rfl ?_
      refine M_getR dX10_becomes_16 lf_X10_79 rfl hb.1 hb.2.2.2.2.2.2.2.2.2.2.2.2.2.2.2.2.2.2.2.1.1 ?_
      refine V_iload dX10_becomes_19 0 rfl ?_
      refine V_iload_n (i := 3) dX10_becomes_21 rfl 2 rfl ?_
      refine V_iconst (v := nI 5) dX10_becomes_22 rfl ?_
      refine V_irem dX10_becomes_23 (by decide) ?_
      refine M_top (x2 := nI (x / 5 ^ j % 5)) (pk_rem (by omega) (by omega) (by omega)) ?_
      refine M_iastn (j := (m - j - 1)) dX10_becomes_24 hb.2.2.2.2.2.2.2.2.2.2.2.2.2.2.2.2.2.2.2.1.2 (by decide) (by omega) ?_
      refine V_iload_n (i := 3) dX10_becomes_25 rfl 2 rfl ?_
      refine V_iconst (v := nI 5) dX10_becomes_26 rfl ?_
      refine V_idiv dX10_becomes_27 (by decide) ?_
      refine M_top (x2 := nI (x / 5 ^ j / 5)) (pk_div (by omega) (by omega) (by omega)) ?_
      refine V_istore_n (lv2 := [(3, .int (nI (x / 5 ^ j / 5))), (5, .int (nI (m - j - 1))), (4, .int (nI (5 ^ j))), (0, .ref (b)), (1, .int (nI x)), (2, .int (nI m))]) dX10_becomes_28 rfl (by decide) rfl ?_
      refine V_iload dX10_becomes_29 2 rfl ?_
      refine V_iconst (v := nI 5) dX10_becomes_31 rfl ?_
      refine V_imul dX10_becomes_32 ?_
      refine M_top (pk_mul _ _) ?_
      refine V_istore (lv2 := [(4, .int (nI ((5 ^ j) * 5))), (3, .int (nI (x / 5 ^ j / 5))), (5, .int (nI (m - j - 1))), (0, .ref (b)), (1, .int (nI x)), (2, .int (nI m))]) dX10_becomes_33 (by decide) rfl ?_
      refine V_iinc (v := (nI (m - (j + 1)) - nI 1)) (lv2 := [(5, .int ((nI (m - (j + 1)) - nI 1))), (4, .int (nI ((5 ^ j) * 5))), (3, .int (nI (x / 5 ^ j / 5))), (0, .ref (b)), (1, .int (nI x)), (2, .int (nI m))]) dX10_becomes_35 2 rfl (dn1 _) (by decide) rfl ?_
      refine V_goto (tgt := 10) dX10_becomes_38 rfl ?_
      refine V_sub [0, 1, 2, 3, 4, 5] rfl ?_
      exact M_at (ih10 (by omega) _ (hM.up (by omega)) (fun i h1 h2 => if e : i = m - j - 1 then by rw [e, up2_s]; exact d5_at (by omega) else (up2_k e).trans (hrw i (by omega) h2))) (by rw [p5_div]; rfl) rfl (rfl) (rfl)
  refine V_sub [0, 1, 2, 3, 4, 5] rfl ?_
  exact M_at (lp10 0 (Nat.zero_le _) iv MA.rf (fun i h1 h2 => absurd h1 (by omega))) (by rw [Nat.pow_zero, Nat.div_one, Nat.sub_zero]; try rfl) rfl (rfl) (rfl)
set_option maxRecDepth 20000 in
theorem q_change {g : Ev} {S : St} {iv : IV} {lw : LW} {b : Nat} (hs : SS S b) {X : Xs} (hX : MX S iv lw b X) (hk : XOK X) {c : Int32} {d : Int32} : CQ g mX10_change [.ref (b), .int (c), .int (d)] S iv lw (fun w iv2 lw2 => MP S b iv lw (o_change X c d) w iv2 lw2) := by
  refine CT_ofQ rfl (by decide) (Nat.le_of_ble_eq_true rfl) (lv := [(0, .ref (b)), (1, .int (c)), (2, .int (d))]) rfl (fun Q hQ => ?_)
  have hb := hs.1
  have hA := hX.1
  have hv := hk.1
  have hnc := hv.nc
  have hne := hv.ne
  have hnm := hv.nm
  refine V_aload_n (i := 0) dX10_change_0 rfl 0 rfl ?_
  refine V_iload_n (i := 1) dX10_change_1 rfl 1 rfl ?_
  refine M_callVp (As := [.int (c)]) (st := []) dX10_change_2 lv_X10_155 ⟨by decide, by decide⟩ ⟨rfl, rfl⟩ rfl (ci := 7) hb.1 rfl rfl (Nat.le_of_ble_eq_true rfl) (r_isCall hb hA hv) ?_
  refine V_if_eq (tgt := 20) dX10_change_5 rfl (fun h5 => ?_) (fun h5 => ?_)
  · have h5 : ¬ (inR c (v_nc (x_A X))) := bI_eq0.mp h5
    refine V_aload_n (i := 0) dX10_change_20 rfl 0 rfl ?_
    refine V_bipush (v := (-2)) dX10_change_21 rfl ?_
    refine M_callVq (As := [.int ((-2))]) (st := []) dX10_change_23 lv_X10_107 ⟨by decide, by decide⟩ ⟨rfl, rfl⟩ rfl (ci := 7) hb.1 rfl rfl (Nat.le_of_ble_eq_true rfl) (q_refuse hs hX hk (j := 0) (by decide)) (fun w23 iv23 lw23 q23 => ?_)
    obtain ⟨rfl, e1, hXr, hOr⟩ := q23
    subst e1
    refine V_iret dX10_change_26 ⟨rfl, rfl⟩ (Nat.zero_le _) (Nat.zero_le _) ?_
    subst hQ
    exact ⟨_, _, _, rfl, rfl, by unfold o_change; rw [if_pos (fun z => h5 z.1)]; exact ⟨rfl, hXr, hOr, Off.rf⟩⟩
  · have h5 : inR c (v_nc (x_A X)) := bI_ne.mp h5
    refine V_iload_n (i := 2) dX10_change_8 rfl 2 rfl ?_
    refine V_i2l dX10_change_9 ?_
    refine V_lconst (v := lN 0) dX10_change_10 rfl ?_
    refine V_ldc2 (v := lN 8) dX10_change_11 mw_1280 ?_
    refine M_callSp (As := [.long ((d).toInt64), .long (lN 0), .long (lN 8)]) (st := []) dX10_change_14 ls_X10_91 ⟨by decide, by decide⟩ ⟨rfl, rfl⟩ rfl (Nat.le_of_ble_eq_true rfl) (r_inK (by decide) (by decide)) ?_
    refine V_if_ne (tgt := 27) dX10_change_17 rfl (fun h17 => ?_) (fun h17 => ?_)
    · have h17 : (0 : Int) ≤ d.toInt ∧ d.toInt ≤ 8 := bI_ne.mp h17
      have cc := iN_eq (k := c) (by omega)
      have cd := iN_eq (k := d) (by omega)
      have dc := iN_i (k := c) (by omega)
      have dd := iN_i (k := d) (by omega)
      refine M_at (lv2 := [(0, .ref (b)), (1, .int (nI (iN c))), (2, .int (nI (iN d)))]) (st2 := []) ?_ (by rw [← cc, ← cd]) rfl rfl rfl
      refine V_aload_n (i := 0) dX10_change_27 rfl 0 rfl ?_
      refine M_getR dX10_change_28 lf_X10_42 rfl hb.1 hb.2.2.2.2.2.2.2.2.2.2.1.1 ?_
      refine V_iload_n (i := 1) dX10_change_31 rfl 1 rfl ?_
      refine M_ialdn (j := (iN c)) (x := nI (v_sz (x_A X) (iN c))) dX10_change_32 hb.2.2.2.2.2.2.2.2.2.2.1.2 (by decide) (by omega) (hA.sz (c := (iN c)) (by omega)) ?_
      refine V_iconst (v := nI 5) dX10_change_33 rfl ?_
      have hs8 := hv.sz (c := iN c) (by omega)
      refine V_icmp_le (tgt := 44) dX10_change_34 rfl (fun h34 => ?_) (fun h34 => ?_)
      · have h34 : (v_sz (x_A X) (iN c)) ≤ 5 := (nI_leI (by omega) (by omega)).mp h34
        refine V_aload_n (i := 0) dX10_change_44 rfl 0 rfl ?_
        refine M_getR dX10_change_45 lf_X10_42 rfl hb.1 hb.2.2.2.2.2.2.2.2.2.2.1.1 ?_
        refine V_iload_n (i := 1) dX10_change_48 rfl 1 rfl ?_
        refine M_ialdn (j := (iN c)) (x := nI (v_sz (x_A X) (iN c))) dX10_change_49 hb.2.2.2.2.2.2.2.2.2.2.1.2 (by decide) (by omega) (hA.sz (c := (iN c)) (by omega)) ?_
        refine V_istore_n (lv2 := [(3, .int (nI (v_sz (x_A X) (iN c)))), (0, .ref (b)), (1, .int (nI (iN c))), (2, .int (nI (iN d)))]) dX10_change_50 rfl (by decide) rfl ?_
        refine V_aload_n (i := 0) dX10_change_51 rfl 1 rfl ?_
        refine V_iconst (v := nI 0) dX10_change_52 rfl ?_
        refine V_iload_n (i := 3) dX10_change_53 rfl 0 rfl ?_
        refine M_callVq (As := [.int (nI 0), .int (nI (v_sz (x_A X) (iN c)))]) (st := []) dX10_change_54 lv_X10_307 ⟨by decide, by decide⟩ ⟨rfl, rfl⟩ rfl (ci := 7) hb.1 rfl rfl (Nat.le_of_ble_eq_true rfl) (r_becomes hb (x := 0) (m := v_sz (x_A X) (iN c)) (by decide) (by omega)) (fun w54 iv54 lw54 q54 => ?_)
        obtain ⟨rfl, e1, hM54, hR54⟩ := q54
        subst e1
        have h5p := p5_le (n := v_sz (x_A X) (iN c)) (by omega)
        refine V_istore (lv2 := [(4, .int (nI (5 ^ v_sz (x_A X) (iN c)))), (3, .int (nI (v_sz (x_A X) (iN c)))), (0, .ref (b)), (1, .int (nI (iN c))), (2, .int (nI (iN d)))]) dX10_change_57 (by decide) rfl ?_
        refine V_iconst (v := (-1)) dX10_change_59 rfl ?_
        refine V_istore (lv2 := [(5, .int ((-1))), (4, .int (nI (5 ^ v_sz (x_A X) (iN c)))), (3, .int (nI (v_sz (x_A X) (iN c)))), (0, .ref (b)), (1, .int (nI (iN c))), (2, .int (nI (iN d)))]) dX10_change_60 (by decide) rfl ?_
        refine V_iconst (v := nI 0) dX10_change_62 rfl ?_
        refine V_istore (lv2 := [(6, .int (nI 0)), (5, .int ((-1))), (4, .int (nI (5 ^ v_sz (x_A X) (iN c)))), (3, .int (nI (v_sz (x_A X) (iN c)))), (0, .ref (b)), (1, .int (nI (iN c))), (2, .int (nI (iN d)))]) dX10_change_63 (by decide) rfl ?_
        have lp65 : ∀ j, j ≤ (5 ^ (v_sz (x_A X) (iN c))) → ∀ iv2 : IV, MA b iv iv2 → VM g mX10_change 65 [(6, .int (nI j)), (5, .int (oI (fcTo (fun x => dst (rowP (v_sz (x_A X) (iN c)) x) (v_pk (x_A X) (iN c))) (fun x => clearB (x_A X) (rowP (v_sz (x_A X) (iN c)) x) (iN d) (some (iN c))) j))), (4, .int (nI (5 ^ (v_sz (x_A X) (iN c))))), (3, .int (nI (v_sz (x_A X) (iN c)))), (0, .ref (b)), (1, .int (nI (iN c))), (2, .int (nI (iN d)))] [] S iv2 lw Q := by
          refine up_ind fun j hj ih65 => ?_
          intro iv2 hM
          have hfl := fcTo_le (g := (fun x => dst (rowP (v_sz (x_A X) (iN c)) x) (v_pk (x_A X) (iN c)))) (p := (fun x => clearB (x_A X) (rowP (v_sz (x_A X) (iN c)) x) (iN d) (some (iN c)))) (M := 8) (fun i => dst_le _ _) j
          refine V_iload dX10_change_65 0 rfl ?_
          refine V_iload dX10_change_67 2 rfl ?_
          refine V_icmp_ge (tgt := 160) dX10_change_69 rfl (fun h69 => ?_) (fun h69 => ?_)
          · have h69 : (5 ^ (v_sz (x_A X) (iN c))) ≤ j := (nI_leI (by omega) (by omega)).mp h69
            refine V_iload dX10_change_160 1 rfl ?_
            refine V_iret dX10_change_162 ⟨rfl, rfl⟩ (Nat.zero_le _) (Nat.zero_le _) ?_
            subst hQ
            obtain rfl : j = 5 ^ (v_sz (x_A X) (iN c)) := by omega
            exact ⟨_, _, _, rfl, rfl, by unfold o_change; rw [if_neg (fun z => z ⟨h5, h17.1, h17.2⟩), if_pos (by omega)]; exact MP.ma hX hk hM Off.rf⟩
          · have h69 : ¬ (5 ^ (v_sz (x_A X) (iN c))) ≤ j := fun q => h69 ((nI_leI (by omega) (by omega)).mpr q)
            refine V_aload_n (i := 0) dX10_change_72 rfl 4 rfl ?_
            refine V_iload dX10_change_73 0 rfl ?_
            refine V_iload_n (i := 3) dX10_change_75 rfl 3 rfl ?_
            refine M_callVq (As := [.int (nI j), .int (nI (v_sz (x_A X) (iN c)))]) (st := []) dX10_change_76 lv_X10_307 ⟨by decide, by decide⟩ ⟨rfl, rfl⟩ rfl (ci := 7) hb.1 rfl rfl (Nat.le_of_ble_eq_true rfl) (r_becomes hb (x := j) (m := v_sz (x_A X) (iN c)) (by omega) (by omega)) (fun w76 iv76 lw76 q76 => ?_)
            obtain ⟨rfl, e1, hMb, hR⟩ := q76
            subst e1
            have hM76 := hM.tr hMb
            have hA76 := hA.ma hv hM76
            have hco := ch_others (x := j) hv (c := iN c) (by omega)
            refine V_pop dX10_change_79 rfl ?_
            refine V_iconst (v := nI 0) dX10_change_80 rfl ?_
            refine V_istore (lv2 := [(7, .int (nI 0)), (6, .int (nI j)), (5, .int (oI (fcTo (fun x => dst (rowP (v_sz (x_A X) (iN c)) x) (v_pk (x_A X) (iN c))) (fun x => clearB (x_A X) (rowP (v_sz (x_A X) (iN c)) x) (iN d) (some (iN c))) j))), (4, .int (nI (5 ^ (v_sz (x_A X) (iN c))))), (3, .int (nI (v_sz (x_A X) (iN c)))), (0, .ref (b)), (1, .int (nI (iN c))), (2, .int (nI (iN d)))]) dX10_change_81 (by decide) rfl ?_
            refine V_iconst (v := nI 0) dX10_change_83 rfl ?_
            refine V_istore (lv2 := [(8, .int (nI 0)), (7, .int (nI 0)), (6, .int (nI j)), (5, .int (oI (fcTo (fun x => dst (rowP (v_sz (x_A X) (iN c)) x) (v_pk (x_A X) (iN c))) (fun x => clearB (x_A X) (rowP (v_sz (x_A X) (iN c)) x) (iN d) (some (iN c))) j))), (4, .int (nI (5 ^ (v_sz (x_A X) (iN c))))), (3, .int (nI (v_sz (x_A X) (iN c)))), (0, .ref (b)), (1, .int (nI (iN c))), (2, .int (nI (iN d)))]) dX10_change_84 (by decide) rfl ?_
            have lp86 : ∀ i, i ≤ (v_sz (x_A X) (iN c)) → VM g mX10_change 86 [(8, .int (nI i)), (7, .int (nI (cntTo (fun i => !decide (d5 (v_sz (x_A X) (iN c)) j i = v_nt (x_A X) (iN c) i)) i))), (6, .int (nI j)), (5, .int (oI (fcTo (fun x => dst (rowP (v_sz (x_A X) (iN c)) x) (v_pk (x_A X) (iN c))) (fun x => clearB (x_A X) (rowP (v_sz (x_A X) (iN c)) x) (iN d) (some (iN c))) j))), (4, .int (nI (5 ^ (v_sz (x_A X) (iN c))))), (3, .int (nI (v_sz (x_A X) (iN c)))), (0, .ref (b)), (1, .int (nI (iN c))), (2, .int (nI (iN d)))] [] S iv76 lw Q := by
              refine up_ind fun i hi ihi => ?_
              refine V_iload dX10_change_86 0 rfl ?_
              refine V_iload_n (i := 3) dX10_change_88 rfl 5 rfl ?_
              refine V_icmp_ge (tgt := 127) dX10_change_89 rfl (fun h89 => ?_) (fun h89 => ?_)
              · have h89 : (v_sz (x_A X) (iN c)) ≤ i := (nI_leI (by omega) (by omega)).mp h89
                have hi9 : i = v_sz (x_A X) (iN c) := by omega
                refine M_at (lv2 := [(8, .int (nI i)), (7, .int (nI (dst (rowP (v_sz (x_A X) (iN c)) j) (v_pk (x_A X) (iN c))))), (6, .int (nI j)), (5, .int (oI (fcTo (fun x => dst (rowP (v_sz (x_A X) (iN c)) x) (v_pk (x_A X) (iN c))) (fun x => clearB (x_A X) (rowP (v_sz (x_A X) (iN c)) x) (iN d) (some (iN c))) j))), (4, .int (nI (5 ^ (v_sz (x_A X) (iN c))))), (3, .int (nI (v_sz (x_A X) (iN c)))), (0, .ref (b)), (1, .int (nI (iN c))), (2, .int (nI (iN d)))]) (st2 := []) ?_ (by rw [hi9, hco]) rfl rfl rfl
                refine V_iload dX10_change_127 3 rfl ?_
                refine V_iconst (v := (-1)) dX10_change_129 rfl ?_
                have hd8 := dst_le (rowP (v_sz (x_A X) (iN c)) j) (v_pk (x_A X) (iN c))
                refine V_icmp_eq (tgt := 140) dX10_change_130 rfl (fun h130 => ?_) (fun h130 => ?_)
                · have h130 := (oI_m1 hfl (by omega)).mp h130
                  refine V_aload_n (i := 0) dX10_change_140 rfl 6 rfl ?_
                  refine V_iload_n (i := 3) dX10_change_141 rfl 5 rfl ?_
                  refine V_iload_n (i := 2) dX10_change_142 rfl 8 rfl ?_
                  refine V_iload_n (i := 1) dX10_change_143 rfl 7 rfl ?_
                  refine M_callVp (As := [.int (nI (v_sz (x_A X) (iN c))), .int (nI (iN d)), .int (nI (iN c))]) (st := []) dX10_change_144 lv_X10_310 ⟨by decide, by decide⟩ ⟨rfl, rfl⟩ rfl (ci := 7) hb.1 rfl rfl (Nat.le_of_ble_eq_true rfl) ((show CP g mX10_isFar [.ref b, .int (nI (v_sz (x_A X) (iN c))), .int (nI (iN d)), .int (oI (some (iN c)))] S iv76 lw _ from r_isFar hb hA76 hv hR (by omega) (fun i => d5_le _ _ _) (d := iN d) (but := some (iN c)) (by omega) (fun k hk => by cases hk; omega))) ?_
                  refine V_if_eq (tgt := 154) dX10_change_147 rfl (fun h147 => ?_) (fun h147 => ?_)
                  · have h147 : ¬ (clearB (x_A X) (pkTo (d5 (v_sz (x_A X) (iN c)) j) (v_sz (x_A X) (iN c))) (iN d) (some (iN c)) = true) := bI_eq0.mp h147
                    refine V_iinc (v := nI (j + 1)) (lv2 := [(6, .int (nI (j + 1))), (8, .int (nI i)), (7, .int (nI (dst (rowP (v_sz (x_A X) (iN c)) j) (v_pk (x_A X) (iN c))))), (5, .int (oI (fcTo (fun x => dst (rowP (v_sz (x_A X) (iN c)) x) (v_pk (x_A X) (iN c))) (fun x => clearB (x_A X) (rowP (v_sz (x_A X) (iN c)) x) (iN d) (some (iN c))) j))), (4, .int (nI (5 ^ (v_sz (x_A X) (iN c))))), (3, .int (nI (v_sz (x_A X) (iN c)))), (0, .ref (b)), (1, .int (nI (iN c))), (2, .int (nI (iN d)))]) dX10_change_154 2 rfl (nI_inc _) (by decide) rfl ?_
                    refine V_goto (tgt := 65) dX10_change_157 rfl ?_
                    refine V_sub [0, 3, 4, 5, 6, 7, 8] rfl ?_
                    exact M_at (ih65 (by omega) iv76 hM76) (by rw [fcTo_old (g := (fun x => dst (rowP (v_sz (x_A X) (iN c)) x) (v_pk (x_A X) (iN c)))) (p := (fun x => clearB (x_A X) (rowP (v_sz (x_A X) (iN c)) x) (iN d) (some (iN c)))) (n := j) (fun z => h147 z.2)]; try rfl) rfl (rfl) (rfl)
                  · have h147 : clearB (x_A X) (pkTo (d5 (v_sz (x_A X) (iN c)) j) (v_sz (x_A X) (iN c))) (iN d) (some (iN c)) = true := bI_ne.mp h147
                    refine V_iload dX10_change_150 1 rfl ?_
                    refine V_istore (lv2 := [(5, .int (nI (dst (rowP (v_sz (x_A X) (iN c)) j) (v_pk (x_A X) (iN c))))), (8, .int (nI i)), (7, .int (nI (dst (rowP (v_sz (x_A X) (iN c)) j) (v_pk (x_A X) (iN c))))), (6, .int (nI j)), (4, .int (nI (5 ^ (v_sz (x_A X) (iN c))))), (3, .int (nI (v_sz (x_A X) (iN c)))), (0, .ref (b)), (1, .int (nI (iN c))), (2, .int (nI (iN d)))]) dX10_change_152 (by decide) rfl ?_
                    refine V_iinc (v := nI (j + 1)) (lv2 := [(6, .int (nI (j + 1))), (5, .int (nI (dst (rowP (v_sz (x_A X) (iN c)) j) (v_pk (x_A X) (iN c))))), (8, .int (nI i)), (7, .int (nI (dst (rowP (v_sz (x_A X) (iN c)) j) (v_pk (x_A X) (iN c))))), (4, .int (nI (5 ^ (v_sz (x_A X) (iN c))))), (3, .int (nI (v_sz (x_A X) (iN c)))), (0, .ref (b)), (1, .int (nI (iN c))), (2, .int (nI (iN d)))]) dX10_change_154 3 rfl (nI_inc _) (by decide) rfl ?_
                    refine V_goto (tgt := 65) dX10_change_157 rfl ?_
                    refine V_sub [0, 1, 4, 5, 6, 7, 8] rfl ?_
                    exact M_at (ih65 (by omega) iv76 hM76) (by rw [fcTo_new (g := (fun x => dst (rowP (v_sz (x_A X) (iN c)) x) (v_pk (x_A X) (iN c)))) (p := (fun x => clearB (x_A X) (rowP (v_sz (x_A X) (iN c)) x) (iN d) (some (iN c)))) (n := j) (Or.inl h130) h147]; rfl) rfl (rfl) (rfl)
                · obtain ⟨k0, hk0⟩ := Option.ne_none_iff_exists'.mp (fun z => h130 ((oI_m1 hfl (by omega)).mpr z))
                  have hk9 := hfl k0 hk0
                  refine M_at (lv2 := [(8, .int (nI i)), (7, .int (nI (dst (rowP (v_sz (x_A X) (iN c)) j) (v_pk (x_A X) (iN c))))), (6, .int (nI j)), (5, .int (nI k0)), (4, .int (nI (5 ^ (v_sz (x_A X) (iN c))))), (3, .int (nI (v_sz (x_A X) (iN c)))), (0, .ref (b)), (1, .int (nI (iN c))), (2, .int (nI (iN d)))]) (st2 := []) ?_ (by rw [hk0]; rfl) rfl rfl rfl
                  refine V_iload dX10_change_133 1 rfl ?_
                  refine V_iload dX10_change_135 3 rfl ?_
                  refine V_icmp_ge (tgt := 154) dX10_change_137 rfl (fun h137 => ?_) (fun h137 => ?_)
                  · have h137 : k0 ≤ (dst (rowP (v_sz (x_A X) (iN c)) j) (v_pk (x_A X) (iN c))) := (nI_leI (by omega) (by omega)).mp h137
                    refine V_iinc (v := nI (j + 1)) (lv2 := [(6, .int (nI (j + 1))), (8, .int (nI i)), (7, .int (nI (dst (rowP (v_sz (x_A X) (iN c)) j) (v_pk (x_A X) (iN c))))), (5, .int (nI k0)), (4, .int (nI (5 ^ (v_sz (x_A X) (iN c))))), (3, .int (nI (v_sz (x_A X) (iN c)))), (0, .ref (b)), (1, .int (nI (iN c))), (2, .int (nI (iN d)))]) dX10_change_154 2 rfl (nI_inc _) (by decide) rfl ?_
                    refine V_goto (tgt := 65) dX10_change_157 rfl ?_
                    refine V_sub [0, 3, 4, 5, 6, 7, 8] rfl ?_
                    exact M_at (ih65 (by omega) iv76 hM76) (by rw [fcTo_old (g := (fun x => dst (rowP (v_sz (x_A X) (iN c)) x) (v_pk (x_A X) (iN c)))) (p := (fun x => clearB (x_A X) (rowP (v_sz (x_A X) (iN c)) x) (iN d) (some (iN c)))) (n := j) (fun z => z.1.elim (fun y => by rw [hk0] at y; cases y) (fun y => by rw [hk0] at y; exact absurd (show dst (rowP (v_sz (x_A X) (iN c)) j) (v_pk (x_A X) (iN c)) < k0 from y) (by omega))), hk0]; rfl) rfl (rfl) (rfl)
                  · have h137 : ¬ k0 ≤ (dst (rowP (v_sz (x_A X) (iN c)) j) (v_pk (x_A X) (iN c))) := fun q => h137 ((nI_leI (by omega) (by omega)).mpr q)
                    refine V_aload_n (i := 0) dX10_change_140 rfl 6 rfl ?_
                    refine V_iload_n (i := 3) dX10_change_141 rfl 5 rfl ?_
                    refine V_iload_n (i := 2) dX10_change_142 rfl 8 rfl ?_
                    refine V_iload_n (i := 1) dX10_change_143 rfl 7 rfl ?_
                    refine M_callVp (As := [.int (nI (v_sz (x_A X) (iN c))), .int (nI (iN d)), .int (nI (iN c))]) (st := []) dX10_change_144 lv_X10_310 ⟨by decide, by decide⟩ ⟨rfl, rfl⟩ rfl (ci := 7) hb.1 rfl rfl (Nat.le_of_ble_eq_true rfl) ((show CP g mX10_isFar [.ref b, .int (nI (v_sz (x_A X) (iN c))), .int (nI (iN d)), .int (oI (some (iN c)))] S iv76 lw _ from r_isFar hb hA76 hv hR (by omega) (fun i => d5_le _ _ _) (d := iN d) (but := some (iN c)) (by omega) (fun k hk => by cases hk; omega))) ?_
                    refine V_if_eq (tgt := 154) dX10_change_147 rfl (fun h147 => ?_) (fun h147 => ?_)
                    · have h147 : ¬ (clearB (x_A X) (pkTo (d5 (v_sz (x_A X) (iN c)) j) (v_sz (x_A X) (iN c))) (iN d) (some (iN c)) = true) := bI_eq0.mp h147
                      refine V_iinc (v := nI (j + 1)) (lv2 := [(6, .int (nI (j + 1))), (8, .int (nI i)), (7, .int (nI (dst (rowP (v_sz (x_A X) (iN c)) j) (v_pk (x_A X) (iN c))))), (5, .int (nI k0)), (4, .int (nI (5 ^ (v_sz (x_A X) (iN c))))), (3, .int (nI (v_sz (x_A X) (iN c)))), (0, .ref (b)), (1, .int (nI (iN c))), (2, .int (nI (iN d)))]) dX10_change_154 2 rfl (nI_inc _) (by decide) rfl ?_
                      refine V_goto (tgt := 65) dX10_change_157 rfl ?_
                      refine V_sub [0, 3, 4, 5, 6, 7, 8] rfl ?_
                      exact M_at (ih65 (by omega) iv76 hM76) (by rw [fcTo_old (g := (fun x => dst (rowP (v_sz (x_A X) (iN c)) x) (v_pk (x_A X) (iN c)))) (p := (fun x => clearB (x_A X) (rowP (v_sz (x_A X) (iN c)) x) (iN d) (some (iN c)))) (n := j) (fun z => h147 z.2), hk0]; rfl) rfl (rfl) (rfl)
                    · have h147 : clearB (x_A X) (pkTo (d5 (v_sz (x_A X) (iN c)) j) (v_sz (x_A X) (iN c))) (iN d) (some (iN c)) = true := bI_ne.mp h147
                      refine V_iload dX10_change_150 1 rfl ?_
                      refine V_istore (lv2 := [(5, .int (nI (dst (rowP (v_sz (x_A X) (iN c)) j) (v_pk (x_A X) (iN c))))), (8, .int (nI i)), (7, .int (nI (dst (rowP (v_sz (x_A X) (iN c)) j) (v_pk (x_A X) (iN c))))), (6, .int (nI j)), (4, .int (nI (5 ^ (v_sz (x_A X) (iN c))))), (3, .int (nI (v_sz (x_A X) (iN c)))), (0, .ref (b)), (1, .int (nI (iN c))), (2, .int (nI (iN d)))]) dX10_change_152 (by decide) rfl ?_
                      refine V_iinc (v := nI (j + 1)) (lv2 := [(6, .int (nI (j + 1))), (5, .int (nI (dst (rowP (v_sz (x_A X) (iN c)) j) (v_pk (x_A X) (iN c))))), (8, .int (nI i)), (7, .int (nI (dst (rowP (v_sz (x_A X) (iN c)) j) (v_pk (x_A X) (iN c))))), (4, .int (nI (5 ^ (v_sz (x_A X) (iN c))))), (3, .int (nI (v_sz (x_A X) (iN c)))), (0, .ref (b)), (1, .int (nI (iN c))), (2, .int (nI (iN d)))]) dX10_change_154 3 rfl (nI_inc _) (by decide) rfl ?_
                      refine V_goto (tgt := 65) dX10_change_157 rfl ?_
                      refine V_sub [0, 1, 4, 5, 6, 7, 8] rfl ?_
                      exact M_at (ih65 (by omega) iv76 hM76) (by rw [fcTo_new (g := (fun x => dst (rowP (v_sz (x_A X) (iN c)) x) (v_pk (x_A X) (iN c)))) (p := (fun x => clearB (x_A X) (rowP (v_sz (x_A X) (iN c)) x) (iN d) (some (iN c)))) (n := j) (Or.inr (by rw [hk0]; show dst (rowP (v_sz (x_A X) (iN c)) j) (v_pk (x_A X) (iN c)) < k0; omega)) h147]; rfl) rfl (rfl) (rfl)
              · have h89 : ¬ (v_sz (x_A X) (iN c)) ≤ i := fun q => h89 ((nI_leI (by omega) (by omega)).mpr q)
                refine V_iload dX10_change_92 1 rfl ?_
                refine V_aload_n (i := 0) dX10_change_94 rfl 6 rfl ?_
                refine M_getR dX10_change_95 lf_X10_79 rfl hb.1 hb.2.2.2.2.2.2.2.2.2.2.2.2.2.2.2.2.2.2.2.1.1 ?_
                refine V_iload dX10_change_98 0 rfl ?_
                refine M_ialdn (j := i) (x := nI (d5 (v_sz (x_A X) (iN c)) j i)) dX10_change_100 hb.2.2.2.2.2.2.2.2.2.2.2.2.2.2.2.2.2.2.2.1.2 (by decide) (by omega) (hR i (by omega)) ?_
                refine V_aload_n (i := 0) dX10_change_101 rfl 6 rfl ?_
                refine M_getR dX10_change_102 lf_X10_39 rfl hb.1 hb.2.2.2.2.2.2.2.2.2.1.1 ?_
                refine V_iload_n (i := 1) dX10_change_105 rfl 7 rfl ?_
                refine M_aaldn (t := 1) (j := (iN c)) dX10_change_106 (by decide) hb.2.2.2.2.2.2.2.2.2.1.2 (by decide) (by omega) ((hb.2.2.2.2.2.2.2.2.2.2.2.2.2.2.2.2.2.2.2.2.2.2.2 (iN c) (by omega)).1) ?_
                refine V_iload dX10_change_107 0 rfl ?_
                refine M_ialdn (j := i) (x := nI (v_nt (x_A X) (iN c) i)) dX10_change_109 (hb.2.2.2.2.2.2.2.2.2.2.2.2.2.2.2.2.2.2.2.2.2.2.2 (iN c) (by omega)).2 (by decide) (by omega) (hA76.nt (c := (iN c)) (i := i) (by omega) (by omega)) ?_
                have hn4 := hv.nt (c := iN c) (i := i) (by omega) (by omega)
                have hn5 := d5_le (v_sz (x_A X) (iN c)) j i
                refine V_icmp_eq (tgt := 117) dX10_change_110 rfl (fun h110 => ?_) (fun h110 => ?_)
                · have h110 : (d5 (v_sz (x_A X) (iN c)) j i) = (v_nt (x_A X) (iN c) i) := (nI_eq (by omega) (by omega)).mp h110
                  refine V_iconst (v := nI 0) dX10_change_117 rfl ?_
                  refine V_iadd dX10_change_118 ?_
                  refine M_top (nI_add _ _) ?_
                  refine V_istore (lv2 := [(7, .int (nI ((cntTo (fun i => !decide (d5 (v_sz (x_A X) (iN c)) j i = v_nt (x_A X) (iN c) i)) i) + 0))), (8, .int (nI i)), (6, .int (nI j)), (5, .int (oI (fcTo (fun x => dst (rowP (v_sz (x_A X) (iN c)) x) (v_pk (x_A X) (iN c))) (fun x => clearB (x_A X) (rowP (v_sz (x_A X) (iN c)) x) (iN d) (some (iN c))) j))), (4, .int (nI (5 ^ (v_sz (x_A X) (iN c))))), (3, .int (nI (v_sz (x_A X) (iN c)))), (0, .ref (b)), (1, .int (nI (iN c))), (2, .int (nI (iN d)))]) dX10_change_119 (by decide) rfl ?_
                  refine V_iinc (v := nI (i + 1)) (lv2 := [(8, .int (nI (i + 1))), (7, .int (nI ((cntTo (fun i => !decide (d5 (v_sz (x_A X) (iN c)) j i = v_nt (x_A X) (iN c) i)) i) + 0))), (6, .int (nI j)), (5, .int (oI (fcTo (fun x => dst (rowP (v_sz (x_A X) (iN c)) x) (v_pk (x_A X) (iN c))) (fun x => clearB (x_A X) (rowP (v_sz (x_A X) (iN c)) x) (iN d) (some (iN c))) j))), (4, .int (nI (5 ^ (v_sz (x_A X) (iN c))))), (3, .int (nI (v_sz (x_A X) (iN c)))), (0, .ref (b)), (1, .int (nI (iN c))), (2, .int (nI (iN d)))]) dX10_change_121 1 rfl (nI_inc _) (by decide) rfl ?_
                  refine V_goto (tgt := 86) dX10_change_124 rfl ?_
                  refine V_sub [0, 1, 2, 3, 4, 5, 6, 7, 8] rfl ?_
                  exact M_at (ihi (by omega)) (by rw [cntTo_f (by simp [h110])]; rfl) rfl (rfl) (rfl)
                · have h110 : ¬ (d5 (v_sz (x_A X) (iN c)) j i) = (v_nt (x_A X) (iN c) i) := fun q => h110 ((nI_eq (by omega) (by omega)).mpr q)
                  refine V_iconst (v := nI 1) dX10_change_113 rfl ?_
                  refine V_goto (tgt := 118) dX10_change_114 rfl ?_
                  refine V_iadd dX10_change_118 ?_
                  refine M_top (nI_add _ _) ?_
                  refine V_istore (lv2 := [(7, .int (nI ((cntTo (fun i => !decide (d5 (v_sz (x_A X) (iN c)) j i = v_nt (x_A X) (iN c) i)) i) + 1))), (8, .int (nI i)), (6, .int (nI j)), (5, .int (oI (fcTo (fun x => dst (rowP (v_sz (x_A X) (iN c)) x) (v_pk (x_A X) (iN c))) (fun x => clearB (x_A X) (rowP (v_sz (x_A X) (iN c)) x) (iN d) (some (iN c))) j))), (4, .int (nI (5 ^ (v_sz (x_A X) (iN c))))), (3, .int (nI (v_sz (x_A X) (iN c)))), (0, .ref (b)), (1, .int (nI (iN c))), (2, .int (nI (iN d)))]) dX10_change_119 (by decide) rfl ?_
                  refine V_iinc (v := nI (i + 1)) (lv2 := [(8, .int (nI (i + 1))), (7, .int (nI ((cntTo (fun i => !decide (d5 (v_sz (x_A X) (iN c)) j i = v_nt (x_A X) (iN c) i)) i) + 1))), (6, .int (nI j)), (5, .int (oI (fcTo (fun x => dst (rowP (v_sz (x_A X) (iN c)) x) (v_pk (x_A X) (iN c))) (fun x => clearB (x_A X) (rowP (v_sz (x_A X) (iN c)) x) (iN d) (some (iN c))) j))), (4, .int (nI (5 ^ (v_sz (x_A X) (iN c))))), (3, .int (nI (v_sz (x_A X) (iN c)))), (0, .ref (b)), (1, .int (nI (iN c))), (2, .int (nI (iN d)))]) dX10_change_121 1 rfl (nI_inc _) (by decide) rfl ?_
                  refine V_goto (tgt := 86) dX10_change_124 rfl ?_
                  refine V_sub [0, 1, 2, 3, 4, 5, 6, 7, 8] rfl ?_
                  exact M_at (ihi (by omega)) (by rw [cntTo_t (by simp [h110])]; rfl) rfl (rfl) (rfl)
            refine V_sub [0, 1, 2, 3, 4, 5, 6, 7, 8] rfl ?_
            exact M_at (lp86 0 (Nat.zero_le _)) (rfl) rfl (rfl) (rfl)
        refine V_sub [0, 1, 2, 3, 4, 5, 6] rfl ?_
        exact M_at (lp65 0 (Nat.zero_le _) iv54 hM54) (rfl) rfl (rfl) (rfl)
      · have h34 : ¬ (v_sz (x_A X) (iN c)) ≤ 5 := fun q => h34 ((nI_leI (by omega) (by omega)).mpr q)
        refine V_aload_n (i := 0) dX10_change_37 rfl 0 rfl ?_
        refine V_bipush (v := (-5)) dX10_change_38 rfl ?_
        refine M_callVq (As := [.int ((-5))]) (st := []) dX10_change_40 lv_X10_107 ⟨by decide, by decide⟩ ⟨rfl, rfl⟩ rfl (ci := 7) hb.1 rfl rfl (Nat.le_of_ble_eq_true rfl) (q_refuse hs hX hk (j := 3) (by decide)) (fun w40 iv40 lw40 q40 => ?_)
        obtain ⟨rfl, e1, hXr, hOr⟩ := q40
        subst e1
        refine V_iret dX10_change_43 ⟨rfl, rfl⟩ (Nat.zero_le _) (Nat.zero_le _) ?_
        subst hQ
        exact ⟨_, _, _, rfl, rfl, by unfold o_change; rw [if_neg (fun z => z ⟨h5, h17.1, h17.2⟩), if_neg (by omega)]; exact ⟨rfl, hXr, hOr, Off.rf⟩⟩
    · have h17 : ¬ ((0 : Int) ≤ d.toInt ∧ d.toInt ≤ 8) := bI_eq0.mp h17
      refine V_aload_n (i := 0) dX10_change_20 rfl 0 rfl ?_
      refine V_bipush (v := (-2)) dX10_change_21 rfl ?_
      refine M_callVq (As := [.int ((-2))]) (st := []) dX10_change_23 lv_X10_107 ⟨by decide, by decide⟩ ⟨rfl, rfl⟩ rfl (ci := 7) hb.1 rfl rfl (Nat.le_of_ble_eq_true rfl) (q_refuse hs hX hk (j := 0) (by decide)) (fun w23 iv23 lw23 q23 => ?_)
      obtain ⟨rfl, e1, hXr, hOr⟩ := q23
      subst e1
      refine V_iret dX10_change_26 ⟨rfl, rfl⟩ (Nat.zero_le _) (Nat.zero_le _) ?_
      subst hQ
      exact ⟨_, _, _, rfl, rfl, by unfold o_change; rw [if_pos (fun z => h17 z.2)]; exact ⟨rfl, hXr, hOr, Off.rf⟩⟩
set_option maxRecDepth 20000 in
theorem q_alike {g : Ev} {S : St} {iv : IV} {lw : LW} {b : Nat} (hs : SS S b) {X : Xs} (hX : MX S iv lw b X) (hk : XOK X) {what : Int32} : CQ g mX10_alike [.ref (b), .int (what)] S iv lw (fun w iv2 lw2 => MP S b iv lw (o_alike X what) w iv2 lw2) := by
  refine CT_ofQ rfl (by decide) (Nat.le_of_ble_eq_true rfl) (lv := [(0, .ref (b)), (1, .int (what))]) rfl (fun Q hQ => ?_)
  have hb := hs.1
  have hA := hX.1
  have hv := hk.1
  have hnc := hv.nc
  have hne := hv.ne
  have hnm := hv.nm
  refine V_iload_n (i := 1) dX10_alike_0 rfl 1 rfl ?_
  refine V_i2l dX10_alike_1 ?_
  refine V_lconst (v := lN 0) dX10_alike_2 rfl ?_
  refine V_lconst (v := lN 1) dX10_alike_3 rfl ?_
  refine M_callSp (As := [.long ((what).toInt64), .long (lN 0), .long (lN 1)]) (st := []) dX10_alike_4 ls_X10_91 ⟨by decide, by decide⟩ ⟨rfl, rfl⟩ rfl (Nat.le_of_ble_eq_true rfl) (r_inK (by decide) (by decide)) ?_
  refine V_if_ne (tgt := 17) dX10_alike_7 rfl (fun h7 => ?_) (fun h7 => ?_)
  · have h7 : (0 : Int) ≤ what.toInt ∧ what.toInt ≤ 1 := bI_ne.mp h7
    refine V_aload_n (i := 0) dX10_alike_17 rfl 0 rfl ?_
    refine M_getI (x := nI (v_nc (x_A X))) dX10_alike_18 lf_X10_88 rfl hb.1 (hA.nc) ?_
    refine V_iconst (v := nI 2) dX10_alike_21 rfl ?_
    refine V_icmp_ge (tgt := 32) dX10_alike_22 rfl (fun h22 => ?_) (fun h22 => ?_)
    · have h22 : 2 ≤ (v_nc (x_A X)) := (nI_leI (by omega) (by omega)).mp h22
      refine V_iconst (v := (-1)) dX10_alike_32 rfl ?_
      refine V_istore_n (lv2 := [(2, .int ((-1))), (0, .ref (b)), (1, .int (what))]) dX10_alike_33 rfl (by decide) rfl ?_
      refine V_iconst (v := nI 0) dX10_alike_34 rfl ?_
      refine V_istore_n (lv2 := [(3, .int (nI 0)), (2, .int ((-1))), (0, .ref (b)), (1, .int (what))]) dX10_alike_35 rfl (by decide) rfl ?_
      refine V_iconst (v := nI 0) dX10_alike_36 rfl ?_
      refine V_istore (lv2 := [(4, .int (nI 0)), (3, .int (nI 0)), (2, .int ((-1))), (0, .ref (b)), (1, .int (what))]) dX10_alike_37 (by decide) rfl ?_
      have lp39 : ∀ j, j ≤ (v_nc (x_A X)) → VM g mX10_alike 39 [(4, .int (nI j)), (3, .int (nI (pvF (dpk (x_A X)) (npTo (dpk (x_A X)) (v_nc (x_A X)) j)))), (2, .int (oI (npTo (dpk (x_A X)) (v_nc (x_A X)) j))), (0, .ref (b)), (1, .int (what))] [] S iv lw Q := by
        refine up_ind fun j hj ih39 => ?_
        refine V_iload dX10_alike_39 0 rfl ?_
        refine V_aload_n (i := 0) dX10_alike_41 rfl 3 rfl ?_
        refine M_getI (x := nI (v_nc (x_A X))) dX10_alike_42 lf_X10_88 rfl hb.1 (hA.nc) ?_
        refine V_icmp_ge (tgt := 110) dX10_alike_45 rfl (fun h45 => ?_) (fun h45 => ?_)
        · have h45 : (v_nc (x_A X)) ≤ j := (nI_leI (by omega) (by omega)).mp h45
          refine V_iload_n (i := 1) dX10_alike_110 rfl 4 rfl ?_
          refine V_if_ne (tgt := 118) dX10_alike_111 rfl (fun h111 => ?_) (fun h111 => ?_)
          · have h111 : ¬ what.toInt = 0 := fun r => h111 (i_eq0.mpr (by exact r))
            refine V_iload_n (i := 3) dX10_alike_118 rfl 1 rfl ?_
            refine V_iret dX10_alike_119 ⟨rfl, rfl⟩ (Nat.zero_le _) (Nat.zero_le _) ?_
            subst hQ
            obtain rfl : j = v_nc (x_A X) := by omega
            exact ⟨_, _, _, rfl, rfl, by unfold o_alike; rw [if_neg (by omega), if_neg (by omega), if_neg (by omega)]; exact MP.same hX⟩
          · have h111 : what.toInt = 0 := by have q := i_eq0.mp h111; exact q
            refine V_iload_n (i := 2) dX10_alike_114 rfl 2 rfl ?_
            refine V_goto (tgt := 119) dX10_alike_115 rfl ?_
            refine V_iret dX10_alike_119 ⟨rfl, rfl⟩ (Nat.zero_le _) (Nat.zero_le _) ?_
            subst hQ
            obtain rfl : j = v_nc (x_A X) := by omega
            exact ⟨_, _, _, rfl, rfl, by unfold o_alike; rw [if_neg (by omega), if_neg (by omega), if_pos (by omega)]; exact MP.same hX⟩
        · have h45 : ¬ (v_nc (x_A X)) ≤ j := fun q => h45 ((nI_leI (by omega) (by omega)).mpr q)
          refine V_iload dX10_alike_48 0 rfl ?_
          refine V_iconst (v := nI 1) dX10_alike_50 rfl ?_
          refine V_iadd dX10_alike_51 ?_
          refine M_top (nI_add _ _) ?_
          refine V_istore (lv2 := [(5, .int (nI (j + 1))), (4, .int (nI j)), (3, .int (nI (pvF (dpk (x_A X)) (npTo (dpk (x_A X)) (v_nc (x_A X)) j)))), (2, .int (oI (npTo (dpk (x_A X)) (v_nc (x_A X)) j))), (0, .ref (b)), (1, .int (what))]) dX10_alike_52 (by decide) rfl ?_
          have lp54 : ∀ i, i ≤ (v_nc (x_A X)) → j + 1 ≤ i → VM g mX10_alike 54 [(5, .int (nI i)), (4, .int (nI j)), (3, .int (nI (pvF (dpk (x_A X)) (npIn (dpk (x_A X)) j (npTo (dpk (x_A X)) (v_nc (x_A X)) j) i)))), (2, .int (oI (npIn (dpk (x_A X)) j (npTo (dpk (x_A X)) (v_nc (x_A X)) j) i))), (0, .ref (b)), (1, .int (what))] [] S iv lw Q := by
            refine up_ind fun i hi ihi => ?_
            intro hji
            have hpl : ∀ k, (npIn (dpk (x_A X)) j (npTo (dpk (x_A X)) (v_nc (x_A X)) j) i) = some k → k < 1200 := okP_lt hnc (npIn_ok hnc (npTo_ok hnc j) i (by omega))
            have hpv := pv_le (f := (dpk (x_A X))) (M := 8) (fun c d => dpk_le _ c d) (npIn (dpk (x_A X)) j (npTo (dpk (x_A X)) (v_nc (x_A X)) j) i)
            have hd8 := dpk_le (x_A X) j i
            refine V_iload dX10_alike_54 0 rfl ?_
            refine V_aload_n (i := 0) dX10_alike_56 rfl 4 rfl ?_
            refine M_getI (x := nI (v_nc (x_A X))) dX10_alike_57 lf_X10_88 rfl hb.1 (hA.nc) ?_
            refine V_icmp_ge (tgt := 104) dX10_alike_60 rfl (fun h60 => ?_) (fun h60 => ?_)
            · have h60 : (v_nc (x_A X)) ≤ i := (nI_leI (by omega) (by omega)).mp h60
              have hi9 : i = v_nc (x_A X) := by omega
              refine M_at (lv2 := [(5, .int (nI i)), (4, .int (nI j)), (3, .int (nI (pvF (dpk (x_A X)) (npTo (dpk (x_A X)) (v_nc (x_A X)) (j + 1))))), (2, .int (oI (npTo (dpk (x_A X)) (v_nc (x_A X)) (j + 1)))), (0, .ref (b)), (1, .int (what))]) (st2 := []) ?_ (by rw [hi9]; rfl) rfl rfl rfl
              refine V_iinc (v := nI (j + 1)) (lv2 := [(4, .int (nI (j + 1))), (5, .int (nI i)), (3, .int (nI (pvF (dpk (x_A X)) (npTo (dpk (x_A X)) (v_nc (x_A X)) (j + 1))))), (2, .int (oI (npTo (dpk (x_A X)) (v_nc (x_A X)) (j + 1)))), (0, .ref (b)), (1, .int (what))]) dX10_alike_104 1 rfl (nI_inc _) (by decide) rfl ?_
              refine V_goto (tgt := 39) dX10_alike_107 rfl ?_
              refine V_sub [0, 2, 3, 4, 5] rfl ?_
              exact M_at (ih39 (by omega)) (rfl) rfl (rfl) (rfl)
            · have h60 : ¬ (v_nc (x_A X)) ≤ i := fun q => h60 ((nI_leI (by omega) (by omega)).mpr q)
              refine V_iload_n (i := 2) dX10_alike_63 rfl 3 rfl ?_
              refine V_iconst (v := (-1)) dX10_alike_64 rfl ?_
              refine V_icmp_eq (tgt := 80) dX10_alike_65 rfl (fun h65 => ?_) (fun h65 => ?_)
              · have h65 := (oI_m1 hpl (by omega)).mp h65
                refine V_bipush (v := nI 100) dX10_alike_80 rfl ?_
                refine V_iload dX10_alike_82 1 rfl ?_
                refine V_imul dX10_alike_84 ?_
                refine M_top (pk_mul _ _) ?_
                refine V_iload dX10_alike_85 0 rfl ?_
                refine V_iadd dX10_alike_87 ?_
                refine M_top (nI_add _ _) ?_
                refine V_istore_n (lv2 := [(2, .int (nI ((100 * j) + i))), (5, .int (nI i)), (4, .int (nI j)), (3, .int (nI (pvF (dpk (x_A X)) (npIn (dpk (x_A X)) j (npTo (dpk (x_A X)) (v_nc (x_A X)) j) i)))), (0, .ref (b)), (1, .int (what))]) dX10_alike_88 rfl (by decide) rfl ?_
                refine V_aload_n (i := 0) dX10_alike_89 rfl 4 rfl ?_
                refine V_iload dX10_alike_90 2 rfl ?_
                refine V_iload dX10_alike_92 1 rfl ?_
                refine M_callVp (As := [.int (nI j), .int (nI i)]) (st := []) dX10_alike_94 lv_X10_282 ⟨by decide, by decide⟩ ⟨rfl, rfl⟩ rfl (ci := 7) hb.1 rfl rfl (Nat.le_of_ble_eq_true rfl) (r_apartOf hb hA hv (c := j) (d := i) (by omega) (by omega)) ?_
                refine V_istore_n (lv2 := [(3, .int (nI (dpk (x_A X) j i))), (2, .int (nI ((100 * j) + i))), (5, .int (nI i)), (4, .int (nI j)), (0, .ref (b)), (1, .int (what))]) dX10_alike_97 rfl (by decide) rfl ?_
                refine V_iinc (v := nI (i + 1)) (lv2 := [(5, .int (nI (i + 1))), (3, .int (nI (dpk (x_A X) j i))), (2, .int (nI ((100 * j) + i))), (4, .int (nI j)), (0, .ref (b)), (1, .int (what))]) dX10_alike_98 2 rfl (nI_inc _) (by decide) rfl ?_
                refine V_goto (tgt := 54) dX10_alike_101 rfl ?_
                refine V_sub [0, 3, 1, 2, 4, 5] rfl ?_
                exact M_at (ihi (by omega) (by omega)) (by rw [npIn_new (by omega) (Or.inl h65), pvF_some (by omega)]; rfl) rfl (rfl) (rfl)
              · obtain ⟨p0, hp0⟩ := Option.ne_none_iff_exists'.mp (fun z => h65 ((oI_m1 hpl (by omega)).mpr z))
                refine V_aload_n (i := 0) dX10_alike_68 rfl 4 rfl ?_
                refine V_iload dX10_alike_69 1 rfl ?_
                refine V_iload dX10_alike_71 0 rfl ?_
                refine M_callVp (As := [.int (nI j), .int (nI i)]) (st := []) dX10_alike_73 lv_X10_282 ⟨by decide, by decide⟩ ⟨rfl, rfl⟩ rfl (ci := 7) hb.1 rfl rfl (Nat.le_of_ble_eq_true rfl) (r_apartOf hb hA hv (c := j) (d := i) (by omega) (by omega)) ?_
                refine V_iload_n (i := 3) dX10_alike_76 rfl 2 rfl ?_
                refine V_icmp_ge (tgt := 98) dX10_alike_77 rfl (fun h77 => ?_) (fun h77 => ?_)
                · have h77 : (pvF (dpk (x_A X)) (npIn (dpk (x_A X)) j (npTo (dpk (x_A X)) (v_nc (x_A X)) j) i)) ≤ (dpk (x_A X) j i) := (nI_leI (by omega) (by omega)).mp h77
                  refine V_iinc (v := nI (i + 1)) (lv2 := [(5, .int (nI (i + 1))), (4, .int (nI j)), (3, .int (nI (pvF (dpk (x_A X)) (npIn (dpk (x_A X)) j (npTo (dpk (x_A X)) (v_nc (x_A X)) j) i)))), (2, .int (oI (npIn (dpk (x_A X)) j (npTo (dpk (x_A X)) (v_nc (x_A X)) j) i))), (0, .ref (b)), (1, .int (what))]) dX10_alike_98 0 rfl (nI_inc _) (by decide) rfl ?_
                  refine V_goto (tgt := 54) dX10_alike_101 rfl ?_
                  refine V_sub [0, 1, 2, 3, 4, 5] rfl ?_
                  exact M_at (ihi (by omega) (by omega)) (by rw [npIn_old (by rw [hp0]; exact fun z => by cases z) (by omega)]; try rfl) rfl (rfl) (rfl)
                · have h77 : ¬ (pvF (dpk (x_A X)) (npIn (dpk (x_A X)) j (npTo (dpk (x_A X)) (v_nc (x_A X)) j) i)) ≤ (dpk (x_A X) j i) := fun q => h77 ((nI_leI (by omega) (by omega)).mpr q)
                  refine V_bipush (v := nI 100) dX10_alike_80 rfl ?_
                  refine V_iload dX10_alike_82 1 rfl ?_
                  refine V_imul dX10_alike_84 ?_
                  refine M_top (pk_mul _ _) ?_
                  refine V_iload dX10_alike_85 0 rfl ?_
                  refine V_iadd dX10_alike_87 ?_
                  refine M_top (nI_add _ _) ?_
                  refine V_istore_n (lv2 := [(2, .int (nI ((100 * j) + i))), (5, .int (nI i)), (4, .int (nI j)), (3, .int (nI (pvF (dpk (x_A X)) (npIn (dpk (x_A X)) j (npTo (dpk (x_A X)) (v_nc (x_A X)) j) i)))), (0, .ref (b)), (1, .int (what))]) dX10_alike_88 rfl (by decide) rfl ?_
                  refine V_aload_n (i := 0) dX10_alike_89 rfl 4 rfl ?_
                  refine V_iload dX10_alike_90 2 rfl ?_
                  refine V_iload dX10_alike_92 1 rfl ?_
                  refine M_callVp (As := [.int (nI j), .int (nI i)]) (st := []) dX10_alike_94 lv_X10_282 ⟨by decide, by decide⟩ ⟨rfl, rfl⟩ rfl (ci := 7) hb.1 rfl rfl (Nat.le_of_ble_eq_true rfl) (r_apartOf hb hA hv (c := j) (d := i) (by omega) (by omega)) ?_
                  refine V_istore_n (lv2 := [(3, .int (nI (dpk (x_A X) j i))), (2, .int (nI ((100 * j) + i))), (5, .int (nI i)), (4, .int (nI j)), (0, .ref (b)), (1, .int (what))]) dX10_alike_97 rfl (by decide) rfl ?_
                  refine V_iinc (v := nI (i + 1)) (lv2 := [(5, .int (nI (i + 1))), (3, .int (nI (dpk (x_A X) j i))), (2, .int (nI ((100 * j) + i))), (4, .int (nI j)), (0, .ref (b)), (1, .int (what))]) dX10_alike_98 2 rfl (nI_inc _) (by decide) rfl ?_
                  refine V_goto (tgt := 54) dX10_alike_101 rfl ?_
                  refine V_sub [0, 3, 1, 2, 4, 5] rfl ?_
                  exact M_at (ihi (by omega) (by omega)) (by rw [npIn_new (by omega) (Or.inr (by omega)), pvF_some (by omega)]; rfl) rfl (rfl) (rfl)
          refine V_sub [0, 1, 2, 3, 4, 5] rfl ?_
          exact M_at (lp54 (j + 1) (by omega) (Nat.le_refl _)) (by rw [npIn_0 _ (Nat.le_refl _)]; try rfl) rfl (rfl) (rfl)
      refine V_sub [0, 1, 2, 3, 4] rfl ?_
      exact M_at (lp39 0 (Nat.zero_le _)) (rfl) rfl (rfl) (rfl)
    · have h22 : ¬ 2 ≤ (v_nc (x_A X)) := fun q => h22 ((nI_leI (by omega) (by omega)).mpr q)
      refine V_aload_n (i := 0) dX10_alike_25 rfl 0 rfl ?_
      refine V_bipush (v := (-5)) dX10_alike_26 rfl ?_
      refine M_callVq (As := [.int ((-5))]) (st := []) dX10_alike_28 lv_X10_107 ⟨by decide, by decide⟩ ⟨rfl, rfl⟩ rfl (ci := 7) hb.1 rfl rfl (Nat.le_of_ble_eq_true rfl) (q_refuse hs hX hk (j := 3) (by decide)) (fun w28 iv28 lw28 q28 => ?_)
      obtain ⟨rfl, e1, hXr, hOr⟩ := q28
      subst e1
      refine V_iret dX10_alike_31 ⟨rfl, rfl⟩ (Nat.zero_le _) (Nat.zero_le _) ?_
      subst hQ
      exact ⟨_, _, _, rfl, rfl, by unfold o_alike; rw [if_neg (by omega), if_pos (by omega)]; exact ⟨rfl, hXr, hOr, Off.rf⟩⟩
  · have h7 : ¬ ((0 : Int) ≤ what.toInt ∧ what.toInt ≤ 1) := bI_eq0.mp h7
    refine V_aload_n (i := 0) dX10_alike_10 rfl 0 rfl ?_
    refine V_bipush (v := (-2)) dX10_alike_11 rfl ?_
    refine M_callVq (As := [.int ((-2))]) (st := []) dX10_alike_13 lv_X10_107 ⟨by decide, by decide⟩ ⟨rfl, rfl⟩ rfl (ci := 7) hb.1 rfl rfl (Nat.le_of_ble_eq_true rfl) (q_refuse hs hX hk (j := 0) (by decide)) (fun w13 iv13 lw13 q13 => ?_)
    obtain ⟨rfl, e1, hXr, hOr⟩ := q13
    subst e1
    refine V_iret dX10_alike_16 ⟨rfl, rfl⟩ (Nat.zero_le _) (Nat.zero_le _) ?_
    subst hQ
    exact ⟨_, _, _, rfl, rfl, by unfold o_alike; rw [if_pos (by omega)]; exact ⟨rfl, hXr, hOr, Off.rf⟩⟩
set_option maxRecDepth 20000 in
theorem q_mixed {g : Ev} {S : St} {iv : IV} {lw : LW} {b : Nat} (hs : SS S b) {X : Xs} (hX : MX S iv lw b X) (hk : XOK X) {e : Int32} {what : Int32} : CQ g mX10_mixed [.ref (b), .int (e), .int (what)] S iv lw (fun w iv2 lw2 => MP S b iv lw (o_mixed X e what) w iv2 lw2) := by
  refine CT_ofQ rfl (by decide) (Nat.le_of_ble_eq_true rfl) (lv := [(0, .ref (b)), (1, .int (e)), (2, .int (what))]) rfl (fun Q hQ => ?_)
  have hb := hs.1
  have hA := hX.1
  have hv := hk.1
  have hnc := hv.nc
  have hne := hv.ne
  have hnm := hv.nm
  refine V_aload_n (i := 0) dX10_mixed_0 rfl 0 rfl ?_
  refine V_iload_n (i := 1) dX10_mixed_1 rfl 1 rfl ?_
  refine M_callVp (As := [.int (e)]) (st := []) dX10_mixed_2 lv_X10_122 ⟨by decide, by decide⟩ ⟨rfl, rfl⟩ rfl (ci := 7) hb.1 rfl rfl (Nat.le_of_ble_eq_true rfl) (r_isEar hb hA hv) ?_
  refine V_if_eq (tgt := 18) dX10_mixed_5 rfl (fun h5 => ?_) (fun h5 => ?_)
  · have h5 : ¬ (inR e (v_ne (x_A X))) := bI_eq0.mp h5
    refine V_aload_n (i := 0) dX10_mixed_18 rfl 0 rfl ?_
    refine V_bipush (v := (-2)) dX10_mixed_19 rfl ?_
    refine M_callVq (As := [.int ((-2))]) (st := []) dX10_mixed_21 lv_X10_107 ⟨by decide, by decide⟩ ⟨rfl, rfl⟩ rfl (ci := 7) hb.1 rfl rfl (Nat.le_of_ble_eq_true rfl) (q_refuse hs hX hk (j := 0) (by decide)) (fun w21 iv21 lw21 q21 => ?_)
    obtain ⟨rfl, e1, hXr, hOr⟩ := q21
    subst e1
    refine V_iret dX10_mixed_24 ⟨rfl, rfl⟩ (Nat.zero_le _) (Nat.zero_le _) ?_
    subst hQ
    exact ⟨_, _, _, rfl, rfl, by unfold o_mixed; rw [if_pos (fun z => h5 z.1)]; exact ⟨rfl, hXr, hOr, Off.rf⟩⟩
  · have h5 : inR e (v_ne (x_A X)) := bI_ne.mp h5
    refine V_iload_n (i := 2) dX10_mixed_8 rfl 2 rfl ?_
    refine V_i2l dX10_mixed_9 ?_
    refine V_lconst (v := lN 0) dX10_mixed_10 rfl ?_
    refine V_lconst (v := lN 1) dX10_mixed_11 rfl ?_
    refine M_callSp (As := [.long ((what).toInt64), .long (lN 0), .long (lN 1)]) (st := []) dX10_mixed_12 ls_X10_91 ⟨by decide, by decide⟩ ⟨rfl, rfl⟩ rfl (Nat.le_of_ble_eq_true rfl) (r_inK (by decide) (by decide)) ?_
    refine V_if_ne (tgt := 25) dX10_mixed_15 rfl (fun h15 => ?_) (fun h15 => ?_)
    · have h15 : (0 : Int) ≤ what.toInt ∧ what.toInt ≤ 1 := bI_ne.mp h15
      have ce := iN_eq (k := e) (by omega)
      have de := iN_i (k := e) (by omega)
      refine M_at (lv2 := [(0, .ref (b)), (1, .int (nI (iN e))), (2, .int (what))]) (st2 := []) ?_ (by rw [← ce]) rfl rfl rfl
      refine V_iconst (v := nI 0) dX10_mixed_25 rfl ?_
      refine V_istore_n (lv2 := [(3, .int (nI 0)), (0, .ref (b)), (1, .int (nI (iN e))), (2, .int (what))]) dX10_mixed_26 rfl (by decide) rfl ?_
      refine V_iconst (v := (-1)) dX10_mixed_27 rfl ?_
      refine V_istore (lv2 := [(4, .int ((-1))), (3, .int (nI 0)), (0, .ref (b)), (1, .int (nI (iN e))), (2, .int (what))]) dX10_mixed_28 (by decide) rfl ?_
      refine V_iconst (v := nI 0) dX10_mixed_30 rfl ?_
      refine V_istore (lv2 := [(5, .int (nI 0)), (4, .int ((-1))), (3, .int (nI 0)), (0, .ref (b)), (1, .int (nI (iN e))), (2, .int (what))]) dX10_mixed_31 (by decide) rfl ?_
      have lp33 : ∀ j, j ≤ (v_nc (x_A X)) → ∀ (iv2 : IV) (lw2 : LW), MA b iv iv2 → Off (b + 38) 1 lw lw2 → VM g mX10_mixed 33 [(5, .int (nI j)), (4, .int (oI (fmTo (x_A X) (iN e) j))), (3, .int (nI (mixAll (x_A X) (iN e) j))), (0, .ref (b)), (1, .int (nI (iN e))), (2, .int (what))] [] S iv2 lw2 Q := by
        refine up_ind fun j hj ih33 => ?_
        intro iv2 lw2 hM hL
        have hA2 := hA.ma hv hM
        refine V_iload dX10_mixed_33 0 rfl ?_
        refine V_aload_n (i := 0) dX10_mixed_35 rfl 3 rfl ?_
        refine M_getI (x := nI (v_nc (x_A X))) dX10_mixed_36 lf_X10_88 rfl hb.1 (hA2.nc) ?_
        refine V_icmp_ge (tgt := 118) dX10_mixed_39 rfl (fun h39 => ?_) (fun h39 => ?_)
        · have h39 : (v_nc (x_A X)) ≤ j := (nI_leI (by omega) (by omega)).mp h39
          refine V_iload_n (i := 2) dX10_mixed_118 rfl 5 rfl ?_
          refine V_if_ne (tgt := 126) dX10_mixed_119 rfl (fun h119 => ?_) (fun h119 => ?_)
          · have h119 : ¬ what.toInt = 0 := fun r => h119 (i_eq0.mpr (by exact r))
            refine V_iload dX10_mixed_126 1 rfl ?_
            refine V_iret dX10_mixed_128 ⟨rfl, rfl⟩ (Nat.zero_le _) (Nat.zero_le _) ?_
            subst hQ
            obtain rfl : j = v_nc (x_A X) := by omega
            exact ⟨_, _, _, rfl, rfl, by unfold o_mixed; rw [if_neg (fun z => z ⟨h5, by omega, by omega⟩), if_neg (by omega)]; exact MP.ma hX hk hM hL⟩
          · have h119 : what.toInt = 0 := by have q := i_eq0.mp h119; exact q
            refine V_iload_n (i := 3) dX10_mixed_122 rfl 2 rfl ?_
            refine V_goto (tgt := 128) dX10_mixed_123 rfl ?_
            refine V_iret dX10_mixed_128 ⟨rfl, rfl⟩ (Nat.zero_le _) (Nat.zero_le _) ?_
            subst hQ
            obtain rfl : j = v_nc (x_A X) := by omega
            exact ⟨_, _, _, rfl, rfl, by unfold o_mixed; rw [if_neg (fun z => z ⟨h5, by omega, by omega⟩), if_pos (by omega)]; exact MP.ma hX hk hM hL⟩
        · have h39 : ¬ (v_nc (x_A X)) ≤ j := fun q => h39 ((nI_leI (by omega) (by omega)).mpr q)
          refine V_aload_n (i := 0) dX10_mixed_42 rfl 3 rfl ?_
          refine V_iload dX10_mixed_43 0 rfl ?_
          refine V_iload_n (i := 1) dX10_mixed_45 rfl 4 rfl ?_
          refine V_aload_n (i := 0) dX10_mixed_46 rfl 3 rfl ?_
          refine M_getR dX10_mixed_47 lf_X10_42 rfl hb.1 hb.2.2.2.2.2.2.2.2.2.2.1.1 ?_
          refine V_iload dX10_mixed_50 0 rfl ?_
          refine M_ialdn (j := j) (x := nI (v_sz (x_A X) j)) dX10_mixed_52 hb.2.2.2.2.2.2.2.2.2.2.1.2 (by decide) (by omega) (hA2.sz (c := j) (by omega)) ?_
          refine V_iconst (v := nI 1) dX10_mixed_53 rfl ?_
          have hs8 := hv.sz (c := j) (by omega)
          refine M_callVn (As := [.int (nI j), .int (nI (iN e)), .int (nI (v_sz (x_A X) j)), .int (nI 1)]) (st := []) dX10_mixed_54 lv_X10_285 ⟨by decide, by decide⟩ ⟨rfl, rfl⟩ rfl (ci := 7) hb.1 rfl rfl (Nat.le_of_ble_eq_true rfl) (r_hearsOf hb hA2 hv (c := j) (e := iN e) (by omega) (by omega) (m := v_sz (x_A X) j) (Nat.le_refl _) (o := true) rfl) (fun iv54 lw54 q54 => ?_)
          obtain ⟨a1, hH, a2⟩ := q54
          have hM54 := hM.tr a1
          have hL54 := hL.tr a2
          have hA54 := hA.ma hv hM54
          refine V_iload dX10_mixed_57 0 rfl ?_
          refine V_iconst (v := nI 1) dX10_mixed_59 rfl ?_
          refine V_iadd dX10_mixed_60 ?_
          refine M_top (nI_add _ _) ?_
          refine V_istore (lv2 := [(6, .int (nI (j + 1))), (5, .int (nI j)), (4, .int (oI (fmTo (x_A X) (iN e) j))), (3, .int (nI (mixAll (x_A X) (iN e) j))), (0, .ref (b)), (1, .int (nI (iN e))), (2, .int (what))]) dX10_mixed_61 (by decide) rfl ?_
          have lp63 : ∀ i, i ≤ (v_nc (x_A X)) → j + 1 ≤ i → VM g mX10_mixed 63 [(6, .int (nI i)), (3, .int (nI (mixAll (x_A X) (iN e) j + mixN (x_A X) (iN e) j i))), (4, .int (oI (fmI (x_A X) (iN e) j (fmTo (x_A X) (iN e) j) i))), (5, .int (nI j)), (0, .ref (b)), (1, .int (nI (iN e))), (2, .int (what))] [] S iv54 lw54 Q := by
            refine up_ind fun i hi ihi => ?_
            intro hji
            have hfl := fmI_lt (V := x_A X) (e := iN e) (c := j) (fmTo_lt7 (e := iN e) hnc j (by omega)) (by omega) i (by omega)
            refine V_iload dX10_mixed_63 0 rfl ?_
            refine V_aload_n (i := 0) dX10_mixed_65 rfl 4 rfl ?_
            refine M_getI (x := nI (v_nc (x_A X))) dX10_mixed_66 lf_X10_88 rfl hb.1 (hA54.nc) ?_
            refine V_icmp_ge (tgt := 112) dX10_mixed_69 rfl (fun h69 => ?_) (fun h69 => ?_)
            · have h69 : (v_nc (x_A X)) ≤ i := (nI_leI (by omega) (by omega)).mp h69
              have hi9 : i = v_nc (x_A X) := by omega
              refine M_at (lv2 := [(6, .int (nI i)), (3, .int (nI (mixAll (x_A X) (iN e) (j + 1)))), (4, .int (oI (fmTo (x_A X) (iN e) (j + 1)))), (5, .int (nI j)), (0, .ref (b)), (1, .int (nI (iN e))), (2, .int (what))]) (st2 := []) ?_ (by rw [hi9, ← fm_end]; rfl) rfl rfl rfl
              refine V_iinc (v := nI (j + 1)) (lv2 := [(5, .int (nI (j + 1))), (6, .int (nI i)), (3, .int (nI (mixAll (x_A X) (iN e) (j + 1)))), (4, .int (oI (fmTo (x_A X) (iN e) (j + 1)))), (0, .ref (b)), (1, .int (nI (iN e))), (2, .int (what))]) dX10_mixed_112 3 rfl (nI_inc _) (by decide) rfl ?_
              refine V_goto (tgt := 33) dX10_mixed_115 rfl ?_
              refine V_sub [0, 3, 2, 4, 5, 6] rfl ?_
              exact M_at (ih33 (by omega) iv54 lw54 hM54 hL54) (rfl) rfl (rfl) (rfl)
            · have h69 : ¬ (v_nc (x_A X)) ≤ i := fun q => h69 ((nI_leI (by omega) (by omega)).mpr q)
              refine V_aload_n (i := 0) dX10_mixed_72 rfl 4 rfl ?_
              refine V_iload dX10_mixed_73 0 rfl ?_
              refine V_iload_n (i := 1) dX10_mixed_75 rfl 5 rfl ?_
              refine M_callVp (As := [.int (nI i), .int (nI (iN e))]) (st := []) dX10_mixed_76 lv_X10_265 ⟨by decide, by decide⟩ ⟨rfl, rfl⟩ rfl (ci := 7) hb.1 rfl rfl (Nat.le_of_ble_eq_true rfl) (r_fitsHearing hb hA54 hv hH (c := i) (e := iN e) (by omega) (by omega)) ?_
              refine V_if_eq (tgt := 106) dX10_mixed_79 rfl (fun h79 => ?_) (fun h79 => ?_)
              · have h79 : ¬ (fitB (x_A X) (hearOf (x_A X) j (iN e) (v_sz (x_A X) j) true) (iN e) i = true) := bI_eq0.mp h79
                refine V_iinc (v := nI (i + 1)) (lv2 := [(6, .int (nI (i + 1))), (3, .int (nI (mixAll (x_A X) (iN e) j + mixN (x_A X) (iN e) j i))), (4, .int (oI (fmI (x_A X) (iN e) j (fmTo (x_A X) (iN e) j) i))), (5, .int (nI j)), (0, .ref (b)), (1, .int (nI (iN e))), (2, .int (what))]) dX10_mixed_106 0 rfl (nI_inc _) (by decide) rfl ?_
                refine V_goto (tgt := 63) dX10_mixed_109 rfl ?_
                refine V_sub [0, 1, 2, 3, 4, 5, 6] rfl ?_
                exact M_at (ihi (by omega) (by omega)) (by rw [show mixN (x_A X) (iN e) j (i + 1) = mixN (x_A X) (iN e) j i from cntTo_f (by rw [show mixB (x_A X) (iN e) j i = false from Bool.eq_false_iff.mpr h79]; simp), fmi_f (by rw [show mixB (x_A X) (iN e) j i = false from Bool.eq_false_iff.mpr h79]; simp)]; try rfl) rfl (rfl) (rfl)
              · have h79 : fitB (x_A X) (hearOf (x_A X) j (iN e) (v_sz (x_A X) j) true) (iN e) i = true := bI_ne.mp h79
                refine V_iload dX10_mixed_82 2 rfl ?_
                refine V_iconst (v := (-1)) dX10_mixed_84 rfl ?_
                refine V_icmp_ne (tgt := 99) dX10_mixed_85 rfl (fun h85 => ?_) (fun h85 => ?_)
                · have h85 : ¬ (fmI (x_A X) (iN e) j (fmTo (x_A X) (iN e) j) i) = none := fun z => h85 ((oI_m1 hfl (by omega)).mpr z)
                  refine V_iload dX10_mixed_99 2 rfl ?_
                  refine V_istore (lv2 := [(4, .int (oI (fmI (x_A X) (iN e) j (fmTo (x_A X) (iN e) j) i))), (6, .int (nI i)), (3, .int (nI (mixAll (x_A X) (iN e) j + mixN (x_A X) (iN e) j i))), (5, .int (nI j)), (0, .ref (b)), (1, .int (nI (iN e))), (2, .int (what))]) dX10_mixed_101 (by decide) rfl ?_
                  refine V_iinc (v := nI ((mixAll (x_A X) (iN e) j + mixN (x_A X) (iN e) j i) + 1)) (lv2 := [(3, .int (nI ((mixAll (x_A X) (iN e) j + mixN (x_A X) (iN e) j i) + 1))), (4, .int (oI (fmI (x_A X) (iN e) j (fmTo (x_A X) (iN e) j) i))), (6, .int (nI i)), (5, .int (nI j)), (0, .ref (b)), (1, .int (nI (iN e))), (2, .int (what))]) dX10_mixed_103 2 rfl (nI_inc _) (by decide) rfl ?_
                  refine V_iinc (v := nI (i + 1)) (lv2 := [(6, .int (nI (i + 1))), (3, .int (nI ((mixAll (x_A X) (iN e) j + mixN (x_A X) (iN e) j i) + 1))), (4, .int (oI (fmI (x_A X) (iN e) j (fmTo (x_A X) (iN e) j) i))), (5, .int (nI j)), (0, .ref (b)), (1, .int (nI (iN e))), (2, .int (what))]) dX10_mixed_106 2 rfl (nI_inc _) (by decide) rfl ?_
                  refine V_goto (tgt := 63) dX10_mixed_109 rfl ?_
                  refine V_sub [0, 1, 2, 3, 4, 5, 6] rfl ?_
                  exact M_at (ihi (by omega) (by omega)) (by rw [show mixN (x_A X) (iN e) j (i + 1) = mixN (x_A X) (iN e) j i + 1 from cntTo_t (by rw [show mixB (x_A X) (iN e) j i = true from h79, decide_eq_true (by omega)]; rfl), fmi_s h85]; rfl) rfl (rfl) (rfl)
                · have h85 := (oI_m1 hfl (by omega)).mp h85
                  refine V_bipush (v := nI 100) dX10_mixed_88 rfl ?_
                  refine V_iload dX10_mixed_90 3 rfl ?_
                  refine V_imul dX10_mixed_92 ?_
                  refine M_top (pk_mul _ _) ?_
                  refine V_iload dX10_mixed_93 0 rfl ?_
                  refine V_iadd dX10_mixed_95 ?_
                  refine M_top (nI_add _ _) ?_
                  refine V_goto (tgt := 101) dX10_mixed_96 rfl ?_
                  refine V_istore (lv2 := [(4, .int (nI ((100 * j) + i))), (6, .int (nI i)), (3, .int (nI (mixAll (x_A X) (iN e) j + mixN (x_A X) (iN e) j i))), (5, .int (nI j)), (0, .ref (b)), (1, .int (nI (iN e))), (2, .int (what))]) dX10_mixed_101 (by decide) rfl ?_
                  refine V_iinc (v := nI ((mixAll (x_A X) (iN e) j + mixN (x_A X) (iN e) j i) + 1)) (lv2 := [(3, .int (nI ((mixAll (x_A X) (iN e) j + mixN (x_A X) (iN e) j i) + 1))), (4, .int (nI ((100 * j) + i))), (6, .int (nI i)), (5, .int (nI j)), (0, .ref (b)), (1, .int (nI (iN e))), (2, .int (what))]) dX10_mixed_103 2 rfl (nI_inc _) (by decide) rfl ?_
                  refine V_iinc (v := nI (i + 1)) (lv2 := [(6, .int (nI (i + 1))), (3, .int (nI ((mixAll (x_A X) (iN e) j + mixN (x_A X) (iN e) j i) + 1))), (4, .int (nI ((100 * j) + i))), (5, .int (nI j)), (0, .ref (b)), (1, .int (nI (iN e))), (2, .int (what))]) dX10_mixed_106 2 rfl (nI_inc _) (by decide) rfl ?_
                  refine V_goto (tgt := 63) dX10_mixed_109 rfl ?_
                  refine V_sub [0, 1, 2, 3, 4, 5, 6] rfl ?_
                  exact M_at (ihi (by omega) (by omega)) (by rw [show mixN (x_A X) (iN e) j (i + 1) = mixN (x_A X) (iN e) j i + 1 from cntTo_t (by rw [show mixB (x_A X) (iN e) j i = true from h79, decide_eq_true (by omega)]; rfl), fmi_t h85 (by rw [show mixB (x_A X) (iN e) j i = true from h79, decide_eq_true (by omega)]; rfl)]; rfl) rfl (rfl) (rfl)
          refine V_sub [0, 3, 2, 1, 4, 5, 6] rfl ?_
          exact M_at (lp63 (j + 1) (by omega) (Nat.le_refl _)) (by rw [mixN_0, fmI_0 _ (Nat.le_refl _)]; rfl) rfl (rfl) (rfl)
      refine V_sub [0, 1, 2, 3, 4, 5] rfl ?_
      exact M_at (lp33 0 (Nat.zero_le _) iv lw MA.rf Off.rf) (rfl) rfl (rfl) (rfl)
    · have h15 : ¬ ((0 : Int) ≤ what.toInt ∧ what.toInt ≤ 1) := bI_eq0.mp h15
      refine V_aload_n (i := 0) dX10_mixed_18 rfl 0 rfl ?_
      refine V_bipush (v := (-2)) dX10_mixed_19 rfl ?_
      refine M_callVq (As := [.int ((-2))]) (st := []) dX10_mixed_21 lv_X10_107 ⟨by decide, by decide⟩ ⟨rfl, rfl⟩ rfl (ci := 7) hb.1 rfl rfl (Nat.le_of_ble_eq_true rfl) (q_refuse hs hX hk (j := 0) (by decide)) (fun w21 iv21 lw21 q21 => ?_)
      obtain ⟨rfl, e1, hXr, hOr⟩ := q21
      subst e1
      refine V_iret dX10_mixed_24 ⟨rfl, rfl⟩ (Nat.zero_le _) (Nat.zero_le _) ?_
      subst hQ
      exact ⟨_, _, _, rfl, rfl, by unfold o_mixed; rw [if_pos (fun z => absurd z.2 (by omega))]; exact ⟨rfl, hXr, hOr, Off.rf⟩⟩
set_option maxRecDepth 20000 in
theorem q_fresh_ {g : Ev} {S : St} {iv : IV} {lw : LW} {b : Nat} (hs : SS S b) {X : Xs} (hX : MX S iv lw b X) (hk : XOK X) {m : Int32} {d : Int32} : CQ g mX10_fresh_ [.ref (b), .int (m), .int (d)] S iv lw (fun w iv2 lw2 => MP S b iv lw (o_fresh X m d) w iv2 lw2) := by
  refine CT_ofQ rfl (by decide) (Nat.le_of_ble_eq_true rfl) (lv := [(0, .ref (b)), (1, .int (m)), (2, .int (d))]) rfl (fun Q hQ => ?_)
  have hb := hs.1
  have hA := hX.1
  have hv := hk.1
  have hnc := hv.nc
  have hne := hv.ne
  have hnm := hv.nm
  refine V_iload_n (i := 1) dX10_fresh__0 rfl 1 rfl ?_
  refine V_i2l dX10_fresh__1 ?_
  refine V_lconst (v := lN 1) dX10_fresh__2 rfl ?_
  refine V_ldc2 (v := lN 5) dX10_fresh__3 mw_1264 ?_
  refine M_callSp (As := [.long ((m).toInt64), .long (lN 1), .long (lN 5)]) (st := []) dX10_fresh__6 ls_X10_91 ⟨by decide, by decide⟩ ⟨rfl, rfl⟩ rfl (Nat.le_of_ble_eq_true rfl) (r_inK (by decide) (by decide)) ?_
  refine V_if_eq (tgt := 24) dX10_fresh__9 rfl (fun h9 => ?_) (fun h9 => ?_)
  · have h9 : ¬ ((1 : Int) ≤ m.toInt ∧ m.toInt ≤ 5) := bI_eq0.mp h9
    refine V_aload_n (i := 0) dX10_fresh__24 rfl 0 rfl ?_
    refine V_bipush (v := (-2)) dX10_fresh__25 rfl ?_
    refine M_callVq (As := [.int ((-2))]) (st := []) dX10_fresh__27 lv_X10_107 ⟨by decide, by decide⟩ ⟨rfl, rfl⟩ rfl (ci := 7) hb.1 rfl rfl (Nat.le_of_ble_eq_true rfl) (q_refuse hs hX hk (j := 0) (by decide)) (fun w27 iv27 lw27 q27 => ?_)
    obtain ⟨rfl, e1, hXr, hOr⟩ := q27
    subst e1
    refine V_iret dX10_fresh__30 ⟨rfl, rfl⟩ (Nat.zero_le _) (Nat.zero_le _) ?_
    subst hQ
    exact ⟨_, _, _, rfl, rfl, by unfold o_fresh; rw [if_pos (by omega)]; exact ⟨rfl, hXr, hOr, Off.rf⟩⟩
  · have h9 : (1 : Int) ≤ m.toInt ∧ m.toInt ≤ 5 := bI_ne.mp h9
    refine V_iload_n (i := 2) dX10_fresh__12 rfl 2 rfl ?_
    refine V_i2l dX10_fresh__13 ?_
    refine V_lconst (v := lN 0) dX10_fresh__14 rfl ?_
    refine V_ldc2 (v := lN 8) dX10_fresh__15 mw_1280 ?_
    refine M_callSp (As := [.long ((d).toInt64), .long (lN 0), .long (lN 8)]) (st := []) dX10_fresh__18 ls_X10_91 ⟨by decide, by decide⟩ ⟨rfl, rfl⟩ rfl (Nat.le_of_ble_eq_true rfl) (r_inK (by decide) (by decide)) ?_
    refine V_if_ne (tgt := 31) dX10_fresh__21 rfl (fun h21 => ?_) (fun h21 => ?_)
    · have h21 : (0 : Int) ≤ d.toInt ∧ d.toInt ≤ 8 := bI_ne.mp h21
      have cm := iN_eq (k := m) (by omega)
      have cd := iN_eq (k := d) (by omega)
      have dm := iN_i (k := m) (by omega)
      have dd := iN_i (k := d) (by omega)
      refine M_at (lv2 := [(0, .ref (b)), (1, .int (nI (iN m))), (2, .int (nI (iN d)))]) (st2 := []) ?_ (by rw [← cm, ← cd]) rfl rfl rfl
      refine V_aload_n (i := 0) dX10_fresh__31 rfl 0 rfl ?_
      refine V_iconst (v := nI 0) dX10_fresh__32 rfl ?_
      refine V_iload_n (i := 1) dX10_fresh__33 rfl 1 rfl ?_
      refine M_callVq (As := [.int (nI 0), .int (nI (iN m))]) (st := []) dX10_fresh__34 lv_X10_307 ⟨by decide, by decide⟩ ⟨rfl, rfl⟩ rfl (ci := 7) hb.1 rfl rfl (Nat.le_of_ble_eq_true rfl) (r_becomes hb (x := 0) (m := iN m) (by decide) (by omega)) (fun w34 iv34 lw34 q34 => ?_)
      obtain ⟨rfl, e1, hM54, hR54⟩ := q34
      subst e1
      have h5p := p5_le (n := iN m) (by omega)
      refine V_istore_n (lv2 := [(3, .int (nI (5 ^ iN m))), (0, .ref (b)), (1, .int (nI (iN m))), (2, .int (nI (iN d)))]) dX10_fresh__37 rfl (by decide) rfl ?_
      refine V_iconst (v := nI 0) dX10_fresh__38 rfl ?_
      refine V_istore (lv2 := [(4, .int (nI 0)), (3, .int (nI (5 ^ iN m))), (0, .ref (b)), (1, .int (nI (iN m))), (2, .int (nI (iN d)))]) dX10_fresh__39 (by decide) rfl ?_
      have lp41 : ∀ j, j ≤ (5 ^ iN m) → ∀ iv2 : IV, MA b iv iv2 → (∀ k, k < j → (fun x => clearB (x_A X) (rowP (iN m) x) (iN d) none) k = false) → VM g mX10_fresh_ 41 [(4, .int (nI j)), (3, .int (nI (5 ^ iN m))), (0, .ref (b)), (1, .int (nI (iN m))), (2, .int (nI (iN d)))] [] S iv2 lw Q := by
        refine up_ind fun j hj ih41 => ?_
        intro iv2 hM hno
        refine V_iload dX10_fresh__41 0 rfl ?_
        refine V_iload_n (i := 3) dX10_fresh__43 rfl 1 rfl ?_
        refine V_icmp_ge (tgt := 74) dX10_fresh__44 rfl (fun h44 => ?_) (fun h44 => ?_)
        · have h44 : (5 ^ iN m) ≤ j := (nI_leI (by omega) (by omega)).mp h44
          refine V_iconst (v := (-1)) dX10_fresh__74 rfl ?_
          refine V_iret dX10_fresh__75 ⟨rfl, rfl⟩ (Nat.zero_le _) (Nat.zero_le _) ?_
          subst hQ
          obtain rfl : j = 5 ^ iN m := by omega
          exact ⟨_, _, _, rfl, rfl, by unfold o_fresh; rw [if_neg (by omega), ffO_none (p := (fun x => clearB (x_A X) (rowP (iN m) x) (iN d) none)) hno]; exact MP.ma hX hk hM Off.rf⟩
        · have h44 : ¬ (5 ^ iN m) ≤ j := fun q => h44 ((nI_leI (by omega) (by omega)).mpr q)
          refine V_aload_n (i := 0) dX10_fresh__47 rfl 2 rfl ?_
          refine V_iload dX10_fresh__48 0 rfl ?_
          refine V_iload_n (i := 1) dX10_fresh__50 rfl 3 rfl ?_
          refine M_callVq (As := [.int (nI j), .int (nI (iN m))]) (st := []) dX10_fresh__51 lv_X10_307 ⟨by decide, by decide⟩ ⟨rfl, rfl⟩ rfl (ci := 7) hb.1 rfl rfl (Nat.le_of_ble_eq_true rfl) (r_becomes hb (x := j) (m := iN m) (by omega) (by omega)) (fun w51 iv51 lw51 q51 => ?_)
          obtain ⟨rfl, e1, hMb, hR⟩ := q51
          subst e1
          have hM76 := hM.tr hMb
          have hA76 := hA.ma hv hM76
          refine V_pop dX10_fresh__54 rfl ?_
          refine V_aload_n (i := 0) dX10_fresh__55 rfl 2 rfl ?_
          refine V_iload_n (i := 1) dX10_fresh__56 rfl 3 rfl ?_
          refine V_iload_n (i := 2) dX10_fresh__57 rfl 4 rfl ?_
          refine V_iconst (v := (-1)) dX10_fresh__58 rfl ?_
          refine M_callVp (As := [.int (nI (iN m)), .int (nI (iN d)), .int ((-1))]) (st := []) dX10_fresh__59 lv_X10_310 ⟨by decide, by decide⟩ ⟨rfl, rfl⟩ rfl (ci := 7) hb.1 rfl rfl (Nat.le_of_ble_eq_true rfl) ((show CP g mX10_isFar [.ref b, .int (nI (iN m)), .int (nI (iN d)), .int (oI none)] S iv51 lw _ from r_isFar hb hA76 hv hR (by omega) (fun i => d5_le _ _ _) (d := iN d) (but := none) (by omega) (fun k hk => by cases hk))) ?_
          refine V_if_eq (tgt := 68) dX10_fresh__62 rfl (fun h62 => ?_) (fun h62 => ?_)
          · have h62 : ¬ (clearB (x_A X) (pkTo (d5 (iN m) j) (iN m)) (iN d) none = true) := bI_eq0.mp h62
            refine V_iinc (v := nI (j + 1)) (lv2 := [(4, .int (nI (j + 1))), (3, .int (nI (5 ^ iN m))), (0, .ref (b)), (1, .int (nI (iN m))), (2, .int (nI (iN d)))]) dX10_fresh__68 0 rfl (nI_inc _) (by decide) rfl ?_
            refine V_goto (tgt := 41) dX10_fresh__71 rfl ?_
            refine V_sub [0, 1, 2, 3, 4] rfl ?_
            exact M_at (ih41 (by omega) iv51 hM76 (fun k hk => if e : k = j then e ▸ Bool.eq_false_iff.mpr h62 else hno k (by omega))) (rfl) rfl (rfl) (rfl)
          · have h62 : clearB (x_A X) (pkTo (d5 (iN m) j) (iN m)) (iN d) none = true := bI_ne.mp h62
            refine V_iload dX10_fresh__65 0 rfl ?_
            refine V_iret dX10_fresh__67 ⟨rfl, rfl⟩ (Nat.zero_le _) (Nat.zero_le _) ?_
            subst hQ
            exact ⟨_, _, _, rfl, rfl, by unfold o_fresh; rw [if_neg (by omega), ffO_at (p := (fun x => clearB (x_A X) (rowP (iN m) x) (iN d) none)) (k := j) (by omega) hno h62]; exact MP.ma hX hk hM76 Off.rf⟩
      refine V_sub [0, 1, 2, 3, 4] rfl ?_
      exact M_at (lp41 0 (Nat.zero_le _) iv34 hM54 (fun k hk => absurd hk (by omega))) (rfl) rfl (rfl) (rfl)
    · have h21 : ¬ ((0 : Int) ≤ d.toInt ∧ d.toInt ≤ 8) := bI_eq0.mp h21
      refine V_aload_n (i := 0) dX10_fresh__24 rfl 0 rfl ?_
      refine V_bipush (v := (-2)) dX10_fresh__25 rfl ?_
      refine M_callVq (As := [.int ((-2))]) (st := []) dX10_fresh__27 lv_X10_107 ⟨by decide, by decide⟩ ⟨rfl, rfl⟩ rfl (ci := 7) hb.1 rfl rfl (Nat.le_of_ble_eq_true rfl) (q_refuse hs hX hk (j := 0) (by decide)) (fun w27 iv27 lw27 q27 => ?_)
      obtain ⟨rfl, e1, hXr, hOr⟩ := q27
      subst e1
      refine V_iret dX10_fresh__30 ⟨rfl, rfl⟩ (Nat.zero_le _) (Nat.zero_le _) ?_
      subst hQ
      exact ⟨_, _, _, rfl, rfl, by unfold o_fresh; rw [if_pos (by omega)]; exact ⟨rfl, hXr, hOr, Off.rf⟩⟩
set_option maxRecDepth 20000 in
theorem r_areApart {g : Ev} {S : St} {iv : IV} {lw : LW} {b : Nat} (hb : IsMod S b) {V : Cv} (hV : MC iv b V) (hv : VOK V) {t d : Nat} (ht : t < 4096) (hd : d ≤ 8) : CP g mX10_areApart [.ref (b), .int (nI t), .int (nI d)] S iv lw (.int (bI (apB V d t = true))) := by
  refine CT_ofQ rfl (by decide) (Nat.le_of_ble_eq_true rfl) (lv := [(0, .ref (b)), (1, .int (nI t)), (2, .int (nI d))]) rfl (fun Q hQ => ?_)
  have hnc := hv.nc
  have hne := hv.ne
  have hnm := hv.nm
  refine V_iconst (v := nI 0) dX10_areApart_0 rfl ?_
  refine V_istore_n (lv2 := [(3, .int (nI 0)), (0, .ref (b)), (1, .int (nI t)), (2, .int (nI d))]) dX10_areApart_1 rfl (by decide) rfl ?_
  have lp2 : ∀ j, j ≤ (v_nc V) → allTo (fun c => allTo (fun k => !(t.testBit c && (t.testBit k && decide (dpk V c k < d)))) c) j = true → VM g mX10_areApart 2 [(3, .int (nI j)), (0, .ref (b)), (1, .int (nI t)), (2, .int (nI d))] [] S iv lw Q := by
    refine up_ind fun j hj ih2 => ?_
    intro hall
    refine V_iload_n (i := 3) dX10_areApart_2 rfl 0 rfl ?_
    refine V_aload_n (i := 0) dX10_areApart_3 rfl 1 rfl ?_
    refine M_getI (x := nI (v_nc V)) dX10_areApart_4 lf_X10_88 rfl hb.1 (hV.nc) ?_
    refine V_icmp_ge (tgt := 61) dX10_areApart_7 rfl (fun h7 => ?_) (fun h7 => ?_)
    · have h7 : (v_nc V) ≤ j := (nI_leI (by omega) (by omega)).mp h7
      refine V_iconst (v := nI 1) dX10_areApart_61 rfl ?_
      refine V_zret dX10_areApart_62 ⟨rfl, rfl⟩ (by rfl) (Nat.zero_le _) (Nat.zero_le _) ?_
      subst hQ
      obtain rfl : j = v_nc V := by omega
      exact ⟨by rw [bI_t (show apB V d t = true from hall)], rfl⟩
    · have h7 : ¬ (v_nc V) ≤ j := fun q => h7 ((nI_leI (by omega) (by omega)).mpr q)
      refine V_iconst (v := nI 0) dX10_areApart_10 rfl ?_
      refine V_istore (lv2 := [(4, .int (nI 0)), (3, .int (nI j)), (0, .ref (b)), (1, .int (nI t)), (2, .int (nI d))]) dX10_areApart_11 (by decide) rfl ?_
      have lp13 : ∀ i, i ≤ j → allTo (fun k => !(t.testBit j && (t.testBit k && decide (dpk V j k < d)))) i = true → VM g mX10_areApart 13 [(4, .int (nI i)), (3, .int (nI j)), (0, .ref (b)), (1, .int (nI t)), (2, .int (nI d))] [] S iv lw Q := by
        refine up_ind fun i hi ihi => ?_
        intro hin
        refine V_iload dX10_areApart_13 0 rfl ?_
        refine V_iload_n (i := 3) dX10_areApart_15 rfl 1 rfl ?_
        refine V_icmp_ge (tgt := 55) dX10_areApart_16 rfl (fun h16 => ?_) (fun h16 => ?_)
        · have h16 : j ≤ i := (nI_leI (by omega) (by omega)).mp h16
          refine V_iinc (v := nI (j + 1)) (lv2 := [(3, .int (nI (j + 1))), (4, .int (nI i)), (0, .ref (b)), (1, .int (nI t)), (2, .int (nI d))]) dX10_areApart_55 1 rfl (nI_inc _) (by decide) rfl ?_
          refine V_goto (tgt := 2) dX10_areApart_58 rfl ?_
          refine V_sub [0, 2, 3, 4] rfl ?_
          exact M_at (ih2 (by omega) (by show (allTo _ j && allTo (fun k => !(t.testBit j && (t.testBit k && decide (dpk V j k < d)))) j) = true; rw [hall, Bool.true_and]; obtain rfl : i = j := (by omega); exact hin)) (rfl) rfl (rfl) (rfl)
        · have h16 : ¬ j ≤ i := fun q => h16 ((nI_leI (by omega) (by omega)).mpr q)
          refine V_iload_n (i := 1) dX10_areApart_19 rfl 3 rfl ?_
          refine V_iload_n (i := 3) dX10_areApart_20 rfl 1 rfl ?_
          refine M_callSp (As := [.int (nI t), .int (nI j)]) (st := []) dX10_areApart_21 ls_X10_313 ⟨by decide, by decide⟩ ⟨rfl, rfl⟩ rfl (Nat.le_of_ble_eq_true rfl) (r_has (by omega) (by omega)) ?_
          refine V_if_eq (tgt := 49) dX10_areApart_24 rfl (fun h24 => ?_) (fun h24 => ?_)
          · have h24 : ¬ (t.testBit j = true) := bI_eq0.mp h24
            refine V_iinc (v := nI (i + 1)) (lv2 := [(4, .int (nI (i + 1))), (3, .int (nI j)), (0, .ref (b)), (1, .int (nI t)), (2, .int (nI d))]) dX10_areApart_49 0 rfl (nI_inc _) (by decide) rfl ?_
            refine V_goto (tgt := 13) dX10_areApart_52 rfl ?_
            refine V_sub [0, 1, 2, 3, 4] rfl ?_
            exact M_at (ihi (by omega) (by show (allTo _ i && !(t.testBit j && (t.testBit i && decide (dpk V j i < d)))) = true; rw [hin, Bool.eq_false_iff.mpr h24]; rfl)) (rfl) rfl (rfl) (rfl)
          · have h24 : t.testBit j = true := bI_ne.mp h24
            refine V_iload_n (i := 1) dX10_areApart_27 rfl 3 rfl ?_
            refine V_iload dX10_areApart_28 0 rfl ?_
            refine M_callSp (As := [.int (nI t), .int (nI i)]) (st := []) dX10_areApart_30 ls_X10_313 ⟨by decide, by decide⟩ ⟨rfl, rfl⟩ rfl (Nat.le_of_ble_eq_true rfl) (r_has (by omega) (by omega)) ?_
            refine V_if_eq (tgt := 49) dX10_areApart_33 rfl (fun h33 => ?_) (fun h33 => ?_)
            · have h33 : ¬ (t.testBit i = true) := bI_eq0.mp h33
              refine V_iinc (v := nI (i + 1)) (lv2 := [(4, .int (nI (i + 1))), (3, .int (nI j)), (0, .ref (b)), (1, .int (nI t)), (2, .int (nI d))]) dX10_areApart_49 0 rfl (nI_inc _) (by decide) rfl ?_
              refine V_goto (tgt := 13) dX10_areApart_52 rfl ?_
              refine V_sub [0, 1, 2, 3, 4] rfl ?_
              exact M_at (ihi (by omega) (by show (allTo _ i && !(t.testBit j && (t.testBit i && decide (dpk V j i < d)))) = true; rw [hin, show t.testBit i = false from Bool.eq_false_iff.mpr h33, Bool.false_and, Bool.and_false]; rfl)) (rfl) rfl (rfl) (rfl)
            · have h33 : t.testBit i = true := bI_ne.mp h33
              refine V_aload_n (i := 0) dX10_areApart_36 rfl 2 rfl ?_
              refine V_iload_n (i := 3) dX10_areApart_37 rfl 1 rfl ?_
              refine V_iload dX10_areApart_38 0 rfl ?_
              refine M_callVp (As := [.int (nI j), .int (nI i)]) (st := []) dX10_areApart_40 lv_X10_282 ⟨by decide, by decide⟩ ⟨rfl, rfl⟩ rfl (ci := 7) hb.1 rfl rfl (Nat.le_of_ble_eq_true rfl) (r_apartOf hb hV hv (c := j) (d := i) (by omega) (by omega)) ?_
              refine V_iload_n (i := 2) dX10_areApart_43 rfl 4 rfl ?_
              have hd8 := dpk_le V j i
              refine V_icmp_ge (tgt := 49) dX10_areApart_44 rfl (fun h44 => ?_) (fun h44 => ?_)
              · have h44 : d ≤ (dpk V j i) := (nI_leI (by omega) (by omega)).mp h44
                refine V_iinc (v := nI (i + 1)) (lv2 := [(4, .int (nI (i + 1))), (3, .int (nI j)), (0, .ref (b)), (1, .int (nI t)), (2, .int (nI d))]) dX10_areApart_49 0 rfl (nI_inc _) (by decide) rfl ?_
                refine V_goto (tgt := 13) dX10_areApart_52 rfl ?_
                refine V_sub [0, 1, 2, 3, 4] rfl ?_
                exact M_at (ihi (by omega) (by show (allTo _ i && !(t.testBit j && (t.testBit i && decide (dpk V j i < d)))) = true; rw [hin, show decide (dpk V j i < d) = false from decide_eq_false (by omega), Bool.and_false, Bool.and_false]; rfl)) (rfl) rfl (rfl) (rfl)
              · have h44 : ¬ d ≤ (dpk V j i) := fun q => h44 ((nI_leI (by omega) (by omega)).mpr q)
                refine V_iconst (v := nI 0) dX10_areApart_47 rfl ?_
                refine V_zret dX10_areApart_48 ⟨rfl, rfl⟩ (by rfl) (Nat.zero_le _) (Nat.zero_le _) ?_
                subst hQ
                have hin2 : allTo (fun k => !(t.testBit j && (t.testBit k && decide (dpk V j k < d)))) j = false := allTo_bad (i := i) (by omega) (by show (!(t.testBit j && (t.testBit i && decide (dpk V j i < d)))) = false; rw [h24, h33, decide_eq_true (show dpk V j i < d by omega)]; rfl)
                exact ⟨by rw [bI_f (show ¬ apB V d t = true from by rw [show apB V d t = false from allTo_bad (i := j) (by omega) hin2]; decide)], rfl⟩
      refine V_sub [0, 1, 2, 3, 4] rfl ?_
      exact M_at (lp13 0 (Nat.zero_le _) rfl) (rfl) rfl (rfl) (rfl)
  refine V_sub [0, 1, 2, 3] rfl ?_
  exact M_at (lp2 0 (Nat.zero_le _) rfl) (rfl) rfl (rfl) (rfl)
set_option maxRecDepth 20000 in
theorem q_keep {g : Ev} {S : St} {iv : IV} {lw : LW} {b : Nat} (hs : SS S b) {X : Xs} (hX : MX S iv lw b X) (hk : XOK X) {d : Int32} : CQ g mX10_keep [.ref (b), .int (d)] S iv lw (fun w iv2 lw2 => MP S b iv lw (o_keep X d) w iv2 lw2) := by
  refine CT_ofQ rfl (by decide) (Nat.le_of_ble_eq_true rfl) (lv := [(0, .ref (b)), (1, .int (d))]) rfl (fun Q hQ => ?_)
  have hb := hs.1
  have hA := hX.1
  have hv := hk.1
  have hnc := hv.nc
  have hne := hv.ne
  have hnm := hv.nm
  refine V_iload_n (i := 1) dX10_keep_0 rfl 1 rfl ?_
  refine V_i2l dX10_keep_1 ?_
  refine V_lconst (v := lN 0) dX10_keep_2 rfl ?_
  refine V_ldc2 (v := lN 8) dX10_keep_3 mw_1280 ?_
  refine M_callSp (As := [.long ((d).toInt64), .long (lN 0), .long (lN 8)]) (st := []) dX10_keep_6 ls_X10_91 ⟨by decide, by decide⟩ ⟨rfl, rfl⟩ rfl (Nat.le_of_ble_eq_true rfl) (r_inK (by decide) (by decide)) ?_
  refine V_if_ne (tgt := 19) dX10_keep_9 rfl (fun h9 => ?_) (fun h9 => ?_)
  · have h9 : (0 : Int) ≤ d.toInt ∧ d.toInt ≤ 8 := bI_ne.mp h9
    have cd := iN_eq (k := d) (by omega)
    have dd := iN_i (k := d) (by omega)
    refine M_at (lv2 := [(0, .ref (b)), (1, .int (nI (iN d)))]) (st2 := []) ?_ (by rw [← cd]) rfl rfl rfl
    refine V_iconst (v := nI 0) dX10_keep_19 rfl ?_
    refine V_istore_n (lv2 := [(2, .int (nI 0)), (0, .ref (b)), (1, .int (nI (iN d)))]) dX10_keep_20 rfl (by decide) rfl ?_
    refine V_iconst (v := (-1)) dX10_keep_21 rfl ?_
    refine V_istore_n (lv2 := [(3, .int ((-1))), (2, .int (nI 0)), (0, .ref (b)), (1, .int (nI (iN d)))]) dX10_keep_22 rfl (by decide) rfl ?_
    refine V_iconst (v := nI 0) dX10_keep_23 rfl ?_
    refine V_istore (lv2 := [(4, .int (nI 0)), (3, .int ((-1))), (2, .int (nI 0)), (0, .ref (b)), (1, .int (nI (iN d)))]) dX10_keep_24 (by decide) rfl ?_
    have lp26 : ∀ j, j ≤ (2 ^ v_nc (x_A X)) → VM g mX10_keep 26 [(4, .int (nI j)), (3, .int (kmI (kV (x_A X) (iN d)) j)), (2, .int (nI ((ksTo (kV (x_A X) (iN d)) j).1))), (0, .ref (b)), (1, .int (nI (iN d)))] [] S iv lw Q := by
      refine up_ind fun j hj ih26 => ?_
      have h4096 : 2 ^ v_nc (x_A X) ≤ 4096 := Nat.pow_le_pow_right (n := 2) (by decide) hnc
      have hks := ksTo_le (f := (kV (x_A X) (iN d))) (M := 1188) (fun t => kV_le hv) j
      refine V_iload dX10_keep_26 0 rfl ?_
      refine V_iconst (v := nI 1) dX10_keep_28 rfl ?_
      refine V_aload_n (i := 0) dX10_keep_29 rfl 3 rfl ?_
      refine M_getI (x := nI (v_nc (x_A X))) dX10_keep_30 lf_X10_88 rfl hb.1 (hA.nc) ?_
      refine V_ishl dX10_keep_33 ?_
      refine M_top (x2 := nI (2 ^ v_nc (x_A X))) (shl1 (by omega) rfl) ?_
      refine V_icmp_ge (tgt := 112) dX10_keep_34 rfl (fun h34 => ?_) (fun h34 => ?_)
      · have h34 : (2 ^ v_nc (x_A X)) ≤ j := (nI_leI (by omega) (by omega)).mp h34
        refine V_iload_n (i := 2) dX10_keep_112 rfl 2 rfl ?_
        refine V_iret dX10_keep_113 ⟨rfl, rfl⟩ (Nat.zero_le _) (Nat.zero_le _) ?_
        subst hQ
        obtain rfl : j = 2 ^ v_nc (x_A X) := by omega
        exact ⟨_, _, _, rfl, rfl, by unfold o_keep; rw [if_pos (by omega)]; exact MP.same hX⟩
      · have h34 : ¬ (2 ^ v_nc (x_A X)) ≤ j := fun q => h34 ((nI_leI (by omega) (by omega)).mpr q)
        refine V_iconst (v := nI 0) dX10_keep_37 rfl ?_
        refine V_istore (lv2 := [(5, .int (nI 0)), (4, .int (nI j)), (3, .int (kmI (kV (x_A X) (iN d)) j)), (2, .int (nI ((ksTo (kV (x_A X) (iN d)) j).1))), (0, .ref (b)), (1, .int (nI (iN d)))]) dX10_keep_38 (by decide) rfl ?_
        refine V_iconst (v := nI 0) dX10_keep_40 rfl ?_
        refine V_istore (lv2 := [(6, .int (nI 0)), (5, .int (nI 0)), (4, .int (nI j)), (3, .int (kmI (kV (x_A X) (iN d)) j)), (2, .int (nI ((ksTo (kV (x_A X) (iN d)) j).1))), (0, .ref (b)), (1, .int (nI (iN d)))]) dX10_keep_41 (by decide) rfl ?_
        have lp43 : ∀ i, i ≤ (v_nc (x_A X)) → VM g mX10_keep 43 [(6, .int (nI i)), (5, .int (nI (kS (x_A X) j i))), (4, .int (nI j)), (3, .int (kmI (kV (x_A X) (iN d)) j)), (2, .int (nI ((ksTo (kV (x_A X) (iN d)) j).1))), (0, .ref (b)), (1, .int (nI (iN d)))] [] S iv lw Q := by
          refine up_ind fun i hi ihi => ?_
          refine V_iload dX10_keep_43 0 rfl ?_
          refine V_aload_n (i := 0) dX10_keep_45 rfl 5 rfl ?_
          refine M_getI (x := nI (v_nc (x_A X))) dX10_keep_46 lf_X10_88 rfl hb.1 (hA.nc) ?_
          refine V_icmp_ge (tgt := 84) dX10_keep_49 rfl (fun h49 => ?_) (fun h49 => ?_)
          · have h49 : (v_nc (x_A X)) ≤ i := (nI_leI (by omega) (by omega)).mp h49
            have hi9 : i = v_nc (x_A X) := by omega
            have hss : kS (x_A X) j (v_nc (x_A X)) ≤ 1188 := kSum_le hv _ (Nat.le_refl _)
            refine M_at (lv2 := [(6, .int (nI i)), (5, .int (nI (kS (x_A X) j (v_nc (x_A X))))), (4, .int (nI j)), (3, .int (kmI (kV (x_A X) (iN d)) j)), (2, .int (nI ((ksTo (kV (x_A X) (iN d)) j).1))), (0, .ref (b)), (1, .int (nI (iN d)))]) (st2 := []) ?_ (by rw [hi9]) rfl rfl rfl
            refine V_iload dX10_keep_84 1 rfl ?_
            refine V_iload_n (i := 3) dX10_keep_86 rfl 3 rfl ?_
            refine V_icmp_le (tgt := 106) dX10_keep_87 rfl (fun h87 => ?_) (fun h87 => ?_)
            · have h87 := (km_le (by omega) (by omega)).mp h87
              refine V_iinc (v := nI (j + 1)) (lv2 := [(4, .int (nI (j + 1))), (6, .int (nI i)), (5, .int (nI (kS (x_A X) j (v_nc (x_A X))))), (3, .int (kmI (kV (x_A X) (iN d)) j)), (2, .int (nI ((ksTo (kV (x_A X) (iN d)) j).1))), (0, .ref (b)), (1, .int (nI (iN d)))]) dX10_keep_106 2 rfl (nI_inc _) (by decide) rfl ?_
              refine V_goto (tgt := 26) dX10_keep_109 rfl ?_
              refine V_sub [0, 3, 4, 5, 6] rfl ?_
              exact M_at (ih26 (by omega)) (by rw [show kmI (kV (x_A X) (iN d)) (j + 1) = nI (ksTo (kV (x_A X) (iN d)) (j + 1)).2 from if_neg (by omega), ks_old (Nat.le_trans kV_leS h87.2), show kmI (kV (x_A X) (iN d)) j = nI (ksTo (kV (x_A X) (iN d)) j).2 from if_neg (by omega)]; try rfl) rfl (rfl) (rfl)
            · have h87 : ¬ (0 < j ∧ kS (x_A X) j (v_nc (x_A X)) ≤ (ksTo (kV (x_A X) (iN d)) j).2) := fun z => h87 ((km_le (by omega) (by omega)).mpr z)
              refine V_aload_n (i := 0) dX10_keep_90 rfl 5 rfl ?_
              refine V_iload dX10_keep_91 2 rfl ?_
              refine V_iload_n (i := 1) dX10_keep_93 rfl 6 rfl ?_
              refine M_callVp (As := [.int (nI j), .int (nI (iN d))]) (st := []) dX10_keep_94 lv_X10_316 ⟨by decide, by decide⟩ ⟨rfl, rfl⟩ rfl (ci := 7) hb.1 rfl rfl (Nat.le_of_ble_eq_true rfl) (r_areApart hb hA hv (t := j) (d := iN d) (by omega) (by omega)) ?_
              refine V_if_eq (tgt := 106) dX10_keep_97 rfl (fun h97 => ?_) (fun h97 => ?_)
              · have h97 : ¬ (apB (x_A X) (iN d) j = true) := bI_eq0.mp h97
                refine V_iinc (v := nI (j + 1)) (lv2 := [(4, .int (nI (j + 1))), (6, .int (nI i)), (5, .int (nI (kS (x_A X) j (v_nc (x_A X))))), (3, .int (kmI (kV (x_A X) (iN d)) j)), (2, .int (nI ((ksTo (kV (x_A X) (iN d)) j).1))), (0, .ref (b)), (1, .int (nI (iN d)))]) dX10_keep_106 2 rfl (nI_inc _) (by decide) rfl ?_
                refine V_goto (tgt := 26) dX10_keep_109 rfl ?_
                refine V_sub [0, 3, 4, 5, 6] rfl ?_
                exact M_at (ih26 (by omega)) (by rw [show kmI (kV (x_A X) (iN d)) (j + 1) = nI (ksTo (kV (x_A X) (iN d)) (j + 1)).2 from if_neg (by omega), ks_old (by rw [apB_f h97]; exact Nat.zero_le _), show kmI (kV (x_A X) (iN d)) j = nI (ksTo (kV (x_A X) (iN d)) j).2 from if_neg (fun z => h97 (by rw [z]; exact apB_0))]; try rfl) rfl (rfl) (rfl)
              · have h97 : apB (x_A X) (iN d) j = true := bI_ne.mp h97
                refine V_iload dX10_keep_100 2 rfl ?_
                refine V_istore_n (lv2 := [(2, .int (nI j)), (6, .int (nI i)), (5, .int (nI (kS (x_A X) j (v_nc (x_A X))))), (4, .int (nI j)), (3, .int (kmI (kV (x_A X) (iN d)) j)), (0, .ref (b)), (1, .int (nI (iN d)))]) dX10_keep_102 rfl (by decide) rfl ?_
                refine V_iload dX10_keep_103 2 rfl ?_
                refine V_istore_n (lv2 := [(3, .int (nI (kS (x_A X) j (v_nc (x_A X))))), (2, .int (nI j)), (6, .int (nI i)), (5, .int (nI (kS (x_A X) j (v_nc (x_A X))))), (4, .int (nI j)), (0, .ref (b)), (1, .int (nI (iN d)))]) dX10_keep_105 rfl (by decide) rfl ?_
                refine V_iinc (v := nI (j + 1)) (lv2 := [(4, .int (nI (j + 1))), (3, .int (nI (kS (x_A X) j (v_nc (x_A X))))), (2, .int (nI j)), (6, .int (nI i)), (5, .int (nI (kS (x_A X) j (v_nc (x_A X))))), (0, .ref (b)), (1, .int (nI (iN d)))]) dX10_keep_106 4 rfl (nI_inc _) (by decide) rfl ?_
                refine V_goto (tgt := 26) dX10_keep_109 rfl ?_
                refine V_sub [0, 1, 2, 5, 6] rfl ?_
                exact M_at (ih26 (by omega)) (by rw [show kmI (kV (x_A X) (iN d)) (j + 1) = nI (ksTo (kV (x_A X) (iN d)) (j + 1)).2 from if_neg (by omega), ks_new h87 h97]; try rfl) rfl (rfl) (rfl)
          · have h49 : ¬ (v_nc (x_A X)) ≤ i := fun q => h49 ((nI_leI (by omega) (by omega)).mpr q)
            refine V_iload dX10_keep_52 1 rfl ?_
            refine V_iload dX10_keep_54 2 rfl ?_
            refine V_iload dX10_keep_56 0 rfl ?_
            refine M_callSp (As := [.int (nI j), .int (nI i)]) (st := [.int (nI (kS (x_A X) j i))]) dX10_keep_58 ls_X10_313 ⟨by decide, by decide⟩ ⟨rfl, rfl⟩ rfl (Nat.le_of_ble_eq_true rfl) (r_has (by omega) (by omega)) ?_
            refine V_if_eq (tgt := 74) dX10_keep_61 rfl (fun h61 => ?_) (fun h61 => ?_)
            · have h61 : ¬ (j.testBit i = true) := bI_eq0.mp h61
              refine V_iconst (v := nI 0) dX10_keep_74 rfl ?_
              refine V_iadd dX10_keep_75 ?_
              refine M_top (nI_add _ _) ?_
              refine V_istore (lv2 := [(5, .int (nI ((kS (x_A X) j i) + 0))), (6, .int (nI i)), (4, .int (nI j)), (3, .int (kmI (kV (x_A X) (iN d)) j)), (2, .int (nI ((ksTo (kV (x_A X) (iN d)) j).1))), (0, .ref (b)), (1, .int (nI (iN d)))]) dX10_keep_76 (by decide) rfl ?_
              refine V_iinc (v := nI (i + 1)) (lv2 := [(6, .int (nI (i + 1))), (5, .int (nI ((kS (x_A X) j i) + 0))), (4, .int (nI j)), (3, .int (kmI (kV (x_A X) (iN d)) j)), (2, .int (nI ((ksTo (kV (x_A X) (iN d)) j).1))), (0, .ref (b)), (1, .int (nI (iN d)))]) dX10_keep_78 1 rfl (nI_inc _) (by decide) rfl ?_
              refine V_goto (tgt := 43) dX10_keep_81 rfl ?_
              refine V_sub [0, 1, 2, 3, 4, 5, 6] rfl ?_
              exact M_at (ihi (by omega)) (by rw [show kS (x_A X) j (i + 1) = kS (x_A X) j i from sumTo_f (p := fun c => j.testBit c) h61]; rfl) rfl (rfl) (rfl)
            · have h61 : j.testBit i = true := bI_ne.mp h61
              refine V_aload_n (i := 0) dX10_keep_64 rfl 5 rfl ?_
              refine M_getR dX10_keep_65 lf_X10_45 rfl hb.1 hb.2.2.2.2.2.2.2.2.2.2.2.1.1 ?_
              refine V_iload dX10_keep_68 0 rfl ?_
              refine M_ialdn (j := i) (x := nI (v_us (x_A X) i)) dX10_keep_70 hb.2.2.2.2.2.2.2.2.2.2.2.1.2 (by decide) (by omega) (hA.us (c := i) (by omega)) ?_
              refine V_goto (tgt := 75) dX10_keep_71 rfl ?_
              refine V_iadd dX10_keep_75 ?_
              refine M_top (nI_add _ _) ?_
              refine V_istore (lv2 := [(5, .int (nI ((kS (x_A X) j i) + (v_us (x_A X) i)))), (6, .int (nI i)), (4, .int (nI j)), (3, .int (kmI (kV (x_A X) (iN d)) j)), (2, .int (nI ((ksTo (kV (x_A X) (iN d)) j).1))), (0, .ref (b)), (1, .int (nI (iN d)))]) dX10_keep_76 (by decide) rfl ?_
              refine V_iinc (v := nI (i + 1)) (lv2 := [(6, .int (nI (i + 1))), (5, .int (nI ((kS (x_A X) j i) + (v_us (x_A X) i)))), (4, .int (nI j)), (3, .int (kmI (kV (x_A X) (iN d)) j)), (2, .int (nI ((ksTo (kV (x_A X) (iN d)) j).1))), (0, .ref (b)), (1, .int (nI (iN d)))]) dX10_keep_78 1 rfl (nI_inc _) (by decide) rfl ?_
              refine V_goto (tgt := 43) dX10_keep_81 rfl ?_
              refine V_sub [0, 1, 2, 3, 4, 5, 6] rfl ?_
              exact M_at (ihi (by omega)) (by rw [show kS (x_A X) j (i + 1) = kS (x_A X) j i + v_us (x_A X) i from sumTo_t (p := fun c => j.testBit c) h61]; rfl) rfl (rfl) (rfl)
        refine V_sub [0, 1, 2, 3, 4, 5, 6] rfl ?_
        exact M_at (lp43 0 (Nat.zero_le _)) (rfl) rfl (rfl) (rfl)
    refine V_sub [0, 1, 2, 3, 4] rfl ?_
    exact M_at (lp26 0 (Nat.zero_le _)) (rfl) rfl (rfl) (rfl)
  · have h9 : ¬ ((0 : Int) ≤ d.toInt ∧ d.toInt ≤ 8) := bI_eq0.mp h9
    refine V_aload_n (i := 0) dX10_keep_12 rfl 0 rfl ?_
    refine V_bipush (v := (-2)) dX10_keep_13 rfl ?_
    refine M_callVq (As := [.int ((-2))]) (st := []) dX10_keep_15 lv_X10_107 ⟨by decide, by decide⟩ ⟨rfl, rfl⟩ rfl (ci := 7) hb.1 rfl rfl (Nat.le_of_ble_eq_true rfl) (q_refuse hs hX hk (j := 0) (by decide)) (fun w15 iv15 lw15 q15 => ?_)
    obtain ⟨rfl, e1, hXr, hOr⟩ := q15
    subst e1
    refine V_iret dX10_keep_18 ⟨rfl, rfl⟩ (Nat.zero_le _) (Nat.zero_le _) ?_
    subst hQ
    exact ⟨_, _, _, rfl, rfl, by unfold o_keep; rw [if_neg (by omega)]; exact ⟨rfl, hXr, hOr, Off.rf⟩⟩
set_option maxRecDepth 20000 in
theorem q_learn {g : Ev} {S : St} {iv : IV} {lw : LW} {b : Nat} (hs : SS S b) {X : Xs} (hX : MX S iv lw b X) (hk : XOK X) {i : Int32} : CQ g mX10_learn [.ref (b), .int (i)] S iv lw (fun w iv2 lw2 => MP S b iv lw (o_learn X i) w iv2 lw2) := by
  refine CT_ofQ rfl (by decide) (Nat.le_of_ble_eq_true rfl) (lv := [(0, .ref (b)), (1, .int (i))]) rfl (fun Q hQ => ?_)
  have hb := hs.1
  have hA := hX.1
  have hv := hk.1
  have hnc := hv.nc
  have hne := hv.ne
  have hnm := hv.nm
  refine V_aload_n (i := 0) dX10_learn_0 rfl 0 rfl ?_
  refine V_iload_n (i := 1) dX10_learn_1 rfl 1 rfl ?_
  refine M_callVp (As := [.int (i)]) (st := []) dX10_learn_2 lv_X10_155 ⟨by decide, by decide⟩ ⟨rfl, rfl⟩ rfl (ci := 7) hb.1 rfl rfl (Nat.le_of_ble_eq_true rfl) (r_isCall hb hA hv) ?_
  refine V_if_ne (tgt := 15) dX10_learn_5 rfl (fun h5 => ?_) (fun h5 => ?_)
  · have h5 : inR i (v_nc (x_A X)) := bI_ne.mp h5
    have ci := iN_eq (k := i) (by omega)
    have di := iN_i (k := i) (by omega)
    refine M_at (lv2 := [(0, .ref (b)), (1, .int (nI (iN i)))]) (st2 := []) ?_ (by rw [← ci]) rfl rfl rfl
    refine V_iconst (v := nI 0) dX10_learn_15 rfl ?_
    refine V_istore_n (lv2 := [(2, .int (nI 0)), (0, .ref (b)), (1, .int (nI (iN i)))]) dX10_learn_16 rfl (by decide) rfl ?_
    refine V_iconst (v := (-1)) dX10_learn_17 rfl ?_
    refine V_istore_n (lv2 := [(3, .int ((-1))), (2, .int (nI 0)), (0, .ref (b)), (1, .int (nI (iN i)))]) dX10_learn_18 rfl (by decide) rfl ?_
    refine V_iconst (v := nI 0) dX10_learn_19 rfl ?_
    refine V_istore (lv2 := [(4, .int (nI 0)), (3, .int ((-1))), (2, .int (nI 0)), (0, .ref (b)), (1, .int (nI (iN i)))]) dX10_learn_20 (by decide) rfl ?_
    have lp22 : ∀ j, j ≤ (iN i + 1) → VM g mX10_learn 22 [(4, .int (nI j)), (3, .int (lrP (x_A X) j)), (2, .int (nI (tkTo (x_A X) j))), (0, .ref (b)), (1, .int (nI (iN i)))] [] S iv lw Q := by
      refine up_ind fun j hj ih22 => ?_
      have htl := tk_lt (V := (x_A X)) j (by omega)
      have h4096 : 2 ^ v_nc (x_A X) ≤ 4096 := Nat.pow_le_pow_right (n := 2) (by decide) hnc
      refine V_iload dX10_learn_22 0 rfl ?_
      refine V_iload_n (i := 1) dX10_learn_24 rfl 4 rfl ?_
      refine V_icmp_gt (tgt := 108) dX10_learn_25 rfl (fun h25 => ?_) (fun h25 => ?_)
      · have h25 : (iN i) < j := (nI_ltI (by omega) (by omega)).mp h25
        refine V_iload_n (i := 3) dX10_learn_108 rfl 1 rfl ?_
        refine V_iret dX10_learn_109 ⟨rfl, rfl⟩ (Nat.zero_le _) (Nat.zero_le _) ?_
        subst hQ
        obtain rfl : j = iN i + 1 := by omega
        obtain ⟨q0, hq0, hq1⟩ := (lr_inv (V := (x_A X)) (iN i) (by omega)).2 (by omega)
        exact ⟨_, _, _, rfl, rfl, by unfold o_learn; rw [if_pos h5, lr_ff (by omega) hq0, show lrP (x_A X) (iN i + 1) = oI (lrB (x_A X) (iN i) (v_nc (x_A X))) from rfl, hq0]; exact MP.same hX⟩
      · have h25 : ¬ (iN i) < j := fun q => h25 ((nI_ltI (by omega) (by omega)).mpr q)
        refine V_iconst (v := (-1)) dX10_learn_28 rfl ?_
        refine V_istore_n (lv2 := [(3, .int ((-1))), (4, .int (nI j)), (2, .int (nI (tkTo (x_A X) j))), (0, .ref (b)), (1, .int (nI (iN i)))]) dX10_learn_29 rfl (by decide) rfl ?_
        refine V_iconst (v := nI 0) dX10_learn_30 rfl ?_
        refine V_istore (lv2 := [(5, .int (nI 0)), (3, .int ((-1))), (4, .int (nI j)), (2, .int (nI (tkTo (x_A X) j))), (0, .ref (b)), (1, .int (nI (iN i)))]) dX10_learn_31 (by decide) rfl ?_
        have lp33 : ∀ q, q ≤ (v_nc (x_A X)) → VM g mX10_learn 33 [(5, .int (nI q)), (3, .int (oI (lrB (x_A X) j q))), (4, .int (nI j)), (2, .int (nI (tkTo (x_A X) j))), (0, .ref (b)), (1, .int (nI (iN i)))] [] S iv lw Q := by
          refine up_ind fun q hq ihi => ?_
          have hll := fun k hk => (lrB_lt (V := (x_A X)) (k := j) q k hk).1
          refine V_iload dX10_learn_33 0 rfl ?_
          refine V_aload_n (i := 0) dX10_learn_35 rfl 4 rfl ?_
          refine M_getI (x := nI (v_nc (x_A X))) dX10_learn_36 lf_X10_88 rfl hb.1 (hA.nc) ?_
          refine V_icmp_ge (tgt := 96) dX10_learn_39 rfl (fun h39 => ?_) (fun h39 => ?_)
          · have h39 : (v_nc (x_A X)) ≤ q := (nI_leI (by omega) (by omega)).mp h39
            have hq9 : q = v_nc (x_A X) := by omega
            obtain ⟨q0, hq0, hq1⟩ := (lr_inv (V := (x_A X)) j (by omega)).2 (by omega)
            have hq2 := (lrB_lt _ _ hq0).1
            refine M_at (lv2 := [(5, .int (nI q)), (3, .int (nI q0)), (4, .int (nI j)), (2, .int (nI (tkTo (x_A X) j))), (0, .ref (b)), (1, .int (nI (iN i)))]) (st2 := []) ?_ (by rw [hq9, hq0]; rfl) rfl rfl rfl
            refine V_iload_n (i := 2) dX10_learn_96 rfl 3 rfl ?_
            refine V_iconst (v := nI 1) dX10_learn_97 rfl ?_
            refine V_iload_n (i := 3) dX10_learn_98 rfl 1 rfl ?_
            refine V_ishl dX10_learn_99 ?_
            refine M_top (x2 := nI (2 ^ q0)) (shl1 (by omega) rfl) ?_
            refine V_ior dX10_learn_100 ?_
            refine M_top (x2 := nI (tkTo (x_A X) (j + 1))) (by rw [nI_or]; show _ = nI (tkTo (x_A X) j ||| 2 ^ ((lrB (x_A X) j (v_nc (x_A X))).getD 0)); rw [hq0]; rfl) ?_
            refine V_istore_n (lv2 := [(2, .int (nI (tkTo (x_A X) (j + 1)))), (5, .int (nI q)), (3, .int (nI q0)), (4, .int (nI j)), (0, .ref (b)), (1, .int (nI (iN i)))]) dX10_learn_101 rfl (by decide) rfl ?_
            refine V_iinc (v := nI (j + 1)) (lv2 := [(4, .int (nI (j + 1))), (2, .int (nI (tkTo (x_A X) (j + 1)))), (5, .int (nI q)), (3, .int (nI q0)), (0, .ref (b)), (1, .int (nI (iN i)))]) dX10_learn_102 3 rfl (nI_inc _) (by decide) rfl ?_
            refine V_goto (tgt := 22) dX10_learn_105 rfl ?_
            refine V_sub [0, 3, 1, 4, 5] rfl ?_
            exact M_at (ih22 (by omega)) (by rw [show lrP (x_A X) (j + 1) = oI (lrB (x_A X) j (v_nc (x_A X))) from rfl, hq0]; rfl) rfl (rfl) (rfl)
          · have h39 : ¬ (v_nc (x_A X)) ≤ q := fun q => h39 ((nI_leI (by omega) (by omega)).mpr q)
            refine V_iload_n (i := 2) dX10_learn_42 rfl 3 rfl ?_
            refine V_iload dX10_learn_43 0 rfl ?_
            refine M_callSp (As := [.int (nI (tkTo (x_A X) j)), .int (nI q)]) (st := []) dX10_learn_45 ls_X10_313 ⟨by decide, by decide⟩ ⟨rfl, rfl⟩ rfl (Nat.le_of_ble_eq_true rfl) (r_has (t := tkTo (x_A X) j) (c := q) (by omega) (by omega)) ?_
            refine V_if_ne (tgt := 90) dX10_learn_48 rfl (fun h48 => ?_) (fun h48 => ?_)
            · have h48 : (tkTo (x_A X) j).testBit q = true := bI_ne.mp h48
              have h48 : aheadN (x_A X) q < j := by rw [tk_bit j (by omega) q (by omega)] at h48; exact of_decide_eq_true h48
              refine V_iinc (v := nI (q + 1)) (lv2 := [(5, .int (nI (q + 1))), (3, .int (oI (lrB (x_A X) j q))), (4, .int (nI j)), (2, .int (nI (tkTo (x_A X) j))), (0, .ref (b)), (1, .int (nI (iN i)))]) dX10_learn_90 0 rfl (nI_inc _) (by decide) rfl ?_
              refine V_goto (tgt := 33) dX10_learn_93 rfl ?_
              refine V_sub [0, 1, 2, 3, 4, 5] rfl ?_
              exact M_at (ihi (by omega)) (by rw [lr_old (fun z => by have := z.1; omega)]; try rfl) rfl (rfl) (rfl)
            · have h48 : ¬ ((tkTo (x_A X) j).testBit q = true) := bI_eq0.mp h48
              have h48 : ¬ aheadN (x_A X) q < j := fun z => h48 (by rw [tk_bit j (by omega) q (by omega)]; exact decide_eq_true z)
              refine V_iload_n (i := 3) dX10_learn_51 rfl 1 rfl ?_
              refine V_iconst (v := (-1)) dX10_learn_52 rfl ?_
              refine V_icmp_eq (tgt := 87) dX10_learn_53 rfl (fun h53 => ?_) (fun h53 => ?_)
              · have h53 := (oI_m1 hll (by omega)).mp h53
                refine V_iload dX10_learn_87 0 rfl ?_
                refine V_istore_n (lv2 := [(3, .int (nI q)), (5, .int (nI q)), (4, .int (nI j)), (2, .int (nI (tkTo (x_A X) j))), (0, .ref (b)), (1, .int (nI (iN i)))]) dX10_learn_89 rfl (by decide) rfl ?_
                refine V_iinc (v := nI (q + 1)) (lv2 := [(5, .int (nI (q + 1))), (3, .int (nI q)), (4, .int (nI j)), (2, .int (nI (tkTo (x_A X) j))), (0, .ref (b)), (1, .int (nI (iN i)))]) dX10_learn_90 1 rfl (nI_inc _) (by decide) rfl ?_
                refine V_goto (tgt := 33) dX10_learn_93 rfl ?_
                refine V_sub [0, 1, 2, 3, 4, 5] rfl ?_
                exact M_at (ihi (by omega)) (by rw [lr_new (by omega) (Or.inl h53)]; rfl) rfl (rfl) (rfl)
              · obtain ⟨k0, hk0⟩ := Option.ne_none_iff_exists'.mp (fun z => h53 ((oI_m1 hll (by omega)).mpr z))
                have hk1 := hll k0 hk0
                refine M_at (lv2 := [(5, .int (nI q)), (3, .int (nI k0)), (4, .int (nI j)), (2, .int (nI (tkTo (x_A X) j))), (0, .ref (b)), (1, .int (nI (iN i)))]) (st2 := []) ?_ (by rw [hk0]; rfl) rfl rfl rfl
                refine V_aload_n (i := 0) dX10_learn_56 rfl 4 rfl ?_
                refine M_getR dX10_learn_57 lf_X10_45 rfl hb.1 hb.2.2.2.2.2.2.2.2.2.2.2.1.1 ?_
                refine V_iload dX10_learn_60 0 rfl ?_
                refine M_ialdn (j := q) (x := nI (v_us (x_A X) q)) dX10_learn_62 hb.2.2.2.2.2.2.2.2.2.2.2.1.2 (by decide) (by omega) (hA.us (c := q) (by omega)) ?_
                refine V_aload_n (i := 0) dX10_learn_63 rfl 4 rfl ?_
                refine M_getR dX10_learn_64 lf_X10_48 rfl hb.1 hb.2.2.2.2.2.2.2.2.2.2.2.2.1.1 ?_
                refine V_iload dX10_learn_67 0 rfl ?_
                refine M_ialdn (j := q) (x := nI (v_co (x_A X) q)) dX10_learn_69 hb.2.2.2.2.2.2.2.2.2.2.2.2.1.2 (by decide) (by omega) (hA.co (c := q) (by omega)) ?_
                refine V_imul dX10_learn_70 ?_
                refine M_top (x2 := nI (worth (x_A X) q)) (pk_mul _ _) ?_
                refine V_aload_n (i := 0) dX10_learn_71 rfl 4 rfl ?_
                refine M_getR dX10_learn_72 lf_X10_45 rfl hb.1 hb.2.2.2.2.2.2.2.2.2.2.2.1.1 ?_
                refine V_iload_n (i := 3) dX10_learn_75 rfl 1 rfl ?_
                refine M_ialdn (j := k0) (x := nI (v_us (x_A X) k0)) dX10_learn_76 hb.2.2.2.2.2.2.2.2.2.2.2.1.2 (by decide) (by omega) (hA.us (c := k0) (by omega)) ?_
                refine V_aload_n (i := 0) dX10_learn_77 rfl 4 rfl ?_
                refine M_getR dX10_learn_78 lf_X10_48 rfl hb.1 hb.2.2.2.2.2.2.2.2.2.2.2.2.1.1 ?_
                refine V_iload_n (i := 3) dX10_learn_81 rfl 1 rfl ?_
                refine M_ialdn (j := k0) (x := nI (v_co (x_A X) k0)) dX10_learn_82 hb.2.2.2.2.2.2.2.2.2.2.2.2.1.2 (by decide) (by omega) (hA.co (c := k0) (by omega)) ?_
                refine V_imul dX10_learn_83 ?_
                refine M_top (x2 := nI (worth (x_A X) k0)) (pk_mul _ _) ?_
                have hw1 := worth_le hv (c := q) (by omega)
                have hw2 := worth_le hv (c := k0) (by omega)
                refine V_icmp_le (tgt := 90) dX10_learn_84 rfl (fun h84 => ?_) (fun h84 => ?_)
                · have h84 : (worth (x_A X) q) ≤ (worth (x_A X) k0) := (nI_leI (by omega) (by omega)).mp h84
                  refine V_iinc (v := nI (q + 1)) (lv2 := [(5, .int (nI (q + 1))), (3, .int (nI k0)), (4, .int (nI j)), (2, .int (nI (tkTo (x_A X) j))), (0, .ref (b)), (1, .int (nI (iN i)))]) dX10_learn_90 0 rfl (nI_inc _) (by decide) rfl ?_
                  refine V_goto (tgt := 33) dX10_learn_93 rfl ?_
                  refine V_sub [0, 1, 2, 3, 4, 5] rfl ?_
                  exact M_at (ihi (by omega)) (by rw [lr_old (fun z => z.2.elim (fun y => by rw [hk0] at y; cases y) (fun y => by rw [hk0] at y; exact absurd (show worth (x_A X) k0 < worth (x_A X) q from y) (by omega))), hk0]; rfl) rfl (rfl) (rfl)
                · have h84 : ¬ (worth (x_A X) q) ≤ (worth (x_A X) k0) := fun q => h84 ((nI_leI (by omega) (by omega)).mpr q)
                  refine V_iload dX10_learn_87 0 rfl ?_
                  refine V_istore_n (lv2 := [(3, .int (nI q)), (5, .int (nI q)), (4, .int (nI j)), (2, .int (nI (tkTo (x_A X) j))), (0, .ref (b)), (1, .int (nI (iN i)))]) dX10_learn_89 rfl (by decide) rfl ?_
                  refine V_iinc (v := nI (q + 1)) (lv2 := [(5, .int (nI (q + 1))), (3, .int (nI q)), (4, .int (nI j)), (2, .int (nI (tkTo (x_A X) j))), (0, .ref (b)), (1, .int (nI (iN i)))]) dX10_learn_90 1 rfl (nI_inc _) (by decide) rfl ?_
                  refine V_goto (tgt := 33) dX10_learn_93 rfl ?_
                  refine V_sub [0, 1, 2, 3, 4, 5] rfl ?_
                  exact M_at (ihi (by omega)) (by rw [lr_new (by omega) (Or.inr (by rw [hk0]; show worth (x_A X) k0 < worth (x_A X) q; omega))]; rfl) rfl (rfl) (rfl)
        refine V_sub [0, 1, 2, 3, 4, 5] rfl ?_
        exact M_at (lp33 0 (Nat.zero_le _)) (rfl) rfl (rfl) (rfl)
    refine V_sub [0, 1, 2, 3, 4] rfl ?_
    exact M_at (lp22 0 (Nat.zero_le _)) (rfl) rfl (rfl) (rfl)
  · have h5 : ¬ (inR i (v_nc (x_A X))) := bI_eq0.mp h5
    refine V_aload_n (i := 0) dX10_learn_8 rfl 0 rfl ?_
    refine V_bipush (v := (-2)) dX10_learn_9 rfl ?_
    refine M_callVq (As := [.int ((-2))]) (st := []) dX10_learn_11 lv_X10_107 ⟨by decide, by decide⟩ ⟨rfl, rfl⟩ rfl (ci := 7) hb.1 rfl rfl (Nat.le_of_ble_eq_true rfl) (q_refuse hs hX hk (j := 0) (by decide)) (fun w11 iv11 lw11 q11 => ?_)
    obtain ⟨rfl, e1, hXr, hOr⟩ := q11
    subst e1
    refine V_iret dX10_learn_14 ⟨rfl, rfl⟩ (Nat.zero_le _) (Nat.zero_le _) ?_
    subst hQ
    exact ⟨_, _, _, rfl, rfl, by unfold o_learn; rw [if_neg h5]; exact ⟨rfl, hXr, hOr, Off.rf⟩⟩
