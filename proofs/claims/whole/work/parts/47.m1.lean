/-! the reference: what it holds -/
def MC (iv : IV) (b : Nat) (V : Cv) : Prop := (iv b 9 = nI (v_nc V) ∧ iv b 14 = nI (v_ne V) ∧ iv b 17 = nI (v_nm V) ∧ iv b 20 = nI (v_su V) ∧ iv b 21 = nI (v_lo V) ∧ iv b 22 = v_se V) ∧
  (∀ c, c < v_nc V → iv (b + 30) c = nI (v_sz V c) ∧ iv (b + 31) c = nI (v_us V c) ∧ iv (b + 32) c = nI (v_co V c)) ∧ (∀ c, c < v_nc V → ∀ i, i < v_sz V c → iv (b + 18 + c) i = nI (v_nt V c i)) ∧
  (∀ e, e < v_ne V → iv (b + 33) e = nI (v_kd V e) ∧ iv (b + 34) e = nI (v_by V e)) ∧ (∀ m, m < v_nm V → iv (b + 35) m = nI (v_eo V m) ∧ iv (b + 36) m = nI (v_lk V m))
theorem MC.nc {iv : IV} {b : Nat} {V : Cv} (h : MC iv b V) : iv b 9 = nI (v_nc V) := h.1.1
theorem MC.ne {iv : IV} {b : Nat} {V : Cv} (h : MC iv b V) : iv b 14 = nI (v_ne V) := h.1.2.1
theorem MC.nm {iv : IV} {b : Nat} {V : Cv} (h : MC iv b V) : iv b 17 = nI (v_nm V) := h.1.2.2.1
theorem MC.su {iv : IV} {b : Nat} {V : Cv} (h : MC iv b V) : iv b 20 = nI (v_su V) := h.1.2.2.2.1
theorem MC.lo {iv : IV} {b : Nat} {V : Cv} (h : MC iv b V) : iv b 21 = nI (v_lo V) := h.1.2.2.2.2.1
theorem MC.se {iv : IV} {b : Nat} {V : Cv} (h : MC iv b V) : iv b 22 = v_se V := h.1.2.2.2.2.2
theorem MC.sz {iv : IV} {b : Nat} {V : Cv} (h : MC iv b V) {c : Nat} (hc : c < v_nc V) : iv (b + 30) c = nI (v_sz V c) := (h.2.1 c hc).1
theorem MC.us {iv : IV} {b : Nat} {V : Cv} (h : MC iv b V) {c : Nat} (hc : c < v_nc V) : iv (b + 31) c = nI (v_us V c) := (h.2.1 c hc).2.1
theorem MC.co {iv : IV} {b : Nat} {V : Cv} (h : MC iv b V) {c : Nat} (hc : c < v_nc V) : iv (b + 32) c = nI (v_co V c) := (h.2.1 c hc).2.2
theorem MC.nt {iv : IV} {b : Nat} {V : Cv} (h : MC iv b V) {c i : Nat} (hc : c < v_nc V) (hi : i < v_sz V c) : iv (b + 18 + c) i = nI (v_nt V c i) := h.2.2.1 c hc i hi
theorem MC.kd {iv : IV} {b : Nat} {V : Cv} (h : MC iv b V) {e : Nat} (he : e < v_ne V) : iv (b + 33) e = nI (v_kd V e) := (h.2.2.2.1 e he).1
theorem MC.by {iv : IV} {b : Nat} {V : Cv} (h : MC iv b V) {e : Nat} (he : e < v_ne V) : iv (b + 34) e = nI (v_by V e) := (h.2.2.2.1 e he).2
theorem MC.eo {iv : IV} {b : Nat} {V : Cv} (h : MC iv b V) {m : Nat} (hm : m < v_nm V) : iv (b + 35) m = nI (v_eo V m) := (h.2.2.2.2 m hm).1
theorem MC.lk {iv : IV} {b : Nat} {V : Cv} (h : MC iv b V) {m : Nat} (hm : m < v_nm V) : iv (b + 36) m = nI (v_lk V m) := (h.2.2.2.2 m hm).2
theorem MC.fr {iv iv2 : IV} {b : Nat} {V : Cv} (h : MC iv b V) (hv : VOK V) (he : ∀ a k, (a = b ∧ (k = 9 ∨ k = 14 ∨ k = 17 ∨ k = 20 ∨ k = 21 ∨ k = 22)) ∨ (b + 18 ≤ a ∧ a ≤ b + 36) → iv2 a k = iv a k) : MC iv2 b V := by
  have hnc := hv.nc
  refine ⟨⟨?_, ?_, ?_, ?_, ?_, ?_⟩, fun c hc => ⟨?_, ?_, ?_⟩, fun c hc i hi => ?_, fun e hc => ⟨?_, ?_⟩, fun m hm => ⟨?_, ?_⟩⟩
  · rw [he _ _ (by omega)]; exact h.nc
  · rw [he _ _ (by omega)]; exact h.ne
  · rw [he _ _ (by omega)]; exact h.nm
  · rw [he _ _ (by omega)]; exact h.su
  · rw [he _ _ (by omega)]; exact h.lo
  · rw [he _ _ (by omega)]; exact h.se
  · rw [he _ _ (by omega)]; exact h.sz hc
  · rw [he _ _ (by omega)]; exact h.us hc
  · rw [he _ _ (by omega)]; exact h.co hc
  · rw [he _ _ (by omega)]; exact h.nt hc hi
  · rw [he _ _ (by omega)]; exact h.kd hc
  · rw [he _ _ (by omega)]; exact h.by hc
  · rw [he _ _ (by omega)]; exact h.eo hm
  · rw [he _ _ (by omega)]; exact h.lk hm
/-- only what helps has changed -/
def MA (b : Nat) (iv iv2 : IV) : Prop := ∀ a k, (a = b → k < 25) → (a < b + 37 ∨ b + 42 ≤ a) → iv2 a k = iv a k
theorem MA.rf {b : Nat} {iv : IV} : MA b iv iv := fun _ _ _ _ => rfl
theorem MA.tr {b : Nat} {iv iv2 iv3 : IV} (h : MA b iv iv2) (h2 : MA b iv2 iv3) : MA b iv iv3 := fun a k p q => (h2 a k p q).trans (h a k p q)
theorem up2_o {α : Type} {f : Nat → Nat → α} {a k q j : Nat} {v : α} (h : ¬ (q = a ∧ j = k)) : up2 f a k v q j = f q j := if_neg h
theorem MA.up {b a k : Nat} {iv iv2 : IV} {v : Int32} (h : MA b iv iv2) (hp : (a = b ∧ 25 ≤ k) ∨ (b + 37 ≤ a ∧ a < b + 42)) : MA b iv (up2 iv2 a k v) := fun q j p1 p2 => by
  have hne : ¬ (q = a ∧ j = k) := by
    rintro ⟨rfl, rfl⟩
    omega
  rw [up2_o hne]
  exact h q j p1 p2
theorem MA.off {b : Nat} {iv iv2 : IV} (h : MA b iv iv2) : Off b 42 iv iv2 := fun a ha => funext fun k => h a k (by omega) (by omega)
theorem MC.ma {iv iv2 : IV} {b : Nat} {V : Cv} (h : MC iv b V) (hv : VOK V) (hm : MA b iv iv2) : MC iv2 b V := h.fr hv (fun a k hk => hm a k (by omega) (by omega))
/-- the hearing of the reference -/
def MH (iv : IV) (lw : LW) (b : Nat) (H : Hv) : Prop := (H.1 ≤ 8 ∧ ∀ i, i < H.1 → H.2.2 i ≤ 9) ∧ iv b 33 = nI H.1 ∧ iv b 34 = bI (H.2.1 = true) ∧ ∀ i, i < H.1 → lw (b + 38) i = lN (H.2.2 i)
/-- the shelves -/
def sk (T : Sv) : Nat := if rowQ T then 1 else if earQ T then 2 else 0
theorem sk_c (T : Sv) : (rowQ T ∧ ¬ earQ T ∧ sk T = 1) ∨ (¬ rowQ T ∧ earQ T ∧ sk T = 2) ∨ (¬ rowQ T ∧ ¬ earQ T ∧ sk T = 0) := by
  unfold sk
  by_cases h : rowQ T
  · exact Or.inl ⟨h, by omega, if_pos h⟩
  · by_cases h2 : earQ T
    · exact Or.inr (Or.inl ⟨h, h2, by rw [if_neg h, if_pos h2]⟩)
    · exact Or.inr (Or.inr ⟨h, h2, by rw [if_neg h, if_neg h2]⟩)
def MS (iv : IV) (lw : LW) (b s : Nat) (T : Sv) : Prop := iv (b + 1) s = nI (sk T) ∧ (rowQ T → iv (b + 2) s = T.1 ∧ iv (b + 3) s = nI T.2.1 ∧ ∀ i, i < T.2.1 → lw (b + 5 + s) i = T.2.2 i) ∧ (earQ T → iv (b + 14) s = T.1 - nI 10)
def MT (iv : IV) (b n : Nat) (f : Nat → Nat) : Prop := iv b 7 = nI n ∧ ∀ i, i < n → iv (b + 15) i = nI (f i)
def MR (iv : IV) (b : Nat) (R : Nat → Int32) : Prop := ∀ j, j < 5 → iv (b + 16) (j + 2) = R j
def MK (S : St) (iv : IV) (b : Nat) (K : Option Cv) : Prop := (K = none → S.2 b 23 = none) ∧ ∀ V, K = some V → ∃ q, S.2 b 23 = some q ∧ b + 42 ≤ q ∧ MC iv q V
/-- the reference's cells, with what it made on the way -/
def SS (S : St) (b : Nat) : Prop := IsMod S b ∧ (∀ q, S.2 b 23 = some q → IsMod S q ∧ b + 42 ≤ q) ∧ (∀ t, S.2 b 24 = some t → IsMod S t ∧ b + 42 ≤ t) ∧ ∀ q t, S.2 b 23 = some q → S.2 b 24 = some t → q + 42 ≤ t ∨ t + 42 ≤ q
def MX (S : St) (iv : IV) (lw : LW) (b : Nat) (X : Xs) : Prop := MC iv b (x_A X) ∧ (∀ s, s < 8 → MS iv lw b s (x_T X s)) ∧ MT iv b (x_n X) (x_f X) ∧ MR iv b (x_R X) ∧ MK S iv b (x_K X)
/-- what is well formed (the class's side shows that it stays so) -/
def XOK (X : Xs) : Prop := VOK (x_A X) ∧ (∀ s, s < 8 → SOK (x_T X s)) ∧ earsOK X ∧ (x_n X ≤ 250 ∧ ∀ i, i < x_n X → x_f X i ≤ 255) ∧ ∀ K, x_K X = some K → VOK K
theorem CX.xok {iv : IV} {lw : LW} {X : Xs} (h : CX iv lw X) : XOK X := ⟨h.1.ok, fun s hs => (h.2.2.2.1 s hs).1, h.2.2.2.2.2.2, by obtain ⟨s, e, hT⟩ := h.2.2.2.2.1; exact hT.1.1, fun K hK => (h.2.2.1 K hK).ok⟩
theorem MS.fr {iv iv2 : IV} {lw lw2 : LW} {b s : Nat} {T : Sv} (h : MS iv lw b s T) (he : ∀ a, a = b + 1 ∨ a = b + 2 ∨ a = b + 3 ∨ a = b + 14 → iv2 a s = iv a s) (hl : lw2 (b + 5 + s) = lw (b + 5 + s)) : MS iv2 lw2 b s T := by
  obtain ⟨h1, h2, h3⟩ := h
  refine ⟨by rw [he _ (by omega)]; exact h1, fun q => ?_, fun q => by rw [he _ (by omega)]; exact h3 q⟩
  rw [he _ (by omega), he _ (by omega), hl]
  exact h2 q
theorem MT.fr {iv iv2 : IV} {b n : Nat} {f : Nat → Nat} (h : MT iv b n f) (h7 : iv2 b 7 = iv b 7) (h15 : ∀ k, iv2 (b + 15) k = iv (b + 15) k) : MT iv2 b n f := ⟨by rw [h7]; exact h.1, fun i hi => by rw [h15]; exact h.2 i hi⟩
theorem MR.fr {iv iv2 : IV} {b : Nat} {R : Nat → Int32} (h : MR iv b R) (h16 : ∀ k, iv2 (b + 16) k = iv (b + 16) k) : MR iv2 b R := fun j hj => by rw [h16]; exact h j hj
theorem MK.fr {S : St} {iv iv2 : IV} {b : Nat} {K : Option Cv} (h : MK S iv b K) (hK : ∀ V, K = some V → VOK V) (he : ∀ a k, b + 42 ≤ a → iv2 a k = iv a k) : MK S iv2 b K := ⟨h.1, fun V hV => by
  obtain ⟨q, h1, h2, h3⟩ := h.2 V hV
  exact ⟨q, h1, h2, h3.fr (hK V hV) (fun a k _ => he a k (by omega))⟩⟩
theorem MX.ma {S : St} {iv iv2 : IV} {lw lw2 : LW} {b : Nat} {X : Xs} (h : MX S iv lw b X) (hk : XOK X) (hm : MA b iv iv2) (hl : Off (b + 38) 1 lw lw2) : MX S iv2 lw2 b X :=
  ⟨h.1.ma hk.1 hm, fun s hs => (h.2.1 s hs).fr (fun a ha => hm a s (by omega) (by omega)) (hl _ (by omega)), h.2.2.1.fr (hm _ _ (by omega) (by omega)) (fun k => hm _ _ (by omega) (by omega)), h.2.2.2.1.fr (fun k => hm _ _ (by omega) (by omega)), h.2.2.2.2.fr hk.2.2.2.2 (fun a k ha => hm _ _ (by omega) (by omega))⟩
theorem MX.rf {S : St} {iv : IV} {lw : LW} {b j : Nat} {X : Xs} (h : MX S iv lw b X) (hk : XOK X) (hj : j < 5) : MX S (up2 iv (b + 16) (j + 2) (iv (b + 16) (j + 2) + nI 1)) lw b (x_rf X j) := by
  refine ⟨h.1.fr hk.1 (fun a k ha => up2_ne (by omega)), fun s hs => (h.2.1 s hs).fr (fun a ha => up2_ne (by omega)) rfl, h.2.2.1.fr (up2_ne (by omega)) (fun k => up2_ne (by omega)), fun i hi => ?_, h.2.2.2.2.fr hk.2.2.2.2 (fun a k ha => up2_ne (by omega))⟩
  show up2 _ _ _ _ _ _ = (if i = j then X.2.2.2.2 i + nI 1 else X.2.2.2.2 i)
  by_cases q : i = j
  · subst q; rw [up2_s, if_pos rfl]; exact congrArg (· + nI 1) (h.2.2.2.1 i hi)
  · rw [up2_k (by omega), if_neg q]; exact h.2.2.2.1 i hi
/-- only the camp has changed -/
def MB (b : Nat) (iv iv2 : IV) : Prop := ∀ a k, (a = b → ¬ k = 9 ∧ ¬ k = 14 ∧ ¬ k = 17 ∧ ¬ k = 20 ∧ ¬ k = 21 ∧ ¬ k = 22 ∧ k < 25) → (a < b + 18 ∨ b + 42 ≤ a) → iv2 a k = iv a k
theorem MB.rf {b : Nat} {iv : IV} : MB b iv iv := fun _ _ _ _ => rfl
theorem MB.tr {b : Nat} {iv iv2 iv3 : IV} (h : MB b iv iv2) (h2 : MB b iv2 iv3) : MB b iv iv3 := fun a k p q => (h2 a k p q).trans (h a k p q)
theorem MB.up {b a k : Nat} {iv iv2 : IV} {v : Int32} (h : MB b iv iv2) (hp : (a = b ∧ (k = 9 ∨ k = 14 ∨ k = 17 ∨ k = 20 ∨ k = 21 ∨ k = 22 ∨ 25 ≤ k)) ∨ (b + 18 ≤ a ∧ a < b + 42)) : MB b iv (up2 iv2 a k v) := fun q j p1 p2 => by
  have hne : ¬ (q = a ∧ j = k) := by
    rintro ⟨rfl, rfl⟩
    omega
  rw [up2_o hne]
  exact h q j p1 p2
theorem MB.off {b : Nat} {iv iv2 : IV} (h : MB b iv iv2) : Off b 42 iv iv2 := fun a ha => funext fun k => h a k (by omega) (by omega)
theorem MA.mb {b : Nat} {iv iv2 : IV} (h : MA b iv iv2) : MB b iv iv2 := fun a k p q => h a k (fun e => (p e).2.2.2.2.2.2) (by omega)
theorem MX.now {S : St} {iv iv2 : IV} {lw lw2 : LW} {b : Nat} {X : Xs} {A : Cv} (h : MX S iv lw b X) (hk : XOK X) (hA : MC iv2 b A) (hm : MB b iv iv2) (hl : Off (b + 38) 1 lw lw2) : MX S iv2 lw2 b (x_sA X A) :=
  ⟨hA, fun s hs => (h.2.1 s hs).fr (fun a ha => hm a s (by omega) (by omega)) (hl _ (by omega)), h.2.2.1.fr (hm _ _ (by omega) (by omega)) (fun k => hm _ _ (by omega) (by omega)), h.2.2.2.1.fr (fun k => hm _ _ (by omega) (by omega)), h.2.2.2.2.fr hk.2.2.2.2 (fun a k ha => hm _ _ (by omega) (by omega))⟩
theorem MX.shelf {S : St} {iv iv2 : IV} {lw lw2 : LW} {b j : Nat} {X : Xs} {T : Sv} (h : MX S iv lw b X) (hk : XOK X) (hj : j < 8) (hT : MS iv2 lw2 b j T) (ho : ∀ a k, (¬ a = b + 1 ∧ ¬ a = b + 2 ∧ ¬ a = b + 3 ∧ ¬ a = b + 14) ∨ ¬ k = j → iv2 a k = iv a k) (hl : ∀ a, ¬ a = b + 5 + j → ¬ a = b + 38 → lw2 a = lw a) : MX S iv2 lw2 b (x_sT X j T) := by
  refine ⟨h.1.fr hk.1 (fun a k ha => ho a k (by omega)), fun s hs => ?_, h.2.2.1.fr (ho _ _ (by omega)) (fun k => ho _ _ (by omega)), h.2.2.2.1.fr (fun k => ho _ _ (by omega)), h.2.2.2.2.fr hk.2.2.2.2 (fun a k ha => ho _ _ (by omega))⟩
  show MS iv2 lw2 b s (if s = j then T else x_T X s)
  by_cases q : s = j
  · subst q; rw [if_pos rfl]; exact hT
  · rw [if_neg q]; exact (h.2.1 s hs).fr (fun a ha => ho a s (by omega)) (hl _ (by omega) (by omega))
theorem MX.tape {S : St} {iv iv2 : IV} {lw : LW} {b n : Nat} {X : Xs} {f : Nat → Nat} (h : MX S iv lw b X) (hk : XOK X) (hT : MT iv2 b n f) (ho : ∀ a k, (a = b → ¬ k = 7) → ¬ a = b + 15 → iv2 a k = iv a k) : MX S iv2 lw b (x_sP X n f) :=
  ⟨h.1.fr hk.1 (fun a k ha => ho a k (by omega) (by omega)), fun s hs => (h.2.1 s hs).fr (fun a ha => ho a s (by omega) (by omega)) rfl, hT, h.2.2.2.1.fr (fun k => ho _ _ (by omega) (by omega)), h.2.2.2.2.fr hk.2.2.2.2 (fun a k ha => ho _ _ (by omega) (by omega))⟩
def MP (S : St) (b : Nat) (iv : IV) (lw : LW) (r : Ans) (w : Value) (iv2 : IV) (lw2 : LW) : Prop := w = .int r.1 ∧ MX S iv2 lw2 b r.2 ∧ Off b 42 iv iv2 ∧ Off b 42 lw lw2
theorem MP.same {S : St} {b : Nat} {iv : IV} {lw : LW} {X : Xs} {x : Int32} (h : MX S iv lw b X) : MP S b iv lw (x, X) (.int x) iv lw := ⟨rfl, h, Off.rf, Off.rf⟩
theorem MP.ma {S : St} {b : Nat} {iv iv2 : IV} {lw lw2 : LW} {X : Xs} {x : Int32} (h : MX S iv lw b X) (hk : XOK X) (hm : MA b iv iv2) (hl : Off (b + 38) 1 lw lw2) : MP S b iv lw (x, X) (.int x) iv2 lw2 := ⟨rfl, h.ma hk hm hl, hm.off, hl.wide (by omega) (by omega)⟩
theorem rowAddL {lw2 : LW} {a j : Nat} {f : Nat → Int64} {v : Int64} (h : ∀ i, i < j → lw2 a i = f i) (hv : v = f j) : ∀ i, i < j + 1 → up2 lw2 a j v a i = f i := fun i hi => by
  by_cases e : i = j
  · subst e; rw [up2_s, hv]
  · rw [up2_k e]; exact h i (by omega)
theorem usF_pos {V : Cv} {H : Hv} {e c : Nat} (hv : VOK V) (hc : c < v_nc V) (h : fitB V H e c = true) : 0 < usF V H e := by
  unfold usF
  have hu := hv.us1 hc
  have : ∀ n, c < n → 0 < sumTo (fun c => if fitB V H e c = true then v_us V c else 0) n := by
    intro n
    induction n with
    | zero => intro q; omega
    | succ n ih =>
      intro q
      show 0 < sumTo (fun c => if fitB V H e c = true then v_us V c else 0) n + (if fitB V H e n = true then v_us V n else 0)
      by_cases e9 : c = n
      · subst e9; rw [if_pos h]; omega
      · have := ih (by omega); omega
  exact this _ hc
theorem gs_us {V : Cv} {H : Hv} {e n k : Nat} (h : gsTo V H e n = some k) : usO V (gsTo V H e n) = v_us V k := by rw [h]; rfl
theorem n64 {k : Nat} (h : k ≤ 1000) : (nI k).toInt64 = lN k := by
  apply Int64.toInt_inj.mp
  rw [i64, nI_toInt (by omega), lN_toInt (by omega)]
set_option maxRecDepth 20000 in
theorem r_in {g : Ev} {S : St} {iv : IV} {lw : LW} {v lo hi : Int64} : CP g mX10_in [.long (v), .long (lo), .long (hi)] S iv lw (.int (bI (lo.toInt ≤ v.toInt ∧ v.toInt ≤ hi.toInt))) := by
  refine CT_ofQ rfl (by decide) (Nat.le_of_ble_eq_true rfl) (lv := [(0, .long (v)), (2, .long (lo)), (4, .long (hi))]) rfl (fun Q hQ => ?_)
  refine V_lload_n (i := 0) dX10_in_0 rfl 0 rfl ?_
  refine V_lload_n (i := 2) dX10_in_1 rfl 1 rfl ?_
  refine V_lcmp dX10_in_2 ?_
  refine V_if_lt (tgt := 17) dX10_in_3 rfl (fun h3 => ?_) (fun h3 => ?_)
  · have h3 : v.toInt < lo.toInt := by have q := lg_lt.mp h3; exact q
    refine V_iconst (v := nI 0) dX10_in_17 rfl ?_
    refine V_zret dX10_in_18 ⟨rfl, rfl⟩ (by rfl) (Nat.zero_le _) (Nat.zero_le _) ?_
    subst hQ
    exact ⟨by rw [bI_f (by omega)], rfl⟩
  · have h3 : ¬ v.toInt < lo.toInt := fun r => h3 (lg_lt.mpr (by exact r))
    refine V_lload_n (i := 0) dX10_in_6 rfl 0 rfl ?_
    refine V_lload dX10_in_7 2 rfl ?_
    refine V_lcmp dX10_in_9 ?_
    refine V_if_gt (tgt := 17) dX10_in_10 rfl (fun h10 => ?_) (fun h10 => ?_)
    · have h10 : hi.toInt < v.toInt := by have q := lg_gt.mp h10; exact q
      refine V_iconst (v := nI 0) dX10_in_17 rfl ?_
      refine V_zret dX10_in_18 ⟨rfl, rfl⟩ (by rfl) (Nat.zero_le _) (Nat.zero_le _) ?_
      subst hQ
      exact ⟨by rw [bI_f (by omega)], rfl⟩
    · have h10 : ¬ hi.toInt < v.toInt := fun r => h10 (lg_gt.mpr (by exact r))
      refine V_iconst (v := nI 1) dX10_in_13 rfl ?_
      refine V_goto (tgt := 18) dX10_in_14 rfl ?_
      refine V_zret dX10_in_18 ⟨rfl, rfl⟩ (by rfl) (Nat.zero_le _) (Nat.zero_le _) ?_
      subst hQ
      exact ⟨by rw [bI_t (by omega)], rfl⟩
theorem r_inK {g : Ev} {S : St} {iv : IV} {lw : LW} {v : Int32} {lo hi : Nat} (h1 : lo < 2 ^ 31) (h2 : hi < 2 ^ 31) : CP g mX10_in [.long v.toInt64, .long (lN lo), .long (lN hi)] S iv lw (.int (bI ((lo : Int) ≤ v.toInt ∧ v.toInt ≤ (hi : Int)))) := r_in.eq (congrArg Value.int (bI_congr (by rw [i64, lN_toInt h1, lN_toInt h2])))
theorem r_in8 {g : Ev} {S : St} {iv : IV} {lw : LW} {v : Int32} : CP g mX10_in [.long v.toInt64, .long (lN 0), .long (lN 7)] S iv lw (.int (bI (inR v 8))) := (r_inK (by decide) (by decide)).eq (congrArg Value.int (bI_congr (by unfold inR; omega)))
theorem r_inN {g : Ev} {S : St} {iv : IV} {lw : LW} {v : Int32} {m : Nat} (hm : m ≤ 1000) : CP g mX10_in [.long v.toInt64, .long (lN 0), .long ((nI m - nI 1).toInt64)] S iv lw (.int (bI (inR v m))) := r_in.eq (congrArg Value.int (bI_congr (by
  rw [i64, i64, lN_toInt (by decide), pk_sub_toInt (by omega) (by omega)]
  unfold inR
  omega)))
theorem r_inL {g : Ev} {S : St} {iv : IV} {lw : LW} {v : Int64} : CP g mX10_in [.long v, .long (lN 0), .long (lN 4)] S iv lw (.int (bI (ntQ v))) := r_in.eq (congrArg Value.int (bI_congr (by rw [lN_toInt (by decide), lN_toInt (by decide)]; exact Iff.rfl)))
set_option maxRecDepth 20000 in
theorem r_isCall {g : Ev} {S : St} {iv : IV} {lw : LW} {b : Nat} (hb : IsMod S b) {V : Cv} (hV : MC iv b V) (hv : VOK V) {c : Int32} : CP g mX10_isCall [.ref (b), .int (c)] S iv lw (.int (bI (inR c (v_nc V)))) := by
  refine CT_ofQ rfl (by decide) (Nat.le_of_ble_eq_true rfl) (lv := [(0, .ref (b)), (1, .int (c))]) rfl (fun Q hQ => ?_)
  have hnc := hv.nc
  have hne := hv.ne
  have hnm := hv.nm
  refine V_iload_n (i := 1) dX10_isCall_0 rfl 1 rfl ?_
  refine V_i2l dX10_isCall_1 ?_
  refine V_lconst (v := lN 0) dX10_isCall_2 rfl ?_
  refine V_aload_n (i := 0) dX10_isCall_3 rfl 0 rfl ?_
  refine M_getI (x := nI (v_nc V)) dX10_isCall_4 lf_X10_88 rfl hb.1 (hV.nc) ?_
  refine V_iconst (v := nI 1) dX10_isCall_7 rfl ?_
  refine V_isub dX10_isCall_8 ?_
  refine V_i2l dX10_isCall_9 ?_
  refine M_callSp (As := [.long ((c).toInt64), .long (lN 0), .long (((nI (v_nc V) - nI 1)).toInt64)]) (st := []) dX10_isCall_10 ls_X10_91 ⟨by decide, by decide⟩ ⟨rfl, rfl⟩ rfl (Nat.le_of_ble_eq_true rfl) (r_inN (by omega)) ?_
  refine V_zret dX10_isCall_13 ⟨rfl, rfl⟩ (bI_nar) (Nat.zero_le _) (Nat.zero_le _) ?_
  subst hQ
  exact ⟨rfl, rfl⟩
set_option maxRecDepth 20000 in
theorem r_isEar {g : Ev} {S : St} {iv : IV} {lw : LW} {b : Nat} (hb : IsMod S b) {V : Cv} (hV : MC iv b V) (hv : VOK V) {c : Int32} : CP g mX10_isEar [.ref (b), .int (c)] S iv lw (.int (bI (inR c (v_ne V)))) := by
  refine CT_ofQ rfl (by decide) (Nat.le_of_ble_eq_true rfl) (lv := [(0, .ref (b)), (1, .int (c))]) rfl (fun Q hQ => ?_)
  have hnc := hv.nc
  have hne := hv.ne
  have hnm := hv.nm
  refine V_iload_n (i := 1) dX10_isEar_0 rfl 1 rfl ?_
  refine V_i2l dX10_isEar_1 ?_
  refine V_lconst (v := lN 0) dX10_isEar_2 rfl ?_
  refine V_aload_n (i := 0) dX10_isEar_3 rfl 0 rfl ?_
  refine M_getI (x := nI (v_ne V)) dX10_isEar_4 lf_X10_95 rfl hb.1 (hV.ne) ?_
  refine V_iconst (v := nI 1) dX10_isEar_7 rfl ?_
  refine V_isub dX10_isEar_8 ?_
  refine V_i2l dX10_isEar_9 ?_
  refine M_callSp (As := [.long ((c).toInt64), .long (lN 0), .long (((nI (v_ne V) - nI 1)).toInt64)]) (st := []) dX10_isEar_10 ls_X10_91 ⟨by decide, by decide⟩ ⟨rfl, rfl⟩ rfl (Nat.le_of_ble_eq_true rfl) (r_inN (by omega)) ?_
  refine V_zret dX10_isEar_13 ⟨rfl, rfl⟩ (bI_nar) (Nat.zero_le _) (Nat.zero_le _) ?_
  subst hQ
  exact ⟨rfl, rfl⟩
set_option maxRecDepth 20000 in
theorem r_isMan {g : Ev} {S : St} {iv : IV} {lw : LW} {b : Nat} (hb : IsMod S b) {V : Cv} (hV : MC iv b V) (hv : VOK V) {c : Int32} : CP g mX10_isMan [.ref (b), .int (c)] S iv lw (.int (bI (inR c (v_nm V)))) := by
  refine CT_ofQ rfl (by decide) (Nat.le_of_ble_eq_true rfl) (lv := [(0, .ref (b)), (1, .int (c))]) rfl (fun Q hQ => ?_)
  have hnc := hv.nc
  have hne := hv.ne
  have hnm := hv.nm
  refine V_iload_n (i := 1) dX10_isMan_0 rfl 1 rfl ?_
  refine V_i2l dX10_isMan_1 ?_
  refine V_lconst (v := lN 0) dX10_isMan_2 rfl ?_
  refine V_aload_n (i := 0) dX10_isMan_3 rfl 0 rfl ?_
  refine M_getI (x := nI (v_nm V)) dX10_isMan_4 lf_X10_98 rfl hb.1 (hV.nm) ?_
  refine V_iconst (v := nI 1) dX10_isMan_7 rfl ?_
  refine V_isub dX10_isMan_8 ?_
  refine V_i2l dX10_isMan_9 ?_
  refine M_callSp (As := [.long ((c).toInt64), .long (lN 0), .long (((nI (v_nm V) - nI 1)).toInt64)]) (st := []) dX10_isMan_10 ls_X10_91 ⟨by decide, by decide⟩ ⟨rfl, rfl⟩ rfl (Nat.le_of_ble_eq_true rfl) (r_inN (by omega)) ?_
  refine V_zret dX10_isMan_13 ⟨rfl, rfl⟩ (bI_nar) (Nat.zero_le _) (Nat.zero_le _) ?_
  subst hQ
  exact ⟨rfl, rfl⟩
set_option maxRecDepth 20000 in
theorem r_has {g : Ev} {S : St} {iv : IV} {lw : LW} {t c : Nat} (ht : t < 2 ^ 31) (hc : c < 31) : CP g mX10_has [.int (nI t), .int (nI c)] S iv lw (.int (bI (t.testBit c = true))) := by
  refine CT_ofQ rfl (by decide) (Nat.le_of_ble_eq_true rfl) (lv := [(0, .int (nI t)), (1, .int (nI c))]) rfl (fun Q hQ => ?_)
  refine V_iload_n (i := 0) dX10_has_0 rfl 0 rfl ?_
  refine V_iload_n (i := 1) dX10_has_1 rfl 1 rfl ?_
  refine V_ishr dX10_has_2 ?_
  refine M_top (x2 := nI (t / 2 ^ c)) (nI_shr (by omega) (by omega)) ?_
  refine V_iconst (v := nI 1) dX10_has_3 rfl ?_
  refine V_iand dX10_has_4 ?_
  refine M_top (x2 := nI (t / 2 ^ c &&& 1)) (nI_and _ _) ?_
  have hb1 : t / 2 ^ c &&& 1 ≤ 1 := Nat.and_le_right
  refine V_if_eq (tgt := 12) dX10_has_5 rfl (fun h5 => ?_) (fun h5 => ?_)
  · have h5 : (t / 2 ^ c &&& 1) = 0 := (nI_eq (b := 0) (Nat.lt_of_le_of_lt hb1 (by decide)) (by omega)).mp h5
    refine V_iconst (v := nI 0) dX10_has_12 rfl ?_
    refine V_zret dX10_has_13 ⟨rfl, rfl⟩ (by rfl) (Nat.zero_le _) (Nat.zero_le _) ?_
    subst hQ
    exact ⟨by rw [bI_f (by rw [tb_q, h5]; decide)], rfl⟩
  · have h5 : ¬ (t / 2 ^ c &&& 1) = 0 := fun q => h5 ((nI_eq (b := 0) (Nat.lt_of_le_of_lt hb1 (by decide)) (by omega)).mpr q)
    refine V_iconst (v := nI 1) dX10_has_8 rfl ?_
    refine V_goto (tgt := 13) dX10_has_9 rfl ?_
    refine V_zret dX10_has_13 ⟨rfl, rfl⟩ (by rfl) (Nat.zero_le _) (Nat.zero_le _) ?_
    subst hQ
    exact ⟨by rw [bI_t (by rw [tb_q]; exact decide_eq_true (by omega))], rfl⟩
set_option maxRecDepth 20000 in
theorem r_refuse_0 {g : Ev} {S : St} {iv : IV} {lw : LW} {b : Nat} (hb : IsMod S b) : CQ g mX10_refuse [.ref (b), .int ((-2))] S iv lw (fun w iv2 lw2 => w = .int (-2) ∧ lw = lw2 ∧ iv2 = up2 iv (b + 16) 2 (iv (b + 16) 2 + nI 1)) := by
  refine CT_ofQ rfl (by decide) (Nat.le_of_ble_eq_true rfl) (lv := [(0, .ref (b)), (1, .int ((-2)))]) rfl (fun Q hQ => ?_)
  refine V_aload_n (i := 0) dX10_refuse_0 rfl 0 rfl ?_
  refine M_getR dX10_refuse_1 lf_X10_34 rfl hb.1 hb.2.2.2.2.2.2.2.2.1.1 ?_
  refine V_iload_n (i := 1) dX10_refuse_4 rfl 1 rfl ?_
  refine V_ineg dX10_refuse_5 ?_
  refine M_top (x2 := nI 2) (by decide) ?_
  refine V_dup2_11 dX10_refuse_6 rfl rfl ?_
  refine M_ialdn (j := 2) (x := iv (b + 16) 2) dX10_refuse_7 hb.2.2.2.2.2.2.2.2.1.2 (by decide) (by omega) (rfl) ?_
  refine V_iconst (v := nI 1) dX10_refuse_8 rfl ?_
  refine V_iadd dX10_refuse_9 ?_
  refine M_iastn (j := 2) dX10_refuse_10 hb.2.2.2.2.2.2.2.2.1.2 (by decide) (by omega) ?_
  refine V_iload_n (i := 1) dX10_refuse_11 rfl 1 rfl ?_
  refine V_iret dX10_refuse_12 ⟨rfl, rfl⟩ (Nat.zero_le _) (Nat.zero_le _) ?_
  subst hQ
  exact ⟨_, _, _, rfl, rfl, rfl, rfl, rfl⟩
set_option maxRecDepth 20000 in
theorem r_refuse_1 {g : Ev} {S : St} {iv : IV} {lw : LW} {b : Nat} (hb : IsMod S b) : CQ g mX10_refuse [.ref (b), .int ((-3))] S iv lw (fun w iv2 lw2 => w = .int (-3) ∧ lw = lw2 ∧ iv2 = up2 iv (b + 16) 3 (iv (b + 16) 3 + nI 1)) := by
  refine CT_ofQ rfl (by decide) (Nat.le_of_ble_eq_true rfl) (lv := [(0, .ref (b)), (1, .int ((-3)))]) rfl (fun Q hQ => ?_)
  refine V_aload_n (i := 0) dX10_refuse_0 rfl 0 rfl ?_
  refine M_getR dX10_refuse_1 lf_X10_34 rfl hb.1 hb.2.2.2.2.2.2.2.2.1.1 ?_
  refine V_iload_n (i := 1) dX10_refuse_4 rfl 1 rfl ?_
  refine V_ineg dX10_refuse_5 ?_
  refine M_top (x2 := nI 3) (by decide) ?_
  refine V_dup2_11 dX10_refuse_6 rfl rfl ?_
  refine M_ialdn (j := 3) (x := iv (b + 16) 3) dX10_refuse_7 hb.2.2.2.2.2.2.2.2.1.2 (by decide) (by omega) (rfl) ?_
  refine V_iconst (v := nI 1) dX10_refuse_8 rfl ?_
  refine V_iadd dX10_refuse_9 ?_
  refine M_iastn (j := 3) dX10_refuse_10 hb.2.2.2.2.2.2.2.2.1.2 (by decide) (by omega) ?_
  refine V_iload_n (i := 1) dX10_refuse_11 rfl 1 rfl ?_
  refine V_iret dX10_refuse_12 ⟨rfl, rfl⟩ (Nat.zero_le _) (Nat.zero_le _) ?_
  subst hQ
  exact ⟨_, _, _, rfl, rfl, rfl, rfl, rfl⟩
set_option maxRecDepth 20000 in
theorem r_refuse_2 {g : Ev} {S : St} {iv : IV} {lw : LW} {b : Nat} (hb : IsMod S b) : CQ g mX10_refuse [.ref (b), .int ((-4))] S iv lw (fun w iv2 lw2 => w = .int (-4) ∧ lw = lw2 ∧ iv2 = up2 iv (b + 16) 4 (iv (b + 16) 4 + nI 1)) := by
  refine CT_ofQ rfl (by decide) (Nat.le_of_ble_eq_true rfl) (lv := [(0, .ref (b)), (1, .int ((-4)))]) rfl (fun Q hQ => ?_)
  refine V_aload_n (i := 0) dX10_refuse_0 rfl 0 rfl ?_
  refine M_getR dX10_refuse_1 lf_X10_34 rfl hb.1 hb.2.2.2.2.2.2.2.2.1.1 ?_
  refine V_iload_n (i := 1) dX10_refuse_4 rfl 1 rfl ?_
  refine V_ineg dX10_refuse_5 ?_
  refine M_top (x2 := nI 4) (by decide) ?_
  refine V_dup2_11 dX10_refuse_6 rfl rfl ?_
  refine M_ialdn (j := 4) (x := iv (b + 16) 4) dX10_refuse_7 hb.2.2.2.2.2.2.2.2.1.2 (by decide) (by omega) (rfl) ?_
  refine V_iconst (v := nI 1) dX10_refuse_8 rfl ?_
  refine V_iadd dX10_refuse_9 ?_
  refine M_iastn (j := 4) dX10_refuse_10 hb.2.2.2.2.2.2.2.2.1.2 (by decide) (by omega) ?_
  refine V_iload_n (i := 1) dX10_refuse_11 rfl 1 rfl ?_
  refine V_iret dX10_refuse_12 ⟨rfl, rfl⟩ (Nat.zero_le _) (Nat.zero_le _) ?_
  subst hQ
  exact ⟨_, _, _, rfl, rfl, rfl, rfl, rfl⟩
set_option maxRecDepth 20000 in
theorem r_refuse_3 {g : Ev} {S : St} {iv : IV} {lw : LW} {b : Nat} (hb : IsMod S b) : CQ g mX10_refuse [.ref (b), .int ((-5))] S iv lw (fun w iv2 lw2 => w = .int (-5) ∧ lw = lw2 ∧ iv2 = up2 iv (b + 16) 5 (iv (b + 16) 5 + nI 1)) := by
  refine CT_ofQ rfl (by decide) (Nat.le_of_ble_eq_true rfl) (lv := [(0, .ref (b)), (1, .int ((-5)))]) rfl (fun Q hQ => ?_)
  refine V_aload_n (i := 0) dX10_refuse_0 rfl 0 rfl ?_
  refine M_getR dX10_refuse_1 lf_X10_34 rfl hb.1 hb.2.2.2.2.2.2.2.2.1.1 ?_
  refine V_iload_n (i := 1) dX10_refuse_4 rfl 1 rfl ?_
  refine V_ineg dX10_refuse_5 ?_
  refine M_top (x2 := nI 5) (by decide) ?_
  refine V_dup2_11 dX10_refuse_6 rfl rfl ?_
  refine M_ialdn (j := 5) (x := iv (b + 16) 5) dX10_refuse_7 hb.2.2.2.2.2.2.2.2.1.2 (by decide) (by omega) (rfl) ?_
  refine V_iconst (v := nI 1) dX10_refuse_8 rfl ?_
  refine V_iadd dX10_refuse_9 ?_
  refine M_iastn (j := 5) dX10_refuse_10 hb.2.2.2.2.2.2.2.2.1.2 (by decide) (by omega) ?_
  refine V_iload_n (i := 1) dX10_refuse_11 rfl 1 rfl ?_
  refine V_iret dX10_refuse_12 ⟨rfl, rfl⟩ (Nat.zero_le _) (Nat.zero_le _) ?_
  subst hQ
  exact ⟨_, _, _, rfl, rfl, rfl, rfl, rfl⟩
set_option maxRecDepth 20000 in
theorem r_refuse_4 {g : Ev} {S : St} {iv : IV} {lw : LW} {b : Nat} (hb : IsMod S b) : CQ g mX10_refuse [.ref (b), .int ((-6))] S iv lw (fun w iv2 lw2 => w = .int (-6) ∧ lw = lw2 ∧ iv2 = up2 iv (b + 16) 6 (iv (b + 16) 6 + nI 1)) := by
  refine CT_ofQ rfl (by decide) (Nat.le_of_ble_eq_true rfl) (lv := [(0, .ref (b)), (1, .int ((-6)))]) rfl (fun Q hQ => ?_)
  refine V_aload_n (i := 0) dX10_refuse_0 rfl 0 rfl ?_
  refine M_getR dX10_refuse_1 lf_X10_34 rfl hb.1 hb.2.2.2.2.2.2.2.2.1.1 ?_
  refine V_iload_n (i := 1) dX10_refuse_4 rfl 1 rfl ?_
  refine V_ineg dX10_refuse_5 ?_
  refine M_top (x2 := nI 6) (by decide) ?_
  refine V_dup2_11 dX10_refuse_6 rfl rfl ?_
  refine M_ialdn (j := 6) (x := iv (b + 16) 6) dX10_refuse_7 hb.2.2.2.2.2.2.2.2.1.2 (by decide) (by omega) (rfl) ?_
  refine V_iconst (v := nI 1) dX10_refuse_8 rfl ?_
  refine V_iadd dX10_refuse_9 ?_
  refine M_iastn (j := 6) dX10_refuse_10 hb.2.2.2.2.2.2.2.2.1.2 (by decide) (by omega) ?_
  refine V_iload_n (i := 1) dX10_refuse_11 rfl 1 rfl ?_
  refine V_iret dX10_refuse_12 ⟨rfl, rfl⟩ (Nat.zero_le _) (Nat.zero_le _) ?_
  subst hQ
  exact ⟨_, _, _, rfl, rfl, rfl, rfl, rfl⟩
theorem q_refuse {g : Ev} {S : St} {iv : IV} {lw : LW} {b : Nat} (hs : SS S b) {X : Xs} (hX : MX S iv lw b X) (hk : XOK X) {j : Nat} (hj : j < 5) : CQ g mX10_refuse [.ref b, .int (wy j)] S iv lw (fun w iv2 lw2 => w = .int (wy j) ∧ lw = lw2 ∧ MX S iv2 lw b (x_rf X j) ∧ Off b 42 iv iv2) := by
  have h : CQ g mX10_refuse [.ref b, .int (wy j)] S iv lw (fun w iv2 lw2 => w = .int (wy j) ∧ lw = lw2 ∧ iv2 = up2 iv (b + 16) (j + 2) (iv (b + 16) (j + 2) + nI 1)) := by
    have : j = 0 ∨ j = 1 ∨ j = 2 ∨ j = 3 ∨ j = 4 := by omega
    rcases this with rfl | rfl | rfl | rfl | rfl
    · exact r_refuse_0 hs.1
    · exact r_refuse_1 hs.1
    · exact r_refuse_2 hs.1
    · exact r_refuse_3 hs.1
    · exact r_refuse_4 hs.1
  refine h.mono fun w iv2 lw2 q => ?_
  obtain ⟨q1, q2, q3⟩ := q
  subst q3
  exact ⟨q1, q2, hX.rf hk hj, Off.rf.up (by omega) (by omega)⟩
set_option maxRecDepth 20000 in
theorem r_fit {g : Ev} {S : St} {iv : IV} {lw : LW} {c : Int32} {v : Int64} (hc : 0 ≤ c.toInt ∧ c.toInt < 5) : CP g mX10_fit [.int (c), .long (v)] S iv lw (.long (fitL c v)) := by
  refine CT_ofQ rfl (by decide) (Nat.le_of_ble_eq_true rfl) (lv := [(0, .int (c)), (1, .long (v))]) rfl (fun Q hQ => ?_)
  refine V_iload_n (i := 0) dX10_fit_0 rfl 0 rfl ?_
  by_cases hs1_0 : c.toInt = 0
  · refine V_tabIn (v := 0) (tgt := 32) dX10_fit_1 (by exact hs1_0) (by decide) rfl rfl ?_
    refine V_lload_n (i := 1) dX10_fit_32 rfl 1 rfl ?_
    refine V_l2i dX10_fit_33 ?_
    refine V_i2b dX10_fit_34 ?_
    refine V_i2l dX10_fit_35 ?_
    refine V_lret dX10_fit_36 ⟨rfl, rfl⟩ (Nat.zero_le _) (Nat.zero_le _) ?_
    subst hQ
    exact ⟨by unfold fitL; rw [if_pos (by omega)], rfl⟩
  by_cases hs1_1 : c.toInt = 1
  · refine V_tabIn (v := 1) (tgt := 37) dX10_fit_1 (by exact hs1_1) (by decide) rfl rfl ?_
    refine V_lload_n (i := 1) dX10_fit_37 rfl 1 rfl ?_
    refine V_l2i dX10_fit_38 ?_
    refine V_i2s dX10_fit_39 ?_
    refine V_i2l dX10_fit_40 ?_
    refine V_lret dX10_fit_41 ⟨rfl, rfl⟩ (Nat.zero_le _) (Nat.zero_le _) ?_
    subst hQ
    exact ⟨by unfold fitL; rw [if_neg (by omega), if_pos (by omega)], rfl⟩
  by_cases hs1_2 : c.toInt = 2
  · refine V_tabIn (v := 2) (tgt := 42) dX10_fit_1 (by exact hs1_2) (by decide) rfl rfl ?_
    refine V_lload_n (i := 1) dX10_fit_42 rfl 1 rfl ?_
    refine V_l2i dX10_fit_43 ?_
    refine V_i2l dX10_fit_44 ?_
    refine V_lret dX10_fit_45 ⟨rfl, rfl⟩ (Nat.zero_le _) (Nat.zero_le _) ?_
    subst hQ
    exact ⟨by unfold fitL; rw [if_neg (by omega), if_neg (by omega), if_pos (by omega)], rfl⟩
  by_cases hs1_3 : c.toInt = 3
  · refine V_tabIn (v := 3) (tgt := 46) dX10_fit_1 (by exact hs1_3) (by decide) rfl rfl ?_
    refine V_lload_n (i := 1) dX10_fit_46 rfl 1 rfl ?_
    refine V_lret dX10_fit_47 ⟨rfl, rfl⟩ (Nat.zero_le _) (Nat.zero_le _) ?_
    subst hQ
    exact ⟨by unfold fitL; rw [if_neg (by omega), if_neg (by omega), if_neg (by omega), if_neg (by omega)], rfl⟩
  refine V_tableOut (tgt := 48) dX10_fit_1 (by omega) rfl ?_
  refine V_lload_n (i := 1) dX10_fit_48 rfl 1 rfl ?_
  refine V_lconst (v := lN 0) dX10_fit_49 rfl ?_
  refine V_lcmp dX10_fit_50 ?_
  refine V_if_eq (tgt := 58) dX10_fit_51 rfl (fun h51 => ?_) (fun h51 => ?_)
  · have h51 : v.toInt = (0 : Int) := by have q := lg_eq.mp h51; rw [lN_toInt (n := 0) (by omega)] at q; exact q
    refine V_lconst (v := lN 0) dX10_fit_58 rfl ?_
    refine V_lret dX10_fit_59 ⟨rfl, rfl⟩ (Nat.zero_le _) (Nat.zero_le _) ?_
    subst hQ
    exact ⟨by unfold fitL; rw [if_neg (by omega), if_neg (by omega), if_neg (by omega), if_pos (by omega), if_pos (by omega)], rfl⟩
  · have h51 : ¬ v.toInt = (0 : Int) := fun r => h51 (lg_eq.mpr (by rw [lN_toInt (n := 0) (by omega)]; exact r))
    refine V_lconst (v := lN 1) dX10_fit_54 rfl ?_
    refine V_goto (tgt := 59) dX10_fit_55 rfl ?_
    refine V_lret dX10_fit_59 ⟨rfl, rfl⟩ (Nat.zero_le _) (Nat.zero_le _) ?_
    subst hQ
    exact ⟨by unfold fitL; rw [if_neg (by omega), if_neg (by omega), if_neg (by omega), if_pos (by omega), if_neg (by omega)], rfl⟩
set_option maxRecDepth 20000 in
theorem r_isTorn {g : Ev} {S : St} {iv : IV} {lw : LW} {b : Nat} (hb : IsMod S b) {V : Cv} (hV : MC iv b V) (hv : VOK V) {e m i : Nat} (he : e < v_ne V) (hm : 0 < m ∧ m ≤ 8) (hi : i < 8) : CP g mX10_isTorn [.ref (b), .int (nI e), .int (nI m), .int (nI i)] S iv lw (.int (bI (i < v_by V e ∨ (v_kd V e = 3 ∧ i + 1 = m)))) := by
  refine CT_ofQ rfl (by decide) (Nat.le_of_ble_eq_true rfl) (lv := [(0, .ref (b)), (1, .int (nI e)), (2, .int (nI m)), (3, .int (nI i))]) rfl (fun Q hQ => ?_)
  have hnc := hv.nc
  have hne := hv.ne
  have hnm := hv.nm
  have hk1 := hv.kd he
  have hb1 := hv.by he
  refine V_iload_n (i := 3) dX10_isTorn_0 rfl 3 rfl ?_
  refine V_aload_n (i := 0) dX10_isTorn_1 rfl 0 rfl ?_
  refine M_getR dX10_isTorn_2 lf_X10_54 rfl hb.1 hb.2.2.2.2.2.2.2.2.2.2.2.2.2.2.1.1 ?_
  refine V_iload_n (i := 1) dX10_isTorn_5 rfl 1 rfl ?_
  refine M_ialdn (j := e) (x := nI (v_by V e)) dX10_isTorn_6 hb.2.2.2.2.2.2.2.2.2.2.2.2.2.2.1.2 (by decide) (by omega) (hV.by (e := e) (by omega)) ?_
  refine V_icmp_lt (tgt := 27) dX10_isTorn_7 rfl (fun h7 => ?_) (fun h7 => ?_)
  · have h7 : i < (v_by V e) := (nI_ltI (by omega) (by omega)).mp h7
    refine V_iconst (v := nI 1) dX10_isTorn_27 rfl ?_
    refine V_goto (tgt := 32) dX10_isTorn_28 rfl ?_
    refine V_zret dX10_isTorn_32 ⟨rfl, rfl⟩ (by rfl) (Nat.zero_le _) (Nat.zero_le _) ?_
    subst hQ
    exact ⟨by rw [bI_t (by omega)], rfl⟩
  · have h7 : ¬ i < (v_by V e) := fun q => h7 ((nI_ltI (by omega) (by omega)).mpr q)
    refine V_aload_n (i := 0) dX10_isTorn_10 rfl 0 rfl ?_
    refine M_getR dX10_isTorn_11 lf_X10_51 rfl hb.1 hb.2.2.2.2.2.2.2.2.2.2.2.2.2.1.1 ?_
    refine V_iload_n (i := 1) dX10_isTorn_14 rfl 1 rfl ?_
    refine M_ialdn (j := e) (x := nI (v_kd V e)) dX10_isTorn_15 hb.2.2.2.2.2.2.2.2.2.2.2.2.2.1.2 (by decide) (by omega) (hV.kd (e := e) (by omega)) ?_
    refine V_iconst (v := nI 3) dX10_isTorn_16 rfl ?_
    refine V_icmp_ne (tgt := 31) dX10_isTorn_17 rfl (fun h17 => ?_) (fun h17 => ?_)
    · have h17 : ¬ (v_kd V e) = 3 := fun q => h17 ((nI_eq (by omega) (by omega)).mpr q)
      refine V_iconst (v := nI 0) dX10_isTorn_31 rfl ?_
      refine V_zret dX10_isTorn_32 ⟨rfl, rfl⟩ (by rfl) (Nat.zero_le _) (Nat.zero_le _) ?_
      subst hQ
      exact ⟨by rw [bI_f (by omega)], rfl⟩
    · have h17 : (v_kd V e) = 3 := (nI_eq (by omega) (by omega)).mp h17
      refine V_iload_n (i := 3) dX10_isTorn_20 rfl 3 rfl ?_
      refine V_iload_n (i := 2) dX10_isTorn_21 rfl 2 rfl ?_
      refine V_iconst (v := nI 1) dX10_isTorn_22 rfl ?_
      refine V_isub dX10_isTorn_23 ?_
      refine M_top (x2 := nI (m - 1)) (nI_sub (by omega)) ?_
      refine V_icmp_ne (tgt := 31) dX10_isTorn_24 rfl (fun h24 => ?_) (fun h24 => ?_)
      · have h24 : ¬ i = (m - 1) := fun q => h24 ((nI_eq (by omega) (by omega)).mpr q)
        refine V_iconst (v := nI 0) dX10_isTorn_31 rfl ?_
        refine V_zret dX10_isTorn_32 ⟨rfl, rfl⟩ (by rfl) (Nat.zero_le _) (Nat.zero_le _) ?_
        subst hQ
        exact ⟨by rw [bI_f (by omega)], rfl⟩
      · have h24 : i = (m - 1) := (nI_eq (by omega) (by omega)).mp h24
        refine V_iconst (v := nI 1) dX10_isTorn_27 rfl ?_
        refine V_goto (tgt := 32) dX10_isTorn_28 rfl ?_
        refine V_zret dX10_isTorn_32 ⟨rfl, rfl⟩ (by rfl) (Nat.zero_le _) (Nat.zero_le _) ?_
        subst hQ
        exact ⟨by rw [bI_t (by omega)], rfl⟩
set_option maxRecDepth 20000 in
theorem r_isEchoed {g : Ev} {S : St} {iv : IV} {lw : LW} {b : Nat} (hb : IsMod S b) {V : Cv} (hV : MC iv b V) (hv : VOK V) {e i : Nat} (he : e < v_ne V) (hi : i < 8) : CP g mX10_isEchoed [.ref (b), .int (nI e), .int (nI i)] S iv lw (.int (bI (i % (v_by V e + 1) = v_by V e))) := by
  refine CT_ofQ rfl (by decide) (Nat.le_of_ble_eq_true rfl) (lv := [(0, .ref (b)), (1, .int (nI e)), (2, .int (nI i))]) rfl (fun Q hQ => ?_)
  have hnc := hv.nc
  have hne := hv.ne
  have hnm := hv.nm
  have hb1 := hv.by he
  refine V_iload_n (i := 2) dX10_isEchoed_0 rfl 2 rfl ?_
  refine V_aload_n (i := 0) dX10_isEchoed_1 rfl 0 rfl ?_
  refine M_getR dX10_isEchoed_2 lf_X10_54 rfl hb.1 hb.2.2.2.2.2.2.2.2.2.2.2.2.2.2.1.1 ?_
  refine V_iload_n (i := 1) dX10_isEchoed_5 rfl 1 rfl ?_
  refine M_ialdn (j := e) (x := nI (v_by V e)) dX10_isEchoed_6 hb.2.2.2.2.2.2.2.2.2.2.2.2.2.2.1.2 (by decide) (by omega) (hV.by (e := e) (by omega)) ?_
  refine V_iconst (v := nI 1) dX10_isEchoed_7 rfl ?_
  refine V_iadd dX10_isEchoed_8 ?_
  refine M_top (nI_add _ _) ?_
  refine V_irem dX10_isEchoed_9 (nI_ne0 (by omega) (by omega)) ?_
  refine M_top (x2 := nI (i % (v_by V e + 1))) (pk_rem (by omega) (by omega) (by omega)) ?_
  refine V_aload_n (i := 0) dX10_isEchoed_10 rfl 0 rfl ?_
  refine M_getR dX10_isEchoed_11 lf_X10_54 rfl hb.1 hb.2.2.2.2.2.2.2.2.2.2.2.2.2.2.1.1 ?_
  refine V_iload_n (i := 1) dX10_isEchoed_14 rfl 1 rfl ?_
  refine M_ialdn (j := e) (x := nI (v_by V e)) dX10_isEchoed_15 hb.2.2.2.2.2.2.2.2.2.2.2.2.2.2.1.2 (by decide) (by omega) (hV.by (e := e) (by omega)) ?_
  have hm := Nat.mod_lt i (show 0 < v_by V e + 1 by omega)
  refine V_icmp_ne (tgt := 23) dX10_isEchoed_16 rfl (fun h16 => ?_) (fun h16 => ?_)
  · have h16 : ¬ (i % (v_by V e + 1)) = (v_by V e) := fun q => h16 ((nI_eq (by omega) (by omega)).mpr q)
    refine V_iconst (v := nI 0) dX10_isEchoed_23 rfl ?_
    refine V_zret dX10_isEchoed_24 ⟨rfl, rfl⟩ (by rfl) (Nat.zero_le _) (Nat.zero_le _) ?_
    subst hQ
    exact ⟨by rw [bI_f (by omega)], rfl⟩
  · have h16 : (i % (v_by V e + 1)) = (v_by V e) := (nI_eq (by omega) (by omega)).mp h16
    refine V_iconst (v := nI 1) dX10_isEchoed_19 rfl ?_
    refine V_goto (tgt := 24) dX10_isEchoed_20 rfl ?_
    refine V_zret dX10_isEchoed_24 ⟨rfl, rfl⟩ (by rfl) (Nat.zero_le _) (Nat.zero_le _) ?_
    subst hQ
    exact ⟨by rw [bI_t (by omega)], rfl⟩
set_option maxRecDepth 20000 in
theorem r_hears {g : Ev} {S : St} {iv : IV} {lw : LW} {b : Nat} (hb : IsMod S b) {V : Cv} (hV : MC iv b V) (hv : VOK V) {c e i : Nat} (hc : c < v_nc V) (he : e < v_ne V) (hi : i < v_sz V c) : CP g mX10_hears [.ref (b), .int (nI c), .int (nI e), .int (nI i)] S iv lw (.int (nI (noteBy V c e i))) := by
  refine CT_ofQ rfl (by decide) (Nat.le_of_ble_eq_true rfl) (lv := [(0, .ref (b)), (1, .int (nI c)), (2, .int (nI e)), (3, .int (nI i))]) rfl (fun Q hQ => ?_)
  have hnc := hv.nc
  have hne := hv.ne
  have hnm := hv.nm
  have hs8 := hv.sz hc
  have hk1 := hv.kd he
  have hb1 := hv.by he
  have hn4 := hv.nt hc hi
  refine V_aload_n (i := 0) dX10_hears_0 rfl 0 rfl ?_
  refine M_getR dX10_hears_1 lf_X10_39 rfl hb.1 hb.2.2.2.2.2.2.2.2.2.1.1 ?_
  refine V_iload_n (i := 1) dX10_hears_4 rfl 1 rfl ?_
  refine M_aaldn (t := 1) (j := c) dX10_hears_5 (by decide) hb.2.2.2.2.2.2.2.2.2.1.2 (by decide) (by omega) ((hb.2.2.2.2.2.2.2.2.2.2.2.2.2.2.2.2.2.2.2.2.2.2.2 c (by omega)).1) ?_
  refine V_iload_n (i := 3) dX10_hears_6 rfl 3 rfl ?_
  refine M_ialdn (j := i) (x := nI (v_nt V c i)) dX10_hears_7 (hb.2.2.2.2.2.2.2.2.2.2.2.2.2.2.2.2.2.2.2.2.2.2.2 c (by omega)).2 (by decide) (by omega) (hV.nt (c := c) (i := i) (by omega) (by omega)) ?_
  refine V_istore (lv2 := [(4, .int (nI (v_nt V c i))), (0, .ref (b)), (1, .int (nI c)), (2, .int (nI e)), (3, .int (nI i))]) dX10_hears_8 (by decide) rfl ?_
  refine V_aload_n (i := 0) dX10_hears_10 rfl 1 rfl ?_
  refine M_getR dX10_hears_11 lf_X10_51 rfl hb.1 hb.2.2.2.2.2.2.2.2.2.2.2.2.2.1.1 ?_
  refine V_iload_n (i := 2) dX10_hears_14 rfl 3 rfl ?_
  refine M_ialdn (j := e) (x := nI (v_kd V e)) dX10_hears_15 hb.2.2.2.2.2.2.2.2.2.2.2.2.2.1.2 (by decide) (by omega) (hV.kd (e := e) (by omega)) ?_
  by_cases hs16_1 : ((v_kd V e) : Int) = 1
  · refine V_tabIn (v := 1) (tgt := 52) dX10_hears_16 (by rw [nI_toInt (n := (v_kd V e)) (by omega)]; exact hs16_1) (by decide) rfl rfl ?_
    have hs16_1 : (v_kd V e) = 1 := by omega
    refine V_aload_n (i := 0) dX10_hears_52 rfl 1 rfl ?_
    refine V_iload_n (i := 2) dX10_hears_53 rfl 3 rfl ?_
    refine V_aload_n (i := 0) dX10_hears_54 rfl 1 rfl ?_
    refine M_getR dX10_hears_55 lf_X10_42 rfl hb.1 hb.2.2.2.2.2.2.2.2.2.2.1.1 ?_
    refine V_iload_n (i := 1) dX10_hears_58 rfl 2 rfl ?_
    refine M_ialdn (j := c) (x := nI (v_sz V c)) dX10_hears_59 hb.2.2.2.2.2.2.2.2.2.2.1.2 (by decide) (by omega) (hV.sz (c := c) (by omega)) ?_
    refine V_iload_n (i := 3) dX10_hears_60 rfl 4 rfl ?_
    refine M_callVp (As := [.int (nI e), .int (nI (v_sz V c)), .int (nI i)]) (st := []) dX10_hears_61 lv_X10_135 ⟨by decide, by decide⟩ ⟨rfl, rfl⟩ rfl (ci := 7) hb.1 rfl rfl (Nat.le_of_ble_eq_true rfl) (r_isTorn hb hV hv he (m := v_sz V c) (i := i) (by omega) (by omega)) ?_
    refine V_if_eq (tgt := 72) dX10_hears_64 rfl (fun h64 => ?_) (fun h64 => ?_)
    · have h64 : ¬ (i < v_by V e ∨ (v_kd V e = 3 ∧ i + 1 = v_sz V c)) := bI_eq0.mp h64
      refine V_iload dX10_hears_72 0 rfl ?_
      refine V_iret dX10_hears_74 ⟨rfl, rfl⟩ (Nat.zero_le _) (Nat.zero_le _) ?_
      subst hQ
      refine ⟨congrArg (fun t => some (Value.int (nI t))) ?_, rfl⟩
      unfold noteBy
      repeat' split
      all_goals omega
    · have h64 : i < v_by V e ∨ (v_kd V e = 3 ∧ i + 1 = v_sz V c) := bI_ne.mp h64
      refine V_bipush (v := nI 9) dX10_hears_67 rfl ?_
      refine V_goto (tgt := 74) dX10_hears_69 rfl ?_
      refine V_iret dX10_hears_74 ⟨rfl, rfl⟩ (Nat.zero_le _) (Nat.zero_le _) ?_
      subst hQ
      refine ⟨congrArg (fun t => some (Value.int (nI t))) ?_, rfl⟩
      unfold noteBy
      repeat' split
      all_goals omega
  by_cases hs16_2 : ((v_kd V e) : Int) = 2
  · refine V_tabIn (v := 2) (tgt := 75) dX10_hears_16 (by rw [nI_toInt (n := (v_kd V e)) (by omega)]; exact hs16_2) (by decide) rfl rfl ?_
    have hs16_2 : (v_kd V e) = 2 := by omega
    refine V_iload dX10_hears_75 0 rfl ?_
    refine V_iconst (v := nI 4) dX10_hears_77 rfl ?_
    refine V_icmp_ne (tgt := 85) dX10_hears_78 rfl (fun h78 => ?_) (fun h78 => ?_)
    · have h78 : ¬ (v_nt V c i) = 4 := fun q => h78 ((nI_eq (by omega) (by omega)).mpr q)
      refine V_iload dX10_hears_85 0 rfl ?_
      refine V_iret dX10_hears_87 ⟨rfl, rfl⟩ (Nat.zero_le _) (Nat.zero_le _) ?_
      subst hQ
      refine ⟨congrArg (fun t => some (Value.int (nI t))) ?_, rfl⟩
      unfold noteBy
      repeat' split
      all_goals omega
    · have h78 : (v_nt V c i) = 4 := (nI_eq (by omega) (by omega)).mp h78
      refine V_iconst (v := nI 3) dX10_hears_81 rfl ?_
      refine V_goto (tgt := 87) dX10_hears_82 rfl ?_
      refine V_iret dX10_hears_87 ⟨rfl, rfl⟩ (Nat.zero_le _) (Nat.zero_le _) ?_
      subst hQ
      refine ⟨congrArg (fun t => some (Value.int (nI t))) ?_, rfl⟩
      unfold noteBy
      repeat' split
      all_goals omega
  by_cases hs16_3 : ((v_kd V e) : Int) = 3
  · refine V_tabIn (v := 3) (tgt := 52) dX10_hears_16 (by rw [nI_toInt (n := (v_kd V e)) (by omega)]; exact hs16_3) (by decide) rfl rfl ?_
    have hs16_3 : (v_kd V e) = 3 := by omega
    refine V_aload_n (i := 0) dX10_hears_52 rfl 1 rfl ?_
    refine V_iload_n (i := 2) dX10_hears_53 rfl 3 rfl ?_
    refine V_aload_n (i := 0) dX10_hears_54 rfl 1 rfl ?_
    refine M_getR dX10_hears_55 lf_X10_42 rfl hb.1 hb.2.2.2.2.2.2.2.2.2.2.1.1 ?_
    refine V_iload_n (i := 1) dX10_hears_58 rfl 2 rfl ?_
    refine M_ialdn (j := c) (x := nI (v_sz V c)) dX10_hears_59 hb.2.2.2.2.2.2.2.2.2.2.1.2 (by decide) (by omega) (hV.sz (c := c) (by omega)) ?_
    refine V_iload_n (i := 3) dX10_hears_60 rfl 4 rfl ?_
    refine M_callVp (As := [.int (nI e), .int (nI (v_sz V c)), .int (nI i)]) (st := []) dX10_hears_61 lv_X10_135 ⟨by decide, by decide⟩ ⟨rfl, rfl⟩ rfl (ci := 7) hb.1 rfl rfl (Nat.le_of_ble_eq_true rfl) (r_isTorn hb hV hv he (m := v_sz V c) (i := i) (by omega) (by omega)) ?_
    refine V_if_eq (tgt := 72) dX10_hears_64 rfl (fun h64 => ?_) (fun h64 => ?_)
    · have h64 : ¬ (i < v_by V e ∨ (v_kd V e = 3 ∧ i + 1 = v_sz V c)) := bI_eq0.mp h64
      refine V_iload dX10_hears_72 0 rfl ?_
      refine V_iret dX10_hears_74 ⟨rfl, rfl⟩ (Nat.zero_le _) (Nat.zero_le _) ?_
      subst hQ
      refine ⟨congrArg (fun t => some (Value.int (nI t))) ?_, rfl⟩
      unfold noteBy
      repeat' split
      all_goals omega
    · have h64 : i < v_by V e ∨ (v_kd V e = 3 ∧ i + 1 = v_sz V c) := bI_ne.mp h64
      refine V_bipush (v := nI 9) dX10_hears_67 rfl ?_
      refine V_goto (tgt := 74) dX10_hears_69 rfl ?_
      refine V_iret dX10_hears_74 ⟨rfl, rfl⟩ (Nat.zero_le _) (Nat.zero_le _) ?_
      subst hQ
      refine ⟨congrArg (fun t => some (Value.int (nI t))) ?_, rfl⟩
      unfold noteBy
      repeat' split
      all_goals omega
  by_cases hs16_4 : ((v_kd V e) : Int) = 4
  · refine V_tabIn (v := 4) (tgt := 88) dX10_hears_16 (by rw [nI_toInt (n := (v_kd V e)) (by omega)]; exact hs16_4) (by decide) rfl rfl ?_
    have hs16_4 : (v_kd V e) = 4 := by omega
    refine V_iload dX10_hears_88 0 rfl ?_
    refine V_iconst (v := nI 4) dX10_hears_90 rfl ?_
    refine V_icmp_ne (tgt := 98) dX10_hears_91 rfl (fun h91 => ?_) (fun h91 => ?_)
    · have h91 : ¬ (v_nt V c i) = 4 := fun q => h91 ((nI_eq (by omega) (by omega)).mpr q)
      refine V_iload dX10_hears_98 0 rfl ?_
      refine V_if_ne (tgt := 108) dX10_hears_100 rfl (fun h100 => ?_) (fun h100 => ?_)
      · have h100 : ¬ (v_nt V c i) = 0 := fun q => h100 ((nI_eq (b := 0) (by omega) (by omega)).mpr q)
        refine V_iload dX10_hears_108 0 rfl ?_
        refine V_iret dX10_hears_110 ⟨rfl, rfl⟩ (Nat.zero_le _) (Nat.zero_le _) ?_
        subst hQ
        refine ⟨congrArg (fun t => some (Value.int (nI t))) ?_, rfl⟩
        unfold noteBy
        repeat' split
        all_goals omega
      · have h100 : (v_nt V c i) = 0 := (nI_eq (b := 0) (by omega) (by omega)).mp h100
        refine V_bipush (v := nI 9) dX10_hears_103 rfl ?_
        refine V_goto (tgt := 110) dX10_hears_105 rfl ?_
        refine V_iret dX10_hears_110 ⟨rfl, rfl⟩ (Nat.zero_le _) (Nat.zero_le _) ?_
        subst hQ
        refine ⟨congrArg (fun t => some (Value.int (nI t))) ?_, rfl⟩
        unfold noteBy
        repeat' split
        all_goals omega
    · have h91 : (v_nt V c i) = 4 := (nI_eq (by omega) (by omega)).mp h91
      refine V_iconst (v := nI 3) dX10_hears_94 rfl ?_
      refine V_goto (tgt := 110) dX10_hears_95 rfl ?_
      refine V_iret dX10_hears_110 ⟨rfl, rfl⟩ (Nat.zero_le _) (Nat.zero_le _) ?_
      subst hQ
      refine ⟨congrArg (fun t => some (Value.int (nI t))) ?_, rfl⟩
      unfold noteBy
      repeat' split
      all_goals omega
  by_cases hs16_5 : ((v_kd V e) : Int) = 5
  · refine V_tabIn (v := 5) (tgt := 111) dX10_hears_16 (by rw [nI_toInt (n := (v_kd V e)) (by omega)]; exact hs16_5) (by decide) rfl rfl ?_
    have hs16_5 : (v_kd V e) = 5 := by omega
    refine V_iload_n (i := 3) dX10_hears_111 rfl 4 rfl ?_
    refine V_if_le (tgt := 137) dX10_hears_112 rfl (fun h112 => ?_) (fun h112 => ?_)
    · have h112 : i ≤ 0 := (nI_leI (b := 0) (by omega) (by omega)).mp h112
      refine V_iload dX10_hears_137 0 rfl ?_
      refine V_iret dX10_hears_139 ⟨rfl, rfl⟩ (Nat.zero_le _) (Nat.zero_le _) ?_
      subst hQ
      refine ⟨congrArg (fun t => some (Value.int (nI t))) ?_, rfl⟩
      unfold noteBy
      repeat' split
      all_goals omega
    · have h112 : ¬ i ≤ 0 := fun q => h112 ((nI_leI (b := 0) (by omega) (by omega)).mpr q)
      refine V_aload_n (i := 0) dX10_hears_115 rfl 1 rfl ?_
      refine V_iload_n (i := 2) dX10_hears_116 rfl 3 rfl ?_
      refine V_iload_n (i := 3) dX10_hears_117 rfl 4 rfl ?_
      refine M_callVp (As := [.int (nI e), .int (nI i)]) (st := []) dX10_hears_118 lv_X10_132 ⟨by decide, by decide⟩ ⟨rfl, rfl⟩ rfl (ci := 7) hb.1 rfl rfl (Nat.le_of_ble_eq_true rfl) (r_isEchoed hb hV hv he (i := i) (by omega)) ?_
      refine V_if_eq (tgt := 137) dX10_hears_121 rfl (fun h121 => ?_) (fun h121 => ?_)
      · have h121 : ¬ (i % (v_by V e + 1) = v_by V e) := bI_eq0.mp h121
        refine V_iload dX10_hears_137 0 rfl ?_
        refine V_iret dX10_hears_139 ⟨rfl, rfl⟩ (Nat.zero_le _) (Nat.zero_le _) ?_
        subst hQ
        refine ⟨congrArg (fun t => some (Value.int (nI t))) ?_, rfl⟩
        unfold noteBy
        repeat' split
        all_goals omega
      · have h121 : i % (v_by V e + 1) = v_by V e := bI_ne.mp h121
        refine V_aload_n (i := 0) dX10_hears_124 rfl 1 rfl ?_
        refine M_getR dX10_hears_125 lf_X10_39 rfl hb.1 hb.2.2.2.2.2.2.2.2.2.1.1 ?_
        refine V_iload_n (i := 1) dX10_hears_128 rfl 2 rfl ?_
        refine M_aaldn (t := 1) (j := c) dX10_hears_129 (by decide) hb.2.2.2.2.2.2.2.2.2.1.2 (by decide) (by omega) ((hb.2.2.2.2.2.2.2.2.2.2.2.2.2.2.2.2.2.2.2.2.2.2.2 c (by omega)).1) ?_
        refine V_iload_n (i := 3) dX10_hears_130 rfl 4 rfl ?_
        refine V_iconst (v := nI 1) dX10_hears_131 rfl ?_
        refine V_isub dX10_hears_132 ?_
        refine M_top (x2 := nI (i - 1)) (nI_sub (by omega)) ?_
        refine M_ialdn (j := (i - 1)) (x := nI (v_nt V c (i - 1))) dX10_hears_133 (hb.2.2.2.2.2.2.2.2.2.2.2.2.2.2.2.2.2.2.2.2.2.2.2 c (by omega)).2 (by decide) (by omega) (hV.nt (c := c) (i := (i - 1)) (by omega) (by omega)) ?_
        refine V_goto (tgt := 139) dX10_hears_134 rfl ?_
        refine V_iret dX10_hears_139 ⟨rfl, rfl⟩ (Nat.zero_le _) (Nat.zero_le _) ?_
        subst hQ
        refine ⟨congrArg (fun t => some (Value.int (nI t))) ?_, rfl⟩
        unfold noteBy
        repeat' split
        all_goals omega
  refine V_tableOut (tgt := 140) dX10_hears_16 (by rw [nI_toInt (n := (v_kd V e)) (by omega)]; omega) rfl ?_
  refine V_iload dX10_hears_140 0 rfl ?_
  refine V_iret dX10_hears_142 ⟨rfl, rfl⟩ (Nat.zero_le _) (Nat.zero_le _) ?_
  subst hQ
  refine ⟨congrArg (fun t => some (Value.int (nI t))) ?_, rfl⟩
  unfold noteBy
  repeat' split
  all_goals omega
set_option maxRecDepth 20000 in
theorem r_fitsHearing {g : Ev} {S : St} {iv : IV} {lw : LW} {b : Nat} (hb : IsMod S b) {V : Cv} (hV : MC iv b V) (hv : VOK V) {H : Hv} (hH : MH iv lw b H) {c e : Nat} (hc : c < v_nc V) (he : e < v_ne V) : CP g mX10_fitsHearing [.ref (b), .int (nI c), .int (nI e)] S iv lw (.int (bI (fitB V H e c = true))) := by
  refine CT_ofQ rfl (by decide) (Nat.le_of_ble_eq_true rfl) (lv := [(0, .ref (b)), (1, .int (nI c)), (2, .int (nI e))]) rfl (fun Q hQ => ?_)
  have hnc := hv.nc
  have hne := hv.ne
  have hnm := hv.nm
  have hs8 := hv.sz hc
  have h8 := hH.1.1
  refine V_aload_n (i := 0) dX10_fitsHearing_0 rfl 0 rfl ?_
  refine M_getI (x := bI (H.2.1 = true)) dX10_fitsHearing_1 lf_X10_258 rfl hb.1 (hH.2.2.1) ?_
  refine V_if_eq (tgt := 23) dX10_fitsHearing_4 rfl (fun h4 => ?_) (fun h4 => ?_)
  · have h4 : ¬ (H.2.1 = true) := bI_eq0.mp h4
    refine V_aload_n (i := 0) dX10_fitsHearing_23 rfl 0 rfl ?_
    refine M_getR dX10_fitsHearing_24 lf_X10_42 rfl hb.1 hb.2.2.2.2.2.2.2.2.2.2.1.1 ?_
    refine V_iload_n (i := 1) dX10_fitsHearing_27 rfl 1 rfl ?_
    refine M_ialdn (j := c) (x := nI (v_sz V c)) dX10_fitsHearing_28 hb.2.2.2.2.2.2.2.2.2.2.1.2 (by decide) (by omega) (hV.sz (c := c) (by omega)) ?_
    refine V_aload_n (i := 0) dX10_fitsHearing_29 rfl 0 rfl ?_
    refine M_getI (x := nI H.1) dX10_fitsHearing_30 lf_X10_262 rfl hb.1 (hH.2.1) ?_
    refine V_icmp_ge (tgt := 38) dX10_fitsHearing_33 rfl (fun h33 => ?_) (fun h33 => ?_)
    · have h33 : H.1 ≤ (v_sz V c) := (nI_leI (by omega) (by omega)).mp h33
      have hgo : fitB V H e c = allTo (fitN V H e c) H.1 := fit_go (by omega) (fun q => absurd q h4)
      refine V_iconst (v := nI 0) dX10_fitsHearing_38 rfl ?_
      refine V_istore_n (lv2 := [(3, .int (nI 0)), (0, .ref (b)), (1, .int (nI c)), (2, .int (nI e))]) dX10_fitsHearing_39 rfl (by decide) rfl ?_
      have lp40 : ∀ i, i ≤ (H.1) → allTo (fitN V H e c) i = true → VM g mX10_fitsHearing 40 [(3, .int (nI i)), (0, .ref (b)), (1, .int (nI c)), (2, .int (nI e))] [] S iv lw Q := by
        refine up_ind fun i hi ih40 => ?_
        intro hall
        refine V_iload_n (i := 3) dX10_fitsHearing_40 rfl 0 rfl ?_
        refine V_aload_n (i := 0) dX10_fitsHearing_41 rfl 1 rfl ?_
        refine M_getI (x := nI H.1) dX10_fitsHearing_42 lf_X10_262 rfl hb.1 (hH.2.1) ?_
        refine V_icmp_ge (tgt := 98) dX10_fitsHearing_45 rfl (fun h45 => ?_) (fun h45 => ?_)
        · have h45 : H.1 ≤ i := (nI_leI (by omega) (by omega)).mp h45
          refine V_iconst (v := nI 1) dX10_fitsHearing_98 rfl ?_
          refine V_zret dX10_fitsHearing_99 ⟨rfl, rfl⟩ (by rfl) (Nat.zero_le _) (Nat.zero_le _) ?_
          subst hQ
          obtain rfl : i = H.1 := by omega
          exact ⟨by rw [bI_t (hgo.trans hall)], rfl⟩
        · have h45 : ¬ H.1 ≤ i := fun q => h45 ((nI_leI (by omega) (by omega)).mpr q)
          refine V_aload_n (i := 0) dX10_fitsHearing_48 rfl 1 rfl ?_
          refine V_iload_n (i := 1) dX10_fitsHearing_49 rfl 2 rfl ?_
          refine V_iload_n (i := 2) dX10_fitsHearing_50 rfl 3 rfl ?_
          refine V_iload_n (i := 3) dX10_fitsHearing_51 rfl 0 rfl ?_
          refine M_callVp (As := [.int (nI c), .int (nI e), .int (nI i)]) (st := []) dX10_fitsHearing_52 lv_X10_254 ⟨by decide, by decide⟩ ⟨rfl, rfl⟩ rfl (ci := 7) hb.1 rfl rfl (Nat.le_of_ble_eq_true rfl) (r_hears hb hV hv hc he (i := i) (by omega)) ?_
          refine V_istore (lv2 := [(4, .int (nI (noteBy V c e i))), (3, .int (nI i)), (0, .ref (b)), (1, .int (nI c)), (2, .int (nI e))]) dX10_fitsHearing_55 (by decide) rfl ?_
          refine V_iload dX10_fitsHearing_57 0 rfl ?_
          refine V_bipush (v := nI 9) dX10_fitsHearing_59 rfl ?_
          have hn1 := noteBy_le (e := e) hv hc (i := i) (by omega)
          have hn2 := hH.1.2 i (by omega)
          refine V_icmp_eq (tgt := 92) dX10_fitsHearing_61 rfl (fun h61 => ?_) (fun h61 => ?_)
          · have h61 : (noteBy V c e i) = 9 := (nI_eq (by omega) (by omega)).mp h61
            refine V_iinc (v := nI (i + 1)) (lv2 := [(3, .int (nI (i + 1))), (4, .int (nI (noteBy V c e i))), (0, .ref (b)), (1, .int (nI c)), (2, .int (nI e))]) dX10_fitsHearing_92 1 rfl (nI_inc _) (by decide) rfl ?_
            refine V_goto (tgt := 40) dX10_fitsHearing_95 rfl ?_
            have hfi : fitN V H e c i = true := by unfold fitN; simp only [Bool.or_eq_true, decide_eq_true_eq]; omega
            refine V_sub [0, 2, 3, 4] rfl ?_
            exact M_at (ih40 (by omega) (by show (allTo _ _ && _) = true; rw [hall, hfi]; rfl)) (rfl) rfl (rfl) (rfl)
          · have h61 : ¬ (noteBy V c e i) = 9 := fun q => h61 ((nI_eq (by omega) (by omega)).mpr q)
            refine V_aload_n (i := 0) dX10_fitsHearing_64 rfl 2 rfl ?_
            refine M_getR dX10_fitsHearing_65 lf_X10_76 rfl hb.1 hb.2.2.2.2.2.2.2.2.2.2.2.2.2.2.2.2.2.2.1.1 ?_
            refine V_iload_n (i := 3) dX10_fitsHearing_68 rfl 1 rfl ?_
            refine M_laldn (j := i) (x := lN (H.2.2 i)) dX10_fitsHearing_69 hb.2.2.2.2.2.2.2.2.2.2.2.2.2.2.2.2.2.2.1.2 (by decide) (by omega) (hH.2.2.2 _ (by omega)) ?_
            refine V_ldc2 (v := lN 9) dX10_fitsHearing_70 mw_1290 ?_
            refine V_lcmp dX10_fitsHearing_73 ?_
            refine V_if_eq (tgt := 92) dX10_fitsHearing_74 rfl (fun h74 => ?_) (fun h74 => ?_)
            · have h74 : ((H.2.2 i) : Int) = (9 : Int) := by have q := lg_eq.mp h74; rw [lN_toInt (n := (H.2.2 i)) (by omega), lN_toInt (n := 9) (by omega)] at q; exact q
              refine V_iinc (v := nI (i + 1)) (lv2 := [(3, .int (nI (i + 1))), (4, .int (nI (noteBy V c e i))), (0, .ref (b)), (1, .int (nI c)), (2, .int (nI e))]) dX10_fitsHearing_92 1 rfl (nI_inc _) (by decide) rfl ?_
              refine V_goto (tgt := 40) dX10_fitsHearing_95 rfl ?_
              have hfi : fitN V H e c i = true := by unfold fitN; simp only [Bool.or_eq_true, decide_eq_true_eq]; omega
              refine V_sub [0, 2, 3, 4] rfl ?_
              exact M_at (ih40 (by omega) (by show (allTo _ _ && _) = true; rw [hall, hfi]; rfl)) (rfl) rfl (rfl) (rfl)
            · have h74 : ¬ ((H.2.2 i) : Int) = (9 : Int) := fun r => h74 (lg_eq.mpr (by rw [lN_toInt (n := (H.2.2 i)) (by omega), lN_toInt (n := 9) (by omega)]; exact r))
              refine V_iload dX10_fitsHearing_77 0 rfl ?_
              refine V_i2l dX10_fitsHearing_79 ?_
              refine V_aload_n (i := 0) dX10_fitsHearing_80 rfl 2 rfl ?_
              refine M_getR dX10_fitsHearing_81 lf_X10_76 rfl hb.1 hb.2.2.2.2.2.2.2.2.2.2.2.2.2.2.2.2.2.2.1.1 ?_
              refine V_iload_n (i := 3) dX10_fitsHearing_84 rfl 1 rfl ?_
              refine M_laldn (j := i) (x := lN (H.2.2 i)) dX10_fitsHearing_85 hb.2.2.2.2.2.2.2.2.2.2.2.2.2.2.2.2.2.2.1.2 (by decide) (by omega) (hH.2.2.2 _ (by omega)) ?_
              refine V_lcmp dX10_fitsHearing_86 ?_
              refine V_if_eq (tgt := 92) dX10_fitsHearing_87 rfl (fun h87 => ?_) (fun h87 => ?_)
              · have h87 : ((noteBy V c e i) : Int) = ((H.2.2 i) : Int) := by have q := lg_eq.mp h87; rw [i64, nI_toInt (n := (noteBy V c e i)) (by omega), lN_toInt (n := (H.2.2 i)) (by omega)] at q; exact q
                refine V_iinc (v := nI (i + 1)) (lv2 := [(3, .int (nI (i + 1))), (4, .int (nI (noteBy V c e i))), (0, .ref (b)), (1, .int (nI c)), (2, .int (nI e))]) dX10_fitsHearing_92 1 rfl (nI_inc _) (by decide) rfl ?_
                refine V_goto (tgt := 40) dX10_fitsHearing_95 rfl ?_
                have hfi : fitN V H e c i = true := by unfold fitN; simp only [Bool.or_eq_true, decide_eq_true_eq]; omega
                refine V_sub [0, 2, 3, 4] rfl ?_
                exact M_at (ih40 (by omega) (by show (allTo _ _ && _) = true; rw [hall, hfi]; rfl)) (rfl) rfl (rfl) (rfl)
              · have h87 : ¬ ((noteBy V c e i) : Int) = ((H.2.2 i) : Int) := fun r => h87 (lg_eq.mpr (by rw [i64, nI_toInt (n := (noteBy V c e i)) (by omega), lN_toInt (n := (H.2.2 i)) (by omega)]; exact r))
                refine V_iconst (v := nI 0) dX10_fitsHearing_90 rfl ?_
                refine V_zret dX10_fitsHearing_91 ⟨rfl, rfl⟩ (by rfl) (Nat.zero_le _) (Nat.zero_le _) ?_
                subst hQ
                have hfi : fitN V H e c i = false := by unfold fitN; simp only [Bool.or_eq_false_iff, decide_eq_false_iff_not]; omega
                exact ⟨by rw [bI_f (by rw [hgo, allTo_bad (show i < H.1 by omega) hfi]; decide)], rfl⟩
      refine V_sub [0, 1, 2, 3] rfl ?_
      exact M_at (lp40 0 (Nat.zero_le _) rfl) (rfl) rfl (rfl) (rfl)
    · have h33 : ¬ H.1 ≤ (v_sz V c) := fun q => h33 ((nI_leI (by omega) (by omega)).mpr q)
      refine V_iconst (v := nI 0) dX10_fitsHearing_36 rfl ?_
      refine V_zret dX10_fitsHearing_37 ⟨rfl, rfl⟩ (by rfl) (Nat.zero_le _) (Nat.zero_le _) ?_
      subst hQ
      exact ⟨by rw [bI_f (fit_lt (by omega))], rfl⟩
  · have h4 : H.2.1 = true := bI_ne.mp h4
    refine V_aload_n (i := 0) dX10_fitsHearing_7 rfl 0 rfl ?_
    refine M_getR dX10_fitsHearing_8 lf_X10_42 rfl hb.1 hb.2.2.2.2.2.2.2.2.2.2.1.1 ?_
    refine V_iload_n (i := 1) dX10_fitsHearing_11 rfl 1 rfl ?_
    refine M_ialdn (j := c) (x := nI (v_sz V c)) dX10_fitsHearing_12 hb.2.2.2.2.2.2.2.2.2.2.1.2 (by decide) (by omega) (hV.sz (c := c) (by omega)) ?_
    refine V_aload_n (i := 0) dX10_fitsHearing_13 rfl 0 rfl ?_
    refine M_getI (x := nI H.1) dX10_fitsHearing_14 lf_X10_262 rfl hb.1 (hH.2.1) ?_
    refine V_icmp_eq (tgt := 38) dX10_fitsHearing_17 rfl (fun h17 => ?_) (fun h17 => ?_)
    · have h17 : (v_sz V c) = H.1 := (nI_eq (by omega) (by omega)).mp h17
      have hgo : fitB V H e c = allTo (fitN V H e c) H.1 := fit_go (by omega) (fun _ => by omega)
      refine V_iconst (v := nI 0) dX10_fitsHearing_38 rfl ?_
      refine V_istore_n (lv2 := [(3, .int (nI 0)), (0, .ref (b)), (1, .int (nI c)), (2, .int (nI e))]) dX10_fitsHearing_39 rfl (by decide) rfl ?_
      have lp40 : ∀ i, i ≤ (H.1) → allTo (fitN V H e c) i = true → VM g mX10_fitsHearing 40 [(3, .int (nI i)), (0, .ref (b)), (1, .int (nI c)), (2, .int (nI e))] [] S iv lw Q := by
        refine up_ind fun i hi ih40 => ?_
        intro hall
        refine V_iload_n (i := 3) dX10_fitsHearing_40 rfl 0 rfl ?_
        refine V_aload_n (i := 0) dX10_fitsHearing_41 rfl 1 rfl ?_
        refine M_getI (x := nI H.1) dX10_fitsHearing_42 lf_X10_262 rfl hb.1 (hH.2.1) ?_
        refine V_icmp_ge (tgt := 98) dX10_fitsHearing_45 rfl (fun h45 => ?_) (fun h45 => ?_)
        · have h45 : H.1 ≤ i := (nI_leI (by omega) (by omega)).mp h45
          refine V_iconst (v := nI 1) dX10_fitsHearing_98 rfl ?_
          refine V_zret dX10_fitsHearing_99 ⟨rfl, rfl⟩ (by rfl) (Nat.zero_le _) (Nat.zero_le _) ?_
          subst hQ
          obtain rfl : i = H.1 := by omega
          exact ⟨by rw [bI_t (hgo.trans hall)], rfl⟩
        · have h45 : ¬ H.1 ≤ i := fun q => h45 ((nI_leI (by omega) (by omega)).mpr q)
          refine V_aload_n (i := 0) dX10_fitsHearing_48 rfl 1 rfl ?_
          refine V_iload_n (i := 1) dX10_fitsHearing_49 rfl 2 rfl ?_
          refine V_iload_n (i := 2) dX10_fitsHearing_50 rfl 3 rfl ?_
          refine V_iload_n (i := 3) dX10_fitsHearing_51 rfl 0 rfl ?_
          refine M_callVp (As := [.int (nI c), .int (nI e), .int (nI i)]) (st := []) dX10_fitsHearing_52 lv_X10_254 ⟨by decide, by decide⟩ ⟨rfl, rfl⟩ rfl (ci := 7) hb.1 rfl rfl (Nat.le_of_ble_eq_true rfl) (r_hears hb hV hv hc he (i := i) (by omega)) ?_
          refine V_istore (lv2 := [(4, .int (nI (noteBy V c e i))), (3, .int (nI i)), (0, .ref (b)), (1, .int (nI c)), (2, .int (nI e))]) dX10_fitsHearing_55 (by decide) rfl ?_
          refine V_iload dX10_fitsHearing_57 0 rfl ?_
          refine V_bipush (v := nI 9) dX10_fitsHearing_59 rfl ?_
          have hn1 := noteBy_le (e := e) hv hc (i := i) (by omega)
          have hn2 := hH.1.2 i (by omega)
          refine V_icmp_eq (tgt := 92) dX10_fitsHearing_61 rfl (fun h61 => ?_) (fun h61 => ?_)
          · have h61 : (noteBy V c e i) = 9 := (nI_eq (by omega) (by omega)).mp h61
            refine V_iinc (v := nI (i + 1)) (lv2 := [(3, .int (nI (i + 1))), (4, .int (nI (noteBy V c e i))), (0, .ref (b)), (1, .int (nI c)), (2, .int (nI e))]) dX10_fitsHearing_92 1 rfl (nI_inc _) (by decide) rfl ?_
            refine V_goto (tgt := 40) dX10_fitsHearing_95 rfl ?_
            have hfi : fitN V H e c i = true := by unfold fitN; simp only [Bool.or_eq_true, decide_eq_true_eq]; omega
            refine V_sub [0, 2, 3, 4] rfl ?_
            exact M_at (ih40 (by omega) (by show (allTo _ _ && _) = true; rw [hall, hfi]; rfl)) (rfl) rfl (rfl) (rfl)
          · have h61 : ¬ (noteBy V c e i) = 9 := fun q => h61 ((nI_eq (by omega) (by omega)).mpr q)
            refine V_aload_n (i := 0) dX10_fitsHearing_64 rfl 2 rfl ?_
            refine M_getR dX10_fitsHearing_65 lf_X10_76 rfl hb.1 hb.2.2.2.2.2.2.2.2.2.2.2.2.2.2.2.2.2.2.1.1 ?_
            refine V_iload_n (i := 3) dX10_fitsHearing_68 rfl 1 rfl ?_
            refine M_laldn (j := i) (x := lN (H.2.2 i)) dX10_fitsHearing_69 hb.2.2.2.2.2.2.2.2.2.2.2.2.2.2.2.2.2.2.1.2 (by decide) (by omega) (hH.2.2.2 _ (by omega)) ?_
            refine V_ldc2 (v := lN 9) dX10_fitsHearing_70 mw_1290 ?_
            refine V_lcmp dX10_fitsHearing_73 ?_
            refine V_if_eq (tgt := 92) dX10_fitsHearing_74 rfl (fun h74 => ?_) (fun h74 => ?_)
            · have h74 : ((H.2.2 i) : Int) = (9 : Int) := by have q := lg_eq.mp h74; rw [lN_toInt (n := (H.2.2 i)) (by omega), lN_toInt (n := 9) (by omega)] at q; exact q
              refine V_iinc (v := nI (i + 1)) (lv2 := [(3, .int (nI (i + 1))), (4, .int (nI (noteBy V c e i))), (0, .ref (b)), (1, .int (nI c)), (2, .int (nI e))]) dX10_fitsHearing_92 1 rfl (nI_inc _) (by decide) rfl ?_
              refine V_goto (tgt := 40) dX10_fitsHearing_95 rfl ?_
              have hfi : fitN V H e c i = true := by unfold fitN; simp only [Bool.or_eq_true, decide_eq_true_eq]; omega
              refine V_sub [0, 2, 3, 4] rfl ?_
              exact M_at (ih40 (by omega) (by show (allTo _ _ && _) = true; rw [hall, hfi]; rfl)) (rfl) rfl (rfl) (rfl)
            · have h74 : ¬ ((H.2.2 i) : Int) = (9 : Int) := fun r => h74 (lg_eq.mpr (by rw [lN_toInt (n := (H.2.2 i)) (by omega), lN_toInt (n := 9) (by omega)]; exact r))
              refine V_iload dX10_fitsHearing_77 0 rfl ?_
              refine V_i2l dX10_fitsHearing_79 ?_
              refine V_aload_n (i := 0) dX10_fitsHearing_80 rfl 2 rfl ?_
              refine M_getR dX10_fitsHearing_81 lf_X10_76 rfl hb.1 hb.2.2.2.2.2.2.2.2.2.2.2.2.2.2.2.2.2.2.1.1 ?_
              refine V_iload_n (i := 3) dX10_fitsHearing_84 rfl 1 rfl ?_
              refine M_laldn (j := i) (x := lN (H.2.2 i)) dX10_fitsHearing_85 hb.2.2.2.2.2.2.2.2.2.2.2.2.2.2.2.2.2.2.1.2 (by decide) (by omega) (hH.2.2.2 _ (by omega)) ?_
              refine V_lcmp dX10_fitsHearing_86 ?_
              refine V_if_eq (tgt := 92) dX10_fitsHearing_87 rfl (fun h87 => ?_) (fun h87 => ?_)
              · have h87 : ((noteBy V c e i) : Int) = ((H.2.2 i) : Int) := by have q := lg_eq.mp h87; rw [i64, nI_toInt (n := (noteBy V c e i)) (by omega), lN_toInt (n := (H.2.2 i)) (by omega)] at q; exact q
                refine V_iinc (v := nI (i + 1)) (lv2 := [(3, .int (nI (i + 1))), (4, .int (nI (noteBy V c e i))), (0, .ref (b)), (1, .int (nI c)), (2, .int (nI e))]) dX10_fitsHearing_92 1 rfl (nI_inc _) (by decide) rfl ?_
                refine V_goto (tgt := 40) dX10_fitsHearing_95 rfl ?_
                have hfi : fitN V H e c i = true := by unfold fitN; simp only [Bool.or_eq_true, decide_eq_true_eq]; omega
                refine V_sub [0, 2, 3, 4] rfl ?_
                exact M_at (ih40 (by omega) (by show (allTo _ _ && _) = true; rw [hall, hfi]; rfl)) (rfl) rfl (rfl) (rfl)
              · have h87 : ¬ ((noteBy V c e i) : Int) = ((H.2.2 i) : Int) := fun r => h87 (lg_eq.mpr (by rw [i64, nI_toInt (n := (noteBy V c e i)) (by omega), lN_toInt (n := (H.2.2 i)) (by omega)]; exact r))
                refine V_iconst (v := nI 0) dX10_fitsHearing_90 rfl ?_
                refine V_zret dX10_fitsHearing_91 ⟨rfl, rfl⟩ (by rfl) (Nat.zero_le _) (Nat.zero_le _) ?_
                subst hQ
                have hfi : fitN V H e c i = false := by unfold fitN; simp only [Bool.or_eq_false_iff, decide_eq_false_iff_not]; omega
                exact ⟨by rw [bI_f (by rw [hgo, allTo_bad (show i < H.1 by omega) hfi]; decide)], rfl⟩
      refine V_sub [0, 1, 2, 3] rfl ?_
      exact M_at (lp40 0 (Nat.zero_le _) rfl) (rfl) rfl (rfl) (rfl)
    · have h17 : ¬ (v_sz V c) = H.1 := fun q => h17 ((nI_eq (by omega) (by omega)).mpr q)
      refine V_goto (tgt := 36) dX10_fitsHearing_20 rfl ?_
      refine V_iconst (v := nI 0) dX10_fitsHearing_36 rfl ?_
      refine V_zret dX10_fitsHearing_37 ⟨rfl, rfl⟩ (by rfl) (Nat.zero_le _) (Nat.zero_le _) ?_
      subst hQ
      exact ⟨by rw [bI_f (fit_ne h4 (by omega))], rfl⟩
set_option maxRecDepth 20000 in
theorem r_hearsOf {g : Ev} {S : St} {iv : IV} {lw : LW} {b : Nat} (hb : IsMod S b) {V : Cv} (hV : MC iv b V) (hv : VOK V) {c e m : Nat} (hc : c < v_nc V) (he : e < v_ne V) (hm : m ≤ v_sz V c) {z : Int32} {o : Bool} (hz : z = bI (o = true)) : CN g mX10_hearsOf [.ref (b), .int (nI c), .int (nI e), .int (nI m), .int (z)] S iv lw (fun iv2 lw2 => MA b iv iv2 ∧ MH iv2 lw2 b (hearOf V c e m o) ∧ Off (b + 38) 1 lw lw2) := by
  refine CT_ofQ rfl (by decide) (Nat.le_of_ble_eq_true rfl) (lv := [(0, .ref (b)), (1, .int (nI c)), (2, .int (nI e)), (3, .int (nI m)), (4, .int (z))]) rfl (fun Q hQ => ?_)
  have hnc := hv.nc
  have hne := hv.ne
  have hnm := hv.nm
  have hs8 := hv.sz hc
  have hMA : MA b iv (up2 (up2 iv b 33 (nI m)) b 34 z) := (MA.rf.up (by omega)).up (by omega)
  have hV2 := hV.ma hv hMA
  refine V_aload_n (i := 0) dX10_hearsOf_0 rfl 0 rfl ?_
  refine V_iload_n (i := 3) dX10_hearsOf_1 rfl 3 rfl ?_
  refine M_putI dX10_hearsOf_2 lf_X10_262 rfl hb.1 ⟨rfl, rfl⟩ ?_
  refine V_aload_n (i := 0) dX10_hearsOf_5 rfl 0 rfl ?_
  refine V_iload dX10_hearsOf_6 4 rfl ?_
  refine M_putI dX10_hearsOf_8 lf_X10_258 rfl hb.1 (zfit hz) ?_
  refine V_iconst (v := nI 0) dX10_hearsOf_11 rfl ?_
  refine V_istore (lv2 := [(5, .int (nI 0)), (0, .ref (b)), (1, .int (nI c)), (2, .int (nI e)), (3, .int (nI m)), (4, .int (z))]) dX10_hearsOf_12 (by decide) rfl ?_
  have lp14 : ∀ i, i ≤ m → ∀ lw2 : LW, (∀ k, k < i → lw2 (b + 38) k = lN (noteBy V c e k)) → Off (b + 38) 1 lw lw2 → VM g mX10_hearsOf 14 [(5, .int (nI i)), (0, .ref (b)), (1, .int (nI c)), (2, .int (nI e)), (3, .int (nI m))] [] S (up2 (up2 iv b 33 (nI m)) b 34 z) lw2 Q := by
    refine up_ind fun i hi ih14 => ?_
    intro lw2 hrow hL
    refine V_iload dX10_hearsOf_14 0 rfl ?_
    refine V_iload_n (i := 3) dX10_hearsOf_16 rfl 4 rfl ?_
    refine V_icmp_ge (tgt := 42) dX10_hearsOf_17 rfl (fun h17 => ?_) (fun h17 => ?_)
    · have h17 : m ≤ i := (nI_leI (by omega) (by omega)).mp h17
      refine V_vret dX10_hearsOf_42 ⟨rfl, rfl⟩ (Nat.zero_le _) (Nat.zero_le _) ?_
      subst hQ
      obtain rfl : i = m := by omega
      exact ⟨_, _, rfl, rfl, hMA, ⟨⟨by show i ≤ 8; omega, fun k hk => noteBy_le hv hc (by have : k < i := hk; omega)⟩, (up2_k (by decide)).trans up2_s, up2_s.trans hz, hrow⟩, hL⟩
    · have h17 : ¬ m ≤ i := fun q => h17 ((nI_leI (by omega) (by omega)).mpr q)
      refine V_aload_n (i := 0) dX10_hearsOf_20 rfl 1 rfl ?_
      refine M_getR dX10_hearsOf_21 lf_X10_76 rfl hb.1 hb.2.2.2.2.2.2.2.2.2.2.2.2.2.2.2.2.2.2.1.1 ?_
      refine V_iload dX10_hearsOf_24 0 rfl ?_
      refine V_aload_n (i := 0) dX10_hearsOf_26 rfl 1 rfl ?_
      refine V_iload_n (i := 1) dX10_hearsOf_27 rfl 2 rfl ?_
      refine V_iload_n (i := 2) dX10_hearsOf_28 rfl 3 rfl ?_
      refine V_iload dX10_hearsOf_29 0 rfl ?_
      refine M_callVp (As := [.int (nI c), .int (nI e), .int (nI i)]) (st := [.int (nI i), .ref (b + 38)]) dX10_hearsOf_31 lv_X10_254 ⟨by decide, by decide⟩ ⟨rfl, rfl⟩ rfl (ci := 7) hb.1 rfl rfl (Nat.le_of_ble_eq_true rfl) (r_hears hb hV2 hv hc he (i := i) (by omega)) ?_
      refine V_i2l dX10_hearsOf_34 ?_
      refine M_lastn (j := i) dX10_hearsOf_35 hb.2.2.2.2.2.2.2.2.2.2.2.2.2.2.2.2.2.2.1.2 (by decide) (by omega) ?_
      refine V_iinc (v := nI (i + 1)) (lv2 := [(5, .int (nI (i + 1))), (0, .ref (b)), (1, .int (nI c)), (2, .int (nI e)), (3, .int (nI m))]) dX10_hearsOf_36 0 rfl (nI_inc _) (by decide) rfl ?_
      refine V_goto (tgt := 14) dX10_hearsOf_39 rfl ?_
      have he5 : (nI (noteBy V c e i)).toInt64 = lN (noteBy V c e i) := by have := noteBy_le (e := e) hv hc (i := i) (by omega); exact n64 (by omega)
      refine V_sub [0, 1, 2, 3, 4] rfl ?_
      exact M_at (ih14 (by omega) _ (rowAddL (f := fun k => lN (noteBy V c e k)) hrow he5) (hL.up (by omega) (by omega))) (rfl) rfl (rfl) (rfl)
  refine V_sub [0, 1, 2, 3, 4] rfl ?_
  exact M_at (lp14 0 (Nat.zero_le _) lw (fun k hk => absurd hk (by omega)) Off.rf) (rfl) rfl (rfl) (rfl)
set_option maxRecDepth 20000 in
theorem r_likelyOf {g : Ev} {S : St} {iv : IV} {lw : LW} {b : Nat} (hb : IsMod S b) {V : Cv} (hV : MC iv b V) (hv : VOK V) {H : Hv} (hH : MH iv lw b H) {c e : Nat} (hc : c < v_nc V) (he : e < v_ne V) : CP g mX10_likelyOf [.ref (b), .int (nI c), .int (nI e)] S iv lw (.int (nI (likeOf V H e c))) := by
  refine CT_ofQ rfl (by decide) (Nat.le_of_ble_eq_true rfl) (lv := [(0, .ref (b)), (1, .int (nI c)), (2, .int (nI e))]) rfl (fun Q hQ => ?_)
  have hnc := hv.nc
  have hne := hv.ne
  have hnm := hv.nm
  refine V_iconst (v := nI 0) dX10_likelyOf_0 rfl ?_
  refine V_istore_n (lv2 := [(3, .int (nI 0)), (0, .ref (b)), (1, .int (nI c)), (2, .int (nI e))]) dX10_likelyOf_1 rfl (by decide) rfl ?_
  refine V_iconst (v := nI 0) dX10_likelyOf_2 rfl ?_
  refine V_istore (lv2 := [(4, .int (nI 0)), (3, .int (nI 0)), (0, .ref (b)), (1, .int (nI c)), (2, .int (nI e))]) dX10_likelyOf_3 (by decide) rfl ?_
  have lp5 : ∀ j, j ≤ (v_nc V) → VM g mX10_likelyOf 5 [(4, .int (nI j)), (3, .int (nI (sumTo (fun c => if fitB V H e c = true then v_us V c else 0) j))), (0, .ref (b)), (1, .int (nI c)), (2, .int (nI e))] [] S iv lw Q := by
    refine up_ind fun j hj ih5 => ?_
    refine V_iload dX10_likelyOf_5 0 rfl ?_
    refine V_aload_n (i := 0) dX10_likelyOf_7 rfl 2 rfl ?_
    refine M_getI (x := nI (v_nc V)) dX10_likelyOf_8 lf_X10_88 rfl hb.1 (hV.nc) ?_
    refine V_icmp_ge (tgt := 44) dX10_likelyOf_11 rfl (fun h11 => ?_) (fun h11 => ?_)
    · have h11 : (v_nc V) ≤ j := (nI_leI (by omega) (by omega)).mp h11
      have hj9 : j = v_nc V := by omega
      have hf : usF V H e ≤ 1188 := usF_le hv _ (Nat.le_refl _)
      have hu := hv.us hc
      refine M_at (lv2 := [(4, .int (nI j)), (3, .int (nI (usF V H e))), (0, .ref (b)), (1, .int (nI c)), (2, .int (nI e))]) (st2 := []) ?_ (by rw [hj9]; rfl) rfl rfl rfl
      refine V_aload_n (i := 0) dX10_likelyOf_44 rfl 2 rfl ?_
      refine V_iload_n (i := 1) dX10_likelyOf_45 rfl 3 rfl ?_
      refine V_iload_n (i := 2) dX10_likelyOf_46 rfl 4 rfl ?_
      refine M_callVp (As := [.int (nI c), .int (nI e)]) (st := []) dX10_likelyOf_47 lv_X10_265 ⟨by decide, by decide⟩ ⟨rfl, rfl⟩ rfl (ci := 7) hb.1 rfl rfl (Nat.le_of_ble_eq_true rfl) (r_fitsHearing hb hV hv hH hc he) ?_
      refine V_if_eq (tgt := 68) dX10_likelyOf_50 rfl (fun h50 => ?_) (fun h50 => ?_)
      · have h50 : ¬ (fitB V H e c = true) := bI_eq0.mp h50
        refine V_iconst (v := nI 0) dX10_likelyOf_68 rfl ?_
        refine V_iret dX10_likelyOf_69 ⟨rfl, rfl⟩ (Nat.zero_le _) (Nat.zero_le _) ?_
        subst hQ
        exact ⟨by unfold likeOf; rw [if_neg h50], rfl⟩
      · have h50 : fitB V H e c = true := bI_ne.mp h50
        have hup := usF_pos hv hc h50
        refine V_sipush (v := nI 1000) dX10_likelyOf_53 rfl ?_
        refine V_aload_n (i := 0) dX10_likelyOf_56 rfl 2 rfl ?_
        refine M_getR dX10_likelyOf_57 lf_X10_45 rfl hb.1 hb.2.2.2.2.2.2.2.2.2.2.2.1.1 ?_
        refine V_iload_n (i := 1) dX10_likelyOf_60 rfl 3 rfl ?_
        refine M_ialdn (j := c) (x := nI (v_us V c)) dX10_likelyOf_61 hb.2.2.2.2.2.2.2.2.2.2.2.1.2 (by decide) (by omega) (hV.us (c := c) (by omega)) ?_
        refine V_imul dX10_likelyOf_62 ?_
        refine M_top (pk_mul _ _) ?_
        refine V_iload_n (i := 3) dX10_likelyOf_63 rfl 1 rfl ?_
        refine V_idiv dX10_likelyOf_64 (nI_ne0 (by omega) (by omega)) ?_
        refine M_top (x2 := nI (1000 * v_us V c / usF V H e)) (pk_div (by omega) (by omega) (by omega)) ?_
        refine V_goto (tgt := 69) dX10_likelyOf_65 rfl ?_
        refine V_iret dX10_likelyOf_69 ⟨rfl, rfl⟩ (Nat.zero_le _) (Nat.zero_le _) ?_
        subst hQ
        exact ⟨by unfold likeOf; rw [if_pos h50]; unfold perK; rw [if_pos hup], rfl⟩
    · have h11 : ¬ (v_nc V) ≤ j := fun q => h11 ((nI_leI (by omega) (by omega)).mpr q)
      refine V_iload_n (i := 3) dX10_likelyOf_14 rfl 1 rfl ?_
      refine V_aload_n (i := 0) dX10_likelyOf_15 rfl 2 rfl ?_
      refine V_iload dX10_likelyOf_16 0 rfl ?_
      refine V_iload_n (i := 2) dX10_likelyOf_18 rfl 4 rfl ?_
      refine M_callVp (As := [.int (nI j), .int (nI e)]) (st := [.int (nI (sumTo (fun c => if fitB V H e c = true then v_us V c else 0) j))]) dX10_likelyOf_19 lv_X10_265 ⟨by decide, by decide⟩ ⟨rfl, rfl⟩ rfl (ci := 7) hb.1 rfl rfl (Nat.le_of_ble_eq_true rfl) (r_fitsHearing hb hV hv hH (c := j) (by omega) he) ?_
      refine V_if_eq (tgt := 35) dX10_likelyOf_22 rfl (fun h22 => ?_) (fun h22 => ?_)
      · have h22 : ¬ (fitB V H e j = true) := bI_eq0.mp h22
        refine V_iconst (v := nI 0) dX10_likelyOf_35 rfl ?_
        refine V_iadd dX10_likelyOf_36 ?_
        refine M_top (nI_add _ _) ?_
        refine V_istore_n (lv2 := [(3, .int (nI ((sumTo (fun c => if fitB V H e c = true then v_us V c else 0) j) + 0))), (4, .int (nI j)), (0, .ref (b)), (1, .int (nI c)), (2, .int (nI e))]) dX10_likelyOf_37 rfl (by decide) rfl ?_
        refine V_iinc (v := nI (j + 1)) (lv2 := [(4, .int (nI (j + 1))), (3, .int (nI ((sumTo (fun c => if fitB V H e c = true then v_us V c else 0) j) + 0))), (0, .ref (b)), (1, .int (nI c)), (2, .int (nI e))]) dX10_likelyOf_38 1 rfl (nI_inc _) (by decide) rfl ?_
        refine V_goto (tgt := 5) dX10_likelyOf_41 rfl ?_
        refine V_sub [0, 1, 2, 3, 4] rfl ?_
        exact M_at (ih5 (by omega)) (by rw [sumTo_f h22]; rfl) rfl (rfl) (rfl)
      · have h22 : fitB V H e j = true := bI_ne.mp h22
        refine V_aload_n (i := 0) dX10_likelyOf_25 rfl 2 rfl ?_
        refine M_getR dX10_likelyOf_26 lf_X10_45 rfl hb.1 hb.2.2.2.2.2.2.2.2.2.2.2.1.1 ?_
        refine V_iload dX10_likelyOf_29 0 rfl ?_
        refine M_ialdn (j := j) (x := nI (v_us V j)) dX10_likelyOf_31 hb.2.2.2.2.2.2.2.2.2.2.2.1.2 (by decide) (by omega) (hV.us (c := j) (by omega)) ?_
        refine V_goto (tgt := 36) dX10_likelyOf_32 rfl ?_
        refine V_iadd dX10_likelyOf_36 ?_
        refine M_top (nI_add _ _) ?_
        refine V_istore_n (lv2 := [(3, .int (nI ((sumTo (fun c => if fitB V H e c = true then v_us V c else 0) j) + (v_us V j)))), (4, .int (nI j)), (0, .ref (b)), (1, .int (nI c)), (2, .int (nI e))]) dX10_likelyOf_37 rfl (by decide) rfl ?_
        refine V_iinc (v := nI (j + 1)) (lv2 := [(4, .int (nI (j + 1))), (3, .int (nI ((sumTo (fun c => if fitB V H e c = true then v_us V c else 0) j) + (v_us V j)))), (0, .ref (b)), (1, .int (nI c)), (2, .int (nI e))]) dX10_likelyOf_38 1 rfl (nI_inc _) (by decide) rfl ?_
        refine V_goto (tgt := 5) dX10_likelyOf_41 rfl ?_
        refine V_sub [0, 1, 2, 3, 4] rfl ?_
        exact M_at (ih5 (by omega)) (by rw [sumTo_t h22]; rfl) rfl (rfl) (rfl)
  refine V_sub [0, 1, 2, 3, 4] rfl ?_
  exact M_at (lp5 0 (Nat.zero_le _)) (rfl) rfl (rfl) (rfl)
set_option maxRecDepth 20000 in
theorem r_guessOf {g : Ev} {S : St} {iv : IV} {lw : LW} {b : Nat} (hb : IsMod S b) {V : Cv} (hV : MC iv b V) (hv : VOK V) {H : Hv} (hH : MH iv lw b H) {e : Nat} (he : e < v_ne V) : CP g mX10_guessOf [.ref (b), .int (nI e)] S iv lw (.int (oI (gsTo V H e (v_nc V)))) := by
  refine CT_ofQ rfl (by decide) (Nat.le_of_ble_eq_true rfl) (lv := [(0, .ref (b)), (1, .int (nI e))]) rfl (fun Q hQ => ?_)
  have hnc := hv.nc
  have hne := hv.ne
  have hnm := hv.nm
  refine V_iconst (v := (-1)) dX10_guessOf_0 rfl ?_
  refine V_istore_n (lv2 := [(2, .int ((-1))), (0, .ref (b)), (1, .int (nI e))]) dX10_guessOf_1 rfl (by decide) rfl ?_
  refine V_iconst (v := nI 0) dX10_guessOf_2 rfl ?_
  refine V_istore_n (lv2 := [(3, .int (nI 0)), (2, .int ((-1))), (0, .ref (b)), (1, .int (nI e))]) dX10_guessOf_3 rfl (by decide) rfl ?_
  have lp4 : ∀ j, j ≤ (v_nc V) → VM g mX10_guessOf 4 [(3, .int (nI j)), (2, .int (oI (gsTo V H e j))), (0, .ref (b)), (1, .int (nI e))] [] S iv lw Q := by
    refine up_ind fun j hj ih4 => ?_
    have hgl := fun k hk => gsTo_lt (V := V) (H := H) (e := e) j (k := k) hk
    refine V_iload_n (i := 3) dX10_guessOf_4 rfl 0 rfl ?_
    refine V_aload_n (i := 0) dX10_guessOf_5 rfl 2 rfl ?_
    refine M_getI (x := nI (v_nc V)) dX10_guessOf_6 lf_X10_88 rfl hb.1 (hV.nc) ?_
    refine V_icmp_ge (tgt := 49) dX10_guessOf_9 rfl (fun h9 => ?_) (fun h9 => ?_)
    · have h9 : (v_nc V) ≤ j := (nI_leI (by omega) (by omega)).mp h9
      refine V_iload_n (i := 2) dX10_guessOf_49 rfl 1 rfl ?_
      refine V_iret dX10_guessOf_50 ⟨rfl, rfl⟩ (Nat.zero_le _) (Nat.zero_le _) ?_
      subst hQ
      exact ⟨by rw [show j = v_nc V by omega], rfl⟩
    · have h9 : ¬ (v_nc V) ≤ j := fun q => h9 ((nI_leI (by omega) (by omega)).mpr q)
      refine V_aload_n (i := 0) dX10_guessOf_12 rfl 2 rfl ?_
      refine V_iload_n (i := 3) dX10_guessOf_13 rfl 0 rfl ?_
      refine V_iload_n (i := 1) dX10_guessOf_14 rfl 3 rfl ?_
      refine M_callVp (As := [.int (nI j), .int (nI e)]) (st := []) dX10_guessOf_15 lv_X10_265 ⟨by decide, by decide⟩ ⟨rfl, rfl⟩ rfl (ci := 7) hb.1 rfl rfl (Nat.le_of_ble_eq_true rfl) (r_fitsHearing hb hV hv hH (c := j) (by omega) he) ?_
      refine V_if_eq (tgt := 43) dX10_guessOf_18 rfl (fun h18 => ?_) (fun h18 => ?_)
      · have h18 : ¬ (fitB V H e j = true) := bI_eq0.mp h18
        refine V_iinc (v := nI (j + 1)) (lv2 := [(3, .int (nI (j + 1))), (2, .int (oI (gsTo V H e j))), (0, .ref (b)), (1, .int (nI e))]) dX10_guessOf_43 0 rfl (nI_inc _) (by decide) rfl ?_
        refine V_goto (tgt := 4) dX10_guessOf_46 rfl ?_
        refine V_sub [0, 1, 2, 3] rfl ?_
        exact M_at (ih4 (by omega)) (by rw [gsTo_f (fun z => h18 z.2)]; try rfl) rfl (rfl) (rfl)
      · have h18 : fitB V H e j = true := bI_ne.mp h18
        refine V_iload_n (i := 2) dX10_guessOf_21 rfl 1 rfl ?_
        refine V_iconst (v := (-1)) dX10_guessOf_22 rfl ?_
        refine V_icmp_eq (tgt := 41) dX10_guessOf_23 rfl (fun h23 => ?_) (fun h23 => ?_)
        · have h23 := (oI_m1 hgl (by omega)).mp h23
          refine V_iload_n (i := 3) dX10_guessOf_41 rfl 0 rfl ?_
          refine V_istore_n (lv2 := [(2, .int (nI j)), (3, .int (nI j)), (0, .ref (b)), (1, .int (nI e))]) dX10_guessOf_42 rfl (by decide) rfl ?_
          refine V_iinc (v := nI (j + 1)) (lv2 := [(3, .int (nI (j + 1))), (2, .int (nI j)), (0, .ref (b)), (1, .int (nI e))]) dX10_guessOf_43 1 rfl (nI_inc _) (by decide) rfl ?_
          refine V_goto (tgt := 4) dX10_guessOf_46 rfl ?_
          refine V_sub [0, 1, 2, 3] rfl ?_
          exact M_at (ih4 (by omega)) (by rw [gsTo_t (by rw [h23]; exact hv.us1 (by omega)) h18]; rfl) rfl (rfl) (rfl)
        · obtain ⟨k0, hk0⟩ := Option.ne_none_iff_exists'.mp (fun z => h23 ((oI_m1 hgl (by omega)).mpr z))
          have hk1 := hgl k0 hk0
          refine M_at (lv2 := [(3, .int (nI j)), (2, .int (nI k0)), (0, .ref (b)), (1, .int (nI e))]) (st2 := []) ?_ (by rw [hk0]; rfl) rfl rfl rfl
          refine V_aload_n (i := 0) dX10_guessOf_26 rfl 2 rfl ?_
          refine M_getR dX10_guessOf_27 lf_X10_45 rfl hb.1 hb.2.2.2.2.2.2.2.2.2.2.2.1.1 ?_
          refine V_iload_n (i := 3) dX10_guessOf_30 rfl 0 rfl ?_
          refine M_ialdn (j := j) (x := nI (v_us V j)) dX10_guessOf_31 hb.2.2.2.2.2.2.2.2.2.2.2.1.2 (by decide) (by omega) (hV.us (c := j) (by omega)) ?_
          refine V_aload_n (i := 0) dX10_guessOf_32 rfl 2 rfl ?_
          refine M_getR dX10_guessOf_33 lf_X10_45 rfl hb.1 hb.2.2.2.2.2.2.2.2.2.2.2.1.1 ?_
          refine V_iload_n (i := 2) dX10_guessOf_36 rfl 1 rfl ?_
          refine M_ialdn (j := k0) (x := nI (v_us V k0)) dX10_guessOf_37 hb.2.2.2.2.2.2.2.2.2.2.2.1.2 (by decide) (by omega) (hV.us (c := k0) (by omega)) ?_
          have hu1 := hv.us (c := j) (by omega)
          have hu2 := hv.us (c := k0) (by omega)
          refine V_icmp_le (tgt := 43) dX10_guessOf_38 rfl (fun h38 => ?_) (fun h38 => ?_)
          · have h38 : (v_us V j) ≤ (v_us V k0) := (nI_leI (by omega) (by omega)).mp h38
            have h38 : ¬ v_us V k0 < v_us V j := by omega
            refine V_iinc (v := nI (j + 1)) (lv2 := [(3, .int (nI (j + 1))), (2, .int (nI k0)), (0, .ref (b)), (1, .int (nI e))]) dX10_guessOf_43 0 rfl (nI_inc _) (by decide) rfl ?_
            refine V_goto (tgt := 4) dX10_guessOf_46 rfl ?_
            refine V_sub [0, 1, 2, 3] rfl ?_
            exact M_at (ih4 (by omega)) (by rw [gsTo_f (fun z => h38 (by rw [gs_us hk0] at z; exact z.1)), hk0]; rfl) rfl (rfl) (rfl)
          · have h38 : ¬ (v_us V j) ≤ (v_us V k0) := fun q => h38 ((nI_leI (by omega) (by omega)).mpr q)
            refine V_iload_n (i := 3) dX10_guessOf_41 rfl 0 rfl ?_
            refine V_istore_n (lv2 := [(2, .int (nI j)), (3, .int (nI j)), (0, .ref (b)), (1, .int (nI e))]) dX10_guessOf_42 rfl (by decide) rfl ?_
            refine V_iinc (v := nI (j + 1)) (lv2 := [(3, .int (nI (j + 1))), (2, .int (nI j)), (0, .ref (b)), (1, .int (nI e))]) dX10_guessOf_43 1 rfl (nI_inc _) (by decide) rfl ?_
            refine V_goto (tgt := 4) dX10_guessOf_46 rfl ?_
            refine V_sub [0, 1, 2, 3] rfl ?_
            exact M_at (ih4 (by omega)) (by rw [gsTo_t (by rw [gs_us hk0]; omega) h18]; rfl) rfl (rfl) (rfl)
  refine V_sub [0, 1, 2, 3] rfl ?_
  exact M_at (lp4 0 (Nat.zero_le _)) (rfl) rfl (rfl) (rfl)
