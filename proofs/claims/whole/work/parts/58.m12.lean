/-! the reference: where a new one is made -/
abbrev VN (g : Ev) (y : Yt) (pc : Nat) (lv : List (Nat × Value)) (st : List Value) (S : St) (iv : IV) (lw : LW) (Q : Option Value → Dt → Prop) : Prop := V g y pc lv st (S.1, S.2, iv, lw) 42 902 Q
section
variable {g : Ev} {y z : Yt} {pc : Nat} {lv : List (Nat × Value)} {st : List Value} {S : St} {iv : IV} {lw : LW} {Q : Option Value → Dt → Prop}
theorem W_top {x x2 : Int32} (e : x = x2) (h : VN g y pc lv (.int x2 :: st) S iv lw Q) : VN g y pc lv (.int x :: st) S iv lw Q := e ▸ h
theorem W_topL {x x2 : Int64} (e : x = x2) (h : VN g y pc lv (.long x2 :: st) S iv lw Q) : VN g y pc lv (.long x :: st) S iv lw Q := e ▸ h
theorem W_at {lv2 : List (Nat × Value)} {st2 : List Value} {iv2 : IV} {lw2 : LW} (h : VN g y pc lv2 st2 S iv2 lw2 Q) (e1 : lv = lv2) (e2 : st = st2) (e3 : iv = iv2) (e4 : lw = lw2) : VN g y pc lv st S iv lw Q := by subst e1; subst e2; subst e3; subst e4; exact h
theorem W_getI {idx ci f a : Nat} {fin : Bool} {x : Int32} (hd : decode (y_b y) pc = .ok (.getfield idx, 3)) (hf : LF (y_c y) idx ci f fin) (hI : isI (tyC ci f) = true) (ha : KD S a (0, ci)) (hv : iv a f = x) (h : VN g y (pc + 3) lv (.int x :: st) S iv lw Q) : VN g y pc lv (.ref a :: st) S iv lw Q := V_getI (D := (S.1, S.2, iv, lw)) hd hf hI ha.1 ha.2 (by rw [show (((S.1, S.2, iv, lw) : Dt).2.2.1 a f) = x from hv]; exact h)
theorem W_getR {idx ci f a b : Nat} {fin : Bool} (hd : decode (y_b y) pc = .ok (.getfield idx, 3)) (hf : LF (y_c y) idx ci f fin) (hI : isI (tyC ci f) = false) (ha : KD S a (0, ci)) (hv : S.2 a f = some b) (h : VN g y (pc + 3) lv (.ref b :: st) S iv lw Q) : VN g y pc lv (.ref a :: st) S iv lw Q := V_getR (D := (S.1, S.2, iv, lw)) hd hf hI ha.1 ha.2 hv h
theorem W_putI {idx ci f a : Nat} {v : Int32} (hd : decode (y_b y) pc = .ok (.putfield idx, 3)) (hf : LF (y_c y) idx ci f false) (hI : isI (tyC ci f) = true) (ha : KD S a (0, ci)) (hv : narrow (tyC ci f) (.int v) = .int v ∧ fits (tyC ci f) (.int v) = true) (h : VN g y (pc + 3) lv st S (up2 iv a f v) lw Q) : VN g y pc lv (.int v :: .ref a :: st) S iv lw Q := V_putI (D := (S.1, S.2, iv, lw)) hd hf (fun h => by cases h) hI ha.1 ha.2 hv h
theorem W_callVp {idx np ci b : Nat} {cl : vw_C} {As : List Value} {w : Value} (hd : decode (y_b y) pc = .ok (.invokevirtual idx, 3)) (hl : LV (y_c y) idx z np) (hrm : RM y z) (hz : pure0 z) (hy : 42 ≤ y_mc y ∧ 902 ≤ y_ms y) (hnp : As.length = np) (hb : KD S b (0, ci)) (hc : vwCl[ci]? = some cl) (hcn : cl.1 = z.1.cls) (hst : (st.map fun v => v.category).sum ≤ 8) (hM : CP g z (.ref b :: As) S iv lw w) (h : VN g y (pc + 3) lv (w :: st) S iv lw Q) : VN g y pc lv (As.reverse ++ .ref b :: st) S iv lw Q := V_callV hd hl hrm hnp (hb.rcv (iv := iv) (lw := lw) rfl hc hcn) hst (k2 := 42) (n2 := 902) (by rw [hz.1]; exact Nat.le_refl _) hy.1 (by rw [hz.2]; exact Nat.le_refl _) hy.2 hM (fun v D q => by obtain ⟨rfl, rfl⟩ := q; exact h)
theorem W_callVq {idx np ci b : Nat} {cl : vw_C} {As : List Value} {P : Value → IV → LW → Prop} (hd : decode (y_b y) pc = .ok (.invokevirtual idx, 3)) (hl : LV (y_c y) idx z np) (hrm : RM y z) (hz : pure0 z) (hy : 42 ≤ y_mc y ∧ 902 ≤ y_ms y) (hnp : As.length = np) (hb : KD S b (0, ci)) (hc : vwCl[ci]? = some cl) (hcn : cl.1 = z.1.cls) (hst : (st.map fun v => v.category).sum ≤ 8) (hM : CQ g z (.ref b :: As) S iv lw P) (h : ∀ w iv2 lw2, P w iv2 lw2 → VN g y (pc + 3) lv (w :: st) S iv2 lw2 Q) : VN g y pc lv (As.reverse ++ .ref b :: st) S iv lw Q := V_callV hd hl hrm hnp (hb.rcv (iv := iv) (lw := lw) rfl hc hcn) hst (k2 := 42) (n2 := 902) (by rw [hz.1]; exact Nat.le_refl _) hy.1 (by rw [hz.2]; exact Nat.le_refl _) hy.2 hM (fun v D q => by obtain ⟨w, iv2, lw2, rfl, rfl, q⟩ := q; exact h w iv2 lw2 q)
theorem W_callVn {idx np ci b : Nat} {cl : vw_C} {As : List Value} {P : IV → LW → Prop} (hd : decode (y_b y) pc = .ok (.invokevirtual idx, 3)) (hl : LV (y_c y) idx z np) (hrm : RM y z) (hz : pure0 z) (hy : 42 ≤ y_mc y ∧ 902 ≤ y_ms y) (hnp : As.length = np) (hb : KD S b (0, ci)) (hc : vwCl[ci]? = some cl) (hcn : cl.1 = z.1.cls) (hst : (st.map fun v => v.category).sum ≤ 8) (hM : CN g z (.ref b :: As) S iv lw P) (h : ∀ iv2 lw2, P iv2 lw2 → VN g y (pc + 3) lv st S iv2 lw2 Q) : VN g y pc lv (As.reverse ++ .ref b :: st) S iv lw Q := V_callV hd hl hrm hnp (hb.rcv (iv := iv) (lw := lw) rfl hc hcn) hst (k2 := 42) (n2 := 902) (by rw [hz.1]; exact Nat.le_refl _) hy.1 (by rw [hz.2]; exact Nat.le_refl _) hy.2 hM (fun v D q => by obtain ⟨iv2, lw2, rfl, rfl, q⟩ := q; exact h iv2 lw2 q)
end
/-- more cells; what was is as it was, but b's two late fields -/
def MG (S S2 : St) (b : Nat) : Prop := (S.1.1 ≤ S2.1.1 ∧ S2.1.1 ≤ S.1.1 + 42) ∧ (∀ a, a < S.1.1 → S2.1.2 a = S.1.2 a) ∧ ∀ a k, a < S.1.1 → (a = b → ¬ k = 23 ∧ ¬ k = 24) → S2.2 a k = S.2 a k
theorem MG.rf {S : St} {b : Nat} : MG S S b := ⟨⟨Nat.le_refl _, Nat.le_add_right _ _⟩, fun _ _ => rfl, fun _ _ _ _ => rfl⟩
theorem KD.mg {S S2 : St} {b a : Nat} {kd : Nat × Nat} (h : KD S a kd) (hg : MG S S2 b) : KD S2 a kd := ⟨Nat.lt_of_lt_of_le h.1 hg.1.1, (hg.2.1 a h.1).trans h.2⟩
theorem rk_mg {S S2 : St} {b a k q : Nat} {kd kd2 : Nat × Nat} (ha : KD S a kd2) (h : S.2 a k = some q ∧ KD S q kd) (hg : MG S S2 b) (hk : k < 23 ∨ 24 < k) : S2.2 a k = some q ∧ KD S2 q kd := ⟨(hg.2.2 a k ha.1 (fun _ => by omega)).trans h.1, h.2.mg hg⟩
theorem IsMod.mg {S S2 : St} {b M : Nat} (h : IsMod S M) (hg : MG S S2 b) : IsMod S2 M := by
  obtain ⟨h0, f0, f1, f2, f3, f4, f5, f6, f8, f10, f11, f12, f13, f15, f16, f18, f19, f30, f32, f35, f36, f37, hs, hc⟩ := h
  exact ⟨h0.mg hg, rk_mg h0 f0 hg (by decide), rk_mg h0 f1 hg (by decide), rk_mg h0 f2 hg (by decide), rk_mg h0 f3 hg (by decide), rk_mg h0 f4 hg (by decide), rk_mg h0 f5 hg (by decide), rk_mg h0 f6 hg (by decide), rk_mg h0 f8 hg (by decide), rk_mg h0 f10 hg (by decide), rk_mg h0 f11 hg (by decide), rk_mg h0 f12 hg (by decide), rk_mg h0 f13 hg (by decide), rk_mg h0 f15 hg (by decide), rk_mg h0 f16 hg (by decide), rk_mg h0 f18 hg (by decide), rk_mg h0 f19 hg (by decide), rk_mg h0 f30 hg (by decide), rk_mg h0 f32 hg (by decide), rk_mg h0 f35 hg (by decide), rk_mg h0 f36 hg (by decide), rk_mg h0 f37 hg (by decide), fun s h8 => rk_mg f3.2 (hs s h8) hg (by omega), fun c h12 => rk_mg f10.2 (hc c h12) hg (by omega)⟩
theorem IsMod.lt {S : St} {M : Nat} (h : IsMod S M) : M + 42 ≤ S.1.1 := by
  obtain ⟨h0, f0, f1, f2, f3, f4, f5, f6, f8, f10, f11, f12, f13, f15, f16, f18, f19, f30, f32, f35, f36, f37, hs, hc⟩ := h
  exact f37.2.1
theorem IsCamp.mg {S S2 : St} {b M : Nat} (h : IsCamp S M) (hg : MG S S2 b) : IsCamp S2 M := by
  obtain ⟨h0, f0, f1, f2, f3, f4, f5, f6, f7⟩ := h
  exact ⟨h0.mg hg, rk_mg h0 f0 hg (by decide), rk_mg h0 f1 hg (by decide), rk_mg h0 f2 hg (by decide), rk_mg h0 f3 hg (by decide), rk_mg h0 f4 hg (by decide), rk_mg h0 f5 hg (by decide), rk_mg h0 f6 hg (by decide), rk_mg h0 f7 hg (by decide)⟩
theorem IsCrowd.mg {S S2 : St} {b M : Nat} (h : IsCrowd S M) (hg : MG S S2 b) : IsCrowd S2 M := by
  obtain ⟨h0, f0, f1, f2, f3⟩ := h
  exact ⟨h0.mg hg, rk_mg h0 f0 hg (by decide), rk_mg h0 f1 hg (by decide), rk_mg h0 f2 hg (by decide), rk_mg h0 f3 hg (by decide)⟩
theorem IsHear.mg {S S2 : St} {b M : Nat} (h : IsHear S M) (hg : MG S S2 b) : IsHear S2 M := ⟨h.1.mg hg, rk_mg h.1 h.2 hg (by decide)⟩
theorem IsLike.mg {S S2 : St} {b M : Nat} (h : IsLike S M) (hg : MG S S2 b) : IsLike S2 M := ⟨h.1.mg hg, rk_mg h.1 h.2 hg (by decide)⟩
theorem IsShelf.mg {S S2 : St} {b M : Nat} (h : IsShelf S M) (hg : MG S S2 b) : IsShelf S2 M := ⟨h.1.mg hg, rk_mg h.1 h.2 hg (by decide)⟩
theorem IsTape.mg {S S2 : St} {b M : Nat} (h : IsTape S M) (hg : MG S S2 b) : IsTape S2 M := ⟨h.1.mg hg, rk_mg h.1 h.2 hg (by decide)⟩
theorem IsX.mg {S S2 : St} {b : Nat} (h : IsX S) (hg : MG S S2 b) : IsX S2 := by
  obtain ⟨h0, f0, f1, f2, f5, f6, f7, f8, f9, f4, hs⟩ := h
  have r0 : ∀ {k q : Nat}, S.2 0 k = some q → (k < 23 ∨ 24 < k) → S2.2 0 k = some q := fun e hk => (hg.2.2 0 _ h0.1 (fun _ => by omega)).trans e
  exact ⟨h0.mg hg, ⟨r0 f0.1 (by decide), f0.2.mg hg⟩, ⟨r0 f1.1 (by decide), f1.2.mg hg⟩, ⟨r0 f2.1 (by decide), f2.2.mg hg⟩, ⟨r0 f5.1 (by decide), f5.2.mg hg⟩, ⟨r0 f6.1 (by decide), f6.2.mg hg⟩, ⟨r0 f7.1 (by decide), f7.2.mg hg⟩, ⟨r0 f8.1 (by decide), f8.2.mg hg⟩, ⟨r0 f9.1 (by decide), f9.2.mg hg⟩, ⟨r0 f4.1 (by decide), f4.2.mg hg⟩, fun s h8 => ⟨(hg.2.2 28 s f4.2.1 (fun _ => by omega)).trans (hs s h8).1, (hs s h8).2.mg hg⟩⟩
/-- one more of the reference's kind, at the end; b's field f is it -/
def nwD (S : St) (iv : IV) (lw : LW) : Dt := d_new (S.1, S.2, iv, lw) (0, 7)
def nwE (S : St) (iv : IV) (lw : LW) (b f : Nat) : Dt := d_setR (iD (inX10 (nwD S iv lw) S.1.1) S.1.1 (S.1.1 + 1) lsX10) b f (some S.1.1)
abbrev nwS (S : St) (iv : IV) (lw : LW) (b f : Nat) : St := ((nwE S iv lw b f).1, (nwE S iv lw b f).2.1)
theorem nw_ok {S : St} {iv : IV} {lw : LW} {b f : Nat} (hb : b < S.1.1) (hf : f = 23 ∨ f = 24) : MG S (nwS S iv lw b f) b ∧ IsMod (nwS S iv lw b f) S.1.1 ∧ (nwS S iv lw b f).2 b f = some S.1.1 ∧ (∀ k, ¬ k = f → (nwS S iv lw b f).2 b k = S.2 b k) ∧ ∀ a, a < S.1.1 → (nwE S iv lw b f).2.2.1 a = iv a ∧ (nwE S iv lw b f).2.2.2 a = lw a := by
  have r1 : ∀ a k, a < S.1.1 → (iD (inX10 (nwD S iv lw) S.1.1) S.1.1 (S.1.1 + 1) lsX10).2.1 a k = S.2 a k := fun a k ha => by
    rw [iD_ro (by omega) (by omega)]
    exact congrFun (if_neg (show ¬ a = S.1.1 by omega)) k
  have hM := m_new (D := nwD S iv lw) (b := S.1.1) rfl (if_pos rfl) (if_pos rfl)
  refine ⟨⟨⟨?_, ?_⟩, fun a ha => ?_, fun a k ha hk => ?_⟩, ?_, ?_, fun k hk => ?_, fun a ha => ⟨?_, ?_⟩⟩
  · show S.1.1 ≤ S.1.1 + 1 + lsX10.length; omega
  · show S.1.1 + 1 + lsX10.length ≤ S.1.1 + 42; rw [show lsX10.length = 41 from rfl]; omega
  · exact (iD_ko (b := S.1.1) (show a < S.1.1 + 1 by omega)).trans (if_neg (show ¬ a = S.1.1 by omega))
  · exact (up2_o (fun z => by have := hk z.1; omega)).trans (r1 a k ha)
  · refine hM.mg (b := b) ⟨⟨Nat.le_refl _, Nat.le_add_right _ _⟩, fun _ _ => rfl, fun a k ha hk => up2_o (fun z => by have := hk z.1; omega)⟩
  · exact up2_s
  · exact (up2_o (fun z => hk z.2)).trans (r1 b k hb)
  · show (iD (inX10 (nwD S iv lw) S.1.1) S.1.1 (S.1.1 + 1) lsX10).2.2.1 a = iv a
    rw [iD_io (by omega)]
    show up2 (up2 (up2 (nwD S iv lw).2.2.1 S.1.1 20 (nI 600)) S.1.1 21 (nI 20)) S.1.1 22 (nI 1) a = iv a
    rw [up2_a (by omega), up2_a (by omega), up2_a (by omega)]
    exact if_neg (show ¬ a = S.1.1 by omega)
  · show (iD (inX10 (nwD S iv lw) S.1.1) S.1.1 (S.1.1 + 1) lsX10).2.2.2 a = lw a
    rw [iD_lo (by omega)]
    exact if_neg (show ¬ a = S.1.1 by omega)
theorem SS.new {S : St} {iv : IV} {lw : LW} {b f : Nat} (hs : SS S b) (hf : f = 23 ∨ f = 24) : SS (nwS S iv lw b f) b := by
  have hb := hs.1.lt
  obtain ⟨n1, n2, n3, n4, n5⟩ := nw_ok (iv := iv) (lw := lw) (b := b) (f := f) (S := S) (by omega) hf
  rcases hf with rfl | rfl
  · refine ⟨hs.1.mg n1, fun q hq => ?_, fun t ht => ?_, fun q t hq ht => ?_⟩
    · have e : S.1.1 = q := Option.some.inj (n3.symm.trans hq)
      subst e; exact ⟨n2, hb⟩
    · have e : S.2 b 24 = some t := (n4 24 (by decide)).symm.trans ht
      exact ⟨(hs.2.2.1 t e).1.mg n1, (hs.2.2.1 t e).2⟩
    · have e : S.1.1 = q := Option.some.inj (n3.symm.trans hq)
      have e2 : S.2 b 24 = some t := (n4 24 (by decide)).symm.trans ht
      subst e; exact Or.inr (hs.2.2.1 t e2).1.lt
  · refine ⟨hs.1.mg n1, fun q hq => ?_, fun t ht => ?_, fun q t hq ht => ?_⟩
    · have e : S.2 b 23 = some q := (n4 23 (by decide)).symm.trans hq
      exact ⟨(hs.2.1 q e).1.mg n1, (hs.2.1 q e).2⟩
    · have e : S.1.1 = t := Option.some.inj (n3.symm.trans ht)
      subst e; exact ⟨n2, hb⟩
    · have e : S.1.1 = t := Option.some.inj (n3.symm.trans ht)
      have e2 : S.2 b 23 = some q := (n4 23 (by decide)).symm.trans hq
      subst e; exact Or.inl (hs.2.1 q e2).1.lt
theorem MX.grow {S S2 : St} {iv iv2 : IV} {lw lw2 : LW} {b : Nat} {X : Xs} (hX : MX S iv lw b X) (hk : XOK X) (hg : S2.2 b 23 = S.2 b 23) (h1 : ∀ a, a < b + 42 → iv2 a = iv a ∧ lw2 a = lw a) (h2 : ∀ q, S.2 b 23 = some q → ∀ a, q ≤ a → a < q + 42 → iv2 a = iv a) : MX S2 iv2 lw2 b X :=
  ⟨hX.1.fr hk.1 (fun a k ha => congrFun (h1 a (by omega)).1 k), fun s hs => (hX.2.1 s hs).fr (fun a ha => congrFun (h1 a (by omega)).1 s) (h1 _ (by omega)).2, hX.2.2.1.fr (congrFun (h1 b (by omega)).1 _) (fun k => congrFun (h1 _ (by omega)).1 k), hX.2.2.2.1.fr (fun k => congrFun (h1 _ (by omega)).1 k), ⟨fun e => hg.trans (hX.2.2.2.2.1 e), fun V e => by
    obtain ⟨q, q1, q2, q3⟩ := hX.2.2.2.2.2 V e
    exact ⟨q, hg.trans q1, q2, q3.fr (hk.2.2.2.2 V e) (fun a k ha => congrFun (h2 q q1 a (by omega) (by omega)) k)⟩⟩⟩
theorem MX.keep {S S2 : St} {iv iv2 : IV} {lw lw2 : LW} {b q : Nat} {X : Xs} (hX : MX S iv lw b X) (hk : XOK X) (hg : S2.2 b 23 = some q) (hd : b + 42 ≤ q) (h1 : ∀ a, a < b + 42 → iv2 a = iv a ∧ lw2 a = lw a) (hC : MC iv2 q (x_A X)) : MX S2 iv2 lw2 b (x_sK X (some (x_A X))) :=
  ⟨hX.1.fr hk.1 (fun a k ha => congrFun (h1 a (by omega)).1 k), fun s hs => (hX.2.1 s hs).fr (fun a ha => congrFun (h1 a (by omega)).1 s) (h1 _ (by omega)).2, hX.2.2.1.fr (congrFun (h1 b (by omega)).1 _) (fun k => congrFun (h1 _ (by omega)).1 k), hX.2.2.2.1.fr (fun k => congrFun (h1 _ (by omega)).1 k), ⟨fun e => (by cases e), fun V e => by
    have e2 : x_A X = V := Option.some.inj e
    subst e2
    exact ⟨q, hg, hd, hC⟩⟩⟩
/-- an answer, the cells perhaps more -/
def NQ (S : St) (b : Nat) (iv : IV) (lw : LW) (r : Ans) (v : Option Value) (D : Dt) : Prop := ∃ S2 iv2 lw2, v = some (.int r.1) ∧ D = (S2.1, S2.2, iv2, lw2) ∧ MG S S2 b ∧ SS S2 b ∧ MX S2 iv2 lw2 b r.2 ∧ ∀ a, a < b → iv2 a = iv a ∧ lw2 a = lw a
/-- a call without new cells, as such an answer -/
theorem CQ.nq {g : Ev} {z : Yt} {as : List Value} {S : St} {iv : IV} {lw : LW} {b : Nat} {r : Ans} (hs : SS S b) (h : CQ g z as S iv lw (fun w iv2 lw2 => MP S b iv lw r w iv2 lw2)) : CT g z as (S.1, S.2, iv, lw) (NQ S b iv lw r) := CT.mono h (fun _ _ ⟨w, iv2, lw2, q1, q2, q3, q4, q5, q6⟩ => ⟨S, iv2, lw2, q1.trans (congrArg some q3), q2, MG.rf, hs, q4, fun a ha => ⟨q5 a (Or.inl ha), q6 a (Or.inl ha)⟩⟩)
set_option maxRecDepth 20000 in
theorem im_tail {g : Ev} {S : St} {iv : IV} {lw : LW} {b q : Nat} (hb : IsMod S b) (hq : IsMod S q) (hd : b + 42 ≤ q) (hqf : S.2 b 23 = some q) {V : Cv} (hV : MC iv b V) (hv : VOK V) {Q : Option Value → Dt → Prop} (hQ : ∀ iv2, MC iv2 q V → MBt q iv iv2 → Q (some (.int (nI 1))) (S.1, S.2, iv2, lw)) : VN g mX10_image 18 [(0, .ref (b))] [] S iv lw Q := by
  refine V_aload_n (i := 0) dX10_image_18 rfl 0 rfl ?_
  refine W_getR dX10_image_19 lf_X10_346 rfl hb.1 (hqf) ?_
  refine V_aload_n (i := 0) dX10_image_22 rfl 0 rfl ?_
  refine W_callVn (As := [.ref (b)]) (st := []) dX10_image_23 lv_X10_238 ⟨by decide, by decide⟩ ⟨rfl, rfl⟩ ⟨by decide, by decide⟩ rfl (ci := 7) hq.1 rfl rfl (Nat.le_of_ble_eq_true rfl) (r_takeFrom hq hb (Or.inr hd) hV hv) (fun iv23 lw23 q23 => ?_)
  obtain ⟨e1, hC23, hB23⟩ := q23
  subst e1
  refine V_iconst (v := nI 1) dX10_image_26 rfl ?_
  refine V_iret dX10_image_27 ⟨rfl, rfl⟩ (by decide) (by decide) ?_
  exact hQ _ hC23 hB23
set_option maxRecDepth 20000 in
theorem fr_tail {g : Ev} {S : St} {iv : IV} {lw : LW} {b q : Nat} (hb : IsMod S b) (hq : IsMod S q) (hd : b + 42 ≤ q) (hqf : S.2 b 24 = some q) {V : Cv} (hV : MC iv b V) (hv : VOK V) {Q : Option Value → Dt → Prop} (hQ : ∀ iv2, MC iv2 q V → MBt q iv iv2 → Q (some (.ref q)) (S.1, S.2, iv2, lw)) : VN g mX10_fresh 18 [(0, .ref (b))] [] S iv lw Q := by
  refine V_aload_n (i := 0) dX10_fresh_18 rfl 0 rfl ?_
  refine W_getR dX10_fresh_19 lf_X10_233 rfl hb.1 (hqf) ?_
  refine V_aload_n (i := 0) dX10_fresh_22 rfl 0 rfl ?_
  refine W_callVn (As := [.ref (b)]) (st := []) dX10_fresh_23 lv_X10_238 ⟨by decide, by decide⟩ ⟨rfl, rfl⟩ ⟨by decide, by decide⟩ rfl (ci := 7) hq.1 rfl rfl (Nat.le_of_ble_eq_true rfl) (r_takeFrom hq hb (Or.inr hd) hV hv) (fun iv23 lw23 q23 => ?_)
  obtain ⟨e1, hC23, hB23⟩ := q23
  subst e1
  refine V_aload_n (i := 0) dX10_fresh_26 rfl 0 rfl ?_
  refine W_getR dX10_fresh_27 lf_X10_233 rfl hb.1 (hqf) ?_
  refine V_aret dX10_fresh_30 ⟨rfl, rfl⟩ (by decide) (by decide) ?_
  exact hQ _ hC23 hB23
theorem q_image {g : Ev} {S : St} {iv : IV} {lw : LW} {b : Nat} (hs : SS S b) {X : Xs} (hX : MX S iv lw b X) (hk : XOK X) (hN : S.1.1 ≤ 80000) : CT g mX10_image [.ref b] (S.1, S.2, iv, lw) (NQ S b iv lw (o_image X)) := by
  refine CT_ofQ rfl (by decide) (Nat.le_of_ble_eq_true rfl) (lv := [(0, .ref b)]) rfl (fun Q hQ => ?_)
  have hb := hs.1.lt
  refine V_aload_n (i := 0) dX10_image_0 rfl 0 rfl ?_
  cases hqf : S.2 b 23 with
  | none =>
    refine M_getN dX10_image_1 lf_X10_346 rfl hs.1.1 hqf ?_
    refine V_ifnonnullN dX10_image_4 ?_
    refine V_aload_n (i := 0) dX10_image_7 rfl 0 rfl ?_
    refine V_new dX10_image_8 ln_X10_8 (by show S.1.1 < 100000; omega) (Nat.le_of_ble_eq_true rfl) (Nat.le_of_ble_eq_true rfl) ?_
    refine V_eq (st' := [.ref S.1.1, .ref b]) (D' := nwD S iv lw) rfl rfl rfl ?_
    refine V_dup dX10_image_11 rfl ?_
    refine V_callI (As := []) (st := [.ref S.1.1, .ref b]) (k2 := 42) (n2 := 902) dX10_image_12 li_X10_237 ⟨by decide, by decide⟩ rfl (Nat.le_of_ble_eq_true rfl) (Nat.le_of_ble_eq_true rfl) (Nat.le_of_ble_eq_true rfl) (Nat.le_of_ble_eq_true rfl) (Nat.le_of_ble_eq_true rfl) (c_X10 (n := S.1.1 + 1) rfl (Nat.lt_succ_self _) (if_pos rfl) (by omega)) (fun v D2 q => ?_)
    obtain ⟨rfl, rfl⟩ := q
    obtain ⟨n1, n2, n3, n4, n5⟩ := nw_ok (iv := iv) (lw := lw) (b := b) (f := 23) (S := S) (by omega) (by decide)
    refine V_putR dX10_image_15 lf_X10_346 (fun h => by cases h) rfl (by show b < S.1.1 + 1 + lsX10.length; omega) ((iD_ko (b := S.1.1) (show b < S.1.1 + 1 by omega)).trans ((if_neg (show ¬ b = S.1.1 by omega)).trans hs.1.1.2)) (fun _ => ⟨rfl, rfl⟩) ?_
    refine V_eq (D' := ((nwS S iv lw b 23).1, (nwS S iv lw b 23).2, (nwE S iv lw b 23).2.2.1, (nwE S iv lw b 23).2.2.2)) rfl rfl rfl ?_
    have hsn := hs.new (iv := iv) (lw := lw) (f := 23) (by decide)
    refine im_tail (hs.1.mg n1) n2 hb n3 (hX.1.fr hk.1 (fun a k ha => congrFun (n5 a (by omega)).1 k)) hk.1 (fun iv2 hC hB => ?_)
    subst hQ
    have hf : ∀ a, a < b + 42 → iv2 a = iv a ∧ (nwE S iv lw b 23).2.2.2 a = lw a := fun a ha => ⟨(hB.mb.off a (by omega)).trans (n5 a (by omega)).1, (n5 a (by omega)).2⟩
    exact ⟨_, _, _, rfl, rfl, n1, hsn, hX.keep hk n3 hb hf hC, fun a ha => hf a (by omega)⟩
  | some q =>
    have hqM := hs.2.1 q hqf
    refine M_getR dX10_image_1 lf_X10_346 rfl hs.1.1 hqf ?_
    refine V_ifnonnull (tgt := 18) dX10_image_4 rfl ?_
    refine V.mono (Nat.zero_le _) (Nat.zero_le _) (k2 := 42) (n2 := 902) ?_
    refine im_tail hs.1 hqM.1 hqM.2 hqf hX.1 hk.1 (fun iv2 hC hB => ?_)
    subst hQ
    have hf : ∀ a, a < b + 42 → iv2 a = iv a ∧ lw a = lw a := fun a ha => ⟨hB.mb.off a (by omega), rfl⟩
    exact ⟨_, _, _, rfl, rfl, MG.rf, hs, hX.keep hk hqf hqM.2 hf hC, fun a ha => hf a (by omega)⟩
theorem q_freshM {g : Ev} {S : St} {iv : IV} {lw : LW} {b : Nat} (hs : SS S b) {X : Xs} (hX : MX S iv lw b X) (hk : XOK X) (hN : S.1.1 ≤ 80000) : CT g mX10_fresh [.ref b] (S.1, S.2, iv, lw) (fun v D => ∃ S2 iv2 lw2 q, v = some (.ref q) ∧ D = (S2.1, S2.2, iv2, lw2) ∧ MG S S2 b ∧ SS S2 b ∧ MX S2 iv2 lw2 b X ∧ S2.2 b 24 = some q ∧ MC iv2 q (x_A X) ∧ ∀ a, a < b + 42 → iv2 a = iv a ∧ lw2 a = lw a) := by
  refine CT_ofQ rfl (by decide) (Nat.le_of_ble_eq_true rfl) (lv := [(0, .ref b)]) rfl (fun Q hQ => ?_)
  have hb := hs.1.lt
  refine V_aload_n (i := 0) dX10_fresh_0 rfl 0 rfl ?_
  cases hqf : S.2 b 24 with
  | none =>
    refine M_getN dX10_fresh_1 lf_X10_233 rfl hs.1.1 hqf ?_
    refine V_ifnonnullN dX10_fresh_4 ?_
    refine V_aload_n (i := 0) dX10_fresh_7 rfl 0 rfl ?_
    refine V_new dX10_fresh_8 ln_X10_8 (by show S.1.1 < 100000; omega) (Nat.le_of_ble_eq_true rfl) (Nat.le_of_ble_eq_true rfl) ?_
    refine V_eq (st' := [.ref S.1.1, .ref b]) (D' := nwD S iv lw) rfl rfl rfl ?_
    refine V_dup dX10_fresh_11 rfl ?_
    refine V_callI (As := []) (st := [.ref S.1.1, .ref b]) (k2 := 42) (n2 := 902) dX10_fresh_12 li_X10_237 ⟨by decide, by decide⟩ rfl (Nat.le_of_ble_eq_true rfl) (Nat.le_of_ble_eq_true rfl) (Nat.le_of_ble_eq_true rfl) (Nat.le_of_ble_eq_true rfl) (Nat.le_of_ble_eq_true rfl) (c_X10 (n := S.1.1 + 1) rfl (Nat.lt_succ_self _) (if_pos rfl) (by omega)) (fun v D2 q => ?_)
    obtain ⟨rfl, rfl⟩ := q
    obtain ⟨n1, n2, n3, n4, n5⟩ := nw_ok (iv := iv) (lw := lw) (b := b) (f := 24) (S := S) (by omega) (by decide)
    refine V_putR dX10_fresh_15 lf_X10_233 (fun h => by cases h) rfl (by show b < S.1.1 + 1 + lsX10.length; omega) ((iD_ko (b := S.1.1) (show b < S.1.1 + 1 by omega)).trans ((if_neg (show ¬ b = S.1.1 by omega)).trans hs.1.1.2)) (fun _ => ⟨rfl, rfl⟩) ?_
    refine V_eq (D' := ((nwS S iv lw b 24).1, (nwS S iv lw b 24).2, (nwE S iv lw b 24).2.2.1, (nwE S iv lw b 24).2.2.2)) rfl rfl rfl ?_
    have hsn := hs.new (iv := iv) (lw := lw) (f := 24) (by decide)
    refine fr_tail (hs.1.mg n1) n2 hb n3 (hX.1.fr hk.1 (fun a k ha => congrFun (n5 a (by omega)).1 k)) hk.1 (fun iv2 hC hB => ?_)
    subst hQ
    have hf : ∀ a, a < b + 42 → iv2 a = iv a ∧ (nwE S iv lw b 24).2.2.2 a = lw a := fun a ha => ⟨(hB.mb.off a (by omega)).trans (n5 a (by omega)).1, (n5 a (by omega)).2⟩
    exact ⟨_, _, _, _, rfl, rfl, n1, hsn, hX.grow hk (n4 23 (by decide)) hf (fun q hq a h1 h2 => by
      have hql := (hs.2.1 q hq).1.lt
      exact (hB.mb.off a (by omega)).trans (n5 a (by omega)).1), n3, hC, hf⟩
  | some q =>
    have hqM := hs.2.2.1 q hqf
    refine M_getR dX10_fresh_1 lf_X10_233 rfl hs.1.1 hqf ?_
    refine V_ifnonnull (tgt := 18) dX10_fresh_4 rfl ?_
    refine V.mono (Nat.zero_le _) (Nat.zero_le _) (k2 := 42) (n2 := 902) ?_
    refine fr_tail hs.1 hqM.1 hqM.2 hqf hX.1 hk.1 (fun iv2 hC hB => ?_)
    subst hQ
    have hf : ∀ a, a < b + 42 → iv2 a = iv a ∧ lw a = lw a := fun a ha => ⟨hB.mb.off a (by omega), rfl⟩
    exact ⟨_, _, _, _, rfl, rfl, MG.rf, hs, hX.grow hk rfl hf (fun q2 hq2 a h1 h2 => hB.mb.off a (by have := hs.2.2.2 q2 q hq2 hqf; omega)), hqf, hC, hf⟩
