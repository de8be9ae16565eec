theorem d_new_kd {D : Dt} {kd : Nat × Nat} : (d_new D kd).1.2 D.1.1 = kd := if_pos rfl
theorem d_new_rf {D : Dt} {kd : Nat × Nat} : (d_new D kd).2.1 D.1.1 = fun _ => none := if_pos rfl
theorem d_new_iv {D : Dt} {kd : Nat × Nat} : (d_new D kd).2.2.1 D.1.1 = fun _ => 0 := if_pos rfl
theorem d_new_lv {D : Dt} {kd : Nat × Nat} : (d_new D kd).2.2.2 D.1.1 = fun _ => 0 := if_pos rfl
theorem HR.sz {g : Ev} {D : Dt} {H : Heap} (h : HR g D H) (hb : D.1.1 < 100000) : H.size = ph g D.1.1 := by rw [ph_lt hb]; exact h.1
/-- the words of 'new' -/
def LN (own : String) (idx ci : Nat) : Prop := ∃ cl : vw_C, vwCl[ci]? = some cl ∧ cl.2.2 = nfC ci ∧ (∀ w ∈ u_ws cl.1 cl.2.1 cl.2.2, w ∈ WS) ∧ Cond.classLink own idx cl.1 ∈ WS ∧ Cond.instantiable cl.1 cl.2.2 ∈ WS ∧ Cond.initialized cl.1 ∈ WS ∧
  (∀ j, j < cl.2.2 → parseFieldDescriptor (cl.2.1 j).2.2.1 = some (tyC ci j)) ∧ (∀ j, j < nfC ci → defaultValue (tyC ci j) = if isI (tyC ci j) = true then Value.int 0 else .null)
section
variable {g : Ev} {y : Yt} {pc : Nat} {lv : List (Nat × Value)} {st : List Value} {D : Dt} {k n : Nat} {Q : Option Value → Dt → Prop}
theorem V_new {idx ci : Nat} (hd : decode (y_b y) pc = .ok (.new idx, 3)) (hf : LN (y_c y) idx ci) (hb : D.1.1 < 100000) (hk : k + 1 ≤ y_mc y) (hn : n + nfC ci ≤ y_ms y) (h : V g y (pc + 3) lv (.ref D.1.1 :: st) (d_new D (0, ci)) (k + 1) (n + nfC ci) Q) : V g y pc lv st D k n Q := by
  intro p l e s m args below meth c H locs ls C L hR hS
  obtain ⟨cl, hc, hN, hu, h1, h2, h3, hty, hdf⟩ := hf
  have hts := C.2.2.2.2.2.1
  have hKn := C.2.2.2.2.2.2.2.2.1.2.1.1 ci _ hc
  refine W.newcK C.1 C.2.1 C.2.2.2.2.1 (hts _ h1) (hts _ h2) (hts _ h3) rfl hd hk (by rw [hN]; exact hn) hKn.2.1 (hR.sz hb) fun H1 kC hkC e1 z1 o1 => ?_
  rw [hN]
  refine h p l e s m args below meth c H1 locs ls C L (hR.push hb (by rw [z1, hR.sz hb]) (fun q hq => o1 q (by rw [← hR.sz hb]; exact hq)) ?_) ⟨Nat.le_trans hS.1 (by rw [z1, ← hR.sz hb]; omega), fun x q1 q2 => (o1 x (by rw [← hR.sz hb]; exact Nat.lt_of_lt_of_le q1 hS.1)).trans (hS.2.1 x q1 q2), hS.2.2⟩
  rw [cel_obj d_new_kd]
  rw [← hR.sz hb] at e1
  refine ⟨cl, hc, (u_born (tyC ci) hts hu hKn hkC e1 hty).to fun j hj => ?_⟩
  have hj2 : j < nfC ci := by rw [← hN]; exact hj
  rw [vpV_fld hj2, hdf j hj2]
  unfold fld
  rw [d_new_iv, d_new_rf]
  rfl
theorem V_newI {N : Nat} {i : Int32} (hd : decode (y_b y) pc = .ok (.newarray .int, 2)) (hw : Cond.arrayClass .int ∈ WS) (hi : ¬ i < 0) (hN : i.toNatClampNeg = N) (hl : N ≤ 1000) (hb : D.1.1 < 100000) (hk : k + 1 ≤ y_mc y) (hn : n + N ≤ y_ms y) (h : V g y (pc + 2) lv (.ref D.1.1 :: st) (d_new D (1, N)) (k + 1) (n + N) Q) : V g y pc lv (.int i :: st) D k n Q := by
  intro p l e s m args below meth c H locs ls C L hR hS
  refine va_newaK C.1 C.2.1 (atype := .int) (C.2.2.2.2.2.1 _ hw) rfl hd rfl hi hN (by show N * 4 ≤ _; omega) hk hn (hR.sz hb) fun H1 cA e1 z1 o1 hAr hfc => ?_
  have hc : cA = g.2.2.1 0 := Option.some.inj (hfc.symm.trans (C.2.2.2.2.2.2.2.2.1.2.1.2 0 _ rfl).2)
  subst hc
  refine h p l e s m args below meth c H1 locs ls C L (hR.push hb (by rw [z1, hR.sz hb]) (fun q hq => o1 q (by rw [← hR.sz hb]; exact hq)) ?_) ⟨Nat.le_trans hS.1 (by rw [z1, ← hR.sz hb]; omega), fun x q1 q2 => (o1 x (by rw [← hR.sz hb]; exact Nat.lt_of_lt_of_le q1 hS.1)).trans (hS.2.1 x q1 q2), hS.2.2⟩
  rw [cel_I d_new_kd, d_new_iv]
  show H1[H.size]? = _
  rw [hR.sz hb, e1]
  rfl
theorem V_newL {N : Nat} {i : Int32} (hd : decode (y_b y) pc = .ok (.newarray .long, 2)) (hw : Cond.arrayClass .long ∈ WS) (hi : ¬ i < 0) (hN : i.toNatClampNeg = N) (hl : N ≤ 1000) (hb : D.1.1 < 100000) (hk : k + 1 ≤ y_mc y) (hn : n + N ≤ y_ms y) (h : V g y (pc + 2) lv (.ref D.1.1 :: st) (d_new D (2, N)) (k + 1) (n + N) Q) : V g y pc lv (.int i :: st) D k n Q := by
  intro p l e s m args below meth c H locs ls C L hR hS
  refine va_newaK C.1 C.2.1 (atype := .long) (C.2.2.2.2.2.1 _ hw) rfl hd rfl hi hN (by show N * 8 ≤ _; omega) hk hn (hR.sz hb) fun H1 cA e1 z1 o1 hAr hfc => ?_
  have hc : cA = g.2.2.1 1 := Option.some.inj (hfc.symm.trans (C.2.2.2.2.2.2.2.2.1.2.1.2 1 _ rfl).2)
  subst hc
  refine h p l e s m args below meth c H1 locs ls C L (hR.push hb (by rw [z1, hR.sz hb]) (fun q hq => o1 q (by rw [← hR.sz hb]; exact hq)) ?_) ⟨Nat.le_trans hS.1 (by rw [z1, ← hR.sz hb]; omega), fun x q1 q2 => (o1 x (by rw [← hR.sz hb]; exact Nat.lt_of_lt_of_le q1 hS.1)).trans (hS.2.1 x q1 q2), hS.2.2⟩
  rw [cel_L d_new_kd, d_new_lv]
  show H1[H.size]? = _
  rw [hR.sz hb, e1]
  rfl
theorem V_newS {idx N : Nat} {i : Int32} (hd : decode (y_b y) pc = .ok (.anewarray idx, 3)) (hw : Cond.classLink (y_c y) idx "SoupOrHorses$Shelf" ∈ WS) (hi : ¬ i < 0) (hN : i.toNatClampNeg = N) (hl : N ≤ 1000) (hb : D.1.1 < 100000) (hk : k + 1 ≤ y_mc y) (hn : n + N ≤ y_ms y) (h : V g y (pc + 3) lv (.ref D.1.1 :: st) (d_new D (3, N)) (k + 1) (n + N) Q) : V g y pc lv (.int i :: st) D k n Q := by
  intro p l e s m args below meth c H locs ls C L hR hS
  subst hN
  refine W.anew C.1 C.2.1 C.2.2.2.2.1 (C.2.2.2.2.2.1 _ hw) (va_AO.use (C := "SoupOrHorses$Shelf") C.2.2.2.2.2.2.2.2.1.2.2.1.1.1) rfl hd rfl hi (by omega) hk hn fun cA kA comp f1 f2 f3 f4 => ?_
  obtain ⟨-, -, -, -, -, hfc⟩ := (C.2.2.2.2.2.2.2.2.1.2.1.2 2 _ rfl).2
  have hc : cA = g.2.2.1 2 := Option.some.inj (f1.symm.trans hfc)
  subst hc
  generalize hH1 : H.push ({ cls := g.2.2.1 2, slots := Array.replicate i.toNatClampNeg .null, vm := .none } : Cell) = H1
  have z1 : H1.size = H.size + 1 := by rw [← hH1, Array.size_push]
  have e1 : H1[H.size]? = some (arrV (g.2.2.1 2) i.toNatClampNeg (fun _ => .null)) := by rw [← hH1, Array.getElem?_push_size, ← arrV_new]
  have o1 : ∀ q : Nat, q < H.size → H1[q]? = H[q]? := fun q hq => by rw [← hH1, Array.getElem?_push, if_neg (Nat.ne_of_lt hq)]
  have hh := h p l e s m args below meth c H1 locs ls C L (hR.push hb z1 o1 (by
    rw [cel_Q (t := 0) d_new_kd, d_new_rf]
    show H1[H.size]? = _
    rw [e1]
    rfl)) ⟨Nat.le_trans hS.1 (by rw [z1]; omega), fun x q1 q2 => (o1 x (Nat.lt_of_lt_of_le q1 hS.1)).trans (hS.2.1 x q1 q2), hS.2.2⟩
  rw [hR.sz hb]
  exact hh
theorem V_aast {a N b : Nat} {i : Int32} (hd : decode (y_b y) pc = .ok (.aastore, 1)) (ha : a < D.1.1) (hk : D.1.2 a = (3, N)) (hi : vp_in i N) (hb : b < D.1.1) (hkb : D.1.2 b = (0, 4)) (h : V g y (pc + 1) lv st (d_setR D a i.toNatClampNeg (some b)) k n Q) : V g y pc lv (.ref b :: .int i :: .ref a :: st) D k n Q := by
  intro p l e s m args below meth c H locs ls C L hR hS
  have hP := hR.P ha
  rw [cel_Q (t := 0) hk] at hP
  have hPb := hR.P hb
  rw [cel_obj hkb] at hPb
  have hK := C.2.2.2.2.2.2.2.2.1.2.1
  have hlt : i.toNatClampNeg < N := Nat.not_le.mp fun q => hi (Or.inr q)
  have h0 : ¬ i < 0 := fun q => hi (Or.inl q)
  obtain ⟨r', hr', cellV, g1, g2, g3, -⟩ := hPb 0 _ rfl
  have hcls := (hK.1 4 _ rfl).2
  obtain ⟨kA, comp, k1, k2, k3, -⟩ := (hK.2 2 _ rfl).2
  have hcomp : comp = g.2.1.1 4 := Option.some.inj (k3.symm.trans hcls.1)
  subst hcomp
  obtain ⟨kC, hkC, -⟩ := hcls.2
  refine W.aast C.1 C.2.1 (hP 0 _ rfl) (fun q h => by cases h) (fun h => by cases h) k1 k2 rfl hkC ⟨h0, by show _ < (arrV _ _ _).slots.size; rw [arrV_size]; exact hlt⟩ g1 (fun q h => by rw [g3] at h; cases h) (by rw [g2]; exact hkC) (by rw [g2]; exact va_assign hcls) rfl rfl hd fun H1 e1 z oq => ?_
  refine h p l e s m args below meth c H1 _ ls C L (hR.upd rfl (fun b hb => d_setR_ne hb) ha z oq ?_) (hS.put z oq (by show g.1 ≤ ph g a; rw [ph_lt (Nat.lt_of_lt_of_le ha hR.2.1)]; omega))
  rw [cel_Q (t := 0) (D := d_setR D a i.toNatClampNeg (some b)) hk]
  show H1[ph g a]? = some (vp_cell _ _)
  rw [e1, vp_cell_q, vp_cell_q, arrV_store]
  congr 2
  funext q
  show updV _ _ _ _ = va_rf (Option.map _ (up2 _ _ _ _ _ _))
  unfold updV up2
  by_cases hq : q = i.toNatClampNeg
  · simp [hq, va_rf]
  · simp [hq]
end
