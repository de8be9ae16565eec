theorem ph_lt {g : Ev} {a : Nat} (h : a < 100000) : ph g a = g.1 + a := if_pos h
theorem HR.P {g : Ev} {D : Dt} {H : Heap} {a : Nat} (h : HR g D H) (ha : a < D.1.1) : va_P g.2.1 vwCl [(ph g a, cel g D a)] H := by
  intro k q hk
  have hz : k < 1 := (List.getElem?_eq_some_iff.mp hk).1
  rw [show k = 0 by omega] at hk
  cases hk
  rw [ph_lt (Nat.lt_of_lt_of_le ha h.2.1)]
  exact h.2.2 a ha
theorem cel_obj {g : Ev} {D : Dt} {a ci : Nat} (h : D.1.2 a = (0, ci)) : cel g D a = .inr (ci, (List.range (nfC ci)).map (fld g D a ci)) := by unfold cel; rw [h]; rfl
theorem cel_I {g : Ev} {D : Dt} {a n : Nat} (h : D.1.2 a = (1, n)) : cel g D a = .inl (g.2.2.1 0, (n, .inl (D.2.2.1 a))) := by unfold cel; rw [h]; rfl
theorem cel_L {g : Ev} {D : Dt} {a n : Nat} (h : D.1.2 a = (2, n)) : cel g D a = .inl (g.2.2.1 1, (n, .inr (.inl (D.2.2.2 a)))) := by unfold cel; rw [h]; rfl
theorem cel_Q {g : Ev} {D : Dt} {a n t : Nat} (h : D.1.2 a = (t + 3, n)) : cel g D a = .inl (g.2.2.1 (t + 2), (n, .inr (.inr (.inr (.inr (fun j => (D.2.1 a j).map (ph g))))))) := by unfold cel; rw [h]; rfl
theorem cel_congr {g : Ev} {D D' : Dt} {a : Nat} (h0 : D'.1.2 a = D.1.2 a) (h1 : ∀ k, D'.2.1 a k = D.2.1 a k) (h2 : ∀ k, D'.2.2.1 a k = D.2.2.1 a k) (h3 : ∀ k, D'.2.2.2 a k = D.2.2.2 a k) : cel g D' a = cel g D a := by
  have e1 : D'.2.1 a = D.2.1 a := funext h1
  have e2 : D'.2.2.1 a = D.2.2.1 a := funext h2
  have e3 : D'.2.2.2 a = D.2.2.2 a := funext h3
  have e4 : ∀ ci k, fld g D' a ci k = fld g D a ci k := fun ci k => by unfold fld; rw [e1, e2]
  unfold cel
  rw [h0, e1, e2, e3]
  split <;> first | rfl | (rw [show fld g D' a _ = fld g D a _ from funext (e4 _)])
theorem HR.upd {g : Ev} {D D' : Dt} {H H' : Heap} {a : Nat} (h : HR g D H) (h1 : D'.1 = D.1) (hc : ∀ b, b ≠ a → cel g D' b = cel g D b) (ha : a < D.1.1) (hz : H'.size = H.size) (hq : ∀ q, q ≠ ph g a → H'[q]? = H[q]?) (hn : va_at g.2.1 vwCl (ph g a, cel g D' a) H') : HR g D' H' := by
  have pa := ph_lt (g := g) (Nat.lt_of_lt_of_le ha h.2.1)
  refine ⟨by rw [hz, h1]; exact h.1, by rw [h1]; exact h.2.1, fun b hb => ?_⟩
  rw [h1] at hb
  by_cases e : b = a
  · subst e
    rw [pa] at hn
    exact hn
  · rw [hc b e]
    exact (h.2.2 b hb).kept (hq (g.1 + b) (by rw [pa]; omega))
theorem HR.push {g : Ev} {D : Dt} {H H' : Heap} {kd : Nat × Nat} (h : HR g D H) (hb : D.1.1 < 100000) (hz : H'.size = H.size + 1) (hq : ∀ q, q < H.size → H'[q]? = H[q]?) (hn : va_at g.2.1 vwCl (H.size, cel g (d_new D kd) D.1.1) H') : HR g (d_new D kd) H' := by
  refine ⟨by rw [hz, h.1]; rfl, by show D.1.1 + 1 ≤ 100000; omega, fun b hbb => ?_⟩
  have hbb : b < D.1.1 + 1 := hbb
  by_cases e : b = D.1.1
  · subst e
    rw [← h.1]
    exact hn
  · rw [show cel g (d_new D kd) b = cel g D b from cel_congr (if_neg e) (fun k => congrFun (if_neg e : (if b = D.1.1 then (fun _ => none) else D.2.1 b) = D.2.1 b) k) (fun k => congrFun (if_neg e : (if b = D.1.1 then (fun _ => 0) else D.2.2.1 b) = D.2.2.1 b) k) (fun k => congrFun (if_neg e : (if b = D.1.1 then (fun _ => 0) else D.2.2.2 b) = D.2.2.2 b) k)]
    exact (h.2.2 b (by omega)).kept (hq (g.1 + b) (by rw [h.1]; omega))
theorem d_setI_ne {g : Ev} {D : Dt} {a k b : Nat} {v : Int32} (h : b ≠ a) : cel g (d_setI D a k v) b = cel g D b := cel_congr rfl (fun _ => rfl) (fun j => by show up2 _ _ _ _ _ _ = _; unfold up2; rw [if_neg (fun q => h q.1)]) (fun _ => rfl)
theorem d_setL_ne {g : Ev} {D : Dt} {a k b : Nat} {v : Int64} (h : b ≠ a) : cel g (d_setL D a k v) b = cel g D b := cel_congr rfl (fun _ => rfl) (fun _ => rfl) (fun j => by show up2 _ _ _ _ _ _ = _; unfold up2; rw [if_neg (fun q => h q.1)])
theorem d_setR_ne {g : Ev} {D : Dt} {a k b : Nat} {v : Option Nat} (h : b ≠ a) : cel g (d_setR D a k v) b = cel g D b := cel_congr rfl (fun j => by show up2 _ _ _ _ _ _ = _; unfold up2; rw [if_neg (fun q => h q.1)]) (fun _ => rfl) (fun _ => rfl)
theorem vpV_fld {g : Ev} {D : Dt} {a ci j : Nat} (hj : j < nfC ci) : vp_V ((List.range (nfC ci)).map (fld g D a ci)) j = fld g D a ci j := by
  unfold vp_V
  rw [List.getD_eq_getElem?_getD, List.getElem?_map, List.getElem?_range hj]
  rfl
/-- the words of a field: own's entry idx is field k of class ci -/
def LF (own : String) (idx ci k : Nat) (fin : Bool) : Prop := ∃ cl : vw_C, vwCl[ci]? = some cl ∧ cl.2.2 = nfC ci ∧ k < nfC ci ∧ (∀ w ∈ u_ws cl.1 cl.2.1 cl.2.2, w ∈ WS) ∧ Cond.fieldLink own idx (cl.2.1 k).1 (cl.2.1 k).2.1 (cl.2.1 k).2.2.1 ∈ WS ∧
  (∀ j, j < cl.2.2 → parseFieldDescriptor (cl.2.1 j).2.2.1 = some (tyC ci j)) ∧ (∀ a, a < cl.2.2 → ∀ b, b < cl.2.2 → a ≠ b → (cl.2.1 a).2.1 ≠ (cl.2.1 b).2.1) ∧ (cl.2.1 k).2.2.2 = fin ∧ (fin = true → (cl.2.1 k).1 = own)
section
variable {g : Ev} {y : Yt} {pc : Nat} {lv : List (Nat × Value)} {st : List Value} {D : Dt} {k n : Nat} {Q : Option Value → Dt → Prop}
theorem V_getI {idx ci f a : Nat} {fin : Bool} (hd : decode (y_b y) pc = .ok (.getfield idx, 3)) (hf : LF (y_c y) idx ci f fin) (hI : isI (tyC ci f) = true) (ha : a < D.1.1) (hk : D.1.2 a = (0, ci)) (h : V g y (pc + 3) lv (.int (D.2.2.1 a f) :: st) D k n Q) : V g y pc lv (.ref a :: st) D k n Q := by
  intro p l e s m args below meth c H locs ls C L hR hS
  obtain ⟨cl, hc, hN, hkn, hu, hl, -⟩ := hf
  have hP := hR.P ha
  rw [cel_obj hk] at hP
  exact va_get (D := g.2.1) (cl := vwCl) (C := cl.1) (T := cl.2.1) (N := cl.2.2) (ci := ci) (v := .int (D.2.2.1 a f)) C.1 C.2.1 C.2.2.2.2.2.1 hu C.2.2.2.2.1 C.2.2.2.2.2.2.2.2.1.2.1 hP 0 rfl hc f (by rw [hN]; exact hkn) (C.2.2.2.2.2.1 _ hl) (fun _ h => h)
    (by rw [List.getElem?_map, List.getElem?_range hkn]; show some (fld g D a ci f) = _; unfold fld; rw [if_pos hI]) hd (h p l e s m args below meth c H locs ls C L hR hS)
theorem V_getR {idx ci f a b : Nat} {fin : Bool} (hd : decode (y_b y) pc = .ok (.getfield idx, 3)) (hf : LF (y_c y) idx ci f fin) (hI : isI (tyC ci f) = false) (ha : a < D.1.1) (hk : D.1.2 a = (0, ci)) (hv : D.2.1 a f = some b) (h : V g y (pc + 3) lv (.ref b :: st) D k n Q) : V g y pc lv (.ref a :: st) D k n Q := by
  intro p l e s m args below meth c H locs ls C L hR hS
  obtain ⟨cl, hc, hN, hkn, hu, hl, -⟩ := hf
  have hP := hR.P ha
  rw [cel_obj hk] at hP
  exact va_get (D := g.2.1) (cl := vwCl) (C := cl.1) (T := cl.2.1) (N := cl.2.2) (ci := ci) (v := .ref (ph g b)) C.1 C.2.1 C.2.2.2.2.2.1 hu C.2.2.2.2.1 C.2.2.2.2.2.2.2.2.1.2.1 hP 0 rfl hc f (by rw [hN]; exact hkn) (C.2.2.2.2.2.1 _ hl) (fun _ h => h)
    (by rw [List.getElem?_map, List.getElem?_range hkn]; show some (fld g D a ci f) = _; unfold fld; rw [if_neg (by rw [hI]; decide), hv]; rfl) hd (h p l e s m args below meth c H locs ls C L hR hS)
theorem V_getN {idx ci f a : Nat} {fin : Bool} (hd : decode (y_b y) pc = .ok (.getfield idx, 3)) (hf : LF (y_c y) idx ci f fin) (hI : isI (tyC ci f) = false) (ha : a < D.1.1) (hk : D.1.2 a = (0, ci)) (hv : D.2.1 a f = none) (h : V g y (pc + 3) lv (.null :: st) D k n Q) : V g y pc lv (.ref a :: st) D k n Q := by
  intro p l e s m args below meth c H locs ls C L hR hS
  obtain ⟨cl, hc, hN, hkn, hu, hl, -⟩ := hf
  have hP := hR.P ha
  rw [cel_obj hk] at hP
  exact va_get (D := g.2.1) (cl := vwCl) (C := cl.1) (T := cl.2.1) (N := cl.2.2) (ci := ci) (v := .null) C.1 C.2.1 C.2.2.2.2.2.1 hu C.2.2.2.2.1 C.2.2.2.2.2.2.2.2.1.2.1 hP 0 rfl hc f (by rw [hN]; exact hkn) (C.2.2.2.2.2.1 _ hl) (fun _ h => h)
    (by rw [List.getElem?_map, List.getElem?_range hkn]; show some (fld g D a ci f) = _; unfold fld; rw [if_neg (by rw [hI]; decide), hv]; rfl) hd (h p l e s m args below meth c H locs ls C L hR hS)
/-- a store into a field of a known class: D' is what comes of it -/
theorem V_putG {idx ci f a : Nat} {fin : Bool} {v : Value} {D' : Dt} (hd : decode (y_b y) pc = .ok (.putfield idx, 3)) (hf : LF (y_c y) idx ci f fin) (hin : fin = true → y.1.name = "<init>") (ha : a < D.1.1) (hk : D.1.2 a = (0, ci))
    (hD1 : D'.1 = D.1) (hne : ∀ (g : Ev) (b : Nat), b ≠ a → cel g D' b = cel g D b) (hcl : ∀ g : Ev, narrow (tyC ci f) (sh g v) = sh g v ∧ fits (tyC ci f) (sh g v) = true) (hfs : ∀ (g : Ev) (j : Nat), j < nfC ci → fld g D' a ci j = if j = f then sh g v else fld g D a ci j)
    (h : V g y (pc + 3) lv st D' k n Q) : V g y pc lv (v :: .ref a :: st) D k n Q := by
  intro p l e s m args below meth c H locs ls C L hR hS
  obtain ⟨cl, hc, hN, hkn, hu, hl, hty, hnm, hfi, hown2⟩ := hf
  have hts := C.2.2.2.2.2.1
  have hown := C.2.2.2.2.1
  have hK := C.2.2.2.2.2.2.2.2.1.2.1
  have hap := va_apart (own := y_c y) (T := cl.2.1) (C := cl.1) (N := cl.2.2) hts hu (tyC ci) hty hnm hK hc
  have hP := hR.P ha
  rw [cel_obj hk] at hP
  obtain ⟨r, h1, cell, q1, q2, q3, q4⟩ := hP 0 _ rfl
  have hr : r = cl := Option.some.inj (h1.symm.trans hc)
  subst hr
  obtain ⟨hSl, hfc, kC, hkC, hkind⟩ := hK.1 ci _ hc
  have hkn2 : f < r.2.2 := by rw [hN]; exact hkn
  obtain ⟨cf, kf, fi, fd, hi, hsl⟩ := hSl f hkn2
  have hlay := u_lays hts hu hkn2
  have hst := (u_facts hfc hkC hlay hi).1
  have fin' : ∀ (H' : Heap), H'[ph g a]? = some (cell.setSlot fd.slot (sh g v)) → H'.size = H.size → (∀ q, q ≠ ph g a → H'[q]? = H[q]?) → HR g D' H' ∧ va_S (Ag g) s.heap H' (locs ++ [⟨ph g a, fd.slot⟩]) := by
    intro H' e1 e2 e3
    refine ⟨hR.upd hD1 (hne g) ha e2 e3 ?_, hS.put e2 e3 (by show g.1 ≤ ph g a; rw [ph_lt (Nat.lt_of_lt_of_le ha hR.2.1)]; omega)⟩
    rw [cel_obj (by rw [hD1]; exact hk)]
    rw [hsl] at e1
    refine ⟨r, hc, t_OB.to (V := updV (vp_V ((List.range (nfC ci)).map (fld g D a ci))) f (sh g v)) ⟨_, e1, q2, q3, t_set q4 hap hkn2 _⟩ (fun j hj => ?_)⟩
    have hj2 : j < nfC ci := by rw [← hN]; exact hj
    rw [vpV_fld hj2, hfs g j hj2]
    unfold updV
    by_cases e : j = f
    · rw [if_pos e, if_pos e]
    · rw [if_neg e, if_neg e, vpV_fld hj2]
  cases fin with
  | false =>
    have hlay2 := hts _ (hu _ (u_in_lay hkn2))
    unfold u_lay at hlay2
    rw [if_neg (by rw [hfi]; decide)] at hlay2
    have h6 := u_store hfc hkC hkind hlay2 hi (hty f hkn2) (hcl g).1 (hcl g).2
    refine W.putK C.1 C.2.1 (f := fd) ⟨hown, hts _ hl, ⟨_, _, _, hi⟩, hst⟩ (by rw [q2]; exact h6) q1 q3 (by rw [hsl]; exact k2_hasslot (q4 f hkn2)) rfl rfl hd fun H' e1 e2 e3 => ?_
    obtain ⟨z1, z2⟩ := fin' H' e1 e2 e3
    exact h p l e s m args below meth c H' _ ls C L z1 z2
  | true =>
    have hlay2 := hts _ (hu _ (u_in_lay hkn2))
    unfold u_lay at hlay2
    rw [if_pos hfi] at hlay2
    have hcf : m.cls = cf := by
      obtain ⟨_, _, c', _, _, _, -, -, hf', -, -, -, hw2, -⟩ := Cond.laysFinal_spec hlay2
      have e1 : c' = cf := by have := hi.symm.trans hf'; simp at this; exact this.1.symm
      rw [hown2 rfl] at hw2
      rw [← e1]; exact Option.some.inj (hown.symm.trans hw2)
    have h6 := u_fits hfc hkC hkind (Or.inr hlay2) hi (hty f hkn2) (hcl g).1 (hcl g).2
    refine W.putFinK C.1 C.2.1 hown (hts _ hl) hi hst hcf (C.2.2.2.2.2.2.2.1 (hin rfl)) (by rw [q2]; exact h6) q1 q3 (by rw [hsl]; exact k2_hasslot (q4 f hkn2)) rfl rfl hd fun H' e1 e2 e3 => ?_
    obtain ⟨z1, z2⟩ := fin' H' e1 e2 e3
    exact h p l e s m args below meth c H' _ ls C L z1 z2
theorem V_putI {idx ci f a : Nat} {fin : Bool} {v : Int32} (hd : decode (y_b y) pc = .ok (.putfield idx, 3)) (hf : LF (y_c y) idx ci f fin) (hin : fin = true → y.1.name = "<init>") (hI : isI (tyC ci f) = true) (ha : a < D.1.1) (hk : D.1.2 a = (0, ci)) (hv : narrow (tyC ci f) (.int v) = .int v ∧ fits (tyC ci f) (.int v) = true) (h : V g y (pc + 3) lv st (d_setI D a f v) k n Q) : V g y pc lv (.int v :: .ref a :: st) D k n Q := by
  refine V_putG (D' := d_setI D a f v) hd hf hin ha hk rfl (fun g b hb => d_setI_ne hb) (fun g => hv) (fun g j hj => ?_) h
  unfold fld
  by_cases e : j = f
  · subst e
    rw [if_pos hI, if_pos rfl]
    show Value.int (up2 _ _ _ _ _ _) = _
    unfold up2
    rw [if_pos ⟨rfl, rfl⟩]
    rfl
  · rw [if_neg e]
    have : (d_setI D a f v).2.2.1 a j = D.2.2.1 a j := by show up2 _ _ _ _ _ _ = _; unfold up2; rw [if_neg (fun q => e q.2)]
    rw [this]
    rfl
theorem V_putR {idx ci f a b : Nat} {fin : Bool} (hd : decode (y_b y) pc = .ok (.putfield idx, 3)) (hf : LF (y_c y) idx ci f fin) (hin : fin = true → y.1.name = "<init>") (hI : isI (tyC ci f) = false) (ha : a < D.1.1) (hk : D.1.2 a = (0, ci)) (hty : ∀ q : Nat, narrow (tyC ci f) (.ref q) = .ref q ∧ fits (tyC ci f) (.ref q) = true) (h : V g y (pc + 3) lv st (d_setR D a f (some b)) k n Q) : V g y pc lv (.ref b :: .ref a :: st) D k n Q := by
  refine V_putG (D' := d_setR D a f (some b)) hd hf hin ha hk rfl (fun g b hb => d_setR_ne hb) (fun g => hty _) (fun g j hj => ?_) h
  unfold fld
  by_cases e : j = f
  · subst e
    rw [if_neg (by rw [hI]; decide), if_pos rfl]
    show va_rf (Option.map _ (up2 _ _ _ _ _ _)) = _
    unfold up2
    rw [if_pos ⟨rfl, rfl⟩]
    rfl
  · rw [if_neg e]
    have : (d_setR D a f (some b)).2.1 a j = D.2.1 a j := by show up2 _ _ _ _ _ _ = _; unfold up2; rw [if_neg (fun q => e q.2)]
    rw [this]
    rfl
theorem V_iald {a N : Nat} {i : Int32} (hd : decode (y_b y) pc = .ok (.iaload, 1)) (ha : a < D.1.1) (hk : D.1.2 a = (1, N)) (hi : vp_in i N) (h : V g y (pc + 1) lv (.int (D.2.2.1 a i.toNatClampNeg) :: st) D k n Q) : V g y pc lv (.int i :: .ref a :: st) D k n Q := by
  intro p l e s m args below meth c H locs ls C L hR hS
  have hP := hR.P ha
  rw [cel_I hk] at hP
  exact va_iald C.1 C.2.1 C.2.2.2.2.2.2.2.2.1.2.1 hP 0 0 rfl rfl hi hd (h p l e s m args below meth c H locs ls C L hR hS)
theorem V_lald {a N : Nat} {i : Int32} (hd : decode (y_b y) pc = .ok (.laload, 1)) (ha : a < D.1.1) (hk : D.1.2 a = (2, N)) (hi : vp_in i N) (h : V g y (pc + 1) lv (.long (D.2.2.2 a i.toNatClampNeg) :: st) D k n Q) : V g y pc lv (.int i :: .ref a :: st) D k n Q := by
  intro p l e s m args below meth c H locs ls C L hR hS
  have hP := hR.P ha
  rw [cel_L hk] at hP
  exact va_lald C.1 C.2.1 C.2.2.2.2.2.2.2.2.1.2.1 hP 0 1 rfl rfl hi hd (h p l e s m args below meth c H locs ls C L hR hS)
theorem V_aald {a N b t : Nat} {i : Int32} (hd : decode (y_b y) pc = .ok (.aaload, 1)) (ht : t < 3) (ha : a < D.1.1) (hk : D.1.2 a = (t + 3, N)) (hi : vp_in i N) (hv : D.2.1 a i.toNatClampNeg = some b) (h : V g y (pc + 1) lv (.ref b :: st) D k n Q) : V g y pc lv (.int i :: .ref a :: st) D k n Q := by
  intro p l e s m args below meth c H locs ls C L hR hS
  have hP := hR.P ha
  rw [cel_Q hk] at hP
  have hK := C.2.2.2.2.2.2.2.2.1.2.1
  have hlt : i.toNatClampNeg < N := Nat.not_le.mp fun q => hi (Or.inr q)
  have h' := h p l e s m args below meth c H locs ls C L hR hS
  have key : ∀ ty : FieldType, ty.isReference = true → (g.2.2.1 (t + 2), ty) ∈ tysG g → W p l e (y_rm y) s m args below meth c H locs k n (vfin y g Q below args s) (F0 m pc ls (List.map (sh g) (.int i :: .ref a :: st))) := by
    intro ty hty hm
    obtain ⟨t0, ht0⟩ := List.getElem?_of_mem hm
    refine W.aald (v := .ref (ph g b)) (ty := ty) C.1 C.2.1 (hP 0 _ rfl) ((hK.2 t0 _ ht0).1 N (fun j => va_rf ((D.2.1 a j).map (ph g)))) hty (fun q => by cases q) (by show ¬ (i < 0 ∨ (arrV _ _ _).slots.size ≤ _); rw [arrV_size]; exact hi) ?_ rfl rfl hd h'
    show (arrV _ _ _).slots[_]? = _
    rw [arrV_read _ _ hlt]
    show some (va_rf ((D.2.1 a i.toNatClampNeg).map (ph g))) = _
    rw [hv]
    rfl
  match t, ht with
  | 0, _ => exact key (.object "SoupOrHorses$Shelf") rfl (by simp [tysG])
  | 1, _ => exact key (.array .int) rfl (by simp [tysG])
  | 2, _ => exact key (.array .long) rfl (by simp [tysG])
theorem V_alen {a N t : Nat} {v : Int32} (hd : decode (y_b y) pc = .ok (.arraylength, 1)) (ht : t < 5) (ha : a < D.1.1) (hk : D.1.2 a = (t + 1, N)) (hv : Int32.ofNat N = v) (h : V g y (pc + 1) lv (.int v :: st) D k n Q) : V g y pc lv (.ref a :: st) D k n Q := by
  intro p l e s m args below meth c H locs ls C L hR hS
  have hP := hR.P ha
  have hK := C.2.2.2.2.2.2.2.2.1.2.1
  have h' := h p l e s m args below meth c H locs ls C L hR hS
  match t, ht with
  | 0, _ => rw [cel_I hk] at hP; exact va_alen C.1 C.2.1 hK hP 0 0 rfl rfl hv hd h'
  | 1, _ => rw [cel_L hk] at hP; exact va_alen C.1 C.2.1 hK hP 0 1 rfl rfl hv hd h'
  | 2, _ => rw [cel_Q (t := 0) hk] at hP; exact va_alen C.1 C.2.1 hK hP 0 2 rfl rfl hv hd h'
  | 3, _ => rw [cel_Q (t := 1) hk] at hP; exact va_alen C.1 C.2.1 hK hP 0 3 rfl rfl hv hd h'
  | 4, _ => rw [cel_Q (t := 2) hk] at hP; exact va_alen C.1 C.2.1 hK hP 0 4 rfl rfl hv hd h'
theorem V_iast {a N : Nat} {i x : Int32} (hd : decode (y_b y) pc = .ok (.iastore, 1)) (ha : a < D.1.1) (hk : D.1.2 a = (1, N)) (hi : vp_in i N) (h : V g y (pc + 1) lv st (d_setI D a i.toNatClampNeg x) k n Q) : V g y pc lv (.int x :: .int i :: .ref a :: st) D k n Q := by
  intro p l e s m args below meth c H locs ls C L hR hS
  have hP := hR.P ha
  rw [cel_I hk] at hP
  refine W.iast C.1 C.2.1 (hP 0 _ rfl) ((C.2.2.2.2.2.2.2.2.1.2.1.2 0 _ rfl).1 N (fun j => .int (D.2.2.1 a j))) (fun q => by cases q) (by show ¬ (i < 0 ∨ (arrV _ _ _).slots.size ≤ _); rw [arrV_size]; exact hi) rfl rfl hd fun H1 e1 z oq => ?_
  refine h p l e s m args below meth c H1 _ ls C L (hR.upd rfl (fun b hb => d_setI_ne hb) ha z oq ?_) (hS.put z oq (by show g.1 ≤ ph g a; rw [ph_lt (Nat.lt_of_lt_of_le ha hR.2.1)]; omega))
  rw [cel_I (D := d_setI D a i.toNatClampNeg x) hk]
  show H1[ph g a]? = some (vp_cell _ _)
  rw [e1, vp_cell_i, vp_cell_i, arrV_store]
  congr 2
  funext q
  show updV _ _ _ _ = Value.int (up2 _ _ _ _ _ _)
  unfold updV up2
  by_cases hq : q = i.toNatClampNeg
  · simp [hq]
  · simp [hq]
theorem V_last {a N : Nat} {i : Int32} {x : Int64} (hd : decode (y_b y) pc = .ok (.lastore, 1)) (ha : a < D.1.1) (hk : D.1.2 a = (2, N)) (hi : vp_in i N) (h : V g y (pc + 1) lv st (d_setL D a i.toNatClampNeg x) k n Q) : V g y pc lv (.long x :: .int i :: .ref a :: st) D k n Q := by
  intro p l e s m args below meth c H locs ls C L hR hS
  have hP := hR.P ha
  rw [cel_L hk] at hP
  refine W.last C.1 C.2.1 (hP 0 _ rfl) ((C.2.2.2.2.2.2.2.2.1.2.1.2 1 _ rfl).1 N (fun j => .long (D.2.2.2 a j))) (fun q => by cases q) (by show ¬ (i < 0 ∨ (arrV _ _ _).slots.size ≤ _); rw [arrV_size]; exact hi) rfl rfl hd fun H1 e1 z oq => ?_
  refine h p l e s m args below meth c H1 _ ls C L (hR.upd rfl (fun b hb => d_setL_ne hb) ha z oq ?_) (hS.put z oq (by show g.1 ≤ ph g a; rw [ph_lt (Nat.lt_of_lt_of_le ha hR.2.1)]; omega))
  rw [cel_L (D := d_setL D a i.toNatClampNeg x) hk]
  show H1[ph g a]? = some (vp_cell _ _)
  rw [e1, vp_cell_l, vp_cell_l, arrV_store]
  congr 2
  funext q
  show updV _ _ _ _ = Value.long (up2 _ _ _ _ _ _)
  unfold updV up2
  by_cases hq : q = i.toNatClampNeg
  · simp [hq]
  · simp [hq]
end
