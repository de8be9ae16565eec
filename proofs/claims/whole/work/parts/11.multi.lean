/-! new T[n][m]: the outer array first, the inner ones behind it (vr_outer: out of the printed names) -/
theorem vr_outer (c : ClassId) (N h0 : Nat) : ∀ i : Nat, Jvm.Free.Multi.outerC c N h0 i = arrV c N (fun j => va_rf (if j < i then some (h0 + 1 + j) else none))
  | 0 => by
    show ({ cls := c, slots := Array.replicate N .null, vm := .none } : Cell) = _
    rw [arrV_new]
    refine congrArg (arrV c N) (funext fun j => ?_)
    simp [va_rf]
  | i + 1 => by
    show (Jvm.Free.Multi.outerC c N h0 i).setSlot i (.ref (h0 + 1 + i)) = _
    rw [vr_outer c N h0 i, arrV_store]
    refine congrArg (arrV c N) (funext fun j => ?_)
    by_cases e : j = i
    · subst e
      simp [updV, va_rf]
    · by_cases h : j < i
      · simp [updV, e, h, Nat.lt_succ_of_lt h]
      · simp [updV, e, h, show ¬ j < i + 1 by omega]
def d_mna (D : Dt) (t N it K : Nat) : Dt := ((D.1.1 + (1 + N), fun a => if a < D.1.1 then D.1.2 a else if a = D.1.1 then (t, N) else (it, K)), (fun a => if a < D.1.1 then D.2.1 a else if a = D.1.1 then (fun j => if j < N then some (D.1.1 + 1 + j) else none) else fun _ => none), (fun a => if a < D.1.1 then D.2.2.1 a else fun _ => 0), (fun a => if a < D.1.1 then D.2.2.2 a else fun _ => 0))
theorem HR.more {g : Ev} {D D' : Dt} {H H' : Heap} {m : Nat} (h : HR g D H) (hm : D'.1.1 = D.1.1 + m) (hb : D.1.1 + m ≤ 100000) (hz : H'.size = H.size + m) (hc : ∀ b, b < D.1.1 → cel g D' b = cel g D b) (hq : ∀ q, q < H.size → H'[q]? = H[q]?) (hn : ∀ j, j < m → va_at g.2.1 vwCl (H.size + j, cel g D' (D.1.1 + j)) H') : HR g D' H' := by
  refine ⟨by rw [hz, h.1, hm]; omega, by rw [hm]; exact hb, fun b hbb => ?_⟩
  rw [hm] at hbb
  by_cases e : b < D.1.1
  · rw [hc b e]
    exact (h.2.2 b e).kept (hq (g.1 + b) (by rw [h.1]; omega))
  · have := hn (b - D.1.1) (by omega)
    rw [h.1, show g.1 + D.1.1 + (b - D.1.1) = g.1 + b by omega, show D.1.1 + (b - D.1.1) = b by omega] at this
    exact this
section
variable {g : Ev} {y : Yt} {pc : Nat} {lv : List (Nat × Value)} {st : List Value} {D : Dt} {k n : Nat} {Q : Option Value → Dt → Prop}
theorem V_mna {idx N K t it : Nat} {i j : Int32} {ty : FieldType} (hd : decode (y_b y) pc = .ok (.multianewarray idx 2, 4)) (hw : Cond.classLink (y_c y) idx ("[" ++ (FieldType.array ty).toString) ∈ WS) (hw3 : Cond.arrayClass ty ∈ WS)
    (htt : (ty = .int ∧ t = 4 ∧ it = 1) ∨ (ty = .long ∧ t = 5 ∧ it = 2)) (hi : ¬ i < 0) (hj : ¬ j < 0) (hN : i.toNatClampNeg = N) (hK : j.toNatClampNeg = K) (hl : N ≤ 1000 ∧ K ≤ 1000) (hb : D.1.1 + (1 + N) ≤ 100000) (hk : k + (1 + N) ≤ y_mc y) (hn : n + (N + N * K) ≤ y_ms y)
    (h : V g y (pc + 4) lv (.ref D.1.1 :: st) (d_mna D t N it K) (k + 1 + N) (n + N + N * K) Q) : V g y pc lv (.int j :: .int i :: st) D k n Q := by
  intro p l e s m args below meth c H locs ls C L hR hS
  subst hN
  subst hK
  have hKK := C.2.2.2.2.2.2.2.2.1.2.1
  intro T hT Xs
  obtain ⟨vm₁, cA, cy, -, fA, fC, hO, -, X', step⟩ := Xs.multianewarray2F C.1 C.2.2.2.2.1 (C.2.2.2.2.2.1 _ hw) (over_moved (Vm.Alike.refl s.vm) (C.2.2.2.2.2.2.2.2.1.2.2.1.1.2 ty (by rcases htt with ⟨rfl, -, -⟩ | ⟨rfl, -, -⟩ <;> simp [ovT]))) (C.2.2.2.2.2.1 _ hw3) (g := F0 m pc ls (List.map (sh g) (.int j :: .int i :: st))) rfl (by rw [C.2.1]; exact hd) rfl hi hj (by omega) (by rcases htt with ⟨rfl, -, -⟩ | ⟨rfl, -, -⟩ <;> simp [componentBytes] <;> omega) (by omega)
    (by rcases htt with ⟨rfl, -, -⟩ | ⟨rfl, -, -⟩ <;> rfl) (by rcases htt with ⟨rfl, -, -⟩ | ⟨rfl, -, -⟩ <;> rfl) hk hn
  generalize hF : Jvm.Free.Multi.fill (T.setVm vm₁) cA cy i.toNatClampNeg j.toNatClampNeg (defaultValue ty) i.toNatClampNeg = F at X' step
  have hTh : (T.setVm vm₁).heap = H := hT
  obtain ⟨f1, f2, -, -⟩ := Jvm.Free.Multi.fill_facts (T.setVm vm₁) cA cy i.toNatClampNeg j.toNatClampNeg (defaultValue ty) i.toNatClampNeg
  rw [hF, hTh] at f1 f2
  have hold : ∀ x : Nat, x < H.size → F.heap[x]? = H[x]? := fun x hx => by
    have := Jvm.Free.Multi.fill_old (T.setVm vm₁) cA cy i.toNatClampNeg j.toNatClampNeg (defaultValue ty) (a := x) (by rw [hTh]; exact hx) i.toNatClampNeg
    rw [hF, hTh] at this
    exact this
  have hrow : ∀ z : Nat, z < i.toNatClampNeg → F.heap[H.size + 1 + z]? = some (Jvm.Free.Multi.innerC cy j.toNatClampNeg (defaultValue ty)) := fun z hz => by
    have := Jvm.Free.Multi.fill_inner (T.setVm vm₁) cA cy i.toNatClampNeg j.toNatClampNeg (defaultValue ty) i.toNatClampNeg z hz
    rw [hF, hTh] at this
    exact this
  rw [vr_outer cA i.toNatClampNeg H.size i.toNatClampNeg] at f2
  have hsz := hR.1
  have cc0 : cA = g.2.2.1 (t - 1) := by
    rcases htt with ⟨rfl, rfl, -⟩ | ⟨rfl, rfl, -⟩
    · exact Option.some.inj (fA.symm.trans (hKK.2 3 _ rfl).2)
    · exact Option.some.inj (fA.symm.trans (hKK.2 4 _ rfl).2)
  have cc1 : cy = g.2.2.1 (it - 1) := by
    rcases htt with ⟨rfl, -, rfl⟩ | ⟨rfl, -, rfl⟩
    · exact Option.some.inj (fC.symm.trans (hKK.2 0 _ rfl).2)
    · exact Option.some.inj (fC.symm.trans (hKK.2 1 _ rfl).2)
  have HRn : HR g (d_mna D t i.toNatClampNeg it j.toNatClampNeg) F.heap := by
    refine hR.more (m := 1 + i.toNatClampNeg) rfl hb (by rw [f1]; omega) (fun b hbb => cel_congr (if_pos hbb) (fun z => congrFun (if_pos hbb) z) (fun z => congrFun (if_pos hbb) z) (fun z => congrFun (if_pos hbb) z)) hold (fun z hz => ?_)
    have n0 : ¬ D.1.1 + z < D.1.1 := by omega
    by_cases e0 : z = 0
    · subst e0
      have ekd : (d_mna D t i.toNatClampNeg it j.toNatClampNeg).1.2 (D.1.1 + 0) = (t, i.toNatClampNeg) := by show (if _ then _ else _) = _; rw [if_neg n0, if_pos (by omega)]
      have erf : (d_mna D t i.toNatClampNeg it j.toNatClampNeg).2.1 (D.1.1 + 0) = (fun z => if z < i.toNatClampNeg then some (D.1.1 + 1 + z) else none) := by show (if _ then _ else _) = _; rw [if_neg n0, if_pos (by omega)]
      have et : ∃ t', t = t' + 3 := by rcases htt with ⟨-, rfl, -⟩ | ⟨-, rfl, -⟩; exact ⟨1, rfl⟩; exact ⟨2, rfl⟩
      obtain ⟨t', rfl⟩ := et
      rw [cel_Q ekd, erf]
      show F.heap[H.size + 0]? = some (vp_cell _ _)
      rw [Nat.add_zero, f2, cc0, vp_cell_q]
      congr 2
      funext z
      by_cases hz2 : z < i.toNatClampNeg
      · show va_rf (if z < i.toNatClampNeg then some (H.size + 1 + z) else none) = va_rf (Option.map (ph g) (if z < i.toNatClampNeg then some (D.1.1 + 1 + z) else none))
        rw [if_pos hz2, if_pos hz2]
        show _ = va_rf (some (ph g _))
        rw [ph_lt (by omega), hsz, Nat.add_assoc g.1, Nat.add_assoc g.1]
      · show va_rf (if z < i.toNatClampNeg then some (H.size + 1 + z) else none) = va_rf (Option.map (ph g) (if z < i.toNatClampNeg then some (D.1.1 + 1 + z) else none))
        rw [if_neg hz2, if_neg hz2]
        rfl
    · have ekd : (d_mna D t i.toNatClampNeg it j.toNatClampNeg).1.2 (D.1.1 + z) = (it, j.toNatClampNeg) := by show (if _ then _ else _) = _; rw [if_neg n0, if_neg (by omega)]
      have eiv : (d_mna D t i.toNatClampNeg it j.toNatClampNeg).2.2.1 (D.1.1 + z) = (fun _ => 0) := if_neg n0
      have elv : (d_mna D t i.toNatClampNeg it j.toNatClampNeg).2.2.2 (D.1.1 + z) = (fun _ => 0) := if_neg n0
      have hr := hrow (z - 1) (by omega)
      rw [show H.size + 1 + (z - 1) = H.size + z by omega] at hr
      rcases htt with ⟨rfl, -, rfl⟩ | ⟨rfl, -, rfl⟩
      · rw [cel_I ekd, eiv]
        show F.heap[H.size + z]? = some (vp_cell _ _)
        rw [hr, cc1, vp_cell_i]
        exact congrArg some (arrV_new _ _ (.int 0))
      · rw [cel_L ekd, elv]
        show F.heap[H.size + z]? = some (vp_cell _ _)
        rw [hr, cc1, vp_cell_l]
        exact congrArg some (arrV_new _ _ (.long 0))
  obtain ⟨t2, a1, b1⟩ := h p l e s m args below meth c F.heap locs ls C L HRn ⟨by rw [f1]; have := hS.1; omega, fun x h1 h2 => (hold x (Nat.lt_of_lt_of_le h1 hS.1)).trans (hS.2.1 x h1 h2), hS.2.2⟩ F rfl X'
  refine ⟨t2, step t2 ?_, b1⟩
  have e : T.heap.size = ph g D.1.1 := by rw [hT, hsz, ph_lt (by omega)]
  rw [e]
  exact a1
end
