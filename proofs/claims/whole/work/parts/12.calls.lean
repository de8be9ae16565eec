theorem WS_good {w : Cond} (h : w ∈ WS) : (w.onTables && w.keeps) = true ∨ ∃ ty, w = .arrayClass ty := good_of_word (List.mem_filter.mp h).2
theorem WS_in {ws : List Cond} (h : ∀ w ∈ ws, w ∈ WS) : GoodIn WS ws := fun w hw => ⟨h w hw, WS_good (h w hw)⟩
theorem map_cat (g : Ev) (st : List Value) : ((st.map (sh g)).map fun v => v.category).sum = (st.map fun v => v.category).sum := by
  rw [List.map_map]
  congr 1
  apply List.map_congr_left
  intro v _
  exact sh_cat g v
theorem ph_ext (g : Ev) (i : Nat) : ph g (100000 + i) = g.2.2.2.1 i := by
  unfold ph
  rw [if_neg (by omega), Nat.add_sub_cancel_left]
theorem ES.blind {g : Ev} {U : State} {f : JFrame} {mk : MethodId} {a : Array Value} (h : ES g U) : ES g (U.calling f mk a) := by
  obtain ⟨h1, h2, ⟨⟨hx0, hx1⟩, hx2⟩, ⟨h3, h3b⟩, h4, h5, h6, h7⟩ := h
  exact ⟨h1, h2.moved (u := U) (U := U.calling f mk a) (Vm.Alike.refl U.vm), ⟨⟨va_AO.moved (u := U) (U := U.calling f mk a) (Vm.Alike.refl U.vm) hx0, fun t ht => over_moved (u := U) (E := U.calling f mk a) (Vm.Alike.refl U.vm) (hx1 t ht)⟩, fun q hq => (hx2 q hq).same rfl rfl⟩, ⟨va_X.moved (u := U) (U := U.calling f mk a) (Vm.Alike.refl U.vm) h3, h3b⟩, vk_S.moved (u := U) (U := U.calling f mk a) (Vm.Alike.refl U.vm) h4, fun q hq => (h5 q hq).same rfl, va_Z.moved (u := U) (U := U.calling f mk a) (Vm.Alike.refl U.vm) h6, va_Z.moved (u := U) (U := U.calling f mk a) (Vm.Alike.refl U.vm) h7⟩
/-- the words of a method and of its call from own's entry idx -/
def LC (z : Yt) (np : Nat) : Prop := Cond.code z.1 z.2.1 z.2.2.1 z.2.2.2.1 ∈ WS ∧ Cond.initialized z.1.cls ∈ WS ∧ (z.1.cls ≠ "java/lang/invoke/MethodHandle" ∧ z.1.cls ≠ "java/lang/invoke/VarHandle" ∧ (parseMethodDescriptor z.1.desc).map (fun d => d.parameters.length) = some np)
def LV (own : String) (idx : Nat) (z : Yt) (np : Nat) : Prop := LC z np ∧ Cond.methodLink own idx z.1 ∈ WS ∧ Cond.instanceMethod z.1 ∈ WS ∧ Cond.selects z.1.cls z.1 z.1 ∈ WS
def LSt (own : String) (idx : Nat) (z : Yt) (np : Nat) : Prop := LC z np ∧ Cond.methodLink own idx z.1 ∈ WS ∧ Cond.static z.1 ∈ WS
def LI (own : String) (idx : Nat) (z : Yt) (np : Nat) : Prop := LC z np ∧ Cond.methodLink own idx z.1 ∈ WS ∧ Cond.instanceMethod z.1 ∈ WS ∧ z.1.name = "<init>" ∧ z.2.2.2.1 = none
def LIN (own : String) (idx : Nat) (z : Yt) (np : Nat) : Prop := LC z np ∧ (own = "SoupOrHorses" ∧ (idx, z.1) ∈ nestT) ∧ Cond.instanceMethod z.1 ∈ WS ∧ z.1.name = "<init>" ∧ z.2.2.2.1 = none
/-- the room that a call of z leaves in y -/
def RM (y z : Yt) : Prop := z.2.2.2.2.1.1 + 1 ≤ y.2.2.2.2.1.1 ∧ 8 + (z.2.2.1 + 11) + z.2.2.2.2.1.2 ≤ y.2.2.2.2.1.2
def RCV (D : Dt) (b : Nat) (C : String) : Prop := (b < D.1.1 ∧ ∃ (ci : Nat) (cl : vw_C), D.1.2 b = (0, ci) ∧ vwCl[ci]? = some cl ∧ cl.1 = C) ∨ ∃ i, i < 6 ∧ b = 100000 + (1 + i) ∧ C = "java/lang/String"
theorem LC.ws {z : Yt} {np : Nat} (h : LC z np) : ∀ w ∈ y_ws z, w ∈ WS := fun w hw => (List.mem_cons.mp hw).elim (fun e => e ▸ h.1) id
section
variable {g : Ev} {y z : Yt} {pc : Nat} {lv : List (Nat × Value)} {st : List Value} {D : Dt} {k n k2 n2 : Nat} {Q Q1 : Option Value → Dt → Prop}
theorem V_ran {p : Program} {l : Launch} {e : Env} {s : State} {m : MethodId} {args : Array Value} {below : List Frame} {meth : Method} {c : Code} {H : Heap} {locs : List Loc} {ls : Array Slot} {a : Array Value} {stk : List Value}
    (C : Cx y g p s m args meth c) (L : lv_has ls y.2.2.1 (shl g lv)) (hS : va_S (Ag g) s.heap H locs)
    (hr : va_Run p l e (y_rm y) s m args below meth c H locs k n (y_mc z) (y_ms z) (F0 m pc ls stk) (st.map (sh g)) (QQ g Q1 a) (Ag g))
    (hk : k + y_mc z ≤ k2) (hn : n + y_ms z ≤ n2) (h : ∀ v D', Q1 v D' → V g y (pc + 3) lv (v.toList ++ st) D' k2 n2 Q) : W p l e (y_rm y) s m args below meth c H locs k n (vfin y g Q below args s) (F0 m pc ls stk) := by
  intro T hT X
  obtain ⟨v, st₀, t, T', Ls, h0, X', hL, e1, e2, ⟨⟨v', D', hQ, hv, hH⟩, hz, hF⟩, st2⟩ := hr T hT X
  have hv : v = v'.map (sh g) := by injection hv
  rw [h0] at hz hF
  have hS' : va_S (Ag g) s.heap T'.heap (locs ++ Ls) := ⟨Nat.le_trans hS.1 (by rw [e1]; exact hz), fun q h1 h2 => by rw [e1, hF q (Nat.lt_of_lt_of_le h1 hS.1) h2]; exact hS.2.1 q h1 h2, fun q hq => (List.mem_append.mp hq).elim (hS.2.2 q) (hL q)⟩
  obtain ⟨t2, a1, b1⟩ := (V.mono hk hn (h v' D' hQ)) p l e s m args below meth c T'.heap (locs ++ Ls) ls C L (by rw [e1]; exact hH) hS' T' rfl X'
  refine ⟨t2, st2 t2 ?_, b1⟩
  subst hv
  cases v' <;> exact a1
theorem pre_ok {s : State} {H : Heap} {locs : List Loc} {as : List Value} {m : MethodId} {args : Array Value} {meth : Method} {c : Code} {p : Program} (C : Cx y g p s m args meth c) (hR : HR g D H) (hS : va_S (Ag g) s.heap H locs) : PreS s H (va_Pc (as.map (sh g)) (fun U => ES g U ∧ HR g D U.heap)) (as.map (sh g)) :=
  ⟨fun a U f mk q => ⟨q.1, q.2.1.blind, q.2.2⟩, fun U hU hW => ⟨rfl, C.2.2.2.2.2.2.2.2.1.call hS hU hW, by rw [hU]; exact hR⟩⟩
theorem V_callV {idx np b : Nat} {As : List Value} (hd : decode (y_b y) pc = .ok (.invokevirtual idx, 3)) (hl : LV (y_c y) idx z np) (hrm : RM y z) (hnp : As.length = np) (hrc : RCV D b z.1.cls) (hst : (st.map fun v => v.category).sum ≤ 8) (hk : k + y_mc z ≤ k2) (hk2 : k2 ≤ y_mc y) (hn : n + y_ms z ≤ n2) (hn2 : n2 ≤ y_ms y)
    (hM : CT g z (.ref b :: As) D Q1) (h : ∀ v D', Q1 v D' → V g y (pc + 3) lv (v.toList ++ st) D' k2 n2 Q) : V g y pc lv (As.reverse ++ .ref b :: st) D k n Q := by
  intro p l e s m args below meth c H locs ls C L hR hS
  obtain ⟨hc, h1, h2, h3⟩ := hl
  have hts := C.2.2.2.2.2.1
  have hK := C.2.2.2.2.2.2.2.2.1.2.1
  have hG : GoodIn WS (wsV (y_c y) idx z.1.cls z.1 (y_ws z)) := WS_in (fun w hw => by
    rcases List.mem_append.mp hw with hw | hw
    · simp only [List.mem_cons, List.not_mem_nil, or_false] at hw
      rcases hw with rfl | rfl | rfl | rfl
      · exact h1
      · exact h2
      · exact h3
      · exact hc.2.1
    · exact hc.ws w hw)
  have hrecv : ∃ cell : Cell, H[ph g b]? = some cell ∧ cell.vm.isStatics = false ∧ s.vm.findClass z.1.cls = some cell.cls := by
    rcases hrc with ⟨hb, ci, cl, hkd, hcl, hC⟩ | ⟨i, hi, rfl, hC⟩
    · have hP := hR.P hb
      rw [cel_obj hkd] at hP
      rw [← hC]
      exact va_recv hK hP hcl (q0 := 0) rfl
    · rw [ph_ext, hC]
      exact vk_recv (i := i) (adK := fun i => g.2.2.2.1 (1 + i)) C.2.2.2.2.2.2.2.2.1.2.2.2.2.1 hi hS
  refine V_ran C L hS (va_runV (As := As.map (sh g)) ⟨C.1, C.2.1, C.2.2.2.1, C.2.2.2.2.1, hts⟩ (hM l) (cwV np hts hG rfl rfl rfl ⟨rfl, hc.2.2⟩ hrm) ⟨(pre_ok C hR hS).1, hrecv, (pre_ok (as := .ref b :: As) C hR hS).2⟩ rfl (by rw [List.length_map]; exact hnp) L.1 (by rw [List.map_append, List.map_reverse]; rfl) (lv_room (by rw [map_cat]; exact hst)) hd ⟨Nat.le_trans hk hk2, Nat.le_trans hn hn2⟩) hk hn h
theorem V_callS {idx np : Nat} {As : List Value} (hd : decode (y_b y) pc = .ok (.invokestatic idx, 3)) (hl : LSt (y_c y) idx z np) (hrm : RM y z) (hnp : As.length = np) (hst : (st.map fun v => v.category).sum ≤ 8) (hk : k + y_mc z ≤ k2) (hk2 : k2 ≤ y_mc y) (hn : n + y_ms z ≤ n2) (hn2 : n2 ≤ y_ms y)
    (hM : CT g z As D Q1) (h : ∀ v D', Q1 v D' → V g y (pc + 3) lv (v.toList ++ st) D' k2 n2 Q) : V g y pc lv (As.reverse ++ st) D k n Q := by
  intro p l e s m args below meth c H locs ls C L hR hS
  obtain ⟨hc, h1, h2⟩ := hl
  have hts := C.2.2.2.2.2.1
  have hG : GoodIn WS (va_wsS (y_c y) idx z.1 (y_ws z)) := WS_in (fun w hw => by
    rcases List.mem_append.mp hw with hw | hw
    · simp only [List.mem_cons, List.not_mem_nil, or_false] at hw
      rcases hw with rfl | rfl | rfl
      · exact h1
      · exact h2
      · exact hc.2.1
    · exact hc.ws w hw)
  refine V_ran C L hS (va_runS (As := As.map (sh g)) ⟨C.1, C.2.1, C.2.2.2.1, C.2.2.2.2.1, hts⟩ (hM l) (va_cwS np hts hG rfl rfl rfl hc.2.2 hrm) (pre_ok C hR hS) rfl (by rw [List.length_map]; exact hnp) L.1 (by rw [List.map_append, List.map_reverse]) (lv_room (by rw [map_cat]; exact hst)) hd ⟨Nat.le_trans hk hk2, Nat.le_trans hn hn2⟩) hk hn h
theorem V_callI {idx np b : Nat} {As : List Value} (hd : decode (y_b y) pc = .ok (.invokespecial idx, 3)) (hl : LI (y_c y) idx z np) (hrm : RM y z) (hnp : As.length = np) (hst : (st.map fun v => v.category).sum ≤ 8) (hk : k + y_mc z ≤ k2) (hk2 : k2 ≤ y_mc y) (hn : n + y_ms z ≤ n2) (hn2 : n2 ≤ y_ms y)
    (hM : CT g z (.ref b :: As) D Q1) (h : ∀ v D', Q1 v D' → V g y (pc + 3) lv (v.toList ++ st) D' k2 n2 Q) : V g y pc lv (As.reverse ++ .ref b :: st) D k n Q := by
  intro p l e s m args below meth c H locs ls C L hR hS
  obtain ⟨hc, h1, h2, h3, h4⟩ := hl
  have hts := C.2.2.2.2.2.1
  have hw : y_ws z = Cond.code z.1 z.2.1 z.2.2.1 none :: WS := by unfold y_ws; rw [h4]
  refine V_ran C L hS (va_runI (As := As.map (sh g)) ⟨C.1, C.2.1, C.2.2.2.1, C.2.2.2.2.1, hts⟩ (hM l) (cwI np hts (WS_in hc.ws) hw rfl rfl (hts _ hc.2.1) (hts _ h1) (hts _ h2) h3 hc.2.2 hrm) (pre_ok (as := .ref b :: As) C hR hS) rfl (by rw [List.length_map]; exact hnp) L.1 (by rw [List.map_append, List.map_reverse]; rfl) (lv_room (by rw [map_cat]; exact hst)) hd ⟨Nat.le_trans hk hk2, Nat.le_trans hn hn2⟩) hk hn h
theorem V_callIN {idx np b : Nat} {As : List Value} (hd : decode (y_b y) pc = .ok (.invokespecial idx, 3)) (hl : LIN (y_c y) idx z np) (hrm : RM y z) (hnp : As.length = np) (hst : (st.map fun v => v.category).sum ≤ 8) (hk : k + y_mc z ≤ k2) (hk2 : k2 ≤ y_mc y) (hn : n + y_ms z ≤ n2) (hn2 : n2 ≤ y_ms y)
    (hM : CT g z (.ref b :: As) D Q1) (h : ∀ v D', Q1 v D' → V g y (pc + 3) lv (v.toList ++ st) D' k2 n2 Q) : V g y pc lv (As.reverse ++ .ref b :: st) D k n Q := by
  intro p l e s m args below meth c H locs ls C L hR hS
  obtain ⟨hc, ⟨ho, h1⟩, h2, h3, h4⟩ := hl
  have hnest := C.2.2.2.2.2.2.2.2.1.2.2.1.2 _ h1
  rw [← ho] at hnest
  have hts := C.2.2.2.2.2.1
  have hw : y_ws z = Cond.code z.1 z.2.1 z.2.2.1 none :: WS := by unfold y_ws; rw [h4]
  refine V_ran C L hS (va_runIN (host := y_c y) (As := As.map (sh g)) ⟨C.1, C.2.1, C.2.2.2.1, C.2.2.2.2.1, hts⟩ (hM l) ⟨va_cnB np hts (WS_in hc.ws) hw rfl rfl hnest (hts _ hc.2.1) hc.2.2 hrm, h3, hts _ h2⟩ (pre_ok (as := .ref b :: As) C hR hS) rfl (by rw [List.length_map]; exact hnp) L.1 (by rw [List.map_append, List.map_reverse]; rfl) (lv_room (by rw [map_cat]; exact hst)) hd ⟨Nat.le_trans hk hk2, Nat.le_trans hn hn2⟩) hk hn h
theorem V_objInit {idx b : Nat} (hd : decode (y_b y) pc = .ok (.invokespecial idx, 3)) (hw1 : Cond.methodLink (y_c y) idx Lib.objectInit ∈ WS) (hw2 : Cond.instanceMethod Lib.objectInit ∈ WS) (hw3 : Cond.code Lib.objectInit ⟨#[0xb1]⟩ 1 none ∈ WS) (hf : 1 ≤ y.2.2.2.2.1.1) (hlo : (st.map fun v => v.category).sum + 12 ≤ y.2.2.2.2.1.2)
    (h : V g y (pc + 3) lv st D k n Q) : V g y pc lv (.ref b :: st) D k n Q := by
  intro p l e s m args below meth c H locs ls C L hR hS
  have hts := C.2.2.2.2.2.1
  exact W.objInit C.1 C.2.1 C.2.2.2.2.1 (hts _ hw1) (hts _ hw2) (hts _ hw3) rfl (by rw [C.2.2.2.1]; exact L.1) rfl hd hf (by rw [map_cat]; show 2 * 0 + _ + 12 ≤ y.2.2.2.2.1.2; omega) (h p l e s m args below meth c H locs ls C L hR hS)
/-! ends -/
theorem V_iret {x : Int32} (hd : decode (y_b y) pc = .ok (.ireturn, 1)) (hy : y_r y = some .int ∧ y.2.2.2.2.2.2 = false) (hk : k ≤ y_mc y) (hn : n ≤ y_ms y) (hQ : Q (some (.int x)) D) : V g y pc lv [.int x] D k n Q := by
  intro p l e s m args below meth c H locs ls C L hR hS
  unfold vfin
  rw [hy.2]
  refine W.widen hk hn ?_
  exact W.iret (v := x) C.1 C.2.1 (C.2.2.1.trans hy.1) (fun t ht hW => ⟨⟨some (.int x), D, hQ, rfl, by rw [ht]; exact hR⟩, hS.F ht⟩) hS.2.2 hd C.2.2.2.2.2.2.1
theorem V_zret {x : Int32} {ty : FieldType} (hd : decode (y_b y) pc = .ok (.ireturn, 1)) (hy : y_r y = some ty ∧ y.2.2.2.2.2.2 = false) (hx : narrow ty (.int x) = .int x) (hk : k ≤ y_mc y) (hn : n ≤ y_ms y) (hQ : Q (some (.int x)) D) : V g y pc lv [.int x] D k n Q := by
  intro p l e s m args below meth c H locs ls C L hR hS
  unfold vfin
  rw [hy.2]
  refine W.widen hk hn ?_
  exact W.zret (v := x) C.1 C.2.1 (C.2.2.1.trans hy.1) hx (fun t ht hW => ⟨⟨some (.int x), D, hQ, rfl, by rw [ht]; exact hR⟩, hS.F ht⟩) hS.2.2 hd C.2.2.2.2.2.2.1
theorem V_lret {x : Int64} (hd : decode (y_b y) pc = .ok (.lreturn, 1)) (hy : y_r y = some .long ∧ y.2.2.2.2.2.2 = false) (hk : k ≤ y_mc y) (hn : n ≤ y_ms y) (hQ : Q (some (.long x)) D) : V g y pc lv [.long x] D k n Q := by
  intro p l e s m args below meth c H locs ls C L hR hS
  unfold vfin
  rw [hy.2]
  refine W.widen hk hn ?_
  exact W.lret (v := x) C.1 C.2.1 (C.2.2.1.trans hy.1) (fun t ht hW => ⟨⟨some (.long x), D, hQ, rfl, by rw [ht]; exact hR⟩, hS.F ht⟩) hS.2.2 hd C.2.2.2.2.2.2.1
theorem V_vret (hd : decode (y_b y) pc = .ok (.return_, 1)) (hy : y_r y = none ∧ y.2.2.2.2.2.2 = false) (hk : k ≤ y_mc y) (hn : n ≤ y_ms y) (hQ : Q none D) : V g y pc lv [] D k n Q := by
  intro p l e s m args below meth c H locs ls C L hR hS
  unfold vfin
  rw [hy.2]
  refine W.widen hk hn ?_
  exact W.vret C.1 C.2.1 (C.2.2.1.trans hy.1) (fun t ht hW => ⟨⟨none, D, hQ, rfl, by rw [ht]; exact hR⟩, hS.F ht⟩) hS.2.2 hd C.2.2.2.2.2.2.1
theorem V_aret {b : Nat} {cn : String} (hd : decode (y_b y) pc = .ok (.areturn, 1)) (hy : y_r y = some (.object cn) ∧ y.2.2.2.2.2.2 = false) (hk : k ≤ y_mc y) (hn : n ≤ y_ms y) (hQ : Q (some (.ref b)) D) : V g y pc lv [.ref b] D k n Q := by
  intro p l e s m args below meth c H locs ls C L hR hS
  unfold vfin
  rw [hy.2]
  refine W.widen hk hn ?_
  exact W.aret (v := .ref (ph g b)) C.1 C.2.1 (C.2.2.1.trans hy.1) (Or.inl ⟨_, rfl⟩) (Or.inr ⟨_, rfl⟩) (fun t ht hW => ⟨⟨some (.ref b), D, hQ, rfl, by rw [ht]; exact hR⟩, hS.F ht⟩) hS.2.2 hd C.2.2.2.2.2.2.1
theorem V_aretN {cn : String} (hd : decode (y_b y) pc = .ok (.areturn, 1)) (hy : y_r y = some (.object cn) ∧ y.2.2.2.2.2.2 = false) (hk : k ≤ y_mc y) (hn : n ≤ y_ms y) (hQ : Q (some .null) D) : V g y pc lv [.null] D k n Q := by
  intro p l e s m args below meth c H locs ls C L hR hS
  unfold vfin
  rw [hy.2]
  refine W.widen hk hn ?_
  exact W.aret (v := .null) C.1 C.2.1 (C.2.2.1.trans hy.1) (Or.inl ⟨_, rfl⟩) (Or.inl rfl) (fun t ht hW => ⟨⟨some .null, D, hQ, rfl, by rw [ht]; exact hR⟩, hS.F ht⟩) hS.2.2 hd C.2.2.2.2.2.2.1
/-! a contract out of a walk -/
theorem lv_args_sh (g : Ev) : ∀ (as : List Value) (i : Nat), lv_args i (as.map (sh g)) = shl g (lv_args i as)
  | [], _ => rfl
  | v :: vs, i => by
    show (i, sh g v) :: lv_args (if (sh g v).category = 2 then i + 2 else i + 1) (vs.map (sh g)) = (i, sh g v) :: shl g (lv_args (if v.category = 2 then i + 2 else i + 1) vs)
    rw [sh_cat, lv_args_sh g vs]
theorem lg_sl_sh (g : Ev) : ∀ as : List Value, (lg_sl (as.map (sh g))).length = (lg_sl as).length
  | [] => rfl
  | v :: vs => by
    have ih := lg_sl_sh g vs
    unfold lg_sl at ih ⊢
    rw [List.map_cons, List.flatMap_cons, List.flatMap_cons, List.length_append, List.length_append, ih, sh_cat]
    by_cases h : v.category = 2
    · rw [if_pos h, if_pos h]; rfl
    · rw [if_neg h, if_neg h]; rfl
theorem CT_of {as : List Value} (hy : y.2.2.2.2.2.2 = false) (hpl : plainName y.1.cls = true) (hsz : (lg_sl as).length ≤ y.2.2.1) (hlv : lv_args 0 as = lv) (h : V g y 0 lv [] D 0 0 Q) : CT g y as D Q := by
  intro l
  refine Met.ofW (cc := y_b y) (maxL := y.2.2.1) (ret := y_r y) hpl rfl ?_
  intro p e s m args below meth c s₁ B hml hv
  obtain ⟨rfl, hES, hHR⟩ := hv
  have hts : ∀ w ∈ WS, w.before (as.map (sh g)).toArray s = true := fun w hw => atoms_spec (ws := y_ws y) B.pre w (List.mem_cons_of_mem _ hw)
  rw [lg_entry_eq]
  have hl := lv_entry (as.map (sh g)) (n := y.2.2.1) (by rw [lg_sl_sh]; exact hsz)
  rw [lv_args_sh, hlv] at hl
  have k := h p l e s m (as.map (sh g)).toArray below meth c s.heap [] _ ⟨B.exec, B.bytes, B.returns, hml, findClass_of_methodNamed B.named, hts, B.notSynchronized, fun e => (name_of_methodNamed B.named B.method).1.trans e, hES, fun q => by rw [hy] at q; cases q⟩ hl hHR va_S.rf
  unfold vfin at k
  rw [hy] at k
  exact k
end
