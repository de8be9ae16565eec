/-! THE SMALL MACHINE: an abstract heap (addresses 0, 1, 2 .. in the order of making), and what the real one has of it -/
abbrev Dt : Type := (Nat × (Nat → Nat × Nat)) × (Nat → Nat → Option Nat) × (Nat → Nat → Int32) × (Nat → Nat → Int64)
def up2 {α : Type} (f : Nat → Nat → α) (a k : Nat) (v : α) : Nat → Nat → α := fun b j => if b = a ∧ j = k then v else f b j
def d_setI (D : Dt) (a k : Nat) (v : Int32) : Dt := (D.1, D.2.1, up2 D.2.2.1 a k v, D.2.2.2)
def d_setL (D : Dt) (a k : Nat) (v : Int64) : Dt := (D.1, D.2.1, D.2.2.1, up2 D.2.2.2 a k v)
def d_setR (D : Dt) (a k : Nat) (v : Option Nat) : Dt := (D.1, up2 D.2.1 a k v, D.2.2)
def d_rowI (D : Dt) (a : Nat) (f : Nat → Int32) : Dt := (D.1, D.2.1, (fun b => if b = a then f else D.2.2.1 b), D.2.2.2)
def d_rowL (D : Dt) (a : Nat) (f : Nat → Int64) : Dt := (D.1, D.2.1, D.2.2.1, (fun b => if b = a then f else D.2.2.2 b))
/-- one cell more: its kind; all in it is 0 or null -/
def d_new (D : Dt) (kd : Nat × Nat) : Dt := ((D.1.1 + 1, fun a => if a = D.1.1 then kd else D.1.2 a), (fun a => if a = D.1.1 then (fun _ => none) else D.2.1 a), (fun a => if a = D.1.1 then (fun _ => 0) else D.2.2.1 a), (fun a => if a = D.1.1 then (fun _ => 0) else D.2.2.2 a))
/-- the launch's numbers: where the new cells begin; classes and slots; the classes of arrays; cells from before; a reference or null; the script -/
abbrev Ev : Type := Nat × ((Nat → ClassId) × (Nat → Nat → Nat)) × (Nat → ClassId) × (Nat → Nat) × Option Nat × (Nat × (Nat → Int32))
def ph (g : Ev) (a : Nat) : Nat := if a < 100000 then g.1 + a else g.2.2.2.1 (a - 100000)
def sh (g : Ev) (v : Value) : Value := match v with
  | .ref a => .ref (ph g a)
  | .float _ => va_rf g.2.2.2.2.1
  | v => v
theorem sh_cat (g : Ev) (v : Value) : (sh g v).category = v.category := by
  cases v <;> first | rfl | (show (va_rf g.2.2.2.2.1).category = 1; cases g.2.2.2.2.1 <;> rfl)
def Ag (g : Ev) : Nat → Prop := fun q => g.1 ≤ q
def tyC (ci : Nat) : Nat → FieldType := match ci with
  | 0 => tyX0
  | 1 => tyX1
  | 2 => tyX2
  | 3 => tyX4
  | 4 => tyX7
  | 5 => tyX8
  | 6 => tyX9
  | _ => tyX10
def nfC (ci : Nat) : Nat := match ci with
  | 0 => 14
  | 1 => 5
  | 2 => 3
  | 3 => 1
  | 4 => 3
  | 5 => 4
  | 6 => 10
  | _ => 38
def isI (t : FieldType) : Bool := match t with
  | .int => true
  | .boolean => true
  | _ => false
def fld (g : Ev) (D : Dt) (a ci k : Nat) : Value := if isI (tyC ci k) = true then .int (D.2.2.1 a k) else va_rf ((D.2.1 a k).map (ph g))
def cel (g : Ev) (D : Dt) (a : Nat) : va_E := match D.1.2 a with
  | (0, ci) => .inr (ci, (List.range (nfC ci)).map (fld g D a ci))
  | (1, n) => .inl (g.2.2.1 0, (n, .inl (D.2.2.1 a)))
  | (2, n) => .inl (g.2.2.1 1, (n, .inr (.inl (D.2.2.2 a))))
  | (t, n) => .inl (g.2.2.1 (t - 1), (n, .inr (.inr (.inr (.inr (fun j => (D.2.1 a j).map (ph g)))))))
def tysG (g : Ev) : List (ClassId × FieldType) := [(g.2.2.1 0, .int), (g.2.2.1 1, .long), (g.2.2.1 2, .object "SoupOrHorses$Shelf"), (g.2.2.1 3, .array .int), (g.2.2.1 4, .array .long)]
/-- the real heap has the abstract one -/
def HR (g : Ev) (D : Dt) (H : Heap) : Prop := H.size = g.1 + D.1.1 ∧ D.1.1 ≤ 100000 ∧ ∀ a : Nat, a < D.1.1 → va_at g.2.1 vwCl (g.1 + a, cel g D a) H
/-- the words that every method is given -/
def WS : List Cond := lw_tbl.filter goodWord
theorem WS_of {w : Cond} (h : w ∈ lw_tbl) (hg : goodWord w = true) : w ∈ WS := List.mem_filter.mpr ⟨h, hg⟩
/-- the script, the String constants, two statics: in the heap from before -/
def slen : List Nat := [4, 3, 3, 4, 4, 3]
def sbyt : List (List Int32) := [[99, 97, 108, 108], [101, 97, 114], [109, 97, 110], [115, 117, 114, 101], [108, 111, 115, 116], [117, 115, 101]]
def strT : List (String × Nat × String × Nat) := [("SoupOrHorses$Reader", 35, "call", 0), ("SoupOrHorses$Reader", 49, "ear", 1), ("SoupOrHorses$Reader", 57, "man", 2), ("SoupOrHorses$Reader", 65, "sure", 3), ("SoupOrHorses$Reader", 70, "lost", 4), ("SoupOrHorses$Reader", 75, "use", 5), ("SoupOrHorsesModel", 208, "call", 0), ("SoupOrHorsesModel", 217, "ear", 1), ("SoupOrHorsesModel", 222, "man", 2), ("SoupOrHorsesModel", 224, "sure", 3), ("SoupOrHorsesModel", 225, "lost", 4), ("SoupOrHorsesModel", 226, "use", 5)]
def fmtZ (g : Ev) (s : State) (H : Heap) : Prop := va_Z "jdk/internal/util/Preconditions" "SIOOBE_FORMATTER" "Ljava/util/function/BiFunction;" (va_rf g.2.2.2.2.1) (Ag g) s H
def EX (g : Ev) (s : State) (H : Heap) : Prop :=
  (va_X (g.2.2.2.1 0) g.2.2.2.2.2.1 g.2.2.2.2.2.2 s H ∧ g.2.2.2.1 0 < g.1) ∧ vk_S 6 slen sbyt (fun i => g.2.2.2.1 (1 + i)) (fun i => g.2.2.2.1 (51 + i)) (Ag g) s H ∧
  (∀ q ∈ strT, vk_R q.1 q.2.1 q.2.2.1 (g.2.2.2.1 (1 + q.2.2.2)) s) ∧ va_Z "java/lang/String" "COMPACT_STRINGS" "Z" (.int 1) (Ag g) s H ∧ fmtZ g s H
/-- words that a step may warm: each is carried by itself -/
def ovT : List FieldType := [.int, .long]
def nestT : List (Nat × MethodName) := [(9, yX0_init), (32, yX7_init), (35, yX8_init), (42, yX2_init), (49, yX1_init), (56, yX4_init)]
def XW (s : State) : Prop := (va_AO "SoupOrHorses$Shelf" s ∧ ∀ t ∈ ovT, (Cond.arrayOver (.array t)).before #[] s = true) ∧ ∀ q ∈ nestT, va_Nw (.methodLinkNest "SoupOrHorses" q.1 q.2 "SoupOrHorses") s
def ES (g : Ev) (s : State) : Prop := g.1 ≤ s.heap.size ∧ va_K g.2.1 vwCl (tysG g) s ∧ XW s ∧ EX g s s.heap
theorem ES.call {g : Ev} {s U : State} {H : Heap} {locs : List Loc} (h : ES g s) (hS : va_S (Ag g) s.heap H locs) (hU : U.heap = H) (hW : s.WarmedH U.vm) : ES g U := by
  obtain ⟨h1, h2, ⟨⟨hx0, hx1⟩, hx2⟩, ⟨h3, h3b⟩, h4, h5, h6, h7⟩ := h
  subst hU
  have hq : ∀ a : Nat, a < s.heap.size → ¬ Ag g a → U.heap[a]? = s.heap[a]? := hS.2.1
  refine ⟨Nat.le_trans h1 hS.1, h2.moved hW.alike, ⟨⟨hx0.moved hW.alike, fun t ht => over_moved hW.alike (hx1 t ht)⟩, fun q hq => (hx2 q hq).warmM hW⟩, ⟨(h3.kept (hq _ (by omega) (fun q => by unfold Ag at q; omega))).moved hW.alike, h3b⟩, (h4.kept hq).moved hW.alike, fun q hq => (h5 q hq).warm hW, (h6.kept hq).moved hW.alike, ?_⟩
  unfold fmtZ at h7 ⊢
  exact (h7.kept hq).moved hW.alike
/-- a method: name, bytes, locals, answer's type, frames and words, cells and slots, whether it is the law -/
abbrev Yt : Type := MethodName × ByteArray × Nat × Option FieldType × (Nat × Nat) × (Nat × Nat) × Bool
abbrev y_c (y : Yt) : String := y.1.cls
abbrev y_b (y : Yt) : ByteArray := y.2.1
abbrev y_r (y : Yt) : Option FieldType := y.2.2.2.1
abbrev y_mc (y : Yt) : Nat := y.2.2.2.2.2.1.1
abbrev y_ms (y : Yt) : Nat := y.2.2.2.2.2.1.2
def y_ws (y : Yt) : List Cond := .code y.1 y.2.1 y.2.2.1 y.2.2.2.1 :: WS
def y_rm (y : Yt) : Room := { frames := y.2.2.2.2.1.1, cells := y.2.2.2.2.2.1.1, slots := y.2.2.2.2.2.1.2, locals := y.2.2.2.2.1.2 }
def Cx (y : Yt) (g : Ev) (p : Program) (s : State) (m : MethodId) (args : Array Value) (meth : Method) (c : Code) : Prop :=
  p.tables.exec = Jvm.exec ∧ c.code = y_b y ∧ meth.sig.returnType = y_r y ∧ c.maxLocals = y.2.2.1 ∧ s.vm.findClass (y_c y) = some m.cls ∧ (∀ w ∈ WS, w.before args s = true) ∧ meth.locks = false ∧
  (y.1.name = "<init>" → meth.name = "<init>") ∧ ES g s ∧ (y.2.2.2.2.2.2 = true → args = #[.ref (g.2.2.2.1 0)] ∧ s.heap.size = g.1)
def QQ (g : Ev) (Q : Option Value → Dt → Prop) : Array Value → State → Outcome → State → Prop := fun _ st o t => (∃ (v : Option Value) (D : Dt), Q v D ∧ o = .returned (v.map (sh g)) ∧ HR g D t.heap) ∧ va_F (Ag g) st t
def vfin (y : Yt) (g : Ev) (Q : Option Value → Dt → Prop) (below : List Frame) (args : Array Value) (s : State) : State → Prop := match y.2.2.2.2.2.2 with
  | true => lw_Z below args s
  | false => MQ below (QQ g Q) args s (y_mc y) (y_ms y) (Ag g)
abbrev shl (g : Ev) (lv : List (Nat × Value)) : List (Nat × Value) := lv.map fun q => (q.1, sh g q.2)
/-- the machine, at pc of y, with these locals, this stack, this heap, k cells and n slots made so far, comes to an end of y's with Q -/
def V (g : Ev) (y : Yt) (pc : Nat) (lv : List (Nat × Value)) (st : List Value) (D : Dt) (k n : Nat) (Q : Option Value → Dt → Prop) : Prop :=
  ∀ (p : Program) (l : Launch) (e : Env) (s : State) (m : MethodId) (args : Array Value) (below : List Frame) (meth : Method) (c : Code) (H : Heap) (locs : List Loc) (ls : Array Slot),
    Cx y g p s m args meth c → lv_has ls y.2.2.1 (shl g lv) → HR g D H → va_S (Ag g) s.heap H locs →
    W p l e (y_rm y) s m args below meth c H locs k n (vfin y g Q below args s) (F0 m pc ls (st.map (sh g)))
/-- y, called with as on D, ends with Q -/
def CT (g : Ev) (y : Yt) (as : List Value) (D : Dt) (Q : Option Value → Dt → Prop) : Prop :=
  ∀ (l : Launch), Met l y.1 (y_ws y) (y_rm y) (va_Pc (as.map (sh g)) (fun U => ES g U ∧ HR g D U.heap)) (QQ g Q) (y_mc y) (y_ms y) (Ag g)
theorem V.mono {g : Ev} {y : Yt} {pc : Nat} {lv : List (Nat × Value)} {st : List Value} {D : Dt} {k n k2 n2 : Nat} {Q : Option Value → Dt → Prop} (h1 : k ≤ k2) (h2 : n ≤ n2) (h : V g y pc lv st D k2 n2 Q) : V g y pc lv st D k n Q := by
  intro p l e s m args below meth c H locs ls C L hR hS
  exact W.widen h1 h2 (h p l e s m args below meth c H locs ls C L hR hS)
theorem shl_pick (g : Ev) (lv : List (Nat × Value)) (ks : List Nat) : lv_pick (shl g lv) ks = shl g (lv_pick lv ks) := by
  induction ks with
  | nil => rfl
  | cons a l ih =>
    unfold lv_pick at ih ⊢
    rw [List.filterMap_cons, List.filterMap_cons, ih, List.getElem?_map]
    cases lv[a]? <;> rfl
theorem V_sub {g : Ev} {y : Yt} {pc : Nat} {lv lv' : List (Nat × Value)} {st : List Value} {D : Dt} {k n : Nat} {Q : Option Value → Dt → Prop} (ks : List Nat) (hl : lv_pick lv ks = lv') (h : V g y pc lv' st D k n Q) : V g y pc lv st D k n Q := by
  intro p l e s m args below meth c H locs ls C L hR hS
  exact h p l e s m args below meth c H locs ls C (lv_sub L ks (by rw [shl_pick, hl])) hR hS
theorem V_eq {g : Ev} {y : Yt} {pc : Nat} {lv lv' : List (Nat × Value)} {st st' : List Value} {D D' : Dt} {k n : Nat} {Q : Option Value → Dt → Prop} (h1 : lv = lv') (h2 : st = st') (h3 : D = D') (h : V g y pc lv' st' D' k n Q) : V g y pc lv st D k n Q := by
  subst h1; subst h2; subst h3; exact h
theorem CT.mono {g : Ev} {y : Yt} {as : List Value} {D : Dt} {Q Q' : Option Value → Dt → Prop} (h : CT g y as D Q) (hq : ∀ v D', Q v D' → Q' v D') : CT g y as D Q' := by
  intro l
  exact (h l).mono (fun _ _ x => x) (fun _ _ _ _ _ x => x) (fun _ _ _ _ _ x => ⟨⟨(by obtain ⟨v, D2, h1, h2⟩ := x.1.1; exact ⟨v, D2, hq _ _ h1, h2⟩), x.1.2⟩, x.2⟩)
