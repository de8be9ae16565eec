theorem shl_at (g : Ev) {lv : List (Nat × Value)} {j i : Nat} {v : Value} (h : lv[j]? = some (i, v)) : (shl g lv)[j]? = some (i, sh g v) := by
  rw [List.getElem?_map, h]; rfl
theorem shl_st1 (g : Ev) {lv lv2 : List (Nat × Value)} {i : Nat} {v : Value} (h : (i, v) :: lv.filter (fun q => !(q.1 == i) && !(q.1 + 1 == i && q.2.category == 2)) = lv2) : (i, sh g v) :: (shl g lv).filter (fun q => !(q.1 == i) && !(q.1 + 1 == i && q.2.category == 2)) = shl g lv2 := by
  subst h
  show (i, sh g v) :: _ = (i, sh g v) :: List.map _ _
  rw [List.filter_map]
  congr 2
  apply List.filter_congr
  intro q _
  simp [Function.comp, sh_cat]
theorem shl_st2 (g : Ev) {lv lv2 : List (Nat × Value)} {i : Nat} {v : Value} (h : (i, v) :: lv.filter (fun q => !(q.1 == i) && (!(q.1 == i + 1) && !(q.1 + 1 == i && q.2.category == 2))) = lv2) : (i, sh g v) :: (shl g lv).filter (fun q => !(q.1 == i) && (!(q.1 == i + 1) && !(q.1 + 1 == i && q.2.category == 2))) = shl g lv2 := by
  subst h
  show (i, sh g v) :: _ = (i, sh g v) :: List.map _ _
  rw [List.filter_map]
  congr 2
  apply List.filter_congr
  intro q _
  simp [Function.comp, sh_cat]
theorem V_iadd {g : Ev} {y : Yt} {pc : Nat} {lv : List (Nat × Value)} {st : List Value} {D : Dt} {k n : Nat} {Q : Option Value → Dt → Prop} {a b : Int32} (hd : decode (y_b y) pc = .ok (.iadd, 1))  (h : V g y (pc + 1) lv (.int (a + b) :: st) D k n Q) : V g y (pc) lv (.int b :: .int a :: st) D k n Q := by
  intro p l e s m args below meth c H locs ls C L hR hS
  exact lv_iadd C.1 C.2.1 hd  (h p l e s m args below meth c H locs ls C L hR hS)
theorem V_isub {g : Ev} {y : Yt} {pc : Nat} {lv : List (Nat × Value)} {st : List Value} {D : Dt} {k n : Nat} {Q : Option Value → Dt → Prop} {a b : Int32} (hd : decode (y_b y) pc = .ok (.isub, 1))  (h : V g y (pc + 1) lv (.int (a - b) :: st) D k n Q) : V g y (pc) lv (.int b :: .int a :: st) D k n Q := by
  intro p l e s m args below meth c H locs ls C L hR hS
  exact lv_isub C.1 C.2.1 hd  (h p l e s m args below meth c H locs ls C L hR hS)
theorem V_imul {g : Ev} {y : Yt} {pc : Nat} {lv : List (Nat × Value)} {st : List Value} {D : Dt} {k n : Nat} {Q : Option Value → Dt → Prop} {a b : Int32} (hd : decode (y_b y) pc = .ok (.imul, 1))  (h : V g y (pc + 1) lv (.int (a * b) :: st) D k n Q) : V g y (pc) lv (.int b :: .int a :: st) D k n Q := by
  intro p l e s m args below meth c H locs ls C L hR hS
  exact lv_imul C.1 C.2.1 hd  (h p l e s m args below meth c H locs ls C L hR hS)
theorem V_iand {g : Ev} {y : Yt} {pc : Nat} {lv : List (Nat × Value)} {st : List Value} {D : Dt} {k n : Nat} {Q : Option Value → Dt → Prop} {a b : Int32} (hd : decode (y_b y) pc = .ok (.iand, 1))  (h : V g y (pc + 1) lv (.int (a &&& b) :: st) D k n Q) : V g y (pc) lv (.int b :: .int a :: st) D k n Q := by
  intro p l e s m args below meth c H locs ls C L hR hS
  exact lv_iand C.1 C.2.1 hd  (h p l e s m args below meth c H locs ls C L hR hS)
theorem V_ior {g : Ev} {y : Yt} {pc : Nat} {lv : List (Nat × Value)} {st : List Value} {D : Dt} {k n : Nat} {Q : Option Value → Dt → Prop} {a b : Int32} (hd : decode (y_b y) pc = .ok (.ior, 1))  (h : V g y (pc + 1) lv (.int (a ||| b) :: st) D k n Q) : V g y (pc) lv (.int b :: .int a :: st) D k n Q := by
  intro p l e s m args below meth c H locs ls C L hR hS
  exact lv_ior C.1 C.2.1 hd  (h p l e s m args below meth c H locs ls C L hR hS)
theorem V_ixor {g : Ev} {y : Yt} {pc : Nat} {lv : List (Nat × Value)} {st : List Value} {D : Dt} {k n : Nat} {Q : Option Value → Dt → Prop} {a b : Int32} (hd : decode (y_b y) pc = .ok (.ixor, 1))  (h : V g y (pc + 1) lv (.int (a ^^^ b) :: st) D k n Q) : V g y (pc) lv (.int b :: .int a :: st) D k n Q := by
  intro p l e s m args below meth c H locs ls C L hR hS
  exact lv_ixor C.1 C.2.1 hd  (h p l e s m args below meth c H locs ls C L hR hS)
theorem V_ishl {g : Ev} {y : Yt} {pc : Nat} {lv : List (Nat × Value)} {st : List Value} {D : Dt} {k n : Nat} {Q : Option Value → Dt → Prop} {a b : Int32} (hd : decode (y_b y) pc = .ok (.ishl, 1))  (h : V g y (pc + 1) lv (.int (a <<< (b &&& 31)) :: st) D k n Q) : V g y (pc) lv (.int b :: .int a :: st) D k n Q := by
  intro p l e s m args below meth c H locs ls C L hR hS
  exact lv_ishl C.1 C.2.1 hd  (h p l e s m args below meth c H locs ls C L hR hS)
theorem V_ishr {g : Ev} {y : Yt} {pc : Nat} {lv : List (Nat × Value)} {st : List Value} {D : Dt} {k n : Nat} {Q : Option Value → Dt → Prop} {a b : Int32} (hd : decode (y_b y) pc = .ok (.ishr, 1))  (h : V g y (pc + 1) lv (.int (a >>> (b &&& 31)) :: st) D k n Q) : V g y (pc) lv (.int b :: .int a :: st) D k n Q := by
  intro p l e s m args below meth c H locs ls C L hR hS
  exact lv_ishr C.1 C.2.1 hd  (h p l e s m args below meth c H locs ls C L hR hS)
theorem V_iushr {g : Ev} {y : Yt} {pc : Nat} {lv : List (Nat × Value)} {st : List Value} {D : Dt} {k n : Nat} {Q : Option Value → Dt → Prop} {a b : Int32} (hd : decode (y_b y) pc = .ok (.iushr, 1))  (h : V g y (pc + 1) lv (.int (a.toUInt32 >>> (b.toUInt32 &&& Int32.toUInt32 31)).toInt32 :: st) D k n Q) : V g y (pc) lv (.int b :: .int a :: st) D k n Q := by
  intro p l e s m args below meth c H locs ls C L hR hS
  exact lv_iushr C.1 C.2.1 hd rfl (h p l e s m args below meth c H locs ls C L hR hS)
theorem V_idiv {g : Ev} {y : Yt} {pc : Nat} {lv : List (Nat × Value)} {st : List Value} {D : Dt} {k n : Nat} {Q : Option Value → Dt → Prop} {a b : Int32} (hd : decode (y_b y) pc = .ok (.idiv, 1)) (hz : ¬ b = 0) (h : V g y (pc + 1) lv (.int (a / b) :: st) D k n Q) : V g y (pc) lv (.int b :: .int a :: st) D k n Q := by
  intro p l e s m args below meth c H locs ls C L hR hS
  exact lv_idiv C.1 C.2.1 hd hz (h p l e s m args below meth c H locs ls C L hR hS)
theorem V_irem {g : Ev} {y : Yt} {pc : Nat} {lv : List (Nat × Value)} {st : List Value} {D : Dt} {k n : Nat} {Q : Option Value → Dt → Prop} {a b : Int32} (hd : decode (y_b y) pc = .ok (.irem, 1)) (hz : ¬ b = 0) (h : V g y (pc + 1) lv (.int (a - a / b * b) :: st) D k n Q) : V g y (pc) lv (.int b :: .int a :: st) D k n Q := by
  intro p l e s m args below meth c H locs ls C L hR hS
  exact lv_irem C.1 C.2.1 hd hz (h p l e s m args below meth c H locs ls C L hR hS)
theorem V_ineg {g : Ev} {y : Yt} {pc : Nat} {lv : List (Nat × Value)} {st : List Value} {D : Dt} {k n : Nat} {Q : Option Value → Dt → Prop} {a : Int32} (hd : decode (y_b y) pc = .ok (.ineg, 1))  (h : V g y (pc + 1) lv (.int (-a) :: st) D k n Q) : V g y (pc) lv (.int a :: st) D k n Q := by
  intro p l e s m args below meth c H locs ls C L hR hS
  exact lv_ineg C.1 C.2.1 hd  (h p l e s m args below meth c H locs ls C L hR hS)
theorem V_ladd {g : Ev} {y : Yt} {pc : Nat} {lv : List (Nat × Value)} {st : List Value} {D : Dt} {k n : Nat} {Q : Option Value → Dt → Prop} {a b : Int64} (hd : decode (y_b y) pc = .ok (.ladd, 1))  (h : V g y (pc + 1) lv (.long (a + b) :: st) D k n Q) : V g y (pc) lv (.long b :: .long a :: st) D k n Q := by
  intro p l e s m args below meth c H locs ls C L hR hS
  exact lv_ladd C.1 C.2.1 hd  (h p l e s m args below meth c H locs ls C L hR hS)
theorem V_lmul {g : Ev} {y : Yt} {pc : Nat} {lv : List (Nat × Value)} {st : List Value} {D : Dt} {k n : Nat} {Q : Option Value → Dt → Prop} {a b : Int64} (hd : decode (y_b y) pc = .ok (.lmul, 1))  (h : V g y (pc + 1) lv (.long (a * b) :: st) D k n Q) : V g y (pc) lv (.long b :: .long a :: st) D k n Q := by
  intro p l e s m args below meth c H locs ls C L hR hS
  exact lv_lmul C.1 C.2.1 hd  (h p l e s m args below meth c H locs ls C L hR hS)
theorem V_land {g : Ev} {y : Yt} {pc : Nat} {lv : List (Nat × Value)} {st : List Value} {D : Dt} {k n : Nat} {Q : Option Value → Dt → Prop} {a b : Int64} (hd : decode (y_b y) pc = .ok (.land, 1))  (h : V g y (pc + 1) lv (.long (a &&& b) :: st) D k n Q) : V g y (pc) lv (.long b :: .long a :: st) D k n Q := by
  intro p l e s m args below meth c H locs ls C L hR hS
  exact lv_land C.1 C.2.1 hd  (h p l e s m args below meth c H locs ls C L hR hS)
theorem V_lor {g : Ev} {y : Yt} {pc : Nat} {lv : List (Nat × Value)} {st : List Value} {D : Dt} {k n : Nat} {Q : Option Value → Dt → Prop} {a b : Int64} (hd : decode (y_b y) pc = .ok (.lor, 1))  (h : V g y (pc + 1) lv (.long (a ||| b) :: st) D k n Q) : V g y (pc) lv (.long b :: .long a :: st) D k n Q := by
  intro p l e s m args below meth c H locs ls C L hR hS
  exact lv_lor C.1 C.2.1 hd  (h p l e s m args below meth c H locs ls C L hR hS)
theorem V_ldiv {g : Ev} {y : Yt} {pc : Nat} {lv : List (Nat × Value)} {st : List Value} {D : Dt} {k n : Nat} {Q : Option Value → Dt → Prop} {a b : Int64} (hd : decode (y_b y) pc = .ok (.ldiv, 1)) (hz : ¬ b = 0) (h : V g y (pc + 1) lv (.long (a / b) :: st) D k n Q) : V g y (pc) lv (.long b :: .long a :: st) D k n Q := by
  intro p l e s m args below meth c H locs ls C L hR hS
  exact lv_ldiv C.1 C.2.1 hd hz (h p l e s m args below meth c H locs ls C L hR hS)
theorem V_lshl {g : Ev} {y : Yt} {pc : Nat} {lv : List (Nat × Value)} {st : List Value} {D : Dt} {k n : Nat} {Q : Option Value → Dt → Prop} {a : Int64} {b : Int32} (hd : decode (y_b y) pc = .ok (.lshl, 1))  (h : V g y (pc + 1) lv (.long (a <<< (b.toInt64 &&& 63)) :: st) D k n Q) : V g y (pc) lv (.int b :: .long a :: st) D k n Q := by
  intro p l e s m args below meth c H locs ls C L hR hS
  exact lv_lshl C.1 C.2.1 hd rfl (h p l e s m args below meth c H locs ls C L hR hS)
theorem V_lcmp {g : Ev} {y : Yt} {pc : Nat} {lv : List (Nat × Value)} {st : List Value} {D : Dt} {k n : Nat} {Q : Option Value → Dt → Prop} {a b : Int64} (hd : decode (y_b y) pc = .ok (.lcmp, 1))  (h : V g y (pc + 1) lv (.int (lg_cmp a b) :: st) D k n Q) : V g y (pc) lv (.long b :: .long a :: st) D k n Q := by
  intro p l e s m args below meth c H locs ls C L hR hS
  exact W.lcmp C.1 C.2.1 hd  (h p l e s m args below meth c H locs ls C L hR hS)
theorem V_i2l {g : Ev} {y : Yt} {pc : Nat} {lv : List (Nat × Value)} {st : List Value} {D : Dt} {k n : Nat} {Q : Option Value → Dt → Prop} {a : Int32} (hd : decode (y_b y) pc = .ok (.i2l, 1))  (h : V g y (pc + 1) lv (.long a.toInt64 :: st) D k n Q) : V g y (pc) lv (.int a :: st) D k n Q := by
  intro p l e s m args below meth c H locs ls C L hR hS
  exact lv_i2l C.1 C.2.1 hd rfl (h p l e s m args below meth c H locs ls C L hR hS)
theorem V_l2i {g : Ev} {y : Yt} {pc : Nat} {lv : List (Nat × Value)} {st : List Value} {D : Dt} {k n : Nat} {Q : Option Value → Dt → Prop} {a : Int64} (hd : decode (y_b y) pc = .ok (.l2i, 1))  (h : V g y (pc + 1) lv (.int a.toInt32 :: st) D k n Q) : V g y (pc) lv (.long a :: st) D k n Q := by
  intro p l e s m args below meth c H locs ls C L hR hS
  exact lv_l2i C.1 C.2.1 hd rfl (h p l e s m args below meth c H locs ls C L hR hS)
theorem V_i2b {g : Ev} {y : Yt} {pc : Nat} {lv : List (Nat × Value)} {st : List Value} {D : Dt} {k n : Nat} {Q : Option Value → Dt → Prop} {a : Int32} (hd : decode (y_b y) pc = .ok (.i2b, 1))  (h : V g y (pc + 1) lv (.int a.toInt8.toInt32 :: st) D k n Q) : V g y (pc) lv (.int a :: st) D k n Q := by
  intro p l e s m args below meth c H locs ls C L hR hS
  exact lv_i2b C.1 C.2.1 hd rfl (h p l e s m args below meth c H locs ls C L hR hS)
theorem V_i2s {g : Ev} {y : Yt} {pc : Nat} {lv : List (Nat × Value)} {st : List Value} {D : Dt} {k n : Nat} {Q : Option Value → Dt → Prop} {a : Int32} (hd : decode (y_b y) pc = .ok (.i2s, 1))  (h : V g y (pc + 1) lv (.int a.toInt16.toInt32 :: st) D k n Q) : V g y (pc) lv (.int a :: st) D k n Q := by
  intro p l e s m args below meth c H locs ls C L hR hS
  exact lv_i2s C.1 C.2.1 hd rfl (h p l e s m args below meth c H locs ls C L hR hS)
theorem V_i2c {g : Ev} {y : Yt} {pc : Nat} {lv : List (Nat × Value)} {st : List Value} {D : Dt} {k n : Nat} {Q : Option Value → Dt → Prop} {a : Int32} (hd : decode (y_b y) pc = .ok (.i2c, 1))  (h : V g y (pc + 1) lv (.int (a.toUInt32 % 65536).toInt32 :: st) D k n Q) : V g y (pc) lv (.int a :: st) D k n Q := by
  intro p l e s m args below meth c H locs ls C L hR hS
  exact lv_i2c C.1 C.2.1 hd rfl (h p l e s m args below meth c H locs ls C L hR hS)
theorem V_iconst {g : Ev} {y : Yt} {pc : Nat} {lv : List (Nat × Value)} {st : List Value} {D : Dt} {k n : Nat} {Q : Option Value → Dt → Prop} {z : Int} {v : Int32} (hd : decode (y_b y) pc = .ok (.iconst z, 1)) (hv : Int32.ofInt z = v) (h : V g y (pc + 1) lv (.int v :: st) D k n Q) : V g y (pc) lv (st) D k n Q := by
  intro p l e s m args below meth c H locs ls C L hR hS
  exact lv_iconst C.1 C.2.1 hd hv (h p l e s m args below meth c H locs ls C L hR hS)
theorem V_bipush {g : Ev} {y : Yt} {pc : Nat} {lv : List (Nat × Value)} {st : List Value} {D : Dt} {k n : Nat} {Q : Option Value → Dt → Prop} {z : Int} {v : Int32} (hd : decode (y_b y) pc = .ok (.bipush z, 2)) (hv : (Int8.ofInt z).toInt32 = v) (h : V g y (pc + 2) lv (.int v :: st) D k n Q) : V g y (pc) lv (st) D k n Q := by
  intro p l e s m args below meth c H locs ls C L hR hS
  exact lv_bipush C.1 C.2.1 hd hv (h p l e s m args below meth c H locs ls C L hR hS)
theorem V_sipush {g : Ev} {y : Yt} {pc : Nat} {lv : List (Nat × Value)} {st : List Value} {D : Dt} {k n : Nat} {Q : Option Value → Dt → Prop} {z : Int} {v : Int32} (hd : decode (y_b y) pc = .ok (.sipush z, 3)) (hv : (Int16.ofInt z).toInt32 = v) (h : V g y (pc + 3) lv (.int v :: st) D k n Q) : V g y (pc) lv (st) D k n Q := by
  intro p l e s m args below meth c H locs ls C L hR hS
  exact lv_sipush C.1 C.2.1 hd hv (h p l e s m args below meth c H locs ls C L hR hS)
theorem V_lconst {g : Ev} {y : Yt} {pc : Nat} {lv : List (Nat × Value)} {st : List Value} {D : Dt} {k n : Nat} {Q : Option Value → Dt → Prop} {z : Fin 2} {v : Int64} (hd : decode (y_b y) pc = .ok (.lconst z, 1)) (hv : Int64.ofNat (z : Nat) = v) (h : V g y (pc + 1) lv (.long v :: st) D k n Q) : V g y (pc) lv (st) D k n Q := by
  intro p l e s m args below meth c H locs ls C L hR hS
  exact lv_lconst C.1 C.2.1 hd hv (h p l e s m args below meth c H locs ls C L hR hS)
theorem V_aconst_null {g : Ev} {y : Yt} {pc : Nat} {lv : List (Nat × Value)} {st : List Value} {D : Dt} {k n : Nat} {Q : Option Value → Dt → Prop}  (hd : decode (y_b y) pc = .ok (.aconst_null, 1))  (h : V g y (pc + 1) lv (.null :: st) D k n Q) : V g y (pc) lv (st) D k n Q := by
  intro p l e s m args below meth c H locs ls C L hR hS
  exact lv_null C.1 C.2.1 hd  (h p l e s m args below meth c H locs ls C L hR hS)
theorem V_pop {g : Ev} {y : Yt} {pc : Nat} {lv : List (Nat × Value)} {st : List Value} {D : Dt} {k n : Nat} {Q : Option Value → Dt → Prop} {v : Value} (hd : decode (y_b y) pc = .ok (.pop, 1)) (hv : v.category = 1) (h : V g y (pc + 1) lv (st) D k n Q) : V g y (pc) lv (v :: st) D k n Q := by
  intro p l e s m args below meth c H locs ls C L hR hS
  exact lv_pop C.1 C.2.1 hd ((sh_cat g v).trans hv) (h p l e s m args below meth c H locs ls C L hR hS)
theorem V_dup {g : Ev} {y : Yt} {pc : Nat} {lv : List (Nat × Value)} {st : List Value} {D : Dt} {k n : Nat} {Q : Option Value → Dt → Prop} {v : Value} (hd : decode (y_b y) pc = .ok (.dup, 1)) (hv : v.category = 1) (h : V g y (pc + 1) lv (v :: v :: st) D k n Q) : V g y (pc) lv (v :: st) D k n Q := by
  intro p l e s m args below meth c H locs ls C L hR hS
  exact lv_dup C.1 C.2.1 hd ((sh_cat g v).trans hv) (h p l e s m args below meth c H locs ls C L hR hS)
theorem V_dup_x1 {g : Ev} {y : Yt} {pc : Nat} {lv : List (Nat × Value)} {st : List Value} {D : Dt} {k n : Nat} {Q : Option Value → Dt → Prop} {v w : Value} (hd : decode (y_b y) pc = .ok (.dup_x1, 1)) (hv : v.category = 1) (hw : w.category = 1) (h : V g y (pc + 1) lv (v :: w :: v :: st) D k n Q) : V g y (pc) lv (v :: w :: st) D k n Q := by
  intro p l e s m args below meth c H locs ls C L hR hS
  exact lv_dup_x1 C.1 C.2.1 hd ((sh_cat g v).trans hv) ((sh_cat g w).trans hw) (h p l e s m args below meth c H locs ls C L hR hS)
theorem V_dup2_11 {g : Ev} {y : Yt} {pc : Nat} {lv : List (Nat × Value)} {st : List Value} {D : Dt} {k n : Nat} {Q : Option Value → Dt → Prop} {v w : Value} (hd : decode (y_b y) pc = .ok (.dup2, 1)) (hv : v.category = 1) (hw : w.category = 1) (h : V g y (pc + 1) lv (v :: w :: v :: w :: st) D k n Q) : V g y (pc) lv (v :: w :: st) D k n Q := by
  intro p l e s m args below meth c H locs ls C L hR hS
  exact lv_dup2_11 C.1 C.2.1 hd ((sh_cat g v).trans hv) ((sh_cat g w).trans hw) (h p l e s m args below meth c H locs ls C L hR hS)
theorem V_dup2_2 {g : Ev} {y : Yt} {pc : Nat} {lv : List (Nat × Value)} {st : List Value} {D : Dt} {k n : Nat} {Q : Option Value → Dt → Prop} {v : Value} (hd : decode (y_b y) pc = .ok (.dup2, 1)) (hv : v.category = 2) (h : V g y (pc + 1) lv (v :: v :: st) D k n Q) : V g y (pc) lv (v :: st) D k n Q := by
  intro p l e s m args below meth c H locs ls C L hR hS
  exact lv_dup2_2 C.1 C.2.1 hd ((sh_cat g v).trans hv) (h p l e s m args below meth c H locs ls C L hR hS)
theorem V_iload_n {g : Ev} {y : Yt} {pc : Nat} {lv : List (Nat × Value)} {st : List Value} {D : Dt} {k n : Nat} {Q : Option Value → Dt → Prop} {q : Fin 4} {i : Nat} {x : Int32} (hd : decode (y_b y) pc = .ok (.iload_n q, 1)) (hi : (q : Nat) = i) (j : Nat) (hl : lv[j]? = some (i, .int x)) (h : V g y (pc + 1) lv (.int x :: st) D k n Q) : V g y (pc) lv (st) D k n Q := by
  intro p l e s m args below meth c H locs ls C L hR hS
  exact lv_iload_n C.1 C.2.1 hd hi (lv_at L j (shl_at g hl)) (h p l e s m args below meth c H locs ls C L hR hS)
theorem V_iload {g : Ev} {y : Yt} {pc : Nat} {lv : List (Nat × Value)} {st : List Value} {D : Dt} {k n : Nat} {Q : Option Value → Dt → Prop} {i : Nat} {x : Int32} (hd : decode (y_b y) pc = .ok (.iload i, 2)) (j : Nat) (hl : lv[j]? = some (i, .int x)) (h : V g y (pc + 2) lv (.int x :: st) D k n Q) : V g y (pc) lv (st) D k n Q := by
  intro p l e s m args below meth c H locs ls C L hR hS
  exact lv_iload C.1 C.2.1 hd (lv_at L j (shl_at g hl)) (h p l e s m args below meth c H locs ls C L hR hS)
theorem V_lload_n {g : Ev} {y : Yt} {pc : Nat} {lv : List (Nat × Value)} {st : List Value} {D : Dt} {k n : Nat} {Q : Option Value → Dt → Prop} {q : Fin 4} {i : Nat} {x : Int64} (hd : decode (y_b y) pc = .ok (.lload_n q, 1)) (hi : (q : Nat) = i) (j : Nat) (hl : lv[j]? = some (i, .long x)) (h : V g y (pc + 1) lv (.long x :: st) D k n Q) : V g y (pc) lv (st) D k n Q := by
  intro p l e s m args below meth c H locs ls C L hR hS
  exact lv_lload_n C.1 C.2.1 hd hi (lv_at L j (shl_at g hl)) (h p l e s m args below meth c H locs ls C L hR hS)
theorem V_lload {g : Ev} {y : Yt} {pc : Nat} {lv : List (Nat × Value)} {st : List Value} {D : Dt} {k n : Nat} {Q : Option Value → Dt → Prop} {i : Nat} {x : Int64} (hd : decode (y_b y) pc = .ok (.lload i, 2)) (j : Nat) (hl : lv[j]? = some (i, .long x)) (h : V g y (pc + 2) lv (.long x :: st) D k n Q) : V g y (pc) lv (st) D k n Q := by
  intro p l e s m args below meth c H locs ls C L hR hS
  exact lv_lload C.1 C.2.1 hd (lv_at L j (shl_at g hl)) (h p l e s m args below meth c H locs ls C L hR hS)
theorem V_aload_n {g : Ev} {y : Yt} {pc : Nat} {lv : List (Nat × Value)} {st : List Value} {D : Dt} {k n : Nat} {Q : Option Value → Dt → Prop} {q : Fin 4} {i : Nat} {x : Nat} (hd : decode (y_b y) pc = .ok (.aload_n q, 1)) (hi : (q : Nat) = i) (j : Nat) (hl : lv[j]? = some (i, .ref x)) (h : V g y (pc + 1) lv (.ref x :: st) D k n Q) : V g y (pc) lv (st) D k n Q := by
  intro p l e s m args below meth c H locs ls C L hR hS
  exact lv_aload_n C.1 C.2.1 hd hi (lv_at L j (shl_at g hl)) (h p l e s m args below meth c H locs ls C L hR hS)
theorem V_aload {g : Ev} {y : Yt} {pc : Nat} {lv : List (Nat × Value)} {st : List Value} {D : Dt} {k n : Nat} {Q : Option Value → Dt → Prop} {i : Nat} {x : Nat} (hd : decode (y_b y) pc = .ok (.aload i, 2)) (j : Nat) (hl : lv[j]? = some (i, .ref x)) (h : V g y (pc + 2) lv (.ref x :: st) D k n Q) : V g y (pc) lv (st) D k n Q := by
  intro p l e s m args below meth c H locs ls C L hR hS
  exact lv_aload C.1 C.2.1 hd (lv_at L j (shl_at g hl)) (h p l e s m args below meth c H locs ls C L hR hS)
theorem V_aload_nN {g : Ev} {y : Yt} {pc : Nat} {lv : List (Nat × Value)} {st : List Value} {D : Dt} {k n : Nat} {Q : Option Value → Dt → Prop} {q : Fin 4} {i : Nat} (hd : decode (y_b y) pc = .ok (.aload_n q, 1)) (hi : (q : Nat) = i) (j : Nat) (hl : lv[j]? = some (i, .null)) (h : V g y (pc + 1) lv (.null :: st) D k n Q) : V g y (pc) lv (st) D k n Q := by
  intro p l e s m args below meth c H locs ls C L hR hS
  exact lv_aload_nN C.1 C.2.1 hd hi (lv_at L j (shl_at g hl)) (h p l e s m args below meth c H locs ls C L hR hS)
theorem V_aloadN {g : Ev} {y : Yt} {pc : Nat} {lv : List (Nat × Value)} {st : List Value} {D : Dt} {k n : Nat} {Q : Option Value → Dt → Prop} {i : Nat} (hd : decode (y_b y) pc = .ok (.aload i, 2)) (j : Nat) (hl : lv[j]? = some (i, .null)) (h : V g y (pc + 2) lv (.null :: st) D k n Q) : V g y (pc) lv (st) D k n Q := by
  intro p l e s m args below meth c H locs ls C L hR hS
  exact lv_aloadN C.1 C.2.1 hd (lv_at L j (shl_at g hl)) (h p l e s m args below meth c H locs ls C L hR hS)
theorem V_istore_n {g : Ev} {y : Yt} {pc : Nat} {lv : List (Nat × Value)} {st : List Value} {D : Dt} {k n : Nat} {Q : Option Value → Dt → Prop} {q : Fin 4} {i : Nat} {x : Int32} {lv2 : List (Nat × Value)} (hd : decode (y_b y) pc = .ok (.istore_n q, 1)) (hi : (q : Nat) = i) (hn : i < y.2.2.1) (hl : (i, .int x) :: lv.filter (fun q => !(q.1 == i) && !(q.1 + 1 == i && q.2.category == 2)) = lv2) (h : V g y (pc + 1) lv2 (st) D k n Q) : V g y (pc) lv (.int x :: st) D k n Q := by
  intro p l e s m args below meth c H locs ls C L hR hS
  exact lv_istore_n C.1 C.2.1 hd hi L hn (shl_st1 g hl) (fun ls L => h p l e s m args below meth c H locs ls C L hR hS)
theorem V_istore {g : Ev} {y : Yt} {pc : Nat} {lv : List (Nat × Value)} {st : List Value} {D : Dt} {k n : Nat} {Q : Option Value → Dt → Prop} {i : Nat} {x : Int32} {lv2 : List (Nat × Value)} (hd : decode (y_b y) pc = .ok (.istore i, 2)) (hn : i < y.2.2.1) (hl : (i, .int x) :: lv.filter (fun q => !(q.1 == i) && !(q.1 + 1 == i && q.2.category == 2)) = lv2) (h : V g y (pc + 2) lv2 (st) D k n Q) : V g y (pc) lv (.int x :: st) D k n Q := by
  intro p l e s m args below meth c H locs ls C L hR hS
  exact lv_istore C.1 C.2.1 hd L hn (shl_st1 g hl) (fun ls L => h p l e s m args below meth c H locs ls C L hR hS)
theorem V_astore_n {g : Ev} {y : Yt} {pc : Nat} {lv : List (Nat × Value)} {st : List Value} {D : Dt} {k n : Nat} {Q : Option Value → Dt → Prop} {q : Fin 4} {i : Nat} {x : Nat} {lv2 : List (Nat × Value)} (hd : decode (y_b y) pc = .ok (.astore_n q, 1)) (hi : (q : Nat) = i) (hn : i < y.2.2.1) (hl : (i, .ref x) :: lv.filter (fun q => !(q.1 == i) && !(q.1 + 1 == i && q.2.category == 2)) = lv2) (h : V g y (pc + 1) lv2 (st) D k n Q) : V g y (pc) lv (.ref x :: st) D k n Q := by
  intro p l e s m args below meth c H locs ls C L hR hS
  exact lv_astore_n C.1 C.2.1 hd hi L hn (shl_st1 g hl) (fun ls L => h p l e s m args below meth c H locs ls C L hR hS)
theorem V_astore {g : Ev} {y : Yt} {pc : Nat} {lv : List (Nat × Value)} {st : List Value} {D : Dt} {k n : Nat} {Q : Option Value → Dt → Prop} {i : Nat} {x : Nat} {lv2 : List (Nat × Value)} (hd : decode (y_b y) pc = .ok (.astore i, 2)) (hn : i < y.2.2.1) (hl : (i, .ref x) :: lv.filter (fun q => !(q.1 == i) && !(q.1 + 1 == i && q.2.category == 2)) = lv2) (h : V g y (pc + 2) lv2 (st) D k n Q) : V g y (pc) lv (.ref x :: st) D k n Q := by
  intro p l e s m args below meth c H locs ls C L hR hS
  exact lv_astore C.1 C.2.1 hd L hn (shl_st1 g hl) (fun ls L => h p l e s m args below meth c H locs ls C L hR hS)
theorem V_astore_nN {g : Ev} {y : Yt} {pc : Nat} {lv : List (Nat × Value)} {st : List Value} {D : Dt} {k n : Nat} {Q : Option Value → Dt → Prop} {q : Fin 4} {i : Nat} {lv2 : List (Nat × Value)} (hd : decode (y_b y) pc = .ok (.astore_n q, 1)) (hi : (q : Nat) = i) (hn : i < y.2.2.1) (hl : (i, .null) :: lv.filter (fun q => !(q.1 == i) && !(q.1 + 1 == i && q.2.category == 2)) = lv2) (h : V g y (pc + 1) lv2 (st) D k n Q) : V g y (pc) lv (.null :: st) D k n Q := by
  intro p l e s m args below meth c H locs ls C L hR hS
  exact lv_astore_nN C.1 C.2.1 hd hi L hn (shl_st1 g hl) (fun ls L => h p l e s m args below meth c H locs ls C L hR hS)
theorem V_astoreN {g : Ev} {y : Yt} {pc : Nat} {lv : List (Nat × Value)} {st : List Value} {D : Dt} {k n : Nat} {Q : Option Value → Dt → Prop} {i : Nat} {lv2 : List (Nat × Value)} (hd : decode (y_b y) pc = .ok (.astore i, 2)) (hn : i < y.2.2.1) (hl : (i, .null) :: lv.filter (fun q => !(q.1 == i) && !(q.1 + 1 == i && q.2.category == 2)) = lv2) (h : V g y (pc + 2) lv2 (st) D k n Q) : V g y (pc) lv (.null :: st) D k n Q := by
  intro p l e s m args below meth c H locs ls C L hR hS
  exact lv_astoreN C.1 C.2.1 hd L hn (shl_st1 g hl) (fun ls L => h p l e s m args below meth c H locs ls C L hR hS)
theorem V_lstore_n {g : Ev} {y : Yt} {pc : Nat} {lv : List (Nat × Value)} {st : List Value} {D : Dt} {k n : Nat} {Q : Option Value → Dt → Prop} {q : Fin 4} {i : Nat} {x : Int64} {lv2 : List (Nat × Value)} (hd : decode (y_b y) pc = .ok (.lstore_n q, 1)) (hi : (q : Nat) = i) (hn : i + 1 < y.2.2.1) (hl : (i, .long x) :: lv.filter (fun q => !(q.1 == i) && (!(q.1 == i + 1) && !(q.1 + 1 == i && q.2.category == 2))) = lv2) (h : V g y (pc + 1) lv2 (st) D k n Q) : V g y (pc) lv (.long x :: st) D k n Q := by
  intro p l e s m args below meth c H locs ls C L hR hS
  exact lv_lstore_n C.1 C.2.1 hd hi L hn (shl_st2 g hl) (fun ls L => h p l e s m args below meth c H locs ls C L hR hS)
theorem V_iinc {g : Ev} {y : Yt} {pc : Nat} {lv : List (Nat × Value)} {st : List Value} {D : Dt} {k n : Nat} {Q : Option Value → Dt → Prop} {i : Nat} {z : Int} {x v : Int32} {lv2 : List (Nat × Value)} (hd : decode (y_b y) pc = .ok (.iinc i z, 3)) (j : Nat) (hj : lv[j]? = some (i, .int x)) (hv : x + Int32.ofInt z = v) (hn : i < y.2.2.1) (hl : (i, .int v) :: lv.filter (fun q => !(q.1 == i) && !(q.1 + 1 == i && q.2.category == 2)) = lv2) (h : V g y (pc + 3) lv2 (st) D k n Q) : V g y (pc) lv (st) D k n Q := by
  intro p l e s m args below meth c H locs ls C L hR hS
  exact lv_iinc C.1 C.2.1 hd L (shl_at g hj) hv hn (shl_st1 g hl) (fun ls L => h p l e s m args below meth c H locs ls C L hR hS)
theorem V_if_eq {g : Ev} {y : Yt} {pc : Nat} {lv : List (Nat × Value)} {st : List Value} {D : Dt} {k n : Nat} {Q : Option Value → Dt → Prop} {a : Int32} {off : Int} {tgt : Nat} (hd : decode (y_b y) pc = .ok (.ifCond .eq off, 3)) (ht : (pc : Int) + off = (tgt : Int)) (kt : (a = 0) → V g y tgt lv st D k n Q) (kf : ¬ a = 0 → V g y (pc + 3) lv st D k n Q) : V g y (pc) lv (.int a :: st) D k n Q := by
  intro p l e s m args below meth c H locs ls C L hR hS
  exact lv_if_eq C.1 C.2.1 hd ht (fun h => kt h p l e s m args below meth c H locs ls C L hR hS) (fun h => kf h p l e s m args below meth c H locs ls C L hR hS)
theorem V_icmp_eq {g : Ev} {y : Yt} {pc : Nat} {lv : List (Nat × Value)} {st : List Value} {D : Dt} {k n : Nat} {Q : Option Value → Dt → Prop} {a b : Int32} {off : Int} {tgt : Nat} (hd : decode (y_b y) pc = .ok (.if_icmp .eq off, 3)) (ht : (pc : Int) + off = (tgt : Int)) (kt : (a = b) → V g y tgt lv st D k n Q) (kf : ¬ a = b → V g y (pc + 3) lv st D k n Q) : V g y (pc) lv (.int b :: .int a :: st) D k n Q := by
  intro p l e s m args below meth c H locs ls C L hR hS
  exact lv_icmp_eq C.1 C.2.1 hd ht (fun h => kt h p l e s m args below meth c H locs ls C L hR hS) (fun h => kf h p l e s m args below meth c H locs ls C L hR hS)
theorem V_if_ne {g : Ev} {y : Yt} {pc : Nat} {lv : List (Nat × Value)} {st : List Value} {D : Dt} {k n : Nat} {Q : Option Value → Dt → Prop} {a : Int32} {off : Int} {tgt : Nat} (hd : decode (y_b y) pc = .ok (.ifCond .ne off, 3)) (ht : (pc : Int) + off = (tgt : Int)) (kt : (¬ a = 0) → V g y tgt lv st D k n Q) (kf : a = 0 → V g y (pc + 3) lv st D k n Q) : V g y (pc) lv (.int a :: st) D k n Q := by
  intro p l e s m args below meth c H locs ls C L hR hS
  exact lv_if_ne C.1 C.2.1 hd ht (fun h => kt h p l e s m args below meth c H locs ls C L hR hS) (fun h => kf h p l e s m args below meth c H locs ls C L hR hS)
theorem V_icmp_ne {g : Ev} {y : Yt} {pc : Nat} {lv : List (Nat × Value)} {st : List Value} {D : Dt} {k n : Nat} {Q : Option Value → Dt → Prop} {a b : Int32} {off : Int} {tgt : Nat} (hd : decode (y_b y) pc = .ok (.if_icmp .ne off, 3)) (ht : (pc : Int) + off = (tgt : Int)) (kt : (¬ a = b) → V g y tgt lv st D k n Q) (kf : a = b → V g y (pc + 3) lv st D k n Q) : V g y (pc) lv (.int b :: .int a :: st) D k n Q := by
  intro p l e s m args below meth c H locs ls C L hR hS
  exact lv_icmp_ne C.1 C.2.1 hd ht (fun h => kt h p l e s m args below meth c H locs ls C L hR hS) (fun h => kf h p l e s m args below meth c H locs ls C L hR hS)
theorem V_if_lt {g : Ev} {y : Yt} {pc : Nat} {lv : List (Nat × Value)} {st : List Value} {D : Dt} {k n : Nat} {Q : Option Value → Dt → Prop} {a : Int32} {off : Int} {tgt : Nat} (hd : decode (y_b y) pc = .ok (.ifCond .lt off, 3)) (ht : (pc : Int) + off = (tgt : Int)) (kt : (a < 0) → V g y tgt lv st D k n Q) (kf : ¬ a < 0 → V g y (pc + 3) lv st D k n Q) : V g y (pc) lv (.int a :: st) D k n Q := by
  intro p l e s m args below meth c H locs ls C L hR hS
  exact lv_if_lt C.1 C.2.1 hd ht (fun h => kt h p l e s m args below meth c H locs ls C L hR hS) (fun h => kf h p l e s m args below meth c H locs ls C L hR hS)
theorem V_icmp_lt {g : Ev} {y : Yt} {pc : Nat} {lv : List (Nat × Value)} {st : List Value} {D : Dt} {k n : Nat} {Q : Option Value → Dt → Prop} {a b : Int32} {off : Int} {tgt : Nat} (hd : decode (y_b y) pc = .ok (.if_icmp .lt off, 3)) (ht : (pc : Int) + off = (tgt : Int)) (kt : (a < b) → V g y tgt lv st D k n Q) (kf : ¬ a < b → V g y (pc + 3) lv st D k n Q) : V g y (pc) lv (.int b :: .int a :: st) D k n Q := by
  intro p l e s m args below meth c H locs ls C L hR hS
  exact lv_icmp_lt C.1 C.2.1 hd ht (fun h => kt h p l e s m args below meth c H locs ls C L hR hS) (fun h => kf h p l e s m args below meth c H locs ls C L hR hS)
theorem V_if_ge {g : Ev} {y : Yt} {pc : Nat} {lv : List (Nat × Value)} {st : List Value} {D : Dt} {k n : Nat} {Q : Option Value → Dt → Prop} {a : Int32} {off : Int} {tgt : Nat} (hd : decode (y_b y) pc = .ok (.ifCond .ge off, 3)) (ht : (pc : Int) + off = (tgt : Int)) (kt : (0 ≤ a) → V g y tgt lv st D k n Q) (kf : ¬ 0 ≤ a → V g y (pc + 3) lv st D k n Q) : V g y (pc) lv (.int a :: st) D k n Q := by
  intro p l e s m args below meth c H locs ls C L hR hS
  exact lv_if_ge C.1 C.2.1 hd ht (fun h => kt h p l e s m args below meth c H locs ls C L hR hS) (fun h => kf h p l e s m args below meth c H locs ls C L hR hS)
theorem V_icmp_ge {g : Ev} {y : Yt} {pc : Nat} {lv : List (Nat × Value)} {st : List Value} {D : Dt} {k n : Nat} {Q : Option Value → Dt → Prop} {a b : Int32} {off : Int} {tgt : Nat} (hd : decode (y_b y) pc = .ok (.if_icmp .ge off, 3)) (ht : (pc : Int) + off = (tgt : Int)) (kt : (b ≤ a) → V g y tgt lv st D k n Q) (kf : ¬ b ≤ a → V g y (pc + 3) lv st D k n Q) : V g y (pc) lv (.int b :: .int a :: st) D k n Q := by
  intro p l e s m args below meth c H locs ls C L hR hS
  exact lv_icmp_ge C.1 C.2.1 hd ht (fun h => kt h p l e s m args below meth c H locs ls C L hR hS) (fun h => kf h p l e s m args below meth c H locs ls C L hR hS)
theorem V_if_gt {g : Ev} {y : Yt} {pc : Nat} {lv : List (Nat × Value)} {st : List Value} {D : Dt} {k n : Nat} {Q : Option Value → Dt → Prop} {a : Int32} {off : Int} {tgt : Nat} (hd : decode (y_b y) pc = .ok (.ifCond .gt off, 3)) (ht : (pc : Int) + off = (tgt : Int)) (kt : (0 < a) → V g y tgt lv st D k n Q) (kf : ¬ 0 < a → V g y (pc + 3) lv st D k n Q) : V g y (pc) lv (.int a :: st) D k n Q := by
  intro p l e s m args below meth c H locs ls C L hR hS
  exact lv_if_gt C.1 C.2.1 hd ht (fun h => kt h p l e s m args below meth c H locs ls C L hR hS) (fun h => kf h p l e s m args below meth c H locs ls C L hR hS)
theorem V_icmp_gt {g : Ev} {y : Yt} {pc : Nat} {lv : List (Nat × Value)} {st : List Value} {D : Dt} {k n : Nat} {Q : Option Value → Dt → Prop} {a b : Int32} {off : Int} {tgt : Nat} (hd : decode (y_b y) pc = .ok (.if_icmp .gt off, 3)) (ht : (pc : Int) + off = (tgt : Int)) (kt : (b < a) → V g y tgt lv st D k n Q) (kf : ¬ b < a → V g y (pc + 3) lv st D k n Q) : V g y (pc) lv (.int b :: .int a :: st) D k n Q := by
  intro p l e s m args below meth c H locs ls C L hR hS
  exact lv_icmp_gt C.1 C.2.1 hd ht (fun h => kt h p l e s m args below meth c H locs ls C L hR hS) (fun h => kf h p l e s m args below meth c H locs ls C L hR hS)
theorem V_if_le {g : Ev} {y : Yt} {pc : Nat} {lv : List (Nat × Value)} {st : List Value} {D : Dt} {k n : Nat} {Q : Option Value → Dt → Prop} {a : Int32} {off : Int} {tgt : Nat} (hd : decode (y_b y) pc = .ok (.ifCond .le off, 3)) (ht : (pc : Int) + off = (tgt : Int)) (kt : (a ≤ 0) → V g y tgt lv st D k n Q) (kf : ¬ a ≤ 0 → V g y (pc + 3) lv st D k n Q) : V g y (pc) lv (.int a :: st) D k n Q := by
  intro p l e s m args below meth c H locs ls C L hR hS
  exact lv_if_le C.1 C.2.1 hd ht (fun h => kt h p l e s m args below meth c H locs ls C L hR hS) (fun h => kf h p l e s m args below meth c H locs ls C L hR hS)
theorem V_icmp_le {g : Ev} {y : Yt} {pc : Nat} {lv : List (Nat × Value)} {st : List Value} {D : Dt} {k n : Nat} {Q : Option Value → Dt → Prop} {a b : Int32} {off : Int} {tgt : Nat} (hd : decode (y_b y) pc = .ok (.if_icmp .le off, 3)) (ht : (pc : Int) + off = (tgt : Int)) (kt : (a ≤ b) → V g y tgt lv st D k n Q) (kf : ¬ a ≤ b → V g y (pc + 3) lv st D k n Q) : V g y (pc) lv (.int b :: .int a :: st) D k n Q := by
  intro p l e s m args below meth c H locs ls C L hR hS
  exact lv_icmp_le C.1 C.2.1 hd ht (fun h => kt h p l e s m args below meth c H locs ls C L hR hS) (fun h => kf h p l e s m args below meth c H locs ls C L hR hS)
theorem V_goto {g : Ev} {y : Yt} {pc : Nat} {lv : List (Nat × Value)} {st : List Value} {D : Dt} {k n : Nat} {Q : Option Value → Dt → Prop} {off : Int} {tgt : Nat} (hd : decode (y_b y) pc = .ok (.goto off, 3)) (ht : (pc : Int) + off = (tgt : Int)) (h : V g y (tgt) lv (st) D k n Q) : V g y (pc) lv (st) D k n Q := by
  intro p l e s m args below meth c H locs ls C L hR hS
  exact lv_goto C.1 C.2.1 hd ht (h p l e s m args below meth c H locs ls C L hR hS)
theorem V_ifnull {g : Ev} {y : Yt} {pc : Nat} {lv : List (Nat × Value)} {st : List Value} {D : Dt} {k n : Nat} {Q : Option Value → Dt → Prop} {off : Int} {x : Nat} (hd : decode (y_b y) pc = .ok (.ifnull off, 3)) (h : V g y (pc + 3) lv (st) D k n Q) : V g y (pc) lv (.ref x :: st) D k n Q := by
  intro p l e s m args below meth c H locs ls C L hR hS
  exact lv_ifnull C.1 C.2.1 hd (h p l e s m args below meth c H locs ls C L hR hS)
theorem V_ifnullN {g : Ev} {y : Yt} {pc : Nat} {lv : List (Nat × Value)} {st : List Value} {D : Dt} {k n : Nat} {Q : Option Value → Dt → Prop} {off : Int} {tgt : Nat} (hd : decode (y_b y) pc = .ok (.ifnull off, 3)) (ht : (pc : Int) + off = (tgt : Int)) (h : V g y (tgt) lv (st) D k n Q) : V g y (pc) lv (.null :: st) D k n Q := by
  intro p l e s m args below meth c H locs ls C L hR hS
  exact lv_ifnullN C.1 C.2.1 hd ht (h p l e s m args below meth c H locs ls C L hR hS)
theorem V_ifnonnull {g : Ev} {y : Yt} {pc : Nat} {lv : List (Nat × Value)} {st : List Value} {D : Dt} {k n : Nat} {Q : Option Value → Dt → Prop} {off : Int} {tgt : Nat} {x : Nat} (hd : decode (y_b y) pc = .ok (.ifnonnull off, 3)) (ht : (pc : Int) + off = (tgt : Int)) (h : V g y (tgt) lv (st) D k n Q) : V g y (pc) lv (.ref x :: st) D k n Q := by
  intro p l e s m args below meth c H locs ls C L hR hS
  exact lv_ifnonnull C.1 C.2.1 hd ht (h p l e s m args below meth c H locs ls C L hR hS)
theorem V_ifnonnullN {g : Ev} {y : Yt} {pc : Nat} {lv : List (Nat × Value)} {st : List Value} {D : Dt} {k n : Nat} {Q : Option Value → Dt → Prop} {off : Int} (hd : decode (y_b y) pc = .ok (.ifnonnull off, 3)) (h : V g y (pc + 3) lv (st) D k n Q) : V g y (pc) lv (.null :: st) D k n Q := by
  intro p l e s m args below meth c H locs ls C L hR hS
  exact lv_ifnonnullN C.1 C.2.1 hd (h p l e s m args below meth c H locs ls C L hR hS)
theorem V_tableOut {g : Ev} {y : Yt} {pc : Nat} {lv : List (Nat × Value)} {st : List Value} {D : Dt} {k n : Nat} {Q : Option Value → Dt → Prop} {dflt lo hi : Int} {offs : Array Int} {len : Nat} {a : Int32} {tgt : Nat} (hd : decode (y_b y) pc = .ok (.tableswitch dflt lo hi offs, len)) (hr : a.toInt < lo ∨ hi < a.toInt) (ht : (pc : Int) + dflt = (tgt : Int)) (h : V g y (tgt) lv (st) D k n Q) : V g y (pc) lv (.int a :: st) D k n Q := by
  intro p l e s m args below meth c H locs ls C L hR hS
  exact lv_tableOut C.1 C.2.1 hd hr ht (h p l e s m args below meth c H locs ls C L hR hS)
theorem V_tableIn {g : Ev} {y : Yt} {pc : Nat} {lv : List (Nat × Value)} {st : List Value} {D : Dt} {k n : Nat} {Q : Option Value → Dt → Prop} {dflt lo hi : Int} {offs : Array Int} {len : Nat} {a : Int32} {off : Int} {tgt : Nat} (hd : decode (y_b y) pc = .ok (.tableswitch dflt lo hi offs, len)) (h1 : ¬ a.toInt < lo) (h2 : ¬ hi < a.toInt) (ho : offs[(a.toInt - lo).toNat]? = some off) (ht : (pc : Int) + off = (tgt : Int)) (h : V g y (tgt) lv (st) D k n Q) : V g y (pc) lv (.int a :: st) D k n Q := by
  intro p l e s m args below meth c H locs ls C L hR hS
  exact lv_tableIn C.1 C.2.1 hd h1 h2 ho ht (h p l e s m args below meth c H locs ls C L hR hS)
theorem V_ldc {g : Ev} {y : Yt} {pc : Nat} {lv : List (Nat × Value)} {st : List Value} {D : Dt} {k n : Nat} {Q : Option Value → Dt → Prop} {i : Nat} {v : Int32} (hd : decode (y_b y) pc = .ok (.ldc i, 2)) (hw : Cond.constant (y_c y) i v ∈ WS) (h : V g y (pc + 2) lv (.int v :: st) D k n Q) : V g y (pc) lv (st) D k n Q := by
  intro p l e s m args below meth c H locs ls C L hR hS
  exact lv_ldc C.1 C.2.1 C.2.2.2.2.1 (C.2.2.2.2.2.1 _ hw) hd (h p l e s m args below meth c H locs ls C L hR hS)
theorem V_ldcw {g : Ev} {y : Yt} {pc : Nat} {lv : List (Nat × Value)} {st : List Value} {D : Dt} {k n : Nat} {Q : Option Value → Dt → Prop} {i : Nat} {v : Int32} (hd : decode (y_b y) pc = .ok (.ldc_w i, 3)) (hw : Cond.constant (y_c y) i v ∈ WS) (h : V g y (pc + 3) lv (.int v :: st) D k n Q) : V g y (pc) lv (st) D k n Q := by
  intro p l e s m args below meth c H locs ls C L hR hS
  exact lv_ldcw C.1 C.2.1 C.2.2.2.2.1 (C.2.2.2.2.2.1 _ hw) hd (h p l e s m args below meth c H locs ls C L hR hS)
theorem V_ldc2 {g : Ev} {y : Yt} {pc : Nat} {lv : List (Nat × Value)} {st : List Value} {D : Dt} {k n : Nat} {Q : Option Value → Dt → Prop} {i : Nat} {v : Int64} (hd : decode (y_b y) pc = .ok (.ldc2_w i, 3)) (hw : Cond.constantLong (y_c y) i v ∈ WS) (h : V g y (pc + 3) lv (.long v :: st) D k n Q) : V g y (pc) lv (st) D k n Q := by
  intro p l e s m args below meth c H locs ls C L hR hS
  exact lv_ldc2 C.1 C.2.1 C.2.2.2.2.1 (C.2.2.2.2.2.1 _ hw) hd (h p l e s m args below meth c H locs ls C L hR hS)
