/-! arraycopy, String constants, statics, the script -/
def rowU {α : Type} (f : Nat → Nat → α) (a : Nat) (r : Nat → α) : Nat → Nat → α := fun b => if b = a then r else f b
theorem rowU_s {α : Type} {f : Nat → Nat → α} {a : Nat} {r : Nat → α} : rowU f a r a = r := if_pos rfl
theorem rowU_n {α : Type} {f : Nat → Nat → α} {a b : Nat} {r : Nat → α} (h : b ≠ a) : rowU f a r b = f b := if_neg h
theorem rowU_ne {α : Type} {f : Nat → Nat → α} {a b j : Nat} {r : Nat → α} (h : b ≠ a) : rowU f a r b j = f b j := congrFun (if_neg h) j
theorem nn_clamp {z : Int32} (hz : ¬ z < 0) : z.toInt = (z.toNatClampNeg : Int) := by
  have h0 : (0 : Int) ≤ z.toInt := by
    have := Int32.not_lt.mp hz
    simpa using Int32.le_iff_toInt_le.mp this
  show z.toInt = ((z.toInt.toNat : Nat) : Int)
  omega
section
variable {g : Ev} {y : Yt} {pc : Nat} {lv : List (Nat × Value)} {st : List Value} {S : St} {iv : IV} {lw : LW} {Q : Option Value → Dt → Prop}
theorem M_acopyI {idx a0 a n0 n1 : Nat} {sp dp m : Int32} (hd : decode (y_b y) pc = .ok (.invokestatic idx, 3)) (hw : Cond.methodLink (y_c y) idx arraycopyName ∈ WS) (hw2 : Cond.native arraycopyName ∈ WS) (hw3 : Cond.static arraycopyName ∈ WS) (hw4 : Cond.initialized "java/lang/System" ∈ WS)
    (hf : 1 ≤ y.2.2.2.2.1.1) (hlo : (st.map fun v => v.category).sum + (nativeFrameWords "java/lang/System" "arraycopy" 5 + 11) ≤ y.2.2.2.2.1.2) (ha0 : KD S a0 (1, n0)) (ha : KD S a (1, n1)) (h1 : ¬ sp < 0) (h2 : ¬ dp < 0) (h3 : ¬ m < 0) (h4 : sp.toNatClampNeg + m.toNatClampNeg ≤ n0) (h5 : dp.toNatClampNeg + m.toNatClampNeg ≤ n1)
    (h : VM g y (pc + 3) lv st S (rowU iv a (va_cpy (iv a0) (iv a) sp.toNatClampNeg dp.toNatClampNeg m.toNatClampNeg)) lw Q) : VM g y pc lv (.int m :: .int dp :: .ref a :: .int sp :: .ref a0 :: st) S iv lw Q := by
  intro p l e s mi args below meth c H locs ls C L hR hS
  have hts := C.2.2.2.2.2.1
  have hK := C.2.2.2.2.2.2.2.2.1.2.1
  have hP0 := hR.P (a := a0) ha0.1
  rw [cel_I ha0.2] at hP0
  have hP1 := hR.P (a := a) ha.1
  rw [cel_I ha.2] at hP1
  have hc0 : H[ph g a0]? = some (vp_cell (g.2.2.1 0) (n0, .inl (iv a0))) := hP0 0 _ rfl
  have hc1 : H[ph g a]? = some (vp_cell (g.2.2.1 0) (n1, .inl (iv a))) := hP1 0 _ rfl
  obtain ⟨-, k0, hk0, cm0, hkk0⟩ := (hK.2 0 _ rfl).1 n0 (fun j => .int (iv a0 j))
  intro T hT X
  obtain ⟨vm', X', step⟩ := X.arraycopy C.1 C.2.2.2.2.1 (hts _ hw) (hts _ hw2) (hts _ hw3) (hts _ hw4) (src := ph g a0) (dst := ph g a) (cs := vp_cell (g.2.2.1 0) (n0, .inl (iv a0))) (cd := vp_cell (g.2.2.1 0) (n1, .inl (iv a))) (srcPos := sp) (destPos := dp) (n := m) (by rw [hT]; exact hc0) (by rw [hT]; exact hc1)
    (fun _ h => by cases h) (fun _ h => by cases h) (fun h => by cases h) (fun h => by cases h) hk0 hk0 hkk0 hkk0 (by simp [refKind]) h1 h2 h3
    (by rw [nn_clamp h1, nn_clamp h3]; show ¬ _ > ((arrV (g.2.2.1 0) n0 (fun j => .int (iv a0 j))).slots.size : Int); rw [arrV_size]; omega)
    (by rw [nn_clamp h2, nn_clamp h3]; show ¬ _ > ((arrV (g.2.2.1 0) n1 (fun j => .int (iv a j))).slots.size : Int); rw [arrV_size]; omega)
    (fun vm₁ _ i hi => by
      have e : (vp_cell (g.2.2.1 0) (n0, .inl (iv a0))).slots.getD (sp.toNatClampNeg + i) .null = .int (iv a0 (sp.toNatClampNeg + i)) := by
        show (arrV (g.2.2.1 0) n0 (fun j => .int (iv a0 j))).slots.getD _ _ = _
        rw [Array.getD_eq_getD_getElem?, arrV_read _ _ (by omega)]
        rfl
      rw [e]
      exact ⟨rfl, trivial⟩)
    (g := F0 mi pc ls (List.map (sh g) (.int m :: .int dp :: .ref a :: .int sp :: .ref a0 :: st))) rfl (by rw [C.2.2.2.1]; exact L.1) (rest := st.map (sh g)) rfl (by rw [C.2.1]; exact hd) hf (by rw [map_cat]; show 2 * 0 + _ + _ ≤ y.2.2.2.2.1.2; omega)
  have e1 : copied (vp_cell (g.2.2.1 0) (n0, .inl (iv a0))) (vp_cell (g.2.2.1 0) (n1, .inl (iv a))) sp dp m = vp_cell (g.2.2.1 0) (n1, .inl (va_cpy (iv a0) (iv a) sp.toNatClampNeg dp.toNatClampNeg m.toNatClampNeg)) := va_copied (fun z => .int z) (g.2.2.1 0) (g.2.2.1 0) (iv a0) (iv a) h4
  rw [e1] at X' step
  have hl : ph g a < H.size := (Array.getElem?_eq_some_iff.mp hc1).1
  generalize hN : vp_cell (g.2.2.1 0) (n1, .inl (va_cpy (iv a0) (iv a) sp.toNatClampNeg dp.toNatClampNeg m.toNatClampNeg)) = N at X' step
  have hheap : ((T.setVm vm').setCell (ph g a) N).heap = H.setIfInBounds (ph g a) N := by rw [← hT]; rfl
  have oq : ∀ q : Nat, q ≠ ph g a → (H.setIfInBounds (ph g a) N)[q]? = H[q]? := fun q hq => by simp [Array.getElem?_setIfInBounds, Ne.symm hq]
  have pa : ph g a = g.1 + a := ph_lt (Nat.lt_of_lt_of_le ha.1 hR.2.1)
  have hR2 : HR g (S.1, S.2, rowU iv a (va_cpy (iv a0) (iv a) sp.toNatClampNeg dp.toNatClampNeg m.toNatClampNeg), lw) (H.setIfInBounds (ph g a) N) := by
    refine hR.upd (a := a) rfl (fun b hb => cel_congr rfl (fun _ => rfl) (fun j => congrFun (if_neg hb) j) (fun j => rfl)) ha.1 (by simp) oq ?_
    rw [cel_I (D := (S.1, S.2, rowU iv a (va_cpy (iv a0) (iv a) sp.toNatClampNeg dp.toNatClampNeg m.toNatClampNeg), lw)) ha.2]
    show (H.setIfInBounds (ph g a) N)[ph g a]? = some (vp_cell _ (n1, .inl (rowU iv a _ a)))
    rw [rowU_s, hN]
    simp [Array.getElem?_setIfInBounds, hl]
  obtain ⟨t, a1, b1⟩ := h p l e s mi args below meth c _ _ ls C L hR2 ⟨by simp; exact hS.1, fun q g1 g2 => by
      rw [oq q (fun e => g2 (by rw [e]; show g.1 ≤ ph g a; rw [pa]; omega))]
      exact hS.2.1 q g1 g2, fun q hq => by
      rcases List.mem_append.mp hq with h | h
      · exact hS.2.2 q h
      · obtain ⟨z, -, hz⟩ := List.mem_map.mp h
        rw [← hz]
        show g.1 ≤ ph g a
        rw [pa]; omega⟩ _ hheap X'
  exact ⟨t, step t a1, b1⟩
theorem M_acopyL {idx a0 a n0 n1 : Nat} {sp dp m : Int32} (hd : decode (y_b y) pc = .ok (.invokestatic idx, 3)) (hw : Cond.methodLink (y_c y) idx arraycopyName ∈ WS) (hw2 : Cond.native arraycopyName ∈ WS) (hw3 : Cond.static arraycopyName ∈ WS) (hw4 : Cond.initialized "java/lang/System" ∈ WS)
    (hf : 1 ≤ y.2.2.2.2.1.1) (hlo : (st.map fun v => v.category).sum + (nativeFrameWords "java/lang/System" "arraycopy" 5 + 11) ≤ y.2.2.2.2.1.2) (ha0 : KD S a0 (2, n0)) (ha : KD S a (2, n1)) (h1 : ¬ sp < 0) (h2 : ¬ dp < 0) (h3 : ¬ m < 0) (h4 : sp.toNatClampNeg + m.toNatClampNeg ≤ n0) (h5 : dp.toNatClampNeg + m.toNatClampNeg ≤ n1)
    (h : VM g y (pc + 3) lv st S iv (rowU lw a (va_cpy (lw a0) (lw a) sp.toNatClampNeg dp.toNatClampNeg m.toNatClampNeg)) Q) : VM g y pc lv (.int m :: .int dp :: .ref a :: .int sp :: .ref a0 :: st) S iv lw Q := by
  intro p l e s mi args below meth c H locs ls C L hR hS
  have hts := C.2.2.2.2.2.1
  have hK := C.2.2.2.2.2.2.2.2.1.2.1
  have hP0 := hR.P (a := a0) ha0.1
  rw [cel_L ha0.2] at hP0
  have hP1 := hR.P (a := a) ha.1
  rw [cel_L ha.2] at hP1
  have hc0 : H[ph g a0]? = some (vp_cell (g.2.2.1 1) (n0, .inr (.inl (lw a0)))) := hP0 0 _ rfl
  have hc1 : H[ph g a]? = some (vp_cell (g.2.2.1 1) (n1, .inr (.inl (lw a)))) := hP1 0 _ rfl
  obtain ⟨-, k0, hk0, cm0, hkk0⟩ := (hK.2 1 _ rfl).1 n0 (fun j => .long (lw a0 j))
  intro T hT X
  obtain ⟨vm', X', step⟩ := X.arraycopy C.1 C.2.2.2.2.1 (hts _ hw) (hts _ hw2) (hts _ hw3) (hts _ hw4) (src := ph g a0) (dst := ph g a) (cs := vp_cell (g.2.2.1 1) (n0, .inr (.inl (lw a0)))) (cd := vp_cell (g.2.2.1 1) (n1, .inr (.inl (lw a)))) (srcPos := sp) (destPos := dp) (n := m) (by rw [hT]; exact hc0) (by rw [hT]; exact hc1)
    (fun _ h => by cases h) (fun _ h => by cases h) (fun h => by cases h) (fun h => by cases h) hk0 hk0 hkk0 hkk0 (by simp [refKind]) h1 h2 h3
    (by rw [nn_clamp h1, nn_clamp h3]; show ¬ _ > ((arrV (g.2.2.1 1) n0 (fun j => .long (lw a0 j))).slots.size : Int); rw [arrV_size]; omega)
    (by rw [nn_clamp h2, nn_clamp h3]; show ¬ _ > ((arrV (g.2.2.1 1) n1 (fun j => .long (lw a j))).slots.size : Int); rw [arrV_size]; omega)
    (fun vm₁ _ i hi => by
      have e : (vp_cell (g.2.2.1 1) (n0, .inr (.inl (lw a0)))).slots.getD (sp.toNatClampNeg + i) .null = .long (lw a0 (sp.toNatClampNeg + i)) := by
        show (arrV (g.2.2.1 1) n0 (fun j => .long (lw a0 j))).slots.getD _ _ = _
        rw [Array.getD_eq_getD_getElem?, arrV_read _ _ (by omega)]
        rfl
      rw [e]
      exact ⟨rfl, trivial⟩)
    (g := F0 mi pc ls (List.map (sh g) (.int m :: .int dp :: .ref a :: .int sp :: .ref a0 :: st))) rfl (by rw [C.2.2.2.1]; exact L.1) (rest := st.map (sh g)) rfl (by rw [C.2.1]; exact hd) hf (by rw [map_cat]; show 2 * 0 + _ + _ ≤ y.2.2.2.2.1.2; omega)
  have e1 : copied (vp_cell (g.2.2.1 1) (n0, .inr (.inl (lw a0)))) (vp_cell (g.2.2.1 1) (n1, .inr (.inl (lw a)))) sp dp m = vp_cell (g.2.2.1 1) (n1, .inr (.inl (va_cpy (lw a0) (lw a) sp.toNatClampNeg dp.toNatClampNeg m.toNatClampNeg))) := va_copied (fun z => .long z) (g.2.2.1 1) (g.2.2.1 1) (lw a0) (lw a) h4
  rw [e1] at X' step
  have hl : ph g a < H.size := (Array.getElem?_eq_some_iff.mp hc1).1
  generalize hN : vp_cell (g.2.2.1 1) (n1, .inr (.inl (va_cpy (lw a0) (lw a) sp.toNatClampNeg dp.toNatClampNeg m.toNatClampNeg))) = N at X' step
  have hheap : ((T.setVm vm').setCell (ph g a) N).heap = H.setIfInBounds (ph g a) N := by rw [← hT]; rfl
  have oq : ∀ q : Nat, q ≠ ph g a → (H.setIfInBounds (ph g a) N)[q]? = H[q]? := fun q hq => by simp [Array.getElem?_setIfInBounds, Ne.symm hq]
  have pa : ph g a = g.1 + a := ph_lt (Nat.lt_of_lt_of_le ha.1 hR.2.1)
  have hR2 : HR g (S.1, S.2, iv, rowU lw a (va_cpy (lw a0) (lw a) sp.toNatClampNeg dp.toNatClampNeg m.toNatClampNeg)) (H.setIfInBounds (ph g a) N) := by
    refine hR.upd (a := a) rfl (fun b hb => cel_congr rfl (fun _ => rfl) (fun j => rfl) (fun j => congrFun (if_neg hb) j)) ha.1 (by simp) oq ?_
    rw [cel_L (D := (S.1, S.2, iv, rowU lw a (va_cpy (lw a0) (lw a) sp.toNatClampNeg dp.toNatClampNeg m.toNatClampNeg))) ha.2]
    show (H.setIfInBounds (ph g a) N)[ph g a]? = some (vp_cell _ (n1, .inr (.inl (rowU lw a _ a))))
    rw [rowU_s, hN]
    simp [Array.getElem?_setIfInBounds, hl]
  obtain ⟨t, a1, b1⟩ := h p l e s mi args below meth c _ _ ls C L hR2 ⟨by simp; exact hS.1, fun q g1 g2 => by
      rw [oq q (fun e => g2 (by rw [e]; show g.1 ≤ ph g a; rw [pa]; omega))]
      exact hS.2.1 q g1 g2, fun q hq => by
      rcases List.mem_append.mp hq with h | h
      · exact hS.2.2 q h
      · obtain ⟨z, -, hz⟩ := List.mem_map.mp h
        rw [← hz]
        show g.1 ≤ ph g a
        rw [pa]; omega⟩ _ hheap X'
  exact ⟨t, step t a1, b1⟩
theorem V_ldcS {D : Dt} {k n i idx : Nat} {tx : String} (hd : decode (y_b y) pc = .ok (.ldc idx, 2)) (hi : (y_c y, idx, tx, i) ∈ strT) (h : V g y (pc + 2) lv (.ref (100000 + (1 + i)) :: st) D k n Q) : V g y pc lv st D k n Q := by
  intro p l e s m args below meth c H locs ls C L hR hS
  have hh := h p l e s m args below meth c H locs ls C L hR hS
  rw [List.map_cons, show sh g (.ref (100000 + (1 + i))) = .ref (g.2.2.2.1 (1 + i)) from congrArg Value.ref (ph_ext g _)] at hh
  exact va_ldcS C.1 C.2.1 C.2.2.2.2.1 (C.2.2.2.2.2.2.2.2.1.2.2.2.2.2.1 _ hi) hd hh
theorem V_strval {D : Dt} {k n i idx : Nat} (hd : decode (y_b y) pc = .ok (.getfield idx, 3)) (hi : i < 6) (hw : Cond.fieldLink (y_c y) idx "java/lang/String" "value" "[B" ∈ WS) (h : V g y (pc + 3) lv (.ref (100000 + (51 + i)) :: st) D k n Q) : V g y pc lv (.ref (100000 + (1 + i)) :: st) D k n Q := by
  intro p l e s m args below meth c H locs ls C L hR hS
  have hh := h p l e s m args below meth c H locs ls C L hR hS
  rw [List.map_cons, show sh g (.ref (100000 + (51 + i))) = .ref (g.2.2.2.1 (51 + i)) from congrArg Value.ref (ph_ext g _)] at hh
  rw [List.map_cons, show sh g (.ref (100000 + (1 + i))) = .ref (g.2.2.2.1 (1 + i)) from congrArg Value.ref (ph_ext g _)]
  exact vk_getf C.1 C.2.1 (C.2.2.2.2.2.2.2.2.1.2.2.2.2.1.1 i hi).2.2.1 hS C.2.2.2.2.1 (C.2.2.2.2.2.1 _ hw) (fun _ h => h) hd hh
theorem V_strcod {D : Dt} {k n i idx : Nat} (hd : decode (y_b y) pc = .ok (.getfield idx, 3)) (hi : i < 6) (hw : Cond.fieldLink (y_c y) idx "java/lang/String" "coder" "B" ∈ WS) (h : V g y (pc + 3) lv (.int (nI 0) :: st) D k n Q) : V g y pc lv (.ref (100000 + (1 + i)) :: st) D k n Q := by
  intro p l e s m args below meth c H locs ls C L hR hS
  have hh := h p l e s m args below meth c H locs ls C L hR hS
  rw [List.map_cons, show sh g (.ref (100000 + (1 + i))) = .ref (g.2.2.2.1 (1 + i)) from congrArg Value.ref (ph_ext g _)]
  exact vk_getf C.1 C.2.1 (C.2.2.2.2.2.2.2.2.1.2.2.2.2.1.1 i hi).2.1 hS C.2.2.2.2.1 (C.2.2.2.2.2.1 _ hw) (fun _ h => h) hd hh
theorem V_strlen {D : Dt} {k n i : Nat} (hd : decode (y_b y) pc = .ok (.arraylength, 1)) (hi : i < 6) (h : V g y (pc + 1) lv (.int (nI (slen.getD i 0)) :: st) D k n Q) : V g y pc lv (.ref (100000 + (51 + i)) :: st) D k n Q := by
  intro p l e s m args below meth c H locs ls C L hR hS
  have hh := h p l e s m args below meth c H locs ls C L hR hS
  rw [List.map_cons, show sh g (.ref (100000 + (51 + i))) = .ref (g.2.2.2.1 (51 + i)) from congrArg Value.ref (ph_ext g _)]
  exact va_tlen C.1 C.2.1 (C.2.2.2.2.2.2.2.2.1.2.2.2.2.1.1 i hi).2.2.2 hS rfl hd hh
theorem V_strbld {D : Dt} {k n i : Nat} {j : Int32} (hd : decode (y_b y) pc = .ok (.baload, 1)) (hi : i < 6) (hj : vp_in j (slen.getD i 0)) (h : V g y (pc + 1) lv (.int ((sbyt.getD i []).getD j.toNatClampNeg 0) :: st) D k n Q) : V g y pc lv (.int j :: .ref (100000 + (51 + i)) :: st) D k n Q := by
  intro p l e s m args below meth c H locs ls C L hR hS
  have hh := h p l e s m args below meth c H locs ls C L hR hS
  rw [List.map_cons, List.map_cons, show sh g (.ref (100000 + (51 + i))) = .ref (g.2.2.2.1 (51 + i)) from congrArg Value.ref (ph_ext g _)]
  exact va_tb C.1 C.2.1 (C.2.2.2.2.2.2.2.2.1.2.2.2.2.1.1 i hi).2.2.2 hS hj rfl hd hh
theorem V_getsC {D : Dt} {k n idx : Nat} (hd : decode (y_b y) pc = .ok (.getstatic idx, 3)) (hw : Cond.fieldLink (y_c y) idx "java/lang/String" "COMPACT_STRINGS" "Z" ∈ WS) (h : V g y (pc + 3) lv (.int (nI 1) :: st) D k n Q) : V g y pc lv st D k n Q := by
  intro p l e s m args below meth c H locs ls C L hR hS
  exact va_gets C.1 C.2.1 C.2.2.2.2.2.2.2.2.1.2.2.2.2.2.2.1 hS C.2.2.2.2.1 (C.2.2.2.2.2.1 _ hw) (fun _ h => h) hd (h p l e s m args below meth c H locs ls C L hR hS)
theorem V_getsF {D : Dt} {k n idx : Nat} (hd : decode (y_b y) pc = .ok (.getstatic idx, 3)) (hw : Cond.fieldLink (y_c y) idx "jdk/internal/util/Preconditions" "SIOOBE_FORMATTER" "Ljava/util/function/BiFunction;" ∈ WS) (h : V g y (pc + 3) lv (.float 0 :: st) D k n Q) : V g y pc lv st D k n Q := by
  intro p l e s m args below meth c H locs ls C L hR hS
  exact va_gets C.1 C.2.1 C.2.2.2.2.2.2.2.2.1.2.2.2.2.2.2.2 hS C.2.2.2.2.1 (C.2.2.2.2.2.1 _ hw) (fun _ h => h) hd (h p l e s m args below meth c H locs ls C L hR hS)
theorem V_scr {D : Dt} {k n : Nat} {j : Int32} (hd : decode (y_b y) pc = .ok (.iaload, 1)) (hj : vp_in j g.2.2.2.2.2.1) (h : V g y (pc + 1) lv (.int (g.2.2.2.2.2.2 j.toNatClampNeg) :: st) D k n Q) : V g y pc lv (.int j :: .ref (100000 + 0) :: st) D k n Q := by
  intro p l e s m args below meth c H locs ls C L hR hS
  have hh := h p l e s m args below meth c H locs ls C L hR hS
  have hE := C.2.2.2.2.2.2.2.2.1
  rw [List.map_cons, List.map_cons, show sh g (.ref (100000 + 0)) = .ref (g.2.2.2.1 0) from congrArg Value.ref (ph_ext g _)]
  exact va_sld C.1 C.2.1 hE.2.2.2.1.1 (Nat.lt_of_lt_of_le hE.2.2.2.1.2 hE.1) (fun q => by have := hE.2.2.2.1.2; unfold Ag at q; omega) hS hj hd hh
theorem V_scrlen {D : Dt} {k n : Nat} (hd : decode (y_b y) pc = .ok (.arraylength, 1)) (h : V g y (pc + 1) lv (.int (nI g.2.2.2.2.2.1) :: st) D k n Q) : V g y pc lv (.ref (100000 + 0) :: st) D k n Q := by
  intro p l e s m args below meth c H locs ls C L hR hS
  have hh := h p l e s m args below meth c H locs ls C L hR hS
  have hE := C.2.2.2.2.2.2.2.2.1
  rw [List.map_cons, show sh g (.ref (100000 + 0)) = .ref (g.2.2.2.1 0) from congrArg Value.ref (ph_ext g _)]
  exact va_slen C.1 C.2.1 hE.2.2.2.1.1 (Nat.lt_of_lt_of_le hE.2.2.2.1.2 hE.1) (fun q => by have := hE.2.2.2.1.2; unfold Ag at q; omega) hS hd hh
theorem V_tabIn {D : Dt} {k n : Nat} {dflt lo hi v off : Int} {offs : Array Int} {len : Nat} {a : Int32} {tgt : Nat} (hd : decode (y_b y) pc = .ok (.tableswitch dflt lo hi offs, len)) (e : a.toInt = v) (h1 : lo ≤ v ∧ v ≤ hi) (ho : offs[(v - lo).toNat]? = some off) (ht : (pc : Int) + off = (tgt : Int)) (h : V g y tgt lv st D k n Q) : V g y pc lv (.int a :: st) D k n Q := V_tableIn hd (by omega) (by omega) (by rw [e]; exact ho) ht h
theorem CT_ofQF {lv : List (Nat × Value)} {D : Dt} {as : List Value} (hy : y.2.2.2.2.2.2 = false) (hpl : plainFor y.1 = true) (hsz : (lg_sl as).length ≤ y.2.2.1) (hlv : lv_args 0 as = lv) (h : ∀ Q2, Q2 = Q → V g y 0 lv [] D 0 0 Q2) : CT g y as D Q := by
  intro l
  refine va_MetF (cc := y_b y) (maxL := y.2.2.1) (ret := y_r y) hpl rfl ?_
  intro p e s m args below meth c s₁ B hml hv
  obtain ⟨rfl, hES, hHR⟩ := hv
  have hts : ∀ w ∈ WS, w.before (as.map (sh g)).toArray s = true := fun w hw => atoms_spec (ws := y_ws y) B.pre w (List.mem_cons_of_mem _ hw)
  rw [lg_entry_eq]
  have hl := lv_entry (as.map (sh g)) (n := y.2.2.1) (by rw [lg_sl_sh]; exact hsz)
  rw [lv_args_sh, hlv] at hl
  have k := (h Q rfl) p l e s m (as.map (sh g)).toArray below meth c s.heap [] _ ⟨B.exec, B.bytes, B.returns, hml, findClass_of_methodNamed B.named, hts, B.notSynchronized, fun e => (name_of_methodNamed B.named B.method).1.trans e, hES, fun q => by rw [hy] at q; cases q⟩ hl hHR va_S.rf
  unfold vfin at k
  rw [hy] at k
  exact k
end
