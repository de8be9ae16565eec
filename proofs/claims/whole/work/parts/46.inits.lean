/-! what is made: an object with its arrays behind it (L: newest first; field or 1000, kind) -/
def rfO (L : List (Nat × (Nat × Nat))) (k : Nat) : Option Nat := match L with
  | [] => none
  | q :: L => if k = q.1 ∧ ¬ q.1 = 1000 then some L.length else rfO L k
def kdO (L : List (Nat × (Nat × Nat))) (j : Nat) : Nat × Nat := match L with
  | [] => (0, 0)
  | q :: L => if j = L.length then q.2 else kdO L j
def innO (kd : Nat × Nat) (a k : Nat) : Option Nat := if (kd.1 = 4 ∨ kd.1 = 5) ∧ k < kd.2 then some (a + 1 + k) else none
def iD (D : Dt) (b n : Nat) (L : List (Nat × (Nat × Nat))) : Dt := ((n + L.length, fun a => if n ≤ a ∧ a < n + L.length then kdO L (a - n) else D.1.2 a),
  (fun a => if a = b then (fun k => match rfO L k with | some i => some (n + i) | none => D.2.1 b k) else if n ≤ a ∧ a < n + L.length then innO (kdO L (a - n)) a else D.2.1 a),
  (fun a => if n ≤ a ∧ a < n + L.length then fun _ => 0 else D.2.2.1 a), (fun a => if n ≤ a ∧ a < n + L.length then fun _ => 0 else D.2.2.2 a))
theorem dt_ext {D D2 : Dt} (h1 : D.1.1 = D2.1.1) (h2 : ∀ a, D.1.2 a = D2.1.2 a) (h3 : ∀ a k, D.2.1 a k = D2.2.1 a k) (h4 : ∀ a k, D.2.2.1 a k = D2.2.2.1 a k) (h5 : ∀ a k, D.2.2.2 a k = D2.2.2.2 a k) : D = D2 := by
  obtain ⟨⟨a1, a2⟩, a3, a4, a5⟩ := D
  obtain ⟨⟨b1, b2⟩, b3, b4, b5⟩ := D2
  have e1 : a1 = b1 := h1
  have e2 : a2 = b2 := funext h2
  have e3 : a3 = b3 := funext fun a => funext (h3 a)
  have e4 : a4 = b4 := funext fun a => funext (h4 a)
  have e5 : a5 = b5 := funext fun a => funext (h5 a)
  rw [e1, e2, e3, e4, e5]
theorem iD_0 {D : Dt} {b n : Nat} (hn : D.1.1 = n) : D = iD D b n [] := by
  refine dt_ext hn (fun a => ?_) (fun a k => ?_) (fun a k => ?_) (fun a k => ?_)
  · show _ = (if n ≤ a ∧ a < n + 0 then _ else _); rw [if_neg (by omega)]
  · show _ = (if a = b then (fun k => match rfO [] k with | some i => some (n + i) | none => D.2.1 b k) else if n ≤ a ∧ a < n + 0 then _ else D.2.1 a) k
    by_cases e : a = b
    · subst e; rw [if_pos rfl]; rfl
    · rw [if_neg e, if_neg (by omega)]
  · show _ = (if n ≤ a ∧ a < n + 0 then _ else _ : Nat → Int32) k; rw [if_neg (by omega)]
  · show _ = (if n ≤ a ∧ a < n + 0 then _ else _ : Nat → Int64) k; rw [if_neg (by omega)]
theorem iD_new {D : Dt} {b n f : Nat} {kd : Nat × Nat} {L : List (Nat × (Nat × Nat))} (hb : b < n) (hf : ¬ f = 1000) (hk : ¬ kd.1 = 4 ∧ ¬ kd.1 = 5) : d_setR (d_new (iD D b n L) kd) b f (some (iD D b n L).1.1) = iD D b n ((f, kd) :: L) := by
  have hin : ∀ a, innO kd a = fun _ => none := fun a => funext fun k => if_neg (fun z => z.1.elim hk.1 hk.2)
  refine dt_ext rfl (fun a => ?_) (fun a k => ?_) (fun a k => ?_) (fun a k => ?_)
  · show (if a = n + L.length then kd else if n ≤ a ∧ a < n + L.length then kdO L (a - n) else D.1.2 a) = (if n ≤ a ∧ a < n + (L.length + 1) then (if a - n = L.length then kd else kdO L (a - n)) else D.1.2 a)
    by_cases e : a = n + L.length
    · subst e; rw [if_pos rfl, if_pos (by omega), if_pos (by omega)]
    · rw [if_neg e]
      by_cases e2 : n ≤ a ∧ a < n + L.length
      · rw [if_pos e2, if_pos (by omega), if_neg (by omega)]
      · rw [if_neg e2, if_neg (by omega)]
  · show (if a = b ∧ k = f then some (n + L.length) else (if a = n + L.length then (fun _ => none) else (if a = b then (fun k => match rfO L k with | some i => some (n + i) | none => D.2.1 b k) else if n ≤ a ∧ a < n + L.length then innO (kdO L (a - n)) a else D.2.1 a) : Nat → Option Nat) k) = (if a = b then (fun k => match (if k = f ∧ ¬ f = 1000 then some L.length else rfO L k) with | some i => some (n + i) | none => D.2.1 b k) else if n ≤ a ∧ a < n + (L.length + 1) then innO (if a - n = L.length then kd else kdO L (a - n)) a else D.2.1 a : Nat → Option Nat) k
    by_cases e : a = b
    · subst e
      rw [if_neg (show ¬ a = n + L.length by omega), if_pos rfl, if_pos rfl]
      by_cases e3 : k = f
      · rw [if_pos ⟨rfl, e3⟩]; show _ = (match (if k = f ∧ ¬ f = 1000 then some L.length else rfO L k) with | some i => some (n + i) | none => D.2.1 a k); rw [if_pos ⟨e3, hf⟩]
      · rw [if_neg (fun z => e3 z.2)]; show _ = (match (if k = f ∧ ¬ f = 1000 then some L.length else rfO L k) with | some i => some (n + i) | none => D.2.1 a k); rw [if_neg (fun z => e3 z.1)]
    · rw [if_neg (fun z => e z.1), if_neg e, if_neg e]
      by_cases e4 : a = n + L.length
      · subst e4; rw [if_pos rfl, if_pos (by omega), if_pos (by omega), hin]
      · rw [if_neg e4]
        by_cases e2 : n ≤ a ∧ a < n + L.length
        · rw [if_pos e2, if_pos (by omega), if_neg (by omega)]
        · rw [if_neg e2, if_neg (by omega)]
  · show (if a = n + L.length then (fun _ => 0) else (if n ≤ a ∧ a < n + L.length then fun _ => 0 else D.2.2.1 a) : Nat → Int32) k = (if n ≤ a ∧ a < n + (L.length + 1) then fun _ => 0 else D.2.2.1 a : Nat → Int32) k
    by_cases e : a = n + L.length
    · subst e; rw [if_pos rfl, if_pos (by omega)]
    · rw [if_neg e]
      by_cases e2 : n ≤ a ∧ a < n + L.length
      · rw [if_pos e2, if_pos (by omega)]
      · rw [if_neg e2, if_neg (by omega)]
  · show (if a = n + L.length then (fun _ => 0) else (if n ≤ a ∧ a < n + L.length then fun _ => 0 else D.2.2.2 a) : Nat → Int64) k = (if n ≤ a ∧ a < n + (L.length + 1) then fun _ => 0 else D.2.2.2 a : Nat → Int64) k
    by_cases e : a = n + L.length
    · subst e; rw [if_pos rfl, if_pos (by omega)]
    · rw [if_neg e]
      by_cases e2 : n ≤ a ∧ a < n + L.length
      · rw [if_pos e2, if_pos (by omega)]
      · rw [if_neg e2, if_neg (by omega)]
theorem kdO_rep {N : Nat} {q : Nat × (Nat × Nat)} {L : List (Nat × (Nat × Nat))} {j : Nat} : kdO (List.replicate N q ++ L) j = if L.length ≤ j ∧ j < L.length + N then q.2 else kdO L j := by
  induction N with
  | zero => rw [if_neg (by omega)]; rfl
  | succ N ih =>
    show (if j = (List.replicate N q ++ L).length then q.2 else kdO (List.replicate N q ++ L) j) = _
    rw [ih, List.length_append, List.length_replicate]
    by_cases e : j = N + L.length
    · rw [if_pos e, if_pos (by omega)]
    · rw [if_neg e]
      by_cases e2 : L.length ≤ j ∧ j < L.length + N
      · rw [if_pos e2, if_pos (by omega)]
      · rw [if_neg e2, if_neg (by omega)]
theorem rfO_rep {N : Nat} {kd : Nat × Nat} {L : List (Nat × (Nat × Nat))} {k : Nat} : rfO (List.replicate N (1000, kd) ++ L) k = rfO L k := by
  induction N with
  | zero => rfl
  | succ N ih =>
    show (if k = 1000 ∧ ¬ (1000 : Nat) = 1000 then _ else rfO (List.replicate N (1000, kd) ++ L) k) = _
    rw [if_neg (fun z => z.2 rfl), ih]
/-- the same as far as it is made -/
def Ag2 (D D2 : Dt) : Prop := D2.1.1 = D.1.1 ∧ ∀ a, a < D.1.1 → D2.1.2 a = D.1.2 a ∧ (∀ k, D2.2.1 a k = D.2.1 a k) ∧ (∀ k, D2.2.2.1 a k = D.2.2.1 a k) ∧ ∀ k, D2.2.2.2 a k = D.2.2.2 a k
theorem V_ag {g : Ev} {y : Yt} {pc : Nat} {lv : List (Nat × Value)} {st : List Value} {D D2 : Dt} {k n : Nat} {Q : Option Value → Dt → Prop} (hD : Ag2 D D2) (h : V g y pc lv st D2 k n Q) : V g y pc lv st D k n Q := by
  intro p l e s m args below meth c H locs ls C L hR hS
  refine h p l e s m args below meth c H locs ls C L ⟨by rw [hD.1]; exact hR.1, by rw [hD.1]; exact hR.2.1, fun a ha => ?_⟩ hS
  rw [hD.1] at ha
  obtain ⟨h1, h2, h3, h4⟩ := hD.2 a ha
  rw [cel_congr h1 h2 h3 h4]
  exact hR.2.2 a ha
theorem iD_mna {D : Dt} {b n f t N it K : Nat} {L : List (Nat × (Nat × Nat))} (hb : b < n) (hf : ¬ f = 1000) (ht : t = 4 ∨ t = 5) (hit : ¬ it = 4 ∧ ¬ it = 5) : Ag2 (d_setR (d_mna (iD D b n L) t N it K) b f (some (iD D b n L).1.1)) (iD D b n (List.replicate N (1000, (it, K)) ++ (f, (t, N)) :: L)) := by
  have hlen : (List.replicate N ((1000, (it, K)) : Nat × (Nat × Nat)) ++ (f, (t, N)) :: L).length = N + (L.length + 1) := by rw [List.length_append, List.length_replicate]; rfl
  have hkd : ∀ j, kdO (List.replicate N ((1000, (it, K)) : Nat × (Nat × Nat)) ++ (f, (t, N)) :: L) j = if L.length + 1 ≤ j ∧ j < L.length + 1 + N then (it, K) else if j = L.length then (t, N) else kdO L j := fun j => kdO_rep
  have hrf : ∀ k, rfO (List.replicate N ((1000, (it, K)) : Nat × (Nat × Nat)) ++ (f, (t, N)) :: L) k = if k = f ∧ ¬ f = 1000 then some L.length else rfO L k := fun k => rfO_rep
  have hin : ∀ a k, innO (it, K) a k = none := fun a k => if_neg (fun z => z.1.elim hit.1 hit.2)
  have hou : ∀ a k, innO (t, N) a k = if k < N then some (a + 1 + k) else none := fun a k => by
    unfold innO
    by_cases e : k < N
    · rw [if_pos ⟨ht, e⟩, if_pos e]
    · rw [if_neg (fun z => e z.2), if_neg e]
  refine ⟨?_, fun a ha => ⟨?_, fun k => ?_, fun k => ?_, fun k => ?_⟩⟩
  · show n + _ = n + L.length + (1 + N); rw [hlen]; omega
  · have ha : a < n + L.length + (1 + N) := ha
    show (if n ≤ a ∧ a < n + _ then kdO _ (a - n) else D.1.2 a) = (if a < n + L.length then (if n ≤ a ∧ a < n + L.length then kdO L (a - n) else D.1.2 a) else if a = n + L.length then (t, N) else (it, K))
    rw [hlen, hkd]
    by_cases e : a < n + L.length
    · rw [if_pos e]
      by_cases e2 : n ≤ a ∧ a < n + L.length
      · rw [if_pos e2, if_pos (by omega), if_neg (by omega), if_neg (by omega)]
      · rw [if_neg e2, if_neg (by omega)]
    · rw [if_neg e]
      by_cases e2 : a = n + L.length
      · rw [if_pos e2, if_pos (by omega), if_neg (by omega), if_pos (by omega)]
      · rw [if_neg e2, if_pos (by omega), if_pos (by omega)]
  · have ha : a < n + L.length + (1 + N) := ha
    show (if a = b then (fun k => match rfO (List.replicate N (1000, (it, K)) ++ (f, (t, N)) :: L) k with | some i => some (n + i) | none => D.2.1 b k) else if n ≤ a ∧ a < n + _ then innO (kdO _ (a - n)) a else D.2.1 a : Nat → Option Nat) k = (if a = b ∧ k = f then some (n + L.length) else (if a < n + L.length then (if a = b then (fun k => match rfO L k with | some i => some (n + i) | none => D.2.1 b k) else if n ≤ a ∧ a < n + L.length then innO (kdO L (a - n)) a else D.2.1 a) else if a = n + L.length then (fun j => if j < N then some (n + L.length + 1 + j) else none) else fun _ => none : Nat → Option Nat) k)
    by_cases e : a = b
    · subst e
      rw [if_pos rfl, if_pos (show a < n + L.length by omega), if_pos rfl]
      show (match rfO (List.replicate N (1000, (it, K)) ++ (f, (t, N)) :: L) k with | some i => some (n + i) | none => D.2.1 a k) = _
      rw [hrf]
      by_cases e3 : k = f
      · rw [if_pos ⟨e3, hf⟩, if_pos ⟨rfl, e3⟩]
      · rw [if_neg (fun z => e3 z.1), if_neg (fun z => e3 z.2)]
    · have e' : ¬ (a = b ∧ k = f) := fun z => e z.1
      simp only [if_neg e, if_neg e']
      rw [hlen, hkd]
      by_cases e4 : a < n + L.length
      · rw [if_pos e4]
        by_cases e2 : n ≤ a ∧ a < n + L.length
        · rw [if_pos e2, if_pos (by omega), if_neg (by omega), if_neg (by omega)]
        · rw [if_neg e2, if_neg (by omega)]
      · rw [if_neg e4, if_pos (by omega)]
        by_cases e5 : a = n + L.length
        · subst e5; rw [if_pos rfl, if_neg (by omega), if_pos (by omega), hou]
        · rw [if_neg e5, if_pos (by omega), hin]
  · have ha : a < n + L.length + (1 + N) := ha
    show (if n ≤ a ∧ a < n + _ then fun _ => 0 else D.2.2.1 a : Nat → Int32) k = (if a < n + L.length then (if n ≤ a ∧ a < n + L.length then fun _ => 0 else D.2.2.1 a) else fun _ => 0 : Nat → Int32) k
    rw [hlen]
    by_cases e : a < n + L.length
    · rw [if_pos e]
      by_cases e2 : n ≤ a ∧ a < n + L.length
      · rw [if_pos e2, if_pos (by omega)]
      · rw [if_neg e2, if_neg (by omega)]
    · rw [if_neg e, if_pos (by omega)]
  · have ha : a < n + L.length + (1 + N) := ha
    show (if n ≤ a ∧ a < n + _ then fun _ => 0 else D.2.2.2 a : Nat → Int64) k = (if a < n + L.length then (if n ≤ a ∧ a < n + L.length then fun _ => 0 else D.2.2.2 a) else fun _ => 0 : Nat → Int64) k
    rw [hlen]
    by_cases e : a < n + L.length
    · rw [if_pos e]
      by_cases e2 : n ≤ a ∧ a < n + L.length
      · rw [if_pos e2, if_pos (by omega)]
      · rw [if_neg e2, if_neg (by omega)]
    · rw [if_neg e, if_pos (by omega)]
theorem iD_setI {D : Dt} {b n k : Nat} {v : Int32} {L : List (Nat × (Nat × Nat))} (hb : b < n) : d_setI (iD D b n L) b k v = iD (d_setI D b k v) b n L := by
  refine dt_ext rfl (fun a => rfl) (fun a k => rfl) (fun a j => ?_) (fun a k => rfl)
  show (if a = b ∧ j = k then v else (if n ≤ a ∧ a < n + L.length then fun _ => 0 else D.2.2.1 a : Nat → Int32) j) = (if n ≤ a ∧ a < n + L.length then fun _ => 0 else up2 D.2.2.1 b k v a : Nat → Int32) j
  by_cases e2 : n ≤ a ∧ a < n + L.length
  · rw [if_pos e2, if_pos e2, if_neg (by omega)]
  · rw [if_neg e2, if_neg e2]; rfl
theorem iD_lt {D : Dt} {b n : Nat} {L : List (Nat × (Nat × Nat))} {kd : Nat × Nat} (hb : b < n) : b < (d_new (iD D b n L) kd).1.1 := by show b < n + L.length + 1; omega
theorem iD_lt2 {D : Dt} {b n t N it K : Nat} {L : List (Nat × (Nat × Nat))} (hb : b < n) : b < (d_mna (iD D b n L) t N it K).1.1 := by show b < n + L.length + (1 + N); omega
theorem iD_lt0 {D : Dt} {b n : Nat} {L : List (Nat × (Nat × Nat))} (hb : b < n) : b < (iD D b n L).1.1 := by show b < n + L.length; omega
theorem iD_kb0 {D : Dt} {b n : Nat} {kd : Nat × Nat} {L : List (Nat × (Nat × Nat))} (hb : b < n) (hk : D.1.2 b = kd) : (iD D b n L).1.2 b = kd := by show (if n ≤ b ∧ b < n + L.length then _ else D.1.2 b) = kd; rw [if_neg (by omega)]; exact hk
theorem iD_kb {D : Dt} {b n : Nat} {kd kd2 : Nat × Nat} {L : List (Nat × (Nat × Nat))} (hb : b < n) (hk : D.1.2 b = kd) : (d_new (iD D b n L) kd2).1.2 b = kd := by show (if b = n + L.length then _ else (iD D b n L).1.2 b) = kd; rw [if_neg (by omega)]; exact iD_kb0 hb hk
theorem iD_kb2 {D : Dt} {b n t N it K : Nat} {kd : Nat × Nat} {L : List (Nat × (Nat × Nat))} (hb : b < n) (hk : D.1.2 b = kd) : (d_mna (iD D b n L) t N it K).1.2 b = kd := by show (if b < n + L.length then (iD D b n L).1.2 b else _) = kd; rw [if_pos (by omega)]; exact iD_kb0 hb hk
theorem iD_room {D : Dt} {b n : Nat} {L : List (Nat × (Nat × Nat))} (hN : n ≤ 90000) (hl : L.length ≤ 1000) : (iD D b n L).1.1 < 100000 := by show n + L.length < 100000; omega
theorem iD_rf {D : Dt} {b n k i : Nat} {L : List (Nat × (Nat × Nat))} (h : rfO L k = some i) : (iD D b n L).2.1 b k = some (n + i) := by
  show (if b = b then (fun k => match rfO L k with | some i => some (n + i) | none => D.2.1 b k) else _ : Nat → Option Nat) k = _
  rw [if_pos rfl]
  show (match rfO L k with | some i => some (n + i) | none => D.2.1 b k) = _
  rw [h]
theorem iD_rn {D : Dt} {b n k : Nat} {L : List (Nat × (Nat × Nat))} (h : rfO L k = none) : (iD D b n L).2.1 b k = D.2.1 b k := by
  show (if b = b then (fun k => match rfO L k with | some i => some (n + i) | none => D.2.1 b k) else _ : Nat → Option Nat) k = _
  rw [if_pos rfl]
  show (match rfO L k with | some i => some (n + i) | none => D.2.1 b k) = _
  rw [h]
theorem iD_ro {D : Dt} {a b n : Nat} {L : List (Nat × (Nat × Nat))} (h : a < n) (h2 : ¬ a = b) : (iD D b n L).2.1 a = D.2.1 a := by
  show (if a = b then _ else if n ≤ a ∧ a < n + L.length then _ else D.2.1 a) = _
  rw [if_neg h2, if_neg (by omega)]
theorem iD_ri {D : Dt} {b n i k : Nat} {L : List (Nat × (Nat × Nat))} (hb : b < n) (h : i < L.length) : (iD D b n L).2.1 (n + i) k = innO (kdO L i) (n + i) k := by
  show (if n + i = b then _ else if n ≤ n + i ∧ n + i < n + L.length then innO (kdO L (n + i - n)) (n + i) else D.2.1 (n + i) : Nat → Option Nat) k = _
  rw [if_neg (by omega), if_pos (by omega), Nat.add_sub_cancel_left]
theorem iD_ki {D : Dt} {b n i : Nat} {L : List (Nat × (Nat × Nat))} (h : i < L.length) : (iD D b n L).1.2 (n + i) = kdO L i := by
  show (if n ≤ n + i ∧ n + i < n + L.length then kdO L (n + i - n) else _) = _
  rw [if_pos (by omega), Nat.add_sub_cancel_left]
theorem iD_ko {D : Dt} {a b n : Nat} {L : List (Nat × (Nat × Nat))} (h : a < n) : (iD D b n L).1.2 a = D.1.2 a := by
  show (if n ≤ a ∧ a < n + L.length then _ else D.1.2 a) = _
  rw [if_neg (by omega)]
theorem iD_io {D : Dt} {a b n : Nat} {L : List (Nat × (Nat × Nat))} (h : a < n) : (iD D b n L).2.2.1 a = D.2.2.1 a := by
  show (if n ≤ a ∧ a < n + L.length then _ else D.2.2.1 a) = _
  rw [if_neg (by omega)]
theorem iD_lo {D : Dt} {a b n : Nat} {L : List (Nat × (Nat × Nat))} (h : a < n) : (iD D b n L).2.2.2 a = D.2.2.2 a := by
  show (if n ≤ a ∧ a < n + L.length then _ else D.2.2.2 a) = _
  rw [if_neg (by omega)]
theorem iD_iz {D : Dt} {a b n k : Nat} {L : List (Nat × (Nat × Nat))} (h : n ≤ a ∧ a < n + L.length) : (iD D b n L).2.2.1 a k = 0 := by
  show (if n ≤ a ∧ a < n + L.length then fun _ => 0 else _ : Nat → Int32) k = _
  rw [if_pos h]
theorem iD_lz {D : Dt} {a b n k : Nat} {L : List (Nat × (Nat × Nat))} (h : n ≤ a ∧ a < n + L.length) : (iD D b n L).2.2.2 a k = 0 := by
  show (if n ≤ a ∧ a < n + L.length then fun _ => 0 else _ : Nat → Int64) k = _
  rw [if_pos h]
def lsX0 : List (Nat × (Nat × Nat)) := [(7, (1, 8)), (6, (1, 8)), (5, (1, 6)), (4, (1, 6)), (3, (1, 12)), (2, (1, 12)), (1, (1, 12)), (0, (1, 12))]
def inX0 (D : Dt) (b : Nat) : Dt := (d_setI (d_setI (d_setI (d_setI (d_setI (d_setI D b 8 (nI 0)) b 9 (nI 0)) b 10 (nI 0)) b 11 (nI 600)) b 12 (nI 20)) b 13 (nI 1))
set_option maxRecDepth 20000 in
theorem c_X0 {g : Ev} {D : Dt} {b n : Nat} (hn : D.1.1 = n) (hb : b < n) (hk : D.1.2 b = (0, 0)) (hN : n ≤ 90000) : CT g mX0_init [.ref b] D (fun v D2 => v = none ∧ D2 = iD (inX0 D b) b n lsX0) := by
  refine CT_ofQ rfl (by decide) (Nat.le_of_ble_eq_true rfl) (lv := [(0, .ref b)]) rfl (fun Q hQ => ?_)
  refine V_aload_n (i := 0) dX0_init_0 rfl 0 rfl ?_
  refine V_objInit dX0_init_1 mw_33 mw_26 mw_27 (by decide) (by decide) ?_
  refine V_eq rfl rfl (iD_0 (b := b) hn) ?_
  refine V_aload_n (i := 0) dX0_init_4 rfl 0 rfl ?_
  refine V_bipush (v := nI 12) dX0_init_5 rfl ?_
  refine V_newI (N := 12) dX0_init_7 mw_92 (by decide) rfl (by decide) (iD_room hN (by decide)) (Nat.le_of_ble_eq_true rfl) (Nat.le_of_ble_eq_true rfl) ?_
  refine V_putR dX0_init_9 lf_X0_11 (fun _ => rfl) rfl (iD_lt hb) (iD_kb hb hk) (fun _ => ⟨rfl, rfl⟩) ?_
  refine V_eq rfl rfl (iD_new hb (by decide) (by decide)) ?_
  refine V_aload_n (i := 0) dX0_init_12 rfl 0 rfl ?_
  refine V_bipush (v := nI 12) dX0_init_13 rfl ?_
  refine V_newI (N := 12) dX0_init_15 mw_92 (by decide) rfl (by decide) (iD_room hN (by decide)) (Nat.le_of_ble_eq_true rfl) (Nat.le_of_ble_eq_true rfl) ?_
  refine V_putR dX0_init_17 lf_X0_15 (fun _ => rfl) rfl (iD_lt hb) (iD_kb hb hk) (fun _ => ⟨rfl, rfl⟩) ?_
  refine V_eq rfl rfl (iD_new hb (by decide) (by decide)) ?_
  refine V_aload_n (i := 0) dX0_init_20 rfl 0 rfl ?_
  refine V_bipush (v := nI 12) dX0_init_21 rfl ?_
  refine V_newI (N := 12) dX0_init_23 mw_92 (by decide) rfl (by decide) (iD_room hN (by decide)) (Nat.le_of_ble_eq_true rfl) (Nat.le_of_ble_eq_true rfl) ?_
  refine V_putR dX0_init_25 lf_X0_18 (fun _ => rfl) rfl (iD_lt hb) (iD_kb hb hk) (fun _ => ⟨rfl, rfl⟩) ?_
  refine V_eq rfl rfl (iD_new hb (by decide) (by decide)) ?_
  refine V_aload_n (i := 0) dX0_init_28 rfl 0 rfl ?_
  refine V_bipush (v := nI 12) dX0_init_29 rfl ?_
  refine V_newI (N := 12) dX0_init_31 mw_92 (by decide) rfl (by decide) (iD_room hN (by decide)) (Nat.le_of_ble_eq_true rfl) (Nat.le_of_ble_eq_true rfl) ?_
  refine V_putR dX0_init_33 lf_X0_21 (fun _ => rfl) rfl (iD_lt hb) (iD_kb hb hk) (fun _ => ⟨rfl, rfl⟩) ?_
  refine V_eq rfl rfl (iD_new hb (by decide) (by decide)) ?_
  refine V_aload_n (i := 0) dX0_init_36 rfl 0 rfl ?_
  refine V_bipush (v := nI 6) dX0_init_37 rfl ?_
  refine V_newI (N := 6) dX0_init_39 mw_92 (by decide) rfl (by decide) (iD_room hN (by decide)) (Nat.le_of_ble_eq_true rfl) (Nat.le_of_ble_eq_true rfl) ?_
  refine V_putR dX0_init_41 lf_X0_24 (fun _ => rfl) rfl (iD_lt hb) (iD_kb hb hk) (fun _ => ⟨rfl, rfl⟩) ?_
  refine V_eq rfl rfl (iD_new hb (by decide) (by decide)) ?_
  refine V_aload_n (i := 0) dX0_init_44 rfl 0 rfl ?_
  refine V_bipush (v := nI 6) dX0_init_45 rfl ?_
  refine V_newI (N := 6) dX0_init_47 mw_92 (by decide) rfl (by decide) (iD_room hN (by decide)) (Nat.le_of_ble_eq_true rfl) (Nat.le_of_ble_eq_true rfl) ?_
  refine V_putR dX0_init_49 lf_X0_27 (fun _ => rfl) rfl (iD_lt hb) (iD_kb hb hk) (fun _ => ⟨rfl, rfl⟩) ?_
  refine V_eq rfl rfl (iD_new hb (by decide) (by decide)) ?_
  refine V_aload_n (i := 0) dX0_init_52 rfl 0 rfl ?_
  refine V_bipush (v := nI 8) dX0_init_53 rfl ?_
  refine V_newI (N := 8) dX0_init_55 mw_92 (by decide) rfl (by decide) (iD_room hN (by decide)) (Nat.le_of_ble_eq_true rfl) (Nat.le_of_ble_eq_true rfl) ?_
  refine V_putR dX0_init_57 lf_X0_30 (fun _ => rfl) rfl (iD_lt hb) (iD_kb hb hk) (fun _ => ⟨rfl, rfl⟩) ?_
  refine V_eq rfl rfl (iD_new hb (by decide) (by decide)) ?_
  refine V_aload_n (i := 0) dX0_init_60 rfl 0 rfl ?_
  refine V_bipush (v := nI 8) dX0_init_61 rfl ?_
  refine V_newI (N := 8) dX0_init_63 mw_92 (by decide) rfl (by decide) (iD_room hN (by decide)) (Nat.le_of_ble_eq_true rfl) (Nat.le_of_ble_eq_true rfl) ?_
  refine V_putR dX0_init_65 lf_X0_33 (fun _ => rfl) rfl (iD_lt hb) (iD_kb hb hk) (fun _ => ⟨rfl, rfl⟩) ?_
  refine V_eq rfl rfl (iD_new hb (by decide) (by decide)) ?_
  refine V_aload_n (i := 0) dX0_init_68 rfl 0 rfl ?_
  refine V_iconst (v := nI 0) dX0_init_69 rfl ?_
  refine V_putI dX0_init_70 lf_X0_36 (fun _ => rfl) rfl (iD_lt0 hb) (iD_kb0 hb hk) ⟨rfl, rfl⟩ ?_
  refine V_eq rfl rfl (iD_setI hb) ?_
  refine V_aload_n (i := 0) dX0_init_73 rfl 0 rfl ?_
  refine V_iconst (v := nI 0) dX0_init_74 rfl ?_
  refine V_putI dX0_init_75 lf_X0_40 (fun _ => rfl) rfl (iD_lt0 hb) (iD_kb0 hb hk) ⟨rfl, rfl⟩ ?_
  refine V_eq rfl rfl (iD_setI hb) ?_
  refine V_aload_n (i := 0) dX0_init_78 rfl 0 rfl ?_
  refine V_iconst (v := nI 0) dX0_init_79 rfl ?_
  refine V_putI dX0_init_80 lf_X0_43 (fun _ => rfl) rfl (iD_lt0 hb) (iD_kb0 hb hk) ⟨rfl, rfl⟩ ?_
  refine V_eq rfl rfl (iD_setI hb) ?_
  refine V_aload_n (i := 0) dX0_init_83 rfl 0 rfl ?_
  refine V_sipush (v := nI 600) dX0_init_84 rfl ?_
  refine V_putI dX0_init_87 lf_X0_46 (fun _ => rfl) rfl (iD_lt0 hb) (iD_kb0 hb hk) ⟨rfl, rfl⟩ ?_
  refine V_eq rfl rfl (iD_setI hb) ?_
  refine V_aload_n (i := 0) dX0_init_90 rfl 0 rfl ?_
  refine V_bipush (v := nI 20) dX0_init_91 rfl ?_
  refine V_putI dX0_init_93 lf_X0_49 (fun _ => rfl) rfl (iD_lt0 hb) (iD_kb0 hb hk) ⟨rfl, rfl⟩ ?_
  refine V_eq rfl rfl (iD_setI hb) ?_
  refine V_aload_n (i := 0) dX0_init_96 rfl 0 rfl ?_
  refine V_iconst (v := nI 1) dX0_init_97 rfl ?_
  refine V_putI dX0_init_98 lf_X0_52 (fun _ => rfl) rfl (iD_lt0 hb) (iD_kb0 hb hk) ⟨rfl, rfl⟩ ?_
  refine V_eq rfl rfl (iD_setI hb) ?_
  refine V_vret dX0_init_101 ⟨rfl, rfl⟩ (Nat.le_of_ble_eq_true rfl) (Nat.le_of_ble_eq_true rfl) ?_
  subst hQ
  exact ⟨rfl, rfl⟩
def lsX7 : List (Nat × (Nat × Nat)) := [(0, (2, 40))]
def inX7 (D : Dt) (b : Nat) : Dt := (d_setI (d_setI D b 1 (-1)) b 2 (nI 0))
set_option maxRecDepth 20000 in
theorem c_X7 {g : Ev} {D : Dt} {b n : Nat} (hn : D.1.1 = n) (hb : b < n) (hk : D.1.2 b = (0, 4)) (hN : n ≤ 90000) : CT g mX7_init [.ref b] D (fun v D2 => v = none ∧ D2 = iD (inX7 D b) b n lsX7) := by
  refine CT_ofQ rfl (by decide) (Nat.le_of_ble_eq_true rfl) (lv := [(0, .ref b)]) rfl (fun Q hQ => ?_)
  refine V_aload_n (i := 0) dX7_init_0 rfl 0 rfl ?_
  refine V_objInit dX7_init_1 mw_99 mw_26 mw_27 (by decide) (by decide) ?_
  refine V_eq rfl rfl (iD_0 (b := b) hn) ?_
  refine V_aload_n (i := 0) dX7_init_4 rfl 0 rfl ?_
  refine V_bipush (v := nI 40) dX7_init_5 rfl ?_
  refine V_newL (N := 40) dX7_init_7 mw_112 (by decide) rfl (by decide) (iD_room hN (by decide)) (Nat.le_of_ble_eq_true rfl) (Nat.le_of_ble_eq_true rfl) ?_
  refine V_putR dX7_init_9 lf_X7_11 (fun _ => rfl) rfl (iD_lt hb) (iD_kb hb hk) (fun _ => ⟨rfl, rfl⟩) ?_
  refine V_eq rfl rfl (iD_new hb (by decide) (by decide)) ?_
  refine V_aload_n (i := 0) dX7_init_12 rfl 0 rfl ?_
  refine V_iconst (v := (-1)) dX7_init_13 rfl ?_
  refine V_putI dX7_init_14 lf_X7_15 (fun _ => rfl) rfl (iD_lt0 hb) (iD_kb0 hb hk) ⟨rfl, rfl⟩ ?_
  refine V_eq rfl rfl (iD_setI hb) ?_
  refine V_aload_n (i := 0) dX7_init_17 rfl 0 rfl ?_
  refine V_iconst (v := nI 0) dX7_init_18 rfl ?_
  refine V_putI dX7_init_19 lf_X7_19 (fun _ => rfl) rfl (iD_lt0 hb) (iD_kb0 hb hk) ⟨rfl, rfl⟩ ?_
  refine V_eq rfl rfl (iD_setI hb) ?_
  refine V_vret dX7_init_22 ⟨rfl, rfl⟩ (Nat.le_of_ble_eq_true rfl) (Nat.le_of_ble_eq_true rfl) ?_
  subst hQ
  exact ⟨rfl, rfl⟩
def lsX8 : List (Nat × (Nat × Nat)) := [(0, (1, 250))]
def inX8 (D : Dt) (b : Nat) : Dt := (d_setI (d_setI (d_setI D b 1 (nI 0)) b 2 (nI 0)) b 3 (nI 0))
set_option maxRecDepth 20000 in
theorem c_X8 {g : Ev} {D : Dt} {b n : Nat} (hn : D.1.1 = n) (hb : b < n) (hk : D.1.2 b = (0, 5)) (hN : n ≤ 90000) : CT g mX8_init [.ref b] D (fun v D2 => v = none ∧ D2 = iD (inX8 D b) b n lsX8) := by
  refine CT_ofQ rfl (by decide) (Nat.le_of_ble_eq_true rfl) (lv := [(0, .ref b)]) rfl (fun Q hQ => ?_)
  refine V_aload_n (i := 0) dX8_init_0 rfl 0 rfl ?_
  refine V_objInit dX8_init_1 mw_118 mw_26 mw_27 (by decide) (by decide) ?_
  refine V_eq rfl rfl (iD_0 (b := b) hn) ?_
  refine V_aload_n (i := 0) dX8_init_4 rfl 0 rfl ?_
  refine V_sipush (v := nI 250) dX8_init_5 rfl ?_
  refine V_newI (N := 250) dX8_init_8 mw_92 (by decide) rfl (by decide) (iD_room hN (by decide)) (Nat.le_of_ble_eq_true rfl) (Nat.le_of_ble_eq_true rfl) ?_
  refine V_putR dX8_init_10 lf_X8_11 (fun _ => rfl) rfl (iD_lt hb) (iD_kb hb hk) (fun _ => ⟨rfl, rfl⟩) ?_
  refine V_eq rfl rfl (iD_new hb (by decide) (by decide)) ?_
  refine V_aload_n (i := 0) dX8_init_13 rfl 0 rfl ?_
  refine V_iconst (v := nI 0) dX8_init_14 rfl ?_
  refine V_putI dX8_init_15 lf_X8_15 (fun _ => rfl) rfl (iD_lt0 hb) (iD_kb0 hb hk) ⟨rfl, rfl⟩ ?_
  refine V_eq rfl rfl (iD_setI hb) ?_
  refine V_aload_n (i := 0) dX8_init_18 rfl 0 rfl ?_
  refine V_iconst (v := nI 0) dX8_init_19 rfl ?_
  refine V_putI dX8_init_20 lf_X8_19 (fun _ => rfl) rfl (iD_lt0 hb) (iD_kb0 hb hk) ⟨rfl, rfl⟩ ?_
  refine V_eq rfl rfl (iD_setI hb) ?_
  refine V_aload_n (i := 0) dX8_init_23 rfl 0 rfl ?_
  refine V_iconst (v := nI 0) dX8_init_24 rfl ?_
  refine V_putI dX8_init_25 lf_X8_22 (fun _ => rfl) rfl (iD_lt0 hb) (iD_kb0 hb hk) ⟨rfl, rfl⟩ ?_
  refine V_eq rfl rfl (iD_setI hb) ?_
  refine V_vret dX8_init_28 ⟨rfl, rfl⟩ (Nat.le_of_ble_eq_true rfl) (Nat.le_of_ble_eq_true rfl) ?_
  subst hQ
  exact ⟨rfl, rfl⟩
def lsX2 : List (Nat × (Nat × Nat)) := [(0, (1, 8))]
def inX2 (D : Dt) (b : Nat) : Dt := (d_setI (d_setI D b 1 (nI 0)) b 2 (nI 0))
set_option maxRecDepth 20000 in
theorem c_X2 {g : Ev} {D : Dt} {b n : Nat} (hn : D.1.1 = n) (hb : b < n) (hk : D.1.2 b = (0, 2)) (hN : n ≤ 90000) : CT g mX2_init [.ref b] D (fun v D2 => v = none ∧ D2 = iD (inX2 D b) b n lsX2) := by
  refine CT_ofQ rfl (by decide) (Nat.le_of_ble_eq_true rfl) (lv := [(0, .ref b)]) rfl (fun Q hQ => ?_)
  refine V_aload_n (i := 0) dX2_init_0 rfl 0 rfl ?_
  refine V_objInit dX2_init_1 mw_140 mw_26 mw_27 (by decide) (by decide) ?_
  refine V_eq rfl rfl (iD_0 (b := b) hn) ?_
  refine V_aload_n (i := 0) dX2_init_4 rfl 0 rfl ?_
  refine V_bipush (v := nI 8) dX2_init_5 rfl ?_
  refine V_newI (N := 8) dX2_init_7 mw_92 (by decide) rfl (by decide) (iD_room hN (by decide)) (Nat.le_of_ble_eq_true rfl) (Nat.le_of_ble_eq_true rfl) ?_
  refine V_putR dX2_init_9 lf_X2_9 (fun _ => rfl) rfl (iD_lt hb) (iD_kb hb hk) (fun _ => ⟨rfl, rfl⟩) ?_
  refine V_eq rfl rfl (iD_new hb (by decide) (by decide)) ?_
  refine V_aload_n (i := 0) dX2_init_12 rfl 0 rfl ?_
  refine V_iconst (v := nI 0) dX2_init_13 rfl ?_
  refine V_putI dX2_init_14 lf_X2_15 (fun _ => rfl) rfl (iD_lt0 hb) (iD_kb0 hb hk) ⟨rfl, rfl⟩ ?_
  refine V_eq rfl rfl (iD_setI hb) ?_
  refine V_aload_n (i := 0) dX2_init_17 rfl 0 rfl ?_
  refine V_iconst (v := nI 0) dX2_init_18 rfl ?_
  refine V_putI dX2_init_19 lf_X2_19 (fun _ => rfl) rfl (iD_lt0 hb) (iD_kb0 hb hk) ⟨rfl, rfl⟩ ?_
  refine V_eq rfl rfl (iD_setI hb) ?_
  refine V_vret dX2_init_22 ⟨rfl, rfl⟩ (Nat.le_of_ble_eq_true rfl) (Nat.le_of_ble_eq_true rfl) ?_
  subst hQ
  exact ⟨rfl, rfl⟩
def lsX1 : List (Nat × (Nat × Nat)) := [(3, (1, 12)), (2, (1, 8)), (1, (1, 8)), (0, (1, 8))]
def inX1 (D : Dt) (b : Nat) : Dt := (d_setI D b 4 (nI 0))
set_option maxRecDepth 20000 in
theorem c_X1 {g : Ev} {D : Dt} {b n : Nat} (hn : D.1.1 = n) (hb : b < n) (hk : D.1.2 b = (0, 1)) (hN : n ≤ 90000) : CT g mX1_init [.ref b] D (fun v D2 => v = none ∧ D2 = iD (inX1 D b) b n lsX1) := by
  refine CT_ofQ rfl (by decide) (Nat.le_of_ble_eq_true rfl) (lv := [(0, .ref b)]) rfl (fun Q hQ => ?_)
  refine V_aload_n (i := 0) dX1_init_0 rfl 0 rfl ?_
  refine V_objInit dX1_init_1 mw_159 mw_26 mw_27 (by decide) (by decide) ?_
  refine V_eq rfl rfl (iD_0 (b := b) hn) ?_
  refine V_aload_n (i := 0) dX1_init_4 rfl 0 rfl ?_
  refine V_bipush (v := nI 8) dX1_init_5 rfl ?_
  refine V_newI (N := 8) dX1_init_7 mw_92 (by decide) rfl (by decide) (iD_room hN (by decide)) (Nat.le_of_ble_eq_true rfl) (Nat.le_of_ble_eq_true rfl) ?_
  refine V_putR dX1_init_9 lf_X1_11 (fun _ => rfl) rfl (iD_lt hb) (iD_kb hb hk) (fun _ => ⟨rfl, rfl⟩) ?_
  refine V_eq rfl rfl (iD_new hb (by decide) (by decide)) ?_
  refine V_aload_n (i := 0) dX1_init_12 rfl 0 rfl ?_
  refine V_bipush (v := nI 8) dX1_init_13 rfl ?_
  refine V_newI (N := 8) dX1_init_15 mw_92 (by decide) rfl (by decide) (iD_room hN (by decide)) (Nat.le_of_ble_eq_true rfl) (Nat.le_of_ble_eq_true rfl) ?_
  refine V_putR dX1_init_17 lf_X1_17 (fun _ => rfl) rfl (iD_lt hb) (iD_kb hb hk) (fun _ => ⟨rfl, rfl⟩) ?_
  refine V_eq rfl rfl (iD_new hb (by decide) (by decide)) ?_
  refine V_aload_n (i := 0) dX1_init_20 rfl 0 rfl ?_
  refine V_bipush (v := nI 8) dX1_init_21 rfl ?_
  refine V_newI (N := 8) dX1_init_23 mw_92 (by decide) rfl (by decide) (iD_room hN (by decide)) (Nat.le_of_ble_eq_true rfl) (Nat.le_of_ble_eq_true rfl) ?_
  refine V_putR dX1_init_25 lf_X1_20 (fun _ => rfl) rfl (iD_lt hb) (iD_kb hb hk) (fun _ => ⟨rfl, rfl⟩) ?_
  refine V_eq rfl rfl (iD_new hb (by decide) (by decide)) ?_
  refine V_aload_n (i := 0) dX1_init_28 rfl 0 rfl ?_
  refine V_bipush (v := nI 12) dX1_init_29 rfl ?_
  refine V_newI (N := 12) dX1_init_31 mw_92 (by decide) rfl (by decide) (iD_room hN (by decide)) (Nat.le_of_ble_eq_true rfl) (Nat.le_of_ble_eq_true rfl) ?_
  refine V_putR dX1_init_33 lf_X1_23 (fun _ => rfl) rfl (iD_lt hb) (iD_kb hb hk) (fun _ => ⟨rfl, rfl⟩) ?_
  refine V_eq rfl rfl (iD_new hb (by decide) (by decide)) ?_
  refine V_aload_n (i := 0) dX1_init_36 rfl 0 rfl ?_
  refine V_iconst (v := nI 0) dX1_init_37 rfl ?_
  refine V_putI dX1_init_38 lf_X1_26 (fun _ => rfl) rfl (iD_lt0 hb) (iD_kb0 hb hk) ⟨rfl, rfl⟩ ?_
  refine V_eq rfl rfl (iD_setI hb) ?_
  refine V_vret dX1_init_41 ⟨rfl, rfl⟩ (Nat.le_of_ble_eq_true rfl) (Nat.le_of_ble_eq_true rfl) ?_
  subst hQ
  exact ⟨rfl, rfl⟩
def lsX4 : List (Nat × (Nat × Nat)) := [(0, (1, 12))]
def inX4 (D : Dt) (b : Nat) : Dt := D
set_option maxRecDepth 20000 in
theorem c_X4 {g : Ev} {D : Dt} {b n : Nat} (hn : D.1.1 = n) (hb : b < n) (hk : D.1.2 b = (0, 3)) (hN : n ≤ 90000) : CT g mX4_init [.ref b] D (fun v D2 => v = none ∧ D2 = iD (inX4 D b) b n lsX4) := by
  refine CT_ofQ rfl (by decide) (Nat.le_of_ble_eq_true rfl) (lv := [(0, .ref b)]) rfl (fun Q hQ => ?_)
  refine V_aload_n (i := 0) dX4_init_0 rfl 0 rfl ?_
  refine V_objInit dX4_init_1 mw_181 mw_26 mw_27 (by decide) (by decide) ?_
  refine V_eq rfl rfl (iD_0 (b := b) hn) ?_
  refine V_aload_n (i := 0) dX4_init_4 rfl 0 rfl ?_
  refine V_bipush (v := nI 12) dX4_init_5 rfl ?_
  refine V_newI (N := 12) dX4_init_7 mw_92 (by decide) rfl (by decide) (iD_room hN (by decide)) (Nat.le_of_ble_eq_true rfl) (Nat.le_of_ble_eq_true rfl) ?_
  refine V_putR dX4_init_9 lf_X4_11 (fun _ => rfl) rfl (iD_lt hb) (iD_kb hb hk) (fun _ => ⟨rfl, rfl⟩) ?_
  refine V_eq rfl rfl (iD_new hb (by decide) (by decide)) ?_
  refine V_vret dX4_init_12 ⟨rfl, rfl⟩ (Nat.le_of_ble_eq_true rfl) (Nat.le_of_ble_eq_true rfl) ?_
  subst hQ
  exact ⟨rfl, rfl⟩
def lsX10 : List (Nat × (Nat × Nat)) := [(37, (1, 8)), (36, (1, 8)), (35, (1, 8)), (32, (2, 8)), (30, (1, 2)), (19, (1, 8)), (18, (1, 8)), (16, (1, 6)), (15, (1, 6)), (13, (1, 12)), (12, (1, 12)), (11, (1, 12)), (1000, (1, 8)), (1000, (1, 8)), (1000, (1, 8)), (1000, (1, 8)), (1000, (1, 8)), (1000, (1, 8)), (1000, (1, 8)), (1000, (1, 8)), (1000, (1, 8)), (1000, (1, 8)), (1000, (1, 8)), (1000, (1, 8)), (10, (4, 12)), (8, (1, 8)), (6, (1, 250)), (5, (1, 8)), (4, (2, 40)), (1000, (2, 40)), (1000, (2, 40)), (1000, (2, 40)), (1000, (2, 40)), (1000, (2, 40)), (1000, (2, 40)), (1000, (2, 40)), (1000, (2, 40)), (3, (5, 8)), (2, (1, 8)), (1, (1, 8)), (0, (1, 8))]
def inX10 (D : Dt) (b : Nat) : Dt := (d_setI (d_setI (d_setI D b 20 (nI 600)) b 21 (nI 20)) b 22 (nI 1))
set_option maxRecDepth 20000 in
theorem c_X10 {g : Ev} {D : Dt} {b n : Nat} (hn : D.1.1 = n) (hb : b < n) (hk : D.1.2 b = (0, 7)) (hN : n ≤ 90000) : CT g mX10_init [.ref b] D (fun v D2 => v = none ∧ D2 = iD (inX10 D b) b n lsX10) := by
  refine CT_ofQ rfl (by decide) (Nat.le_of_ble_eq_true rfl) (lv := [(0, .ref b)]) rfl (fun Q hQ => ?_)
  refine V_aload_n (i := 0) dX10_init_0 rfl 0 rfl ?_
  refine V_objInit dX10_init_1 mw_1091 mw_26 mw_27 (by decide) (by decide) ?_
  refine V_eq rfl rfl (iD_0 (b := b) hn) ?_
  refine V_aload_n (i := 0) dX10_init_4 rfl 0 rfl ?_
  refine V_bipush (v := nI 8) dX10_init_5 rfl ?_
  refine V_newI (N := 8) dX10_init_7 mw_92 (by decide) rfl (by decide) (iD_room hN (by decide)) (Nat.le_of_ble_eq_true rfl) (Nat.le_of_ble_eq_true rfl) ?_
  refine V_putR dX10_init_9 lf_X10_7 (fun _ => rfl) rfl (iD_lt hb) (iD_kb hb hk) (fun _ => ⟨rfl, rfl⟩) ?_
  refine V_eq rfl rfl (iD_new hb (by decide) (by decide)) ?_
  refine V_aload_n (i := 0) dX10_init_12 rfl 0 rfl ?_
  refine V_bipush (v := nI 8) dX10_init_13 rfl ?_
  refine V_newI (N := 8) dX10_init_15 mw_92 (by decide) rfl (by decide) (iD_room hN (by decide)) (Nat.le_of_ble_eq_true rfl) (Nat.le_of_ble_eq_true rfl) ?_
  refine V_putR dX10_init_17 lf_X10_13 (fun _ => rfl) rfl (iD_lt hb) (iD_kb hb hk) (fun _ => ⟨rfl, rfl⟩) ?_
  refine V_eq rfl rfl (iD_new hb (by decide) (by decide)) ?_
  refine V_aload_n (i := 0) dX10_init_20 rfl 0 rfl ?_
  refine V_bipush (v := nI 8) dX10_init_21 rfl ?_
  refine V_newI (N := 8) dX10_init_23 mw_92 (by decide) rfl (by decide) (iD_room hN (by decide)) (Nat.le_of_ble_eq_true rfl) (Nat.le_of_ble_eq_true rfl) ?_
  refine V_putR dX10_init_25 lf_X10_16 (fun _ => rfl) rfl (iD_lt hb) (iD_kb hb hk) (fun _ => ⟨rfl, rfl⟩) ?_
  refine V_eq rfl rfl (iD_new hb (by decide) (by decide)) ?_
  refine V_aload_n (i := 0) dX10_init_28 rfl 0 rfl ?_
  refine V_bipush (v := nI 8) dX10_init_29 rfl ?_
  refine V_bipush (v := nI 40) dX10_init_31 rfl ?_
  refine V_mna (N := 8) (K := 40) (t := 5) (it := 2) (ty := .long) dX10_init_33 mw_1092 mw_112 (Or.inr ⟨rfl, rfl, rfl⟩) (by decide) (by decide) rfl rfl (by decide) (by show (n + _) + _ ≤ _; simp; omega) (Nat.le_of_ble_eq_true rfl) (Nat.le_of_ble_eq_true rfl) ?_
  refine V_putR dX10_init_37 lf_X10_21 (fun _ => rfl) rfl (iD_lt2 hb) (iD_kb2 hb hk) (fun _ => ⟨rfl, rfl⟩) ?_
  refine V_ag (iD_mna hb (by decide) (by decide) (by decide)) ?_
  refine V_aload_n (i := 0) dX10_init_40 rfl 0 rfl ?_
  refine V_bipush (v := nI 40) dX10_init_41 rfl ?_
  refine V_newL (N := 40) dX10_init_43 mw_112 (by decide) rfl (by decide) (iD_room hN (by decide)) (Nat.le_of_ble_eq_true rfl) (Nat.le_of_ble_eq_true rfl) ?_
  refine V_putR dX10_init_45 lf_X10_24 (fun _ => rfl) rfl (iD_lt hb) (iD_kb hb hk) (fun _ => ⟨rfl, rfl⟩) ?_
  refine V_eq rfl rfl (iD_new hb (by decide) (by decide)) ?_
  refine V_aload_n (i := 0) dX10_init_48 rfl 0 rfl ?_
  refine V_bipush (v := nI 8) dX10_init_49 rfl ?_
  refine V_newI (N := 8) dX10_init_51 mw_92 (by decide) rfl (by decide) (iD_room hN (by decide)) (Nat.le_of_ble_eq_true rfl) (Nat.le_of_ble_eq_true rfl) ?_
  refine V_putR dX10_init_53 lf_X10_28 (fun _ => rfl) rfl (iD_lt hb) (iD_kb hb hk) (fun _ => ⟨rfl, rfl⟩) ?_
  refine V_eq rfl rfl (iD_new hb (by decide) (by decide)) ?_
  refine V_aload_n (i := 0) dX10_init_56 rfl 0 rfl ?_
  refine V_sipush (v := nI 250) dX10_init_57 rfl ?_
  refine V_newI (N := 250) dX10_init_60 mw_92 (by decide) rfl (by decide) (iD_room hN (by decide)) (Nat.le_of_ble_eq_true rfl) (Nat.le_of_ble_eq_true rfl) ?_
  refine V_putR dX10_init_62 lf_X10_31 (fun _ => rfl) rfl (iD_lt hb) (iD_kb hb hk) (fun _ => ⟨rfl, rfl⟩) ?_
  refine V_eq rfl rfl (iD_new hb (by decide) (by decide)) ?_
  refine V_aload_n (i := 0) dX10_init_65 rfl 0 rfl ?_
  refine V_bipush (v := nI 8) dX10_init_66 rfl ?_
  refine V_newI (N := 8) dX10_init_68 mw_92 (by decide) rfl (by decide) (iD_room hN (by decide)) (Nat.le_of_ble_eq_true rfl) (Nat.le_of_ble_eq_true rfl) ?_
  refine V_putR dX10_init_70 lf_X10_34 (fun _ => rfl) rfl (iD_lt hb) (iD_kb hb hk) (fun _ => ⟨rfl, rfl⟩) ?_
  refine V_eq rfl rfl (iD_new hb (by decide) (by decide)) ?_
  refine V_aload_n (i := 0) dX10_init_73 rfl 0 rfl ?_
  refine V_bipush (v := nI 12) dX10_init_74 rfl ?_
  refine V_bipush (v := nI 8) dX10_init_76 rfl ?_
  refine V_mna (N := 12) (K := 8) (t := 4) (it := 1) (ty := .int) dX10_init_78 mw_1094 mw_92 (Or.inl ⟨rfl, rfl, rfl⟩) (by decide) (by decide) rfl rfl (by decide) (by show (n + _) + _ ≤ _; simp; omega) (Nat.le_of_ble_eq_true rfl) (Nat.le_of_ble_eq_true rfl) ?_
  refine V_putR dX10_init_82 lf_X10_39 (fun _ => rfl) rfl (iD_lt2 hb) (iD_kb2 hb hk) (fun _ => ⟨rfl, rfl⟩) ?_
  refine V_ag (iD_mna hb (by decide) (by decide) (by decide)) ?_
  refine V_aload_n (i := 0) dX10_init_85 rfl 0 rfl ?_
  refine V_bipush (v := nI 12) dX10_init_86 rfl ?_
  refine V_newI (N := 12) dX10_init_88 mw_92 (by decide) rfl (by decide) (iD_room hN (by decide)) (Nat.le_of_ble_eq_true rfl) (Nat.le_of_ble_eq_true rfl) ?_
  refine V_putR dX10_init_90 lf_X10_42 (fun _ => rfl) rfl (iD_lt hb) (iD_kb hb hk) (fun _ => ⟨rfl, rfl⟩) ?_
  refine V_eq rfl rfl (iD_new hb (by decide) (by decide)) ?_
  refine V_aload_n (i := 0) dX10_init_93 rfl 0 rfl ?_
  refine V_bipush (v := nI 12) dX10_init_94 rfl ?_
  refine V_newI (N := 12) dX10_init_96 mw_92 (by decide) rfl (by decide) (iD_room hN (by decide)) (Nat.le_of_ble_eq_true rfl) (Nat.le_of_ble_eq_true rfl) ?_
  refine V_putR dX10_init_98 lf_X10_45 (fun _ => rfl) rfl (iD_lt hb) (iD_kb hb hk) (fun _ => ⟨rfl, rfl⟩) ?_
  refine V_eq rfl rfl (iD_new hb (by decide) (by decide)) ?_
  refine V_aload_n (i := 0) dX10_init_101 rfl 0 rfl ?_
  refine V_bipush (v := nI 12) dX10_init_102 rfl ?_
  refine V_newI (N := 12) dX10_init_104 mw_92 (by decide) rfl (by decide) (iD_room hN (by decide)) (Nat.le_of_ble_eq_true rfl) (Nat.le_of_ble_eq_true rfl) ?_
  refine V_putR dX10_init_106 lf_X10_48 (fun _ => rfl) rfl (iD_lt hb) (iD_kb hb hk) (fun _ => ⟨rfl, rfl⟩) ?_
  refine V_eq rfl rfl (iD_new hb (by decide) (by decide)) ?_
  refine V_aload_n (i := 0) dX10_init_109 rfl 0 rfl ?_
  refine V_bipush (v := nI 6) dX10_init_110 rfl ?_
  refine V_newI (N := 6) dX10_init_112 mw_92 (by decide) rfl (by decide) (iD_room hN (by decide)) (Nat.le_of_ble_eq_true rfl) (Nat.le_of_ble_eq_true rfl) ?_
  refine V_putR dX10_init_114 lf_X10_51 (fun _ => rfl) rfl (iD_lt hb) (iD_kb hb hk) (fun _ => ⟨rfl, rfl⟩) ?_
  refine V_eq rfl rfl (iD_new hb (by decide) (by decide)) ?_
  refine V_aload_n (i := 0) dX10_init_117 rfl 0 rfl ?_
  refine V_bipush (v := nI 6) dX10_init_118 rfl ?_
  refine V_newI (N := 6) dX10_init_120 mw_92 (by decide) rfl (by decide) (iD_room hN (by decide)) (Nat.le_of_ble_eq_true rfl) (Nat.le_of_ble_eq_true rfl) ?_
  refine V_putR dX10_init_122 lf_X10_54 (fun _ => rfl) rfl (iD_lt hb) (iD_kb hb hk) (fun _ => ⟨rfl, rfl⟩) ?_
  refine V_eq rfl rfl (iD_new hb (by decide) (by decide)) ?_
  refine V_aload_n (i := 0) dX10_init_125 rfl 0 rfl ?_
  refine V_bipush (v := nI 8) dX10_init_126 rfl ?_
  refine V_newI (N := 8) dX10_init_128 mw_92 (by decide) rfl (by decide) (iD_room hN (by decide)) (Nat.le_of_ble_eq_true rfl) (Nat.le_of_ble_eq_true rfl) ?_
  refine V_putR dX10_init_130 lf_X10_57 (fun _ => rfl) rfl (iD_lt hb) (iD_kb hb hk) (fun _ => ⟨rfl, rfl⟩) ?_
  refine V_eq rfl rfl (iD_new hb (by decide) (by decide)) ?_
  refine V_aload_n (i := 0) dX10_init_133 rfl 0 rfl ?_
  refine V_bipush (v := nI 8) dX10_init_134 rfl ?_
  refine V_newI (N := 8) dX10_init_136 mw_92 (by decide) rfl (by decide) (iD_room hN (by decide)) (Nat.le_of_ble_eq_true rfl) (Nat.le_of_ble_eq_true rfl) ?_
  refine V_putR dX10_init_138 lf_X10_60 (fun _ => rfl) rfl (iD_lt hb) (iD_kb hb hk) (fun _ => ⟨rfl, rfl⟩) ?_
  refine V_eq rfl rfl (iD_new hb (by decide) (by decide)) ?_
  refine V_aload_n (i := 0) dX10_init_141 rfl 0 rfl ?_
  refine V_sipush (v := nI 600) dX10_init_142 rfl ?_
  refine V_putI dX10_init_145 lf_X10_63 (fun _ => rfl) rfl (iD_lt0 hb) (iD_kb0 hb hk) ⟨rfl, rfl⟩ ?_
  refine V_eq rfl rfl (iD_setI hb) ?_
  refine V_aload_n (i := 0) dX10_init_148 rfl 0 rfl ?_
  refine V_bipush (v := nI 20) dX10_init_149 rfl ?_
  refine V_putI dX10_init_151 lf_X10_67 (fun _ => rfl) rfl (iD_lt0 hb) (iD_kb0 hb hk) ⟨rfl, rfl⟩ ?_
  refine V_eq rfl rfl (iD_setI hb) ?_
  refine V_aload_n (i := 0) dX10_init_154 rfl 0 rfl ?_
  refine V_iconst (v := nI 1) dX10_init_155 rfl ?_
  refine V_putI dX10_init_156 lf_X10_70 (fun _ => rfl) rfl (iD_lt0 hb) (iD_kb0 hb hk) ⟨rfl, rfl⟩ ?_
  refine V_eq rfl rfl (iD_setI hb) ?_
  refine V_aload_n (i := 0) dX10_init_159 rfl 0 rfl ?_
  refine V_iconst (v := nI 2) dX10_init_160 rfl ?_
  refine V_newI (N := 2) dX10_init_161 mw_92 (by decide) rfl (by decide) (iD_room hN (by decide)) (Nat.le_of_ble_eq_true rfl) (Nat.le_of_ble_eq_true rfl) ?_
  refine V_putR dX10_init_163 lf_X10_73 (fun _ => rfl) rfl (iD_lt hb) (iD_kb hb hk) (fun _ => ⟨rfl, rfl⟩) ?_
  refine V_eq rfl rfl (iD_new hb (by decide) (by decide)) ?_
  refine V_aload_n (i := 0) dX10_init_166 rfl 0 rfl ?_
  refine V_bipush (v := nI 8) dX10_init_167 rfl ?_
  refine V_newL (N := 8) dX10_init_169 mw_112 (by decide) rfl (by decide) (iD_room hN (by decide)) (Nat.le_of_ble_eq_true rfl) (Nat.le_of_ble_eq_true rfl) ?_
  refine V_putR dX10_init_171 lf_X10_76 (fun _ => rfl) rfl (iD_lt hb) (iD_kb hb hk) (fun _ => ⟨rfl, rfl⟩) ?_
  refine V_eq rfl rfl (iD_new hb (by decide) (by decide)) ?_
  refine V_aload_n (i := 0) dX10_init_174 rfl 0 rfl ?_
  refine V_bipush (v := nI 8) dX10_init_175 rfl ?_
  refine V_newI (N := 8) dX10_init_177 mw_92 (by decide) rfl (by decide) (iD_room hN (by decide)) (Nat.le_of_ble_eq_true rfl) (Nat.le_of_ble_eq_true rfl) ?_
  refine V_putR dX10_init_179 lf_X10_79 (fun _ => rfl) rfl (iD_lt hb) (iD_kb hb hk) (fun _ => ⟨rfl, rfl⟩) ?_
  refine V_eq rfl rfl (iD_new hb (by decide) (by decide)) ?_
  refine V_aload_n (i := 0) dX10_init_182 rfl 0 rfl ?_
  refine V_bipush (v := nI 8) dX10_init_183 rfl ?_
  refine V_newI (N := 8) dX10_init_185 mw_92 (by decide) rfl (by decide) (iD_room hN (by decide)) (Nat.le_of_ble_eq_true rfl) (Nat.le_of_ble_eq_true rfl) ?_
  refine V_putR dX10_init_187 lf_X10_82 (fun _ => rfl) rfl (iD_lt hb) (iD_kb hb hk) (fun _ => ⟨rfl, rfl⟩) ?_
  refine V_eq rfl rfl (iD_new hb (by decide) (by decide)) ?_
  refine V_aload_n (i := 0) dX10_init_190 rfl 0 rfl ?_
  refine V_bipush (v := nI 8) dX10_init_191 rfl ?_
  refine V_newI (N := 8) dX10_init_193 mw_92 (by decide) rfl (by decide) (iD_room hN (by decide)) (Nat.le_of_ble_eq_true rfl) (Nat.le_of_ble_eq_true rfl) ?_
  refine V_putR dX10_init_195 lf_X10_85 (fun _ => rfl) rfl (iD_lt hb) (iD_kb hb hk) (fun _ => ⟨rfl, rfl⟩) ?_
  refine V_eq rfl rfl (iD_new hb (by decide) (by decide)) ?_
  refine V_vret dX10_init_198 ⟨rfl, rfl⟩ (Nat.le_of_ble_eq_true rfl) (Nat.le_of_ble_eq_true rfl) ?_
  subst hQ
  exact ⟨rfl, rfl⟩
def Dz : Dt := ((0, fun _ => (0, 0)), (fun _ _ => none), (fun _ _ => 0), (fun _ _ => 0))
def xD0 : Dt := d_new Dz (0, 6)
def xD1 : Dt := d_new xD0 (0, 0)
def xD2 : Dt := iD (inX0 xD1 1) 1 2 lsX0
def xD3 : Dt := d_setR xD2 0 0 (some 1)
def xD4 : Dt := d_new xD3 (0, 0)
def xD5 : Dt := iD (inX0 xD4 10) 10 11 lsX0
def xD6 : Dt := d_setR xD5 0 1 (some 10)
def xD7 : Dt := d_new xD6 (0, 0)
def xD8 : Dt := iD (inX0 xD7 19) 19 20 lsX0
def xD9 : Dt := d_setR xD8 0 2 (some 19)
def xD10 : Dt := d_setI xD9 0 3 (nI 0)
def xD11 : Dt := d_new xD10 (3, 8)
def xD12 : Dt := d_setR xD11 0 4 (some 28)
def xD13 : Dt := d_new xD12 (0, 4)
def xD14 : Dt := iD (inX7 xD13 29) 29 30 lsX7
def xD15 : Dt := d_setR xD14 28 0 (some 29)
def xD16 : Dt := d_new xD15 (0, 4)
def xD17 : Dt := iD (inX7 xD16 31) 31 32 lsX7
def xD18 : Dt := d_setR xD17 28 1 (some 31)
def xD19 : Dt := d_new xD18 (0, 4)
def xD20 : Dt := iD (inX7 xD19 33) 33 34 lsX7
def xD21 : Dt := d_setR xD20 28 2 (some 33)
def xD22 : Dt := d_new xD21 (0, 4)
def xD23 : Dt := iD (inX7 xD22 35) 35 36 lsX7
def xD24 : Dt := d_setR xD23 28 3 (some 35)
def xD25 : Dt := d_new xD24 (0, 4)
def xD26 : Dt := iD (inX7 xD25 37) 37 38 lsX7
def xD27 : Dt := d_setR xD26 28 4 (some 37)
def xD28 : Dt := d_new xD27 (0, 4)
def xD29 : Dt := iD (inX7 xD28 39) 39 40 lsX7
def xD30 : Dt := d_setR xD29 28 5 (some 39)
def xD31 : Dt := d_new xD30 (0, 4)
def xD32 : Dt := iD (inX7 xD31 41) 41 42 lsX7
def xD33 : Dt := d_setR xD32 28 6 (some 41)
def xD34 : Dt := d_new xD33 (0, 4)
def xD35 : Dt := iD (inX7 xD34 43) 43 44 lsX7
def xD36 : Dt := d_setR xD35 28 7 (some 43)
def xD37 : Dt := d_new xD36 (0, 5)
def xD38 : Dt := iD (inX8 xD37 45) 45 46 lsX8
def xD39 : Dt := d_setR xD38 0 5 (some 45)
def xD40 : Dt := d_new xD39 (0, 2)
def xD41 : Dt := iD (inX2 xD40 47) 47 48 lsX2
def xD42 : Dt := d_setR xD41 0 6 (some 47)
def xD43 : Dt := d_new xD42 (0, 1)
def xD44 : Dt := iD (inX1 xD43 49) 49 50 lsX1
def xD45 : Dt := d_setR xD44 0 7 (some 49)
def xD46 : Dt := d_new xD45 (0, 3)
def xD47 : Dt := iD (inX4 xD46 54) 54 55 lsX4
def xD48 : Dt := d_setR xD47 0 8 (some 54)
def xD49 : Dt := d_new xD48 (1, 5)
def xD50 : Dt := d_setR xD49 0 9 (some 56)
set_option maxRecDepth 20000 in
theorem c_X9 {g : Ev} : CT g mX9_init [.ref 0] xD0 (fun v D2 => v = none ∧ D2 = xD50) := by
  refine CT_ofQ rfl (by decide) (Nat.le_of_ble_eq_true rfl) (lv := [(0, .ref 0)]) rfl (fun Q hQ => ?_)
  refine V_aload_n (i := 0) dX9_init_0 rfl 0 rfl ?_
  refine V_objInit dX9_init_1 mw_25 mw_26 mw_27 (by decide) (by decide) ?_
  refine V_aload_n (i := 0) dX9_init_4 rfl 0 rfl ?_
  refine V_new dX9_init_5 ln_X9_7 (by decide) (Nat.le_of_ble_eq_true rfl) (Nat.le_of_ble_eq_true rfl) ?_
  refine V_eq (st' := [.ref 1, .ref 0]) rfl rfl (show _ = xD1 from rfl) ?_
  refine V_dup dX9_init_8 rfl ?_
  refine V_callIN (As := []) (st := [.ref 1, .ref 0]) (k2 := 9) (n2 := 90) dX9_init_9 lin_X9_9 ⟨by decide, by decide⟩ rfl (Nat.le_of_ble_eq_true rfl) (Nat.le_of_ble_eq_true rfl) (Nat.le_of_ble_eq_true rfl) (Nat.le_of_ble_eq_true rfl) (Nat.le_of_ble_eq_true rfl) (c_X0 (b := 1) (n := 2) rfl (by decide) rfl (by decide)) (fun v D2 q => ?_)
  obtain ⟨rfl, rfl⟩ := q
  refine V_eq rfl rfl (show _ = xD2 from rfl) ?_
  refine V_putR dX9_init_12 lf_X9_10 (fun _ => rfl) rfl (by decide) rfl (fun _ => ⟨rfl, rfl⟩) ?_
  refine V_eq rfl rfl (show _ = xD3 from rfl) ?_
  refine V_aload_n (i := 0) dX9_init_15 rfl 0 rfl ?_
  refine V_new dX9_init_16 ln_X9_7 (by decide) (Nat.le_of_ble_eq_true rfl) (Nat.le_of_ble_eq_true rfl) ?_
  refine V_eq (st' := [.ref 10, .ref 0]) rfl rfl (show _ = xD4 from rfl) ?_
  refine V_dup dX9_init_19 rfl ?_
  refine V_callIN (As := []) (st := [.ref 10, .ref 0]) (k2 := 18) (n2 := 180) dX9_init_20 lin_X9_9 ⟨by decide, by decide⟩ rfl (Nat.le_of_ble_eq_true rfl) (Nat.le_of_ble_eq_true rfl) (Nat.le_of_ble_eq_true rfl) (Nat.le_of_ble_eq_true rfl) (Nat.le_of_ble_eq_true rfl) (c_X0 (b := 10) (n := 11) rfl (by decide) rfl (by decide)) (fun v D2 q => ?_)
  obtain ⟨rfl, rfl⟩ := q
  refine V_eq rfl rfl (show _ = xD5 from rfl) ?_
  refine V_putR dX9_init_23 lf_X9_16 (fun _ => rfl) rfl (by decide) rfl (fun _ => ⟨rfl, rfl⟩) ?_
  refine V_eq rfl rfl (show _ = xD6 from rfl) ?_
  refine V_aload_n (i := 0) dX9_init_26 rfl 0 rfl ?_
  refine V_new dX9_init_27 ln_X9_7 (by decide) (Nat.le_of_ble_eq_true rfl) (Nat.le_of_ble_eq_true rfl) ?_
  refine V_eq (st' := [.ref 19, .ref 0]) rfl rfl (show _ = xD7 from rfl) ?_
  refine V_dup dX9_init_30 rfl ?_
  refine V_callIN (As := []) (st := [.ref 19, .ref 0]) (k2 := 27) (n2 := 270) dX9_init_31 lin_X9_9 ⟨by decide, by decide⟩ rfl (Nat.le_of_ble_eq_true rfl) (Nat.le_of_ble_eq_true rfl) (Nat.le_of_ble_eq_true rfl) (Nat.le_of_ble_eq_true rfl) (Nat.le_of_ble_eq_true rfl) (c_X0 (b := 19) (n := 20) rfl (by decide) rfl (by decide)) (fun v D2 q => ?_)
  obtain ⟨rfl, rfl⟩ := q
  refine V_eq rfl rfl (show _ = xD8 from rfl) ?_
  refine V_putR dX9_init_34 lf_X9_19 (fun _ => rfl) rfl (by decide) rfl (fun _ => ⟨rfl, rfl⟩) ?_
  refine V_eq rfl rfl (show _ = xD9 from rfl) ?_
  refine V_aload_n (i := 0) dX9_init_37 rfl 0 rfl ?_
  refine V_iconst (v := nI 0) dX9_init_38 rfl ?_
  refine V_putI dX9_init_39 lf_X9_22 (fun _ => rfl) rfl (by decide) rfl ⟨rfl, rfl⟩ ?_
  refine V_eq rfl rfl (show _ = xD10 from rfl) ?_
  refine V_aload_n (i := 0) dX9_init_42 rfl 0 rfl ?_
  refine V_bipush (v := nI 8) dX9_init_43 rfl ?_
  refine V_newS (N := 8) dX9_init_45 mw_93 (by decide) rfl (by decide) (by decide) (Nat.le_of_ble_eq_true rfl) (Nat.le_of_ble_eq_true rfl) ?_
  refine V_eq (st' := [.ref 28, .ref 0]) rfl rfl (show _ = xD11 from rfl) ?_
  refine V_putR dX9_init_48 lf_X9_28 (fun _ => rfl) rfl (by decide) rfl (fun _ => ⟨rfl, rfl⟩) ?_
  refine V_eq rfl rfl (show _ = xD12 from rfl) ?_
  refine V_iconst (v := nI 0) dX9_init_51 rfl ?_
  refine V_istore_n (lv2 := [(1, .int (nI 0)), (0, .ref 0)]) dX9_init_52 rfl (by decide) rfl ?_
  refine V_iload_n (i := 1) dX9_init_53 rfl 0 rfl ?_
  refine V_bipush (v := nI 8) dX9_init_54 rfl ?_
  refine V_icmp_ge (tgt := 78) dX9_init_56 rfl (fun q => absurd q (by decide)) (fun _ => ?_)
  refine V_aload_n (i := 0) dX9_init_59 rfl 1 rfl ?_
  refine V_getR dX9_init_60 lf_X9_28 rfl (by decide) rfl (b := 28) rfl ?_
  refine V_iload_n (i := 1) dX9_init_63 rfl 0 rfl ?_
  refine V_new dX9_init_64 ln_X9_26 (by decide) (Nat.le_of_ble_eq_true rfl) (Nat.le_of_ble_eq_true rfl) ?_
  refine V_eq (st' := [.ref 29, .int (nI 0), .ref 28]) rfl rfl (show _ = xD13 from rfl) ?_
  refine V_dup dX9_init_67 rfl ?_
  refine V_callIN (As := []) (st := [.ref 29, .int (nI 0), .ref 28]) (k2 := 30) (n2 := 321) dX9_init_68 lin_X9_32 ⟨by decide, by decide⟩ rfl (Nat.le_of_ble_eq_true rfl) (Nat.le_of_ble_eq_true rfl) (Nat.le_of_ble_eq_true rfl) (Nat.le_of_ble_eq_true rfl) (Nat.le_of_ble_eq_true rfl) (c_X7 (b := 29) (n := 30) rfl (by decide) rfl (by decide)) (fun v D2 q => ?_)
  obtain ⟨rfl, rfl⟩ := q
  refine V_eq rfl rfl (show _ = xD14 from rfl) ?_
  refine V_aast (N := 8) dX9_init_71 (by decide) rfl (vp_in_nI (by decide) (by decide)) (by decide) rfl ?_
  refine V_eq rfl rfl (show _ = xD15 from rfl) ?_
  refine V_iinc (v := nI 1) (lv2 := [(1, .int (nI 1)), (0, .ref 0)]) dX9_init_72 0 rfl (by decide) (by decide) rfl ?_
  refine V_goto (tgt := 53) dX9_init_75 rfl ?_
  refine V_iload_n (i := 1) dX9_init_53 rfl 0 rfl ?_
  refine V_bipush (v := nI 8) dX9_init_54 rfl ?_
  refine V_icmp_ge (tgt := 78) dX9_init_56 rfl (fun q => absurd q (by decide)) (fun _ => ?_)
  refine V_aload_n (i := 0) dX9_init_59 rfl 1 rfl ?_
  refine V_getR dX9_init_60 lf_X9_28 rfl (by decide) rfl (b := 28) rfl ?_
  refine V_iload_n (i := 1) dX9_init_63 rfl 0 rfl ?_
  refine V_new dX9_init_64 ln_X9_26 (by decide) (Nat.le_of_ble_eq_true rfl) (Nat.le_of_ble_eq_true rfl) ?_
  refine V_eq (st' := [.ref 31, .int (nI 1), .ref 28]) rfl rfl (show _ = xD16 from rfl) ?_
  refine V_dup dX9_init_67 rfl ?_
  refine V_callIN (As := []) (st := [.ref 31, .int (nI 1), .ref 28]) (k2 := 32) (n2 := 364) dX9_init_68 lin_X9_32 ⟨by decide, by decide⟩ rfl (Nat.le_of_ble_eq_true rfl) (Nat.le_of_ble_eq_true rfl) (Nat.le_of_ble_eq_true rfl) (Nat.le_of_ble_eq_true rfl) (Nat.le_of_ble_eq_true rfl) (c_X7 (b := 31) (n := 32) rfl (by decide) rfl (by decide)) (fun v D2 q => ?_)
  obtain ⟨rfl, rfl⟩ := q
  refine V_eq rfl rfl (show _ = xD17 from rfl) ?_
  refine V_aast (N := 8) dX9_init_71 (by decide) rfl (vp_in_nI (by decide) (by decide)) (by decide) rfl ?_
  refine V_eq rfl rfl (show _ = xD18 from rfl) ?_
  refine V_iinc (v := nI 2) (lv2 := [(1, .int (nI 2)), (0, .ref 0)]) dX9_init_72 0 rfl (by decide) (by decide) rfl ?_
  refine V_goto (tgt := 53) dX9_init_75 rfl ?_
  refine V_iload_n (i := 1) dX9_init_53 rfl 0 rfl ?_
  refine V_bipush (v := nI 8) dX9_init_54 rfl ?_
  refine V_icmp_ge (tgt := 78) dX9_init_56 rfl (fun q => absurd q (by decide)) (fun _ => ?_)
  refine V_aload_n (i := 0) dX9_init_59 rfl 1 rfl ?_
  refine V_getR dX9_init_60 lf_X9_28 rfl (by decide) rfl (b := 28) rfl ?_
  refine V_iload_n (i := 1) dX9_init_63 rfl 0 rfl ?_
  refine V_new dX9_init_64 ln_X9_26 (by decide) (Nat.le_of_ble_eq_true rfl) (Nat.le_of_ble_eq_true rfl) ?_
  refine V_eq (st' := [.ref 33, .int (nI 2), .ref 28]) rfl rfl (show _ = xD19 from rfl) ?_
  refine V_dup dX9_init_67 rfl ?_
  refine V_callIN (As := []) (st := [.ref 33, .int (nI 2), .ref 28]) (k2 := 34) (n2 := 407) dX9_init_68 lin_X9_32 ⟨by decide, by decide⟩ rfl (Nat.le_of_ble_eq_true rfl) (Nat.le_of_ble_eq_true rfl) (Nat.le_of_ble_eq_true rfl) (Nat.le_of_ble_eq_true rfl) (Nat.le_of_ble_eq_true rfl) (c_X7 (b := 33) (n := 34) rfl (by decide) rfl (by decide)) (fun v D2 q => ?_)
  obtain ⟨rfl, rfl⟩ := q
  refine V_eq rfl rfl (show _ = xD20 from rfl) ?_
  refine V_aast (N := 8) dX9_init_71 (by decide) rfl (vp_in_nI (by decide) (by decide)) (by decide) rfl ?_
  refine V_eq rfl rfl (show _ = xD21 from rfl) ?_
  refine V_iinc (v := nI 3) (lv2 := [(1, .int (nI 3)), (0, .ref 0)]) dX9_init_72 0 rfl (by decide) (by decide) rfl ?_
  refine V_goto (tgt := 53) dX9_init_75 rfl ?_
  refine V_iload_n (i := 1) dX9_init_53 rfl 0 rfl ?_
  refine V_bipush (v := nI 8) dX9_init_54 rfl ?_
  refine V_icmp_ge (tgt := 78) dX9_init_56 rfl (fun q => absurd q (by decide)) (fun _ => ?_)
  refine V_aload_n (i := 0) dX9_init_59 rfl 1 rfl ?_
  refine V_getR dX9_init_60 lf_X9_28 rfl (by decide) rfl (b := 28) rfl ?_
  refine V_iload_n (i := 1) dX9_init_63 rfl 0 rfl ?_
  refine V_new dX9_init_64 ln_X9_26 (by decide) (Nat.le_of_ble_eq_true rfl) (Nat.le_of_ble_eq_true rfl) ?_
  refine V_eq (st' := [.ref 35, .int (nI 3), .ref 28]) rfl rfl (show _ = xD22 from rfl) ?_
  refine V_dup dX9_init_67 rfl ?_
  refine V_callIN (As := []) (st := [.ref 35, .int (nI 3), .ref 28]) (k2 := 36) (n2 := 450) dX9_init_68 lin_X9_32 ⟨by decide, by decide⟩ rfl (Nat.le_of_ble_eq_true rfl) (Nat.le_of_ble_eq_true rfl) (Nat.le_of_ble_eq_true rfl) (Nat.le_of_ble_eq_true rfl) (Nat.le_of_ble_eq_true rfl) (c_X7 (b := 35) (n := 36) rfl (by decide) rfl (by decide)) (fun v D2 q => ?_)
  obtain ⟨rfl, rfl⟩ := q
  refine V_eq rfl rfl (show _ = xD23 from rfl) ?_
  refine V_aast (N := 8) dX9_init_71 (by decide) rfl (vp_in_nI (by decide) (by decide)) (by decide) rfl ?_
  refine V_eq rfl rfl (show _ = xD24 from rfl) ?_
  refine V_iinc (v := nI 4) (lv2 := [(1, .int (nI 4)), (0, .ref 0)]) dX9_init_72 0 rfl (by decide) (by decide) rfl ?_
  refine V_goto (tgt := 53) dX9_init_75 rfl ?_
  refine V_iload_n (i := 1) dX9_init_53 rfl 0 rfl ?_
  refine V_bipush (v := nI 8) dX9_init_54 rfl ?_
  refine V_icmp_ge (tgt := 78) dX9_init_56 rfl (fun q => absurd q (by decide)) (fun _ => ?_)
  refine V_aload_n (i := 0) dX9_init_59 rfl 1 rfl ?_
  refine V_getR dX9_init_60 lf_X9_28 rfl (by decide) rfl (b := 28) rfl ?_
  refine V_iload_n (i := 1) dX9_init_63 rfl 0 rfl ?_
  refine V_new dX9_init_64 ln_X9_26 (by decide) (Nat.le_of_ble_eq_true rfl) (Nat.le_of_ble_eq_true rfl) ?_
  refine V_eq (st' := [.ref 37, .int (nI 4), .ref 28]) rfl rfl (show _ = xD25 from rfl) ?_
  refine V_dup dX9_init_67 rfl ?_
  refine V_callIN (As := []) (st := [.ref 37, .int (nI 4), .ref 28]) (k2 := 38) (n2 := 493) dX9_init_68 lin_X9_32 ⟨by decide, by decide⟩ rfl (Nat.le_of_ble_eq_true rfl) (Nat.le_of_ble_eq_true rfl) (Nat.le_of_ble_eq_true rfl) (Nat.le_of_ble_eq_true rfl) (Nat.le_of_ble_eq_true rfl) (c_X7 (b := 37) (n := 38) rfl (by decide) rfl (by decide)) (fun v D2 q => ?_)
  obtain ⟨rfl, rfl⟩ := q
  refine V_eq rfl rfl (show _ = xD26 from rfl) ?_
  refine V_aast (N := 8) dX9_init_71 (by decide) rfl (vp_in_nI (by decide) (by decide)) (by decide) rfl ?_
  refine V_eq rfl rfl (show _ = xD27 from rfl) ?_
  refine V_iinc (v := nI 5) (lv2 := [(1, .int (nI 5)), (0, .ref 0)]) dX9_init_72 0 rfl (by decide) (by decide) rfl ?_
  refine V_goto (tgt := 53) dX9_init_75 rfl ?_
  refine V_iload_n (i := 1) dX9_init_53 rfl 0 rfl ?_
  refine V_bipush (v := nI 8) dX9_init_54 rfl ?_
  refine V_icmp_ge (tgt := 78) dX9_init_56 rfl (fun q => absurd q (by decide)) (fun _ => ?_)
  refine V_aload_n (i := 0) dX9_init_59 rfl 1 rfl ?_
  refine V_getR dX9_init_60 lf_X9_28 rfl (by decide) rfl (b := 28) rfl ?_
  refine V_iload_n (i := 1) dX9_init_63 rfl 0 rfl ?_
  refine V_new dX9_init_64 ln_X9_26 (by decide) (Nat.le_of_ble_eq_true rfl) (Nat.le_of_ble_eq_true rfl) ?_
  refine V_eq (st' := [.ref 39, .int (nI 5), .ref 28]) rfl rfl (show _ = xD28 from rfl) ?_
  refine V_dup dX9_init_67 rfl ?_
  refine V_callIN (As := []) (st := [.ref 39, .int (nI 5), .ref 28]) (k2 := 40) (n2 := 536) dX9_init_68 lin_X9_32 ⟨by decide, by decide⟩ rfl (Nat.le_of_ble_eq_true rfl) (Nat.le_of_ble_eq_true rfl) (Nat.le_of_ble_eq_true rfl) (Nat.le_of_ble_eq_true rfl) (Nat.le_of_ble_eq_true rfl) (c_X7 (b := 39) (n := 40) rfl (by decide) rfl (by decide)) (fun v D2 q => ?_)
  obtain ⟨rfl, rfl⟩ := q
  refine V_eq rfl rfl (show _ = xD29 from rfl) ?_
  refine V_aast (N := 8) dX9_init_71 (by decide) rfl (vp_in_nI (by decide) (by decide)) (by decide) rfl ?_
  refine V_eq rfl rfl (show _ = xD30 from rfl) ?_
  refine V_iinc (v := nI 6) (lv2 := [(1, .int (nI 6)), (0, .ref 0)]) dX9_init_72 0 rfl (by decide) (by decide) rfl ?_
  refine V_goto (tgt := 53) dX9_init_75 rfl ?_
  refine V_iload_n (i := 1) dX9_init_53 rfl 0 rfl ?_
  refine V_bipush (v := nI 8) dX9_init_54 rfl ?_
  refine V_icmp_ge (tgt := 78) dX9_init_56 rfl (fun q => absurd q (by decide)) (fun _ => ?_)
  refine V_aload_n (i := 0) dX9_init_59 rfl 1 rfl ?_
  refine V_getR dX9_init_60 lf_X9_28 rfl (by decide) rfl (b := 28) rfl ?_
  refine V_iload_n (i := 1) dX9_init_63 rfl 0 rfl ?_
  refine V_new dX9_init_64 ln_X9_26 (by decide) (Nat.le_of_ble_eq_true rfl) (Nat.le_of_ble_eq_true rfl) ?_
  refine V_eq (st' := [.ref 41, .int (nI 6), .ref 28]) rfl rfl (show _ = xD31 from rfl) ?_
  refine V_dup dX9_init_67 rfl ?_
  refine V_callIN (As := []) (st := [.ref 41, .int (nI 6), .ref 28]) (k2 := 42) (n2 := 579) dX9_init_68 lin_X9_32 ⟨by decide, by decide⟩ rfl (Nat.le_of_ble_eq_true rfl) (Nat.le_of_ble_eq_true rfl) (Nat.le_of_ble_eq_true rfl) (Nat.le_of_ble_eq_true rfl) (Nat.le_of_ble_eq_true rfl) (c_X7 (b := 41) (n := 42) rfl (by decide) rfl (by decide)) (fun v D2 q => ?_)
  obtain ⟨rfl, rfl⟩ := q
  refine V_eq rfl rfl (show _ = xD32 from rfl) ?_
  refine V_aast (N := 8) dX9_init_71 (by decide) rfl (vp_in_nI (by decide) (by decide)) (by decide) rfl ?_
  refine V_eq rfl rfl (show _ = xD33 from rfl) ?_
  refine V_iinc (v := nI 7) (lv2 := [(1, .int (nI 7)), (0, .ref 0)]) dX9_init_72 0 rfl (by decide) (by decide) rfl ?_
  refine V_goto (tgt := 53) dX9_init_75 rfl ?_
  refine V_iload_n (i := 1) dX9_init_53 rfl 0 rfl ?_
  refine V_bipush (v := nI 8) dX9_init_54 rfl ?_
  refine V_icmp_ge (tgt := 78) dX9_init_56 rfl (fun q => absurd q (by decide)) (fun _ => ?_)
  refine V_aload_n (i := 0) dX9_init_59 rfl 1 rfl ?_
  refine V_getR dX9_init_60 lf_X9_28 rfl (by decide) rfl (b := 28) rfl ?_
  refine V_iload_n (i := 1) dX9_init_63 rfl 0 rfl ?_
  refine V_new dX9_init_64 ln_X9_26 (by decide) (Nat.le_of_ble_eq_true rfl) (Nat.le_of_ble_eq_true rfl) ?_
  refine V_eq (st' := [.ref 43, .int (nI 7), .ref 28]) rfl rfl (show _ = xD34 from rfl) ?_
  refine V_dup dX9_init_67 rfl ?_
  refine V_callIN (As := []) (st := [.ref 43, .int (nI 7), .ref 28]) (k2 := 44) (n2 := 622) dX9_init_68 lin_X9_32 ⟨by decide, by decide⟩ rfl (Nat.le_of_ble_eq_true rfl) (Nat.le_of_ble_eq_true rfl) (Nat.le_of_ble_eq_true rfl) (Nat.le_of_ble_eq_true rfl) (Nat.le_of_ble_eq_true rfl) (c_X7 (b := 43) (n := 44) rfl (by decide) rfl (by decide)) (fun v D2 q => ?_)
  obtain ⟨rfl, rfl⟩ := q
  refine V_eq rfl rfl (show _ = xD35 from rfl) ?_
  refine V_aast (N := 8) dX9_init_71 (by decide) rfl (vp_in_nI (by decide) (by decide)) (by decide) rfl ?_
  refine V_eq rfl rfl (show _ = xD36 from rfl) ?_
  refine V_iinc (v := nI 8) (lv2 := [(1, .int (nI 8)), (0, .ref 0)]) dX9_init_72 0 rfl (by decide) (by decide) rfl ?_
  refine V_goto (tgt := 53) dX9_init_75 rfl ?_
  refine V_iload_n (i := 1) dX9_init_53 rfl 0 rfl ?_
  refine V_bipush (v := nI 8) dX9_init_54 rfl ?_
  refine V_icmp_ge (tgt := 78) dX9_init_56 rfl (fun _ => ?_) (fun q => absurd (by decide) q)
  refine V_aload_n (i := 0) dX9_init_78 rfl 1 rfl ?_
  refine V_new dX9_init_79 ln_X9_33 (by decide) (Nat.le_of_ble_eq_true rfl) (Nat.le_of_ble_eq_true rfl) ?_
  refine V_eq (st' := [.ref 45, .ref 0]) rfl rfl (show _ = xD37 from rfl) ?_
  refine V_dup dX9_init_82 rfl ?_
  refine V_callIN (As := []) (st := [.ref 45, .ref 0]) (k2 := 46) (n2 := 876) dX9_init_83 lin_X9_35 ⟨by decide, by decide⟩ rfl (Nat.le_of_ble_eq_true rfl) (Nat.le_of_ble_eq_true rfl) (Nat.le_of_ble_eq_true rfl) (Nat.le_of_ble_eq_true rfl) (Nat.le_of_ble_eq_true rfl) (c_X8 (b := 45) (n := 46) rfl (by decide) rfl (by decide)) (fun v D2 q => ?_)
  obtain ⟨rfl, rfl⟩ := q
  refine V_eq rfl rfl (show _ = xD38 from rfl) ?_
  refine V_putR dX9_init_86 lf_X9_36 (fun _ => rfl) rfl (by decide) rfl (fun _ => ⟨rfl, rfl⟩) ?_
  refine V_eq rfl rfl (show _ = xD39 from rfl) ?_
  refine V_aload_n (i := 0) dX9_init_89 rfl 1 rfl ?_
  refine V_new dX9_init_90 ln_X9_40 (by decide) (Nat.le_of_ble_eq_true rfl) (Nat.le_of_ble_eq_true rfl) ?_
  refine V_eq (st' := [.ref 47, .ref 0]) rfl rfl (show _ = xD40 from rfl) ?_
  refine V_dup dX9_init_93 rfl ?_
  refine V_callIN (As := []) (st := [.ref 47, .ref 0]) (k2 := 48) (n2 := 887) dX9_init_94 lin_X9_42 ⟨by decide, by decide⟩ rfl (Nat.le_of_ble_eq_true rfl) (Nat.le_of_ble_eq_true rfl) (Nat.le_of_ble_eq_true rfl) (Nat.le_of_ble_eq_true rfl) (Nat.le_of_ble_eq_true rfl) (c_X2 (b := 47) (n := 48) rfl (by decide) rfl (by decide)) (fun v D2 q => ?_)
  obtain ⟨rfl, rfl⟩ := q
  refine V_eq rfl rfl (show _ = xD41 from rfl) ?_
  refine V_putR dX9_init_97 lf_X9_43 (fun _ => rfl) rfl (by decide) rfl (fun _ => ⟨rfl, rfl⟩) ?_
  refine V_eq rfl rfl (show _ = xD42 from rfl) ?_
  refine V_aload_n (i := 0) dX9_init_100 rfl 1 rfl ?_
  refine V_new dX9_init_101 ln_X9_47 (by decide) (Nat.le_of_ble_eq_true rfl) (Nat.le_of_ble_eq_true rfl) ?_
  refine V_eq (st' := [.ref 49, .ref 0]) rfl rfl (show _ = xD43 from rfl) ?_
  refine V_dup dX9_init_104 rfl ?_
  refine V_callIN (As := []) (st := [.ref 49, .ref 0]) (k2 := 53) (n2 := 928) dX9_init_105 lin_X9_49 ⟨by decide, by decide⟩ rfl (Nat.le_of_ble_eq_true rfl) (Nat.le_of_ble_eq_true rfl) (Nat.le_of_ble_eq_true rfl) (Nat.le_of_ble_eq_true rfl) (Nat.le_of_ble_eq_true rfl) (c_X1 (b := 49) (n := 50) rfl (by decide) rfl (by decide)) (fun v D2 q => ?_)
  obtain ⟨rfl, rfl⟩ := q
  refine V_eq rfl rfl (show _ = xD44 from rfl) ?_
  refine V_putR dX9_init_108 lf_X9_50 (fun _ => rfl) rfl (by decide) rfl (fun _ => ⟨rfl, rfl⟩) ?_
  refine V_eq rfl rfl (show _ = xD45 from rfl) ?_
  refine V_aload_n (i := 0) dX9_init_111 rfl 1 rfl ?_
  refine V_new dX9_init_112 ln_X9_54 (by decide) (Nat.le_of_ble_eq_true rfl) (Nat.le_of_ble_eq_true rfl) ?_
  refine V_eq (st' := [.ref 54, .ref 0]) rfl rfl (show _ = xD46 from rfl) ?_
  refine V_dup dX9_init_115 rfl ?_
  refine V_callIN (As := []) (st := [.ref 54, .ref 0]) (k2 := 55) (n2 := 941) dX9_init_116 lin_X9_56 ⟨by decide, by decide⟩ rfl (Nat.le_of_ble_eq_true rfl) (Nat.le_of_ble_eq_true rfl) (Nat.le_of_ble_eq_true rfl) (Nat.le_of_ble_eq_true rfl) (Nat.le_of_ble_eq_true rfl) (c_X4 (b := 54) (n := 55) rfl (by decide) rfl (by decide)) (fun v D2 q => ?_)
  obtain ⟨rfl, rfl⟩ := q
  refine V_eq rfl rfl (show _ = xD47 from rfl) ?_
  refine V_putR dX9_init_119 lf_X9_57 (fun _ => rfl) rfl (by decide) rfl (fun _ => ⟨rfl, rfl⟩) ?_
  refine V_eq rfl rfl (show _ = xD48 from rfl) ?_
  refine V_aload_n (i := 0) dX9_init_122 rfl 1 rfl ?_
  refine V_iconst (v := nI 5) dX9_init_123 rfl ?_
  refine V_newI (N := 5) dX9_init_124 mw_92 (by decide) rfl (by decide) (by decide) (Nat.le_of_ble_eq_true rfl) (Nat.le_of_ble_eq_true rfl) ?_
  refine V_eq (st' := [.ref 56, .ref 0]) rfl rfl (show _ = xD49 from rfl) ?_
  refine V_putR dX9_init_126 lf_X9_61 (fun _ => rfl) rfl (by decide) rfl (fun _ => ⟨rfl, rfl⟩) ?_
  refine V_eq rfl rfl (show _ = xD50 from rfl) ?_
  refine V_vret dX9_init_129 ⟨rfl, rfl⟩ (Nat.le_of_ble_eq_true rfl) (Nat.le_of_ble_eq_true rfl) ?_
  subst hQ
  exact ⟨rfl, rfl⟩
/-- a new camp; a new object -/
def V00 : Cv := ((0, 0, 0), (fun _ => 0), (fun _ _ => 0), (fun _ => (0, 0)), (fun _ => (0, 0)), (fun _ => (0, 0)), (600, 20, 1))
def T00 : Sv := (-1, 0, fun _ => lN 0)
def X00 : Xs := (V00, none, (fun _ => T00), (0, fun _ => 0), fun _ => 0)
theorem V00_ok : VOK V00 := ⟨⟨by decide, by decide, by decide⟩, fun c hc => absurd hc (Nat.not_lt_zero _), fun c hc => absurd hc (Nat.not_lt_zero _), fun c hc => absurd hc (Nat.not_lt_zero _), by decide, by decide⟩
abbrev SL : St := (xD50.1, xD50.2.1)
set_option maxRecDepth 20000 in
theorem xL_is : IsX SL := by
  unfold IsX IsCamp IsTape IsHear IsCrowd IsLike IsShelf KD
  repeat' apply And.intro
  all_goals decide +kernel
set_option maxRecDepth 20000 in
theorem xL_cx : CX xD50.2.2.1 xD50.2.2.2 X00 := by
  refine ⟨⟨V00_ok, ?_, fun c hc => absurd hc (Nat.not_lt_zero _), fun c hc => absurd hc (Nat.not_lt_zero _), fun c hc => absurd hc (Nat.not_lt_zero _)⟩, ?_, fun K hK => (by cases hK), ?_, ⟨0, 0, ⟨⟨by decide, fun i hi => absurd hi (Nat.not_lt_zero _)⟩, ?_, fun i hi => absurd hi (Nat.not_lt_zero _)⟩, ⟨Nat.le_refl _, Nat.le_refl _⟩, ?_, ?_⟩, ?_, fun s hs q => absurd (show (10 : Int) ≤ (-1 : Int32).toInt from q) (by decide)⟩
  · decide +kernel
  · decide +kernel
  · intro s hs
    refine ⟨⟨Nat.zero_le _, Or.inl (show (-1 : Int32).toInt = -1 from by decide), fun _ => rfl⟩, ?_, ?_, ?_⟩
    · have : ∀ s, s < 8 → xD50.2.2.1 (29 + 2 * s) 1 = T00.1 := by decide +kernel
      exact this s hs
    · have : ∀ s, s < 8 → xD50.2.2.1 (29 + 2 * s) 2 = nI 0 := by decide +kernel
      exact this s hs
    · have : ∀ s, s < 8 → ∀ i, i < 40 → xD50.2.2.2 (29 + 2 * s + 1) i = lN 0 := by decide +kernel
      exact this s hs
  · decide +kernel
  · decide +kernel
  · decide +kernel
  · have : ∀ j, j < 5 → xD50.2.2.1 56 j = 0 := by decide +kernel
    exact this
theorem xL_n : xD50.1.1 = 57 := by decide +kernel

theorem m_new {D : Dt} {b : Nat} (hn : D.1.1 = b + 1) (hk : D.1.2 b = (0, 7)) (hz : D.2.1 b = fun _ => none) : IsMod ((iD (inX10 D b) b (b + 1) lsX10).1, (iD (inX10 D b) b (b + 1) lsX10).2.1) b := by
  have hb : b < b + 1 := Nat.lt_succ_self b
  have hlen : lsX10.length = 41 := rfl
  have kd : ∀ i kd, i < 41 → kdO lsX10 i = kd → KD ((iD (inX10 D b) b (b + 1) lsX10).1, (iD (inX10 D b) b (b + 1) lsX10).2.1) (b + (i + 1)) kd := fun i kd hi h => ⟨by show b + (i + 1) < b + 1 + lsX10.length; rw [hlen]; omega, by show (iD (inX10 D b) b (b + 1) lsX10).1.2 (b + (i + 1)) = kd; rw [show b + (i + 1) = b + 1 + i by omega]; exact (iD_ki (D := inX10 D b) (b := b) (by rw [hlen]; exact hi)).trans h⟩
  have rf : ∀ k i, rfO lsX10 k = some i → (iD (inX10 D b) b (b + 1) lsX10).2.1 b k = some (b + (i + 1)) := fun k i h => (iD_rf h).trans (congrArg some (by omega))
  have rr : ∀ i k N, i < 41 → (kdO lsX10 i = (5, N) ∨ kdO lsX10 i = (4, N)) → k < N → (iD (inX10 D b) b (b + 1) lsX10).2.1 (b + (i + 1)) k = some (b + (i + 2) + k) := fun i k N hi h hN => by
    rw [show b + (i + 1) = b + 1 + i by omega, iD_ri hb (by rw [hlen]; exact hi)]
    unfold innO
    rcases h with h | h
    · rw [h, if_pos ⟨Or.inr rfl, hN⟩]; exact congrArg some (by omega)
    · rw [h, if_pos ⟨Or.inl rfl, hN⟩]; exact congrArg some (by omega)
  refine ⟨⟨by show b < b + 1 + lsX10.length; omega, iD_kb0 hb hk⟩, ⟨rf 0 0 rfl, kd 0 _ (by decide) rfl⟩, ⟨rf 1 1 rfl, kd 1 _ (by decide) rfl⟩, ⟨rf 2 2 rfl, kd 2 _ (by decide) rfl⟩, ⟨rf 3 3 rfl, kd 3 _ (by decide) rfl⟩, ⟨rf 4 12 rfl, kd 12 _ (by decide) rfl⟩, ⟨rf 5 13 rfl, kd 13 _ (by decide) rfl⟩, ⟨rf 6 14 rfl, kd 14 _ (by decide) rfl⟩, ⟨rf 8 15 rfl, kd 15 _ (by decide) rfl⟩, ⟨rf 10 16 rfl, kd 16 _ (by decide) rfl⟩, ⟨rf 11 29 rfl, kd 29 _ (by decide) rfl⟩, ⟨rf 12 30 rfl, kd 30 _ (by decide) rfl⟩, ⟨rf 13 31 rfl, kd 31 _ (by decide) rfl⟩, ⟨rf 15 32 rfl, kd 32 _ (by decide) rfl⟩, ⟨rf 16 33 rfl, kd 33 _ (by decide) rfl⟩, ⟨rf 18 34 rfl, kd 34 _ (by decide) rfl⟩, ⟨rf 19 35 rfl, kd 35 _ (by decide) rfl⟩, ⟨rf 30 36 rfl, kd 36 _ (by decide) rfl⟩, ⟨rf 32 37 rfl, kd 37 _ (by decide) rfl⟩, ⟨rf 35 38 rfl, kd 38 _ (by decide) rfl⟩, ⟨rf 36 39 rfl, kd 39 _ (by decide) rfl⟩, ⟨rf 37 40 rfl, kd 40 _ (by decide) rfl⟩, fun s hs => ⟨?_, ?_⟩, fun c hc => ⟨?_, ?_⟩⟩
  · exact rr 3 s 8 (by decide) (Or.inl rfl) hs
  · rw [show b + 5 + s = b + ((s + 4) + 1) by omega]; exact kd (s + 4) _ (by omega) ((by decide +kernel : ∀ s, s < 8 → kdO lsX10 (s + 4) = (2, 40)) s hs)
  · exact rr 16 c 12 (by decide) (Or.inr rfl) hc
  · rw [show b + 18 + c = b + ((c + 17) + 1) by omega]; exact kd (c + 17) _ (by omega) ((by decide +kernel : ∀ s, s < 12 → kdO lsX10 (s + 17) = (1, 8)) c hc)
