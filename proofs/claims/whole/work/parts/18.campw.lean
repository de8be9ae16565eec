/-! what changes a camp -/
def v_addC (V : Cv) (u k : Nat) : Cv := ((V.1.1 + 1, V.1.2), (fun c => if c = V.1.1 then 0 else V.2.1 c), V.2.2.1, (fun c => if c = V.1.1 then (u, k) else V.2.2.2.1 c), V.2.2.2.2)
def v_addN (V : Cv) (t : Nat) : Cv := (V.1, (fun c => if c + 1 = V.1.1 then V.2.1 c + 1 else V.2.1 c), (fun c i => if c + 1 = V.1.1 ∧ i = V.2.1 c then t else V.2.2.1 c i), V.2.2.2)
def v_setU (V : Cv) (d u : Nat) : Cv := (V.1, V.2.1, V.2.2.1, (fun c => if c = d then (u, (V.2.2.2.1 c).2) else V.2.2.2.1 c), V.2.2.2.2)
def v_setK (V : Cv) (d k : Nat) : Cv := (V.1, V.2.1, V.2.2.1, (fun c => if c = d then ((V.2.2.2.1 c).1, k) else V.2.2.2.1 c), V.2.2.2.2)
def v_addE (V : Cv) (k a : Nat) : Cv := ((V.1.1, V.1.2.1 + 1, V.1.2.2), V.2.1, V.2.2.1, V.2.2.2.1, (fun e => if e = V.1.2.1 then (k, a) else V.2.2.2.2.1 e), V.2.2.2.2.2)
def v_addM (V : Cv) (e l : Nat) : Cv := ((V.1.1, V.1.2.1, V.1.2.2 + 1), V.2.1, V.2.2.1, V.2.2.2.1, V.2.2.2.2.1, (fun m => if m = V.1.2.2 then (e, l) else V.2.2.2.2.2.1 m), V.2.2.2.2.2.2)
def v_drop (V : Cv) : Cv := ((V.1.1 - 1, V.1.2), V.2)
def v_setS (V : Cv) (s : Nat) : Cv := (V.1, V.2.1, V.2.2.1, V.2.2.2.1, V.2.2.2.2.1, V.2.2.2.2.2.1, (s, V.2.2.2.2.2.2.2))
def v_setL (V : Cv) (l : Nat) : Cv := (V.1, V.2.1, V.2.2.1, V.2.2.2.1, V.2.2.2.2.1, V.2.2.2.2.2.1, (V.2.2.2.2.2.2.1, l, V.2.2.2.2.2.2.2.2))
def v_setD (V : Cv) (d : Int32) : Cv := (V.1, V.2.1, V.2.2.1, V.2.2.2.1, V.2.2.2.2.1, V.2.2.2.2.2.1, (V.2.2.2.2.2.2.1, V.2.2.2.2.2.2.2.1, d))
theorem ite_fst {p : Prop} [Decidable p] {a b : Nat × Nat} : (if p then a else b).1 = if p then a.1 else b.1 := by split <;> rfl
theorem ite_snd {p : Prop} [Decidable p] {a b : Nat × Nat} : (if p then a else b).2 = if p then a.2 else b.2 := by split <;> rfl
theorem pkTo_congr {f f2 : Nat → Nat} : ∀ n, (∀ i, i < n → f i = f2 i) → pkTo f n = pkTo f2 n
  | 0, _ => rfl
  | n + 1, h => by
    show pkTo f n + (f n + 1) * 8 ^ n = pkTo f2 n + (f2 n + 1) * 8 ^ n
    rw [pkTo_congr n (fun i hi => h i (by omega)), h n (by omega)]
theorem xc_addC {iv : IV} {b : Nat} {V : Cv} {u k : Nat} (h : XC iv b V) (hn : v_nc V < 12) (hu : 1 ≤ u ∧ u ≤ 99) (hk : k ≤ 99) : XC (up2 (up2 (up2 (up2 (up2 iv (b + 1) (v_nc V) (nI 0)) (b + 2) (v_nc V) (nI 0)) (b + 3) (v_nc V) (nI u)) (b + 4) (v_nc V) (nI k)) b 8 (nI (v_nc V + 1))) b (v_addC V u k) := by
  obtain ⟨⟨⟨a1, a2, a3⟩, a4, a5, a6, a7⟩, ⟨b1, b2, b3, b4, b5, b6⟩, c1, d1, e1⟩ := h
  refine ⟨⟨⟨hn, a2, a3⟩, fun c hc => ?_, a5, a6, a7⟩, ⟨?_, ?_, ?_, ?_, ?_, ?_⟩, fun c hc => ?_, fun e he => ?_, fun m hm => ?_⟩
  · have hc : c < v_nc V + 1 := hc
    by_cases e : c = v_nc V
    · subst e
      simp [v_sz, v_us, v_co, v_addC, v_nc, hu, hk]
    · have := a4 c (by omega)
      have e' : ¬ c = V.1.1 := e
      simp only [v_sz, v_nt, v_us, v_co, v_addC, if_neg e'] at this ⊢
      exact this
  · simp [up2, v_addC, v_nc]
  · simp [up2]; exact b2
  · simp [up2]; exact b3
  · simp [up2]; exact b4
  · simp [up2]; exact b5
  · simp [up2]; exact b6
  · have hc : c < v_nc V + 1 := hc
    by_cases e : c = v_nc V
    · subst e
      simp [up2, v_sz, v_us, v_co, v_addC, v_nc, v_pk, pkTo]
    · have := c1 c (by omega)
      have e' : ¬ c = V.1.1 := e
      simp only [v_sz, v_nt, v_us, v_co, v_pk, v_addC, if_neg e'] at this ⊢
      simp [up2, e]
      exact this
  · have := d1 e he
    simp [up2]
    exact this
  · have := e1 m hm
    simp [up2]
    exact this
theorem xc_addN {iv : IV} {b : Nat} {V : Cv} {t : Nat} (h : XC iv b V) (hn : 0 < v_nc V) (hs : v_sz V (v_nc V - 1) < 8) (ht : t ≤ 4) : XC (up2 (up2 iv (b + 2) (v_nc V - 1) (nI (v_pk V (v_nc V - 1) + (t + 1) * 8 ^ v_sz V (v_nc V - 1)))) (b + 1) (v_nc V - 1) (nI (v_sz V (v_nc V - 1) + 1))) b (v_addN V t) := by
  obtain ⟨⟨⟨a1, a2, a3⟩, a4, a5, a6, a7⟩, ⟨b1, b2, b3, b4, b5, b6⟩, c1, d1, e1⟩ := h
  refine ⟨⟨⟨a1, a2, a3⟩, fun c hc => ?_, a5, a6, a7⟩, ⟨?_, ?_, ?_, ?_, ?_, ?_⟩, fun c hc => ?_, fun e he => ?_, fun m hm => ?_⟩
  · have hc : c < v_nc V := hc
    obtain ⟨q1, q2, q3⟩ := a4 c hc
    by_cases e : c + 1 = v_nc V
    · have e' : c + 1 = V.1.1 := e
      have e2 : v_nc V - 1 = c := by omega
      rw [e2] at hs
      refine ⟨?_, fun i hi => ?_, q3⟩
      · show (if c + 1 = V.1.1 then v_sz V c + 1 else v_sz V c) ≤ 8
        rw [if_pos e']; omega
      · have hi : i < (if c + 1 = V.1.1 then v_sz V c + 1 else v_sz V c) := hi
        rw [if_pos e'] at hi
        show (if c + 1 = V.1.1 ∧ i = V.2.1 c then t else v_nt V c i) ≤ 4
        by_cases e3 : i = v_sz V c
        · rw [if_pos ⟨e', e3⟩]; exact ht
        · rw [if_neg (fun q => e3 q.2)]; exact q2 i (by omega)
    · have e' : ¬ c + 1 = V.1.1 := e
      refine ⟨?_, fun i hi => ?_, q3⟩
      · show (if c + 1 = V.1.1 then v_sz V c + 1 else v_sz V c) ≤ 8
        rw [if_neg e']; exact q1
      · have hi : i < (if c + 1 = V.1.1 then v_sz V c + 1 else v_sz V c) := hi
        rw [if_neg e'] at hi
        show (if c + 1 = V.1.1 ∧ i = V.2.1 c then t else v_nt V c i) ≤ 4
        rw [if_neg (fun q => e' q.1)]; exact q2 i hi
  · simp [up2]; exact b1
  · simp [up2]; exact b2
  · simp [up2]; exact b3
  · simp [up2]; exact b4
  · simp [up2]; exact b5
  · simp [up2]; exact b6
  · have hc : c < v_nc V := hc
    obtain ⟨q1, q2, q3, q4⟩ := c1 c hc
    by_cases e : c + 1 = v_nc V
    · have e' : c + 1 = V.1.1 := e
      have e2 : v_nc V - 1 = c := by omega
      rw [e2]
      have s1 : v_sz (v_addN V t) c = v_sz V c + 1 := if_pos e'
      have s2 : v_pk (v_addN V t) c = v_pk V c + (t + 1) * 8 ^ v_sz V c := by
        unfold v_pk
        rw [s1]
        show pkTo _ _ + (v_nt (v_addN V t) c (v_sz V c) + 1) * 8 ^ v_sz V c = _
        have s3 : v_nt (v_addN V t) c (v_sz V c) = t := if_pos ⟨e', rfl⟩
        rw [s3]
        congr 1
        exact pkTo_congr _ (fun i hi => if_neg (fun q => by have : i = v_sz V c := q.2; omega))
      rw [s1, s2]
      simp [up2]
      exact ⟨q3, q4⟩
    · have e' : ¬ c + 1 = V.1.1 := e
      have e2 : ¬ c = v_nc V - 1 := by omega
      have s1 : v_sz (v_addN V t) c = v_sz V c := if_neg e'
      have s2 : v_pk (v_addN V t) c = v_pk V c := by
        unfold v_pk
        rw [s1]
        exact pkTo_congr _ (fun i hi => if_neg (fun q => e' q.1))
      rw [s1, s2]
      simp [up2, e2]
      exact ⟨q1, q2, q3, q4⟩
  · have := d1 e he
    simp [up2]
    exact this
  · have := e1 m hm
    simp [up2]
    exact this
theorem xc_set {iv iv2 : IV} {b : Nat} {V V2 : Cv} (h : XC iv b V) (hk : VOK V2) (h0 : V2.1 = V.1) (h1 : V2.2.1 = V.2.1) (h2 : V2.2.2.1 = V.2.2.1) (h3 : V2.2.2.2.2.1 = V.2.2.2.2.1) (h4 : V2.2.2.2.2.2.1 = V.2.2.2.2.2.1) (i0 : iv2 b 8 = iv b 8 ∧ iv2 b 9 = iv b 9 ∧ iv2 b 10 = iv b 10) (i1 : iv2 b 11 = nI (v_su V2) ∧ iv2 b 12 = nI (v_lo V2) ∧ iv2 b 13 = v_se V2)
    (i2 : ∀ c, c < v_nc V → iv2 (b + 1) c = iv (b + 1) c ∧ iv2 (b + 2) c = iv (b + 2) c ∧ iv2 (b + 3) c = nI (v_us V2 c) ∧ iv2 (b + 4) c = nI (v_co V2 c)) (i3 : ∀ a, b + 5 ≤ a → a ≤ b + 8 → iv2 a = iv a) : XC iv2 b V2 := by
  obtain ⟨-, ⟨b1, b2, b3, b4, b5, b6⟩, c1, d1, e1⟩ := h
  have n0 : v_nc V2 = v_nc V := by unfold v_nc; rw [h0]
  have n1 : v_ne V2 = v_ne V := by unfold v_ne; rw [h0]
  have n2 : v_nm V2 = v_nm V := by unfold v_nm; rw [h0]
  have n3 : ∀ c, v_sz V2 c = v_sz V c := fun c => by unfold v_sz; rw [h1]
  have n4 : ∀ c, v_pk V2 c = v_pk V c := fun c => by unfold v_pk v_nt v_sz; rw [h1, h2]
  have n5 : ∀ e, v_kd V2 e = v_kd V e := fun e => by unfold v_kd; rw [h3]
  have n6 : ∀ e, v_by V2 e = v_by V e := fun e => by unfold v_by; rw [h3]
  have n7 : ∀ m, v_eo V2 m = v_eo V m := fun e => by unfold v_eo; rw [h4]
  have n8 : ∀ m, v_lk V2 m = v_lk V m := fun e => by unfold v_lk; rw [h4]
  refine ⟨hk, ⟨by rw [n0, i0.1, b1], by rw [n1, i0.2.1, b2], by rw [n2, i0.2.2, b3], i1⟩, fun c hc => ?_, fun e he => ?_, fun m hm => ?_⟩
  · rw [n0] at hc
    obtain ⟨q1, q2, q3, q4⟩ := c1 c hc
    obtain ⟨p1, p2, p3, p4⟩ := i2 c hc
    rw [n3, n4, p1, p2]
    exact ⟨q1, q2, p3, p4⟩
  · rw [n1] at he
    rw [n5, n6, i3 _ (by omega) (by omega), i3 _ (by omega) (by omega)]
    exact d1 e he
  · rw [n2] at hm
    rw [n7, n8, i3 _ (by omega) (by omega), i3 _ (by omega) (by omega)]
    exact e1 m hm
theorem xc_setU {iv : IV} {b : Nat} {V : Cv} {d u : Nat} (h : XC iv b V) (hu : 1 ≤ u ∧ u ≤ 99) : XC (up2 iv (b + 3) d (nI u)) b (v_setU V d u) := by
  refine xc_set h ⟨h.1.1, fun c hc => ?_, h.1.2.2⟩ rfl rfl rfl rfl rfl (by simp [up2]) ?_ (fun c hc => ?_) (fun a h1 h2 => up2_a (by omega))
  · obtain ⟨q1, q2, q3, q4⟩ := h.1.2.1 c hc
    refine ⟨q1, q2, ?_, ?_⟩
    · show 1 ≤ (if c = d then (u, (V.2.2.2.1 c).2) else V.2.2.2.1 c).1 ∧ (if c = d then (u, (V.2.2.2.1 c).2) else V.2.2.2.1 c).1 ≤ 99
      split
      · exact hu
      · exact q3
    · show (if c = d then (u, (V.2.2.2.1 c).2) else V.2.2.2.1 c).2 ≤ 99
      split <;> exact q4
  · simp [up2]; exact ⟨h.su, h.lo, h.se⟩
  · obtain ⟨q1, q2, q3, q4⟩ := h.2.2.1 c hc
    simp [up2]
    refine ⟨?_, ?_⟩
    · show _ = nI (if c = d then (u, (V.2.2.2.1 c).2) else V.2.2.2.1 c).1
      split
      · rfl
      · exact q3
    · show _ = nI (if c = d then (u, (V.2.2.2.1 c).2) else V.2.2.2.1 c).2
      split <;> exact q4
theorem xc_setK {iv : IV} {b : Nat} {V : Cv} {d u : Nat} (h : XC iv b V) (hu : u ≤ 99) : XC (up2 iv (b + 4) d (nI u)) b (v_setK V d u) := by
  refine xc_set h ⟨h.1.1, fun c hc => ?_, h.1.2.2⟩ rfl rfl rfl rfl rfl (by simp [up2]) ?_ (fun c hc => ?_) (fun a h1 h2 => up2_a (by omega))
  · obtain ⟨q1, q2, q3, q4⟩ := h.1.2.1 c hc
    refine ⟨q1, q2, ?_, ?_⟩
    · show 1 ≤ (if c = d then ((V.2.2.2.1 c).1, u) else V.2.2.2.1 c).1 ∧ (if c = d then ((V.2.2.2.1 c).1, u) else V.2.2.2.1 c).1 ≤ 99
      split <;> exact q3
    · show (if c = d then ((V.2.2.2.1 c).1, u) else V.2.2.2.1 c).2 ≤ 99
      split
      · exact hu
      · exact q4
  · simp [up2]; exact ⟨h.su, h.lo, h.se⟩
  · obtain ⟨q1, q2, q3, q4⟩ := h.2.2.1 c hc
    simp [up2]
    refine ⟨?_, ?_⟩
    · show _ = nI (if c = d then ((V.2.2.2.1 c).1, u) else V.2.2.2.1 c).1
      split <;> exact q3
    · show _ = nI (if c = d then ((V.2.2.2.1 c).1, u) else V.2.2.2.1 c).2
      split
      · rfl
      · exact q4
theorem xc_setS {iv : IV} {b : Nat} {V : Cv} {s : Nat} (h : XC iv b V) (hs : s ≤ 1000) : XC (up2 iv b 11 (nI s)) b (v_setS V s) := by
  refine xc_set h ⟨h.1.1, h.1.2.1, h.1.2.2.1, h.1.2.2.2.1, hs, h.1.2.2.2.2.2⟩ rfl rfl rfl rfl rfl (by simp [up2]) ?_ (fun c hc => ?_) (fun a h1 h2 => up2_a (by omega))
  · simp [up2]; exact ⟨rfl, h.lo, h.se⟩
  · simp [up2]; exact ⟨h.us hc, h.co hc⟩
theorem xc_setL {iv : IV} {b : Nat} {V : Cv} {s : Nat} (h : XC iv b V) (hs : s ≤ 100) : XC (up2 iv b 12 (nI s)) b (v_setL V s) := by
  refine xc_set h ⟨h.1.1, h.1.2.1, h.1.2.2.1, h.1.2.2.2.1, h.1.2.2.2.2.1, hs⟩ rfl rfl rfl rfl rfl (by simp [up2]) ?_ (fun c hc => ?_) (fun a h1 h2 => up2_a (by omega))
  · simp [up2]; exact ⟨h.su, rfl, h.se⟩
  · simp [up2]; exact ⟨h.us hc, h.co hc⟩
theorem xc_setD {iv : IV} {b : Nat} {V : Cv} {s : Int32} (h : XC iv b V) : XC (up2 iv b 13 s) b (v_setD V s) := by
  refine xc_set h h.1 rfl rfl rfl rfl rfl (by simp [up2]) ?_ (fun c hc => ?_) (fun a h1 h2 => up2_a (by omega))
  · simp [up2]; exact ⟨h.su, h.lo, rfl⟩
  · simp [up2]; exact ⟨h.us hc, h.co hc⟩
theorem xc_drop {iv : IV} {b : Nat} {V : Cv} (h : XC iv b V) (hn : 0 < v_nc V) : XC (up2 iv b 8 (nI (v_nc V - 1))) b (v_drop V) := by
  obtain ⟨⟨⟨a1, a2, a3⟩, a4, a5, a6, a7⟩, ⟨b1, b2, b3, b4, b5, b6⟩, c1, d1, e1⟩ := h
  refine ⟨⟨⟨by show v_nc V - 1 ≤ 12; omega, a2, a3⟩, fun c hc => a4 c (by have : c < v_nc V - 1 := hc; omega), a5, a6, a7⟩, ⟨?_, ?_, ?_, ?_, ?_, ?_⟩, fun c hc => ?_, fun e he => ?_, fun m hm => ?_⟩
  · simp [up2]; rfl
  · simp [up2]; exact b2
  · simp [up2]; exact b3
  · simp [up2]; exact b4
  · simp [up2]; exact b5
  · simp [up2]; exact b6
  · have := c1 c (by have : c < v_nc V - 1 := hc; omega)
    simp [up2]; exact this
  · have := d1 e he
    simp [up2]; exact this
  · have := e1 m hm
    simp [up2]; exact this
theorem xc_addE {iv : IV} {b : Nat} {V : Cv} {k a : Nat} (h : XC iv b V) (hn : v_ne V < 6) (hk : k ≤ 5) (ha : a ≤ 9) : XC (up2 (up2 (up2 iv (b + 5) (v_ne V) (nI k)) (b + 6) (v_ne V) (nI a)) b 9 (nI (v_ne V + 1))) b (v_addE V k a) := by
  obtain ⟨⟨⟨a1, a2, a3⟩, a4, a5, a6, a7⟩, ⟨b1, b2, b3, b4, b5, b6⟩, c1, d1, e1⟩ := h
  refine ⟨⟨⟨a1, hn, a3⟩, a4, fun e he => ?_, fun m hm => ⟨by have := (a6 m hm).1; show v_eo V m < v_ne V + 1; omega, (a6 m hm).2⟩, a7⟩, ⟨?_, ?_, ?_, ?_, ?_, ?_⟩, fun c hc => ?_, fun e he => ?_, fun m hm => ?_⟩
  · have he : e < v_ne V + 1 := he
    show (if e = V.1.2.1 then (k, a) else V.2.2.2.2.1 e).1 ≤ 5 ∧ (if e = V.1.2.1 then (k, a) else V.2.2.2.2.1 e).2 ≤ 9
    split
    · exact ⟨hk, ha⟩
    · rename_i q
      exact a5 e (by have q : ¬ e = v_ne V := q; omega)
  · simp [up2]; exact b1
  · simp [up2]; rfl
  · simp [up2]; exact b3
  · simp [up2]; exact b4
  · simp [up2]; exact b5
  · simp [up2]; exact b6
  · have := c1 c hc
    simp [up2]; exact this
  · have he : e < v_ne V + 1 := he
    show _ = nI (if e = V.1.2.1 then (k, a) else V.2.2.2.2.1 e).1 ∧ _ = nI (if e = V.1.2.1 then (k, a) else V.2.2.2.2.1 e).2
    by_cases q : e = v_ne V
    · have q' : e = V.1.2.1 := q
      rw [if_pos q']
      subst q
      simp [up2]
    · have q' : ¬ e = V.1.2.1 := q
      rw [if_neg q']
      simp [up2, q]
      exact d1 e (by omega)
  · have := e1 m hm
    simp [up2]; exact this
theorem xc_addM {iv : IV} {b : Nat} {V : Cv} {k a : Nat} (h : XC iv b V) (hn : v_nm V < 8) (hk : k < v_ne V) (ha : a ≤ 1) : XC (up2 (up2 (up2 iv (b + 7) (v_nm V) (nI k)) (b + 8) (v_nm V) (nI a)) b 10 (nI (v_nm V + 1))) b (v_addM V k a) := by
  obtain ⟨⟨⟨a1, a2, a3⟩, a4, a5, a6, a7⟩, ⟨b1, b2, b3, b4, b5, b6⟩, c1, d1, e1⟩ := h
  refine ⟨⟨⟨a1, a2, hn⟩, a4, a5, fun m hm => ?_, a7⟩, ⟨?_, ?_, ?_, ?_, ?_, ?_⟩, fun c hc => ?_, fun e he => ?_, fun m hm => ?_⟩
  · have hm : m < v_nm V + 1 := hm
    show (if m = V.1.2.2 then (k, a) else V.2.2.2.2.2.1 m).1 < v_ne V ∧ (if m = V.1.2.2 then (k, a) else V.2.2.2.2.2.1 m).2 ≤ 1
    split
    · exact ⟨hk, ha⟩
    · rename_i q
      exact a6 m (by have q : ¬ m = v_nm V := q; omega)
  · simp [up2]; exact b1
  · simp [up2]; exact b2
  · simp [up2]; rfl
  · simp [up2]; exact b4
  · simp [up2]; exact b5
  · simp [up2]; exact b6
  · have := c1 c hc
    simp [up2]; exact this
  · have := d1 e he
    simp [up2]; exact this
  · have hm : m < v_nm V + 1 := hm
    show _ = nI (if m = V.1.2.2 then (k, a) else V.2.2.2.2.2.1 m).1 ∧ _ = nI (if m = V.1.2.2 then (k, a) else V.2.2.2.2.2.1 m).2
    by_cases q : m = v_nm V
    · have q' : m = V.1.2.2 := q
      rw [if_pos q']
      subst q
      simp [up2]
    · have q' : ¬ m = V.1.2.2 := q
      rw [if_neg q']
      simp [up2, q]
      exact e1 m (by omega)
