/-! the reference: shelves, what changes the camp -/
def nrW (X : Xs) (s : Int32) : Option Nat := if ¬ inR s 8 then some 0 else if rowQ (x_T X (iN s)) then none else some (whyJ (x_T X (iN s)))
theorem nr_none {X : Xs} {s : Int32} (h : nrW X s = none) : inR s 8 ∧ rowQ (x_T X (iN s)) := by
  unfold nrW at h
  split at h
  · cases h
  · rename_i q
    split at h
    · rename_i q2; exact ⟨Decidable.not_not.mp q, q2⟩
    · cases h
theorem nr_some {X : Xs} {s : Int32} {k : Nat} (h : nrW X s = some k) : (¬ inR s 8 ∧ k = 0) ∨ (inR s 8 ∧ ¬ rowQ (x_T X (iN s)) ∧ k = whyJ (x_T X (iN s))) := by
  unfold nrW at h
  split at h
  · rename_i q; cases h; exact Or.inl ⟨q, rfl⟩
  · rename_i q
    split at h
    · cases h
    · rename_i q2; cases h; exact Or.inr ⟨Decidable.not_not.mp q, q2, rfl⟩
theorem MP.nr {S : St} {b : Nat} {iv iv2 : IV} {lw : LW} {X : Xs} {s : Int32} {k : Nat} {r : Ans} (h : nrW X s = some k) (h1 : ¬ inR s 8 → r = rfA X 0) (h2 : inR s 8 → ¬ rowQ (x_T X (iN s)) → r = rfA X (whyJ (x_T X (iN s)))) (hX : MX S iv2 lw b (x_rf X k)) (hO : Off b 42 iv iv2) : MP S b iv lw r (.int (thA (nrW X s))) iv2 lw := by
  have hr : r = rfA X k := by
    rcases nr_some h with ⟨q1, q2⟩ | ⟨q1, q2, q3⟩
    · rw [q2]; exact h1 q1
    · rw [q3]; exact h2 q1 q2
  rw [h, hr]
  exact ⟨rfl, hX, hO, Off.rf⟩
def NR (S : St) (b : Nat) (iv : IV) (X : Xs) (o : Option Nat) (w : Value) (iv2 : IV) (lw : LW) : Prop := w = .int (thA o) ∧ (o = none → iv2 = iv) ∧ (∀ k, o = some k → MX S iv2 lw b (x_rf X k)) ∧ Off b 42 iv iv2
theorem NR.no {S : St} {b : Nat} {iv iv2 : IV} {X : Xs} {o : Option Nat} {lw : LW} {j : Nat} (h : o = some j) (h2 : MX S iv2 lw b (x_rf X j)) (h3 : Off b 42 iv iv2) : NR S b iv X o (.int (wy j)) iv2 lw := by
  subst h
  exact ⟨rfl, fun z => (by cases z), fun k z => (by cases z; exact h2), h3⟩
theorem NR.yes {S : St} {b : Nat} {iv : IV} {X : Xs} {o : Option Nat} {lw : LW} (h : o = none) : NR S b iv X o (.int (nI 0)) iv lw := by
  subst h
  exact ⟨rfl, fun _ => rfl, fun k z => (by cases z), Off.rf⟩
theorem ms_put {iv : IV} {lw : LW} {b s j : Nat} {T : Sv} {v : Int64} (h : MS iv lw b s T) (hr : rowQ T) : MS iv (up2 lw (b + 5 + s) j v) b s (T.1, T.2.1, fun i => if i = j then v else T.2.2 i) := by
  obtain ⟨h1, h2, h3⟩ := h
  refine ⟨h1, fun q => ⟨(h2 hr).1, (h2 hr).2.1, fun i hi => ?_⟩, h3⟩
  show up2 _ _ _ _ _ _ = (if i = j then v else T.2.2 i)
  by_cases e : i = j
  · subst e; rw [up2_s, if_pos rfl]
  · rw [up2_k e, if_neg e]; exact (h2 hr).2.2 i hi
theorem ms_new {iv : IV} {lw2 : LW} {b s m : Nat} {c : Int32} {f : Nat → Int64} (hr : 0 ≤ c.toInt ∧ c.toInt < 5) (hf : ∀ i, i < m → lw2 (b + 5 + s) i = f i) : MS (up2 (up2 (up2 iv (b + 1) s (nI 1)) (b + 2) s c) (b + 3) s (nI m)) lw2 b s (c, m, f) := by
  have hq : rowQ (c, m, f) := hr
  have hs : sk (c, m, f) = 1 := if_pos hq
  refine ⟨?_, fun _ => ⟨?_, ?_, hf⟩, fun q => absurd (show (10 : Int) ≤ c.toInt from q) (by omega)⟩
  · rw [hs, up2_ne (by omega), up2_ne (by omega)]; exact up2_s
  · rw [up2_ne (by omega)]; exact up2_s
  · exact up2_s
theorem T_m1 {T : Sv} (h : SOK T) (h2 : ¬ rowQ T) (h3 : ¬ earQ T) : T.1 = -1 := by
  apply Int32.toInt_inj.mp
  have e : (-1 : Int32).toInt = -1 := by decide
  have := h.2.1
  omega
theorem ten_m {e : Nat} (h : e < 6) : nI (10 + e) - nI 10 = nI e := by rw [nI_sub (by omega)]; congr 1; omega
theorem ten_a (c : Int32) : nI 10 + (c - nI 10) = c := by rw [Int32.add_comm, Int32.sub_add_cancel]
theorem in8_i {s : Int32} (h : inR s 8) : iN s < 8 := by unfold inR at h; unfold iN; omega
theorem whyJ_e {T : Sv} (h : earQ T) : whyJ T = 1 := if_pos h
theorem whyJ_n {T : Sv} (h : ¬ earQ T) : whyJ T = 2 := if_neg h
/-- a camp with one call more -/
def AddC (V W : Cv) (n : Nat) (h : Nat → Nat) (u k : Nat) : Prop := (v_nc W = v_nc V + 1 ∧ v_ne W = v_ne V ∧ v_nm W = v_nm V ∧ v_su W = v_su V ∧ v_lo W = v_lo V ∧ v_se W = v_se V) ∧
  (v_sz W (v_nc V) = n ∧ (∀ i, i < n → v_nt W (v_nc V) i = h i) ∧ v_us W (v_nc V) = u ∧ v_co W (v_nc V) = k) ∧
  (∀ c, c < v_nc V → v_sz W c = v_sz V c ∧ (∀ i, v_nt W c i = v_nt V c i) ∧ v_us W c = v_us V c ∧ v_co W c = v_co V c) ∧ (∀ e, v_kd W e = v_kd V e ∧ v_by W e = v_by V e) ∧ (∀ m, v_eo W m = v_eo V m ∧ v_lk W m = v_lk V m)
theorem nTo_add {V : Cv} {u k : Nat} {h : Nat → Nat} : ∀ n, AddC V (nTo (v_addC V u k) h n) n h u k
  | 0 => ⟨⟨rfl, rfl, rfl, rfl, rfl, rfl⟩, ⟨if_pos rfl, fun i hi => absurd hi (by omega), by show ((if v_nc V = v_nc V then (u, k) else _) : Nat × Nat).1 = u; rw [if_pos rfl], by show ((if v_nc V = v_nc V then (u, k) else _) : Nat × Nat).2 = k; rw [if_pos rfl]⟩,
      fun c hc => ⟨if_neg (fun e => by have e2 : c = v_nc V := e; omega), fun _ => rfl, by show ((if c = v_nc V then (u, k) else _) : Nat × Nat).1 = _; rw [if_neg (by omega)]; rfl, by show ((if c = v_nc V then (u, k) else _) : Nat × Nat).2 = _; rw [if_neg (by omega)]; rfl⟩, fun _ => ⟨rfl, rfl⟩, fun _ => ⟨rfl, rfl⟩⟩
  | n + 1 => by
    obtain ⟨⟨a1, a2, a3, a4, a5, a6⟩, ⟨b1, b2, b3, b4⟩, c1, d1, e1⟩ := nTo_add (V := V) (u := u) (k := k) (h := h) n
    show AddC V (v_addN (nTo (v_addC V u k) h n) (h n)) (n + 1) h u k
    generalize nTo (v_addC V u k) h n = W at *
    have hsz : ∀ c, v_sz (v_addN W (h n)) c = if c + 1 = v_nc W then v_sz W c + 1 else v_sz W c := fun _ => rfl
    have hnt : ∀ c i, v_nt (v_addN W (h n)) c i = if c + 1 = v_nc W ∧ i = v_sz W c then h n else v_nt W c i := fun _ _ => rfl
    refine ⟨⟨a1, a2, a3, a4, a5, a6⟩, ⟨?_, fun i hi => ?_, b3, b4⟩, fun c hc => ⟨?_, fun i => ?_, (c1 c hc).2.2.1, (c1 c hc).2.2.2⟩, d1, e1⟩
    · show v_sz (v_addN W (h n)) _ = _
      rw [hsz, if_pos (by omega), b1]
    · show v_nt (v_addN W (h n)) _ _ = _
      rw [hnt, b1]
      by_cases e : i = n
      · subst e; rw [if_pos ⟨by omega, rfl⟩]
      · rw [if_neg (fun z => e z.2)]; exact b2 i (by omega)
    · show v_sz (v_addN W (h n)) _ = _
      rw [hsz, if_neg (by omega)]; exact (c1 c hc).1
    · show v_nt (v_addN W (h n)) _ _ = _
      rw [hnt, if_neg (fun z => by omega)]; exact (c1 c hc).2.1 i
/-- the cells of one call more -/
theorem mc_add {iv iv2 : IV} {b n u k : Nat} {h : Nat → Nat} {V W : Cv} (hA : AddC V W n h u k) (hv : VOK V) (hn : v_nc V < 12) (hV : MC iv b V) (h9 : iv2 b 9 = nI (v_nc V + 1)) (h30 : iv2 (b + 30) (v_nc V) = nI n) (h31 : iv2 (b + 31) (v_nc V) = nI u) (h32 : iv2 (b + 32) (v_nc V) = nI k) (hr : ∀ i, i < n → iv2 (b + 18 + v_nc V) i = nI (h i))
    (ho : ∀ a q, (a = b → ¬ q = 9) → ((a = b + 30 ∨ a = b + 31 ∨ a = b + 32) → ¬ q = v_nc V) → ¬ a = b + 18 + v_nc V → (a = b → q < 25) → (a < b + 37 ∨ b + 42 ≤ a) → iv2 a q = iv a q) : MC iv2 b W := by
  obtain ⟨⟨a1, a2, a3, a4, a5, a6⟩, ⟨b1, b2, b3, b4⟩, c1, d1, e1⟩ := hA
  have hne := hv.ne
  have hnm := hv.nm
  refine ⟨⟨by rw [h9, a1], ?_, ?_, ?_, ?_, ?_⟩, fun c hc => ?_, fun c hc i hi => ?_, fun e he => ?_, fun m hm => ?_⟩
  · rw [ho _ _ (by omega) (by omega) (by omega) (by omega) (by omega), a2]; exact hV.ne
  · rw [ho _ _ (by omega) (by omega) (by omega) (by omega) (by omega), a3]; exact hV.nm
  · rw [ho _ _ (by omega) (by omega) (by omega) (by omega) (by omega), a4]; exact hV.su
  · rw [ho _ _ (by omega) (by omega) (by omega) (by omega) (by omega), a5]; exact hV.lo
  · rw [ho _ _ (by omega) (by omega) (by omega) (by omega) (by omega), a6]; exact hV.se
  · by_cases e : c = v_nc V
    · subst e; rw [b1, b3, b4]; exact ⟨h30, h31, h32⟩
    · have hc2 : c < v_nc V := by omega
      obtain ⟨q1, q2, q3, q4⟩ := c1 c hc2
      rw [ho _ _ (by omega) (by omega) (by omega) (by omega) (by omega), ho _ _ (by omega) (by omega) (by omega) (by omega) (by omega), ho _ _ (by omega) (by omega) (by omega) (by omega) (by omega), q1, q3, q4]
      exact ⟨hV.sz hc2, hV.us hc2, hV.co hc2⟩
  · by_cases e : c = v_nc V
    · subst e; rw [b1] at hi; rw [b2 i hi]; exact hr i hi
    · have hc2 : c < v_nc V := by omega
      obtain ⟨q1, q2, q3, q4⟩ := c1 c hc2
      rw [q1] at hi
      rw [ho _ _ (by omega) (by omega) (by omega) (by omega) (by omega), q2]
      exact hV.nt hc2 hi
  · rw [a2] at he
    rw [ho _ _ (by omega) (by omega) (by omega) (by omega) (by omega), ho _ _ (by omega) (by omega) (by omega) (by omega) (by omega), (d1 e).1, (d1 e).2]
    exact ⟨hV.kd he, hV.by he⟩
  · rw [a3] at hm
    rw [ho _ _ (by omega) (by omega) (by omega) (by omega) (by omega), ho _ _ (by omega) (by omega) (by omega) (by omega) (by omega), (e1 m).1, (e1 m).2]
    exact ⟨hV.eo hm, hV.lk hm⟩
theorem mc_addE {iv : IV} {b k a : Nat} {V : Cv} (hV : MC iv b V) (hv : VOK V) : MC (up2 (up2 (up2 iv (b + 33) (v_ne V) (nI k)) (b + 34) (v_ne V) (nI a)) b 14 (nI (v_ne V + 1))) b (v_addE V k a) := by
  have hnc := hv.nc
  have hkd : ∀ e, v_kd (v_addE V k a) e = if e = v_ne V then k else v_kd V e := fun e => ite_fst
  have hby : ∀ e, v_by (v_addE V k a) e = if e = v_ne V then a else v_by V e := fun e => ite_snd
  refine ⟨⟨?_, up2_s, ?_, ?_, ?_, ?_⟩, fun c hc => ?_, fun c hc i hi => ?_, fun e he => ?_, fun m hm => ?_⟩
  · rw [up2_k (by decide), up2_ne (by omega), up2_ne (by omega)]; exact hV.nc
  · rw [up2_k (by decide), up2_ne (by omega), up2_ne (by omega)]; exact hV.nm
  · rw [up2_k (by decide), up2_ne (by omega), up2_ne (by omega)]; exact hV.su
  · rw [up2_k (by decide), up2_ne (by omega), up2_ne (by omega)]; exact hV.lo
  · rw [up2_k (by decide), up2_ne (by omega), up2_ne (by omega)]; exact hV.se
  · have hc : c < v_nc V := hc
    rw [up2_ne (by omega), up2_ne (by omega), up2_ne (by omega), up2_ne (by omega), up2_ne (by omega), up2_ne (by omega), up2_ne (by omega), up2_ne (by omega), up2_ne (by omega)]; exact ⟨hV.sz hc, hV.us hc, hV.co hc⟩
  · have hc : c < v_nc V := hc
    rw [up2_ne (by omega), up2_ne (by omega), up2_ne (by omega)]; exact hV.nt hc hi
  · have he : e < v_ne V + 1 := he
    rw [hkd, hby]
    by_cases q : e = v_ne V
    · subst q; rw [if_pos rfl, if_pos rfl]; exact ⟨(up2_ne (by omega)).trans ((up2_ne (by omega)).trans up2_s), (up2_ne (by omega)).trans up2_s⟩
    · rw [if_neg q, if_neg q]; exact ⟨(up2_ne (by omega)).trans ((up2_ne (by omega)).trans ((up2_k q).trans (hV.kd (by omega)))), (up2_ne (by omega)).trans ((up2_k q).trans ((up2_ne (by omega)).trans (hV.by (by omega))))⟩
  · have hm : m < v_nm V := hm
    rw [up2_ne (by omega), up2_ne (by omega), up2_ne (by omega), up2_ne (by omega), up2_ne (by omega), up2_ne (by omega)]; exact ⟨hV.eo hm, hV.lk hm⟩
theorem mc_addM {iv : IV} {b k a : Nat} {V : Cv} (hV : MC iv b V) (hv : VOK V) : MC (up2 (up2 (up2 iv (b + 35) (v_nm V) (nI k)) (b + 36) (v_nm V) (nI a)) b 17 (nI (v_nm V + 1))) b (v_addM V k a) := by
  have hnc := hv.nc
  have hkd : ∀ e, v_eo (v_addM V k a) e = if e = v_nm V then k else v_eo V e := fun e => ite_fst
  have hby : ∀ e, v_lk (v_addM V k a) e = if e = v_nm V then a else v_lk V e := fun e => ite_snd
  refine ⟨⟨?_, ?_, up2_s, ?_, ?_, ?_⟩, fun c hc => ?_, fun c hc i hi => ?_, fun e he => ?_, fun m hm => ?_⟩
  · rw [up2_k (by decide), up2_ne (by omega), up2_ne (by omega)]; exact hV.nc
  · rw [up2_k (by decide), up2_ne (by omega), up2_ne (by omega)]; exact hV.ne
  · rw [up2_k (by decide), up2_ne (by omega), up2_ne (by omega)]; exact hV.su
  · rw [up2_k (by decide), up2_ne (by omega), up2_ne (by omega)]; exact hV.lo
  · rw [up2_k (by decide), up2_ne (by omega), up2_ne (by omega)]; exact hV.se
  · have hc : c < v_nc V := hc
    rw [up2_ne (by omega), up2_ne (by omega), up2_ne (by omega), up2_ne (by omega), up2_ne (by omega), up2_ne (by omega), up2_ne (by omega), up2_ne (by omega), up2_ne (by omega)]; exact ⟨hV.sz hc, hV.us hc, hV.co hc⟩
  · have hc : c < v_nc V := hc
    rw [up2_ne (by omega), up2_ne (by omega), up2_ne (by omega)]; exact hV.nt hc hi
  · have he : e < v_ne V := he
    rw [up2_ne (by omega), up2_ne (by omega), up2_ne (by omega), up2_ne (by omega), up2_ne (by omega), up2_ne (by omega)]; exact ⟨hV.kd he, hV.by he⟩
  · have hm : m < v_nm V + 1 := hm
    rw [hkd, hby]
    by_cases q : m = v_nm V
    · subst q; rw [if_pos rfl, if_pos rfl]; exact ⟨(up2_ne (by omega)).trans ((up2_ne (by omega)).trans up2_s), (up2_ne (by omega)).trans up2_s⟩
    · rw [if_neg q, if_neg q]; exact ⟨(up2_ne (by omega)).trans ((up2_ne (by omega)).trans ((up2_k q).trans (hV.eo (by omega)))), (up2_ne (by omega)).trans ((up2_k q).trans ((up2_ne (by omega)).trans (hV.lk (by omega))))⟩
theorem mc_setU {iv : IV} {b c u : Nat} {V : Cv} (hV : MC iv b V) (hv : VOK V) : MC (up2 iv (b + 31) c (nI u)) b (v_setU V c u) := by
  have hnc := hv.nc
  have h1 : ∀ d, v_us (v_setU V c u) d = if d = c then u else v_us V d := fun e => ite_fst
  have h2 : ∀ d, v_co (v_setU V c u) d = v_co V d := fun d => by show ((if d = c then (u, (V.2.2.2.1 d).2) else V.2.2.2.1 d) : Nat × Nat).2 = _; split <;> rfl
  refine ⟨⟨(up2_ne (by omega)).trans hV.nc, (up2_ne (by omega)).trans hV.ne, (up2_ne (by omega)).trans hV.nm, (up2_ne (by omega)).trans hV.su, (up2_ne (by omega)).trans hV.lo, (up2_ne (by omega)).trans hV.se⟩, fun d hd => ⟨(up2_ne (by omega)).trans (hV.sz hd), ?_, by rw [h2]; exact (up2_ne (by omega)).trans (hV.co hd)⟩, fun d hd i hi => (up2_ne (by have hd2 : d < v_nc V := hd; omega)).trans (hV.nt hd hi), fun e he => ⟨(up2_ne (by omega)).trans (hV.kd he), (up2_ne (by omega)).trans (hV.by he)⟩, fun m hm => ⟨(up2_ne (by omega)).trans (hV.eo hm), (up2_ne (by omega)).trans (hV.lk hm)⟩⟩
  rw [h1]
  by_cases q : d = c
  · subst q; rw [if_pos rfl]; exact up2_s
  · rw [if_neg q]; exact (up2_k q).trans (hV.us hd)
theorem mc_setK {iv : IV} {b c u : Nat} {V : Cv} (hV : MC iv b V) (hv : VOK V) : MC (up2 iv (b + 32) c (nI u)) b (v_setK V c u) := by
  have hnc := hv.nc
  have h1 : ∀ d, v_co (v_setK V c u) d = if d = c then u else v_co V d := fun e => ite_snd
  have h2 : ∀ d, v_us (v_setK V c u) d = v_us V d := fun d => by show ((if d = c then ((V.2.2.2.1 d).1, u) else V.2.2.2.1 d) : Nat × Nat).1 = _; split <;> rfl
  refine ⟨⟨(up2_ne (by omega)).trans hV.nc, (up2_ne (by omega)).trans hV.ne, (up2_ne (by omega)).trans hV.nm, (up2_ne (by omega)).trans hV.su, (up2_ne (by omega)).trans hV.lo, (up2_ne (by omega)).trans hV.se⟩, fun d hd => ⟨(up2_ne (by omega)).trans (hV.sz hd), by rw [h2]; exact (up2_ne (by omega)).trans (hV.us hd), ?_⟩, fun d hd i hi => (up2_ne (by have hd2 : d < v_nc V := hd; omega)).trans (hV.nt hd hi), fun e he => ⟨(up2_ne (by omega)).trans (hV.kd he), (up2_ne (by omega)).trans (hV.by he)⟩, fun m hm => ⟨(up2_ne (by omega)).trans (hV.eo hm), (up2_ne (by omega)).trans (hV.lk hm)⟩⟩
  rw [h1]
  by_cases q : d = c
  · subst q; rw [if_pos rfl]; exact up2_s
  · rw [if_neg q]; exact (up2_k q).trans (hV.co hd)
theorem mc_fld {iv : IV} {b k : Nat} {x : Int32} {V W : Cv} (hV : MC iv b V) (hnc : v_nc V ≤ 12) (hk : k = 20 ∨ k = 21 ∨ k = 22 ∨ k = 9) (h9 : (if k = 9 then x else nI (v_nc V)) = nI (v_nc W)) (h20 : (if k = 20 then x else nI (v_su V)) = nI (v_su W)) (h21 : (if k = 21 then x else nI (v_lo V)) = nI (v_lo W)) (h22 : (if k = 22 then x else v_se V) = v_se W)
    (hn : v_nc W ≤ v_nc V) (hr : W.1.2 = V.1.2 ∧ W.2.1 = V.2.1 ∧ W.2.2.1 = V.2.2.1 ∧ W.2.2.2.1 = V.2.2.2.1 ∧ W.2.2.2.2.1 = V.2.2.2.2.1 ∧ W.2.2.2.2.2.1 = V.2.2.2.2.2.1) : MC (up2 iv b k x) b W := by
  obtain ⟨r1, r2, r3, r4, r5, r6⟩ := hr
  have e1 : v_ne W = v_ne V := congrArg (·.1) r1
  have e2 : v_nm W = v_nm V := congrArg (·.2) r1
  have e3 : ∀ c, v_sz W c = v_sz V c := fun c => congrFun r2 c
  have e4 : ∀ c i, v_nt W c i = v_nt V c i := fun c i => congrFun (congrFun r3 c) i
  have e5 : ∀ c, v_us W c = v_us V c := fun c => congrArg (·.1) (congrFun r4 c)
  have e6 : ∀ c, v_co W c = v_co V c := fun c => congrArg (·.2) (congrFun r4 c)
  have e7 : ∀ c, v_kd W c = v_kd V c := fun c => congrArg (·.1) (congrFun r5 c)
  have e8 : ∀ c, v_by W c = v_by V c := fun c => congrArg (·.2) (congrFun r5 c)
  have e9 : ∀ c, v_eo W c = v_eo V c := fun c => congrArg (·.1) (congrFun r6 c)
  have e10 : ∀ c, v_lk W c = v_lk V c := fun c => congrArg (·.2) (congrFun r6 c)
  refine ⟨⟨?_, ?_, ?_, ?_, ?_, ?_⟩, fun c hc => ?_, fun c hc i hi => ?_, fun e he => ?_, fun m hm => ?_⟩
  · rw [← h9]; by_cases q : k = 9
    · subst q; rw [if_pos rfl]; exact up2_s
    · rw [if_neg q, up2_k (by omega)]; exact hV.nc
  · rw [up2_k (by omega), e1]; exact hV.ne
  · rw [up2_k (by omega), e2]; exact hV.nm
  · rw [← h20]; by_cases q : k = 20
    · subst q; rw [if_pos rfl]; exact up2_s
    · rw [if_neg q, up2_k (by omega)]; exact hV.su
  · rw [← h21]; by_cases q : k = 21
    · subst q; rw [if_pos rfl]; exact up2_s
    · rw [if_neg q, up2_k (by omega)]; exact hV.lo
  · rw [← h22]; by_cases q : k = 22
    · subst q; rw [if_pos rfl]; exact up2_s
    · rw [if_neg q, up2_k (by omega)]; exact hV.se
  · rw [e3, e5, e6, up2_ne (by omega), up2_ne (by omega), up2_ne (by omega)]; exact ⟨hV.sz (by omega), hV.us (by omega), hV.co (by omega)⟩
  · rw [e3] at hi; rw [e4, up2_ne (by omega)]; exact hV.nt (by omega) hi
  · rw [e1] at he; rw [e7, e8, up2_ne (by omega), up2_ne (by omega)]; exact ⟨hV.kd he, hV.by he⟩
  · rw [e2] at hm; rw [e9, e10, up2_ne (by omega), up2_ne (by omega)]; exact ⟨hV.eo hm, hV.lk hm⟩
theorem mc_setS {iv : IV} {b s : Nat} {V : Cv} (hV : MC iv b V) (hv : v_nc V ≤ 12) : MC (up2 iv b 20 (nI s)) b (v_setS V s) := mc_fld hV hv (Or.inl rfl) (if_neg (by decide)) (if_pos rfl) (if_neg (by decide)) (if_neg (by decide)) (Nat.le_refl _) ⟨rfl, rfl, rfl, rfl, rfl, rfl⟩
theorem mc_setL {iv : IV} {b s : Nat} {V : Cv} (hV : MC iv b V) (hv : v_nc V ≤ 12) : MC (up2 iv b 21 (nI s)) b (v_setL V s) := mc_fld hV hv (Or.inr (Or.inl rfl)) (if_neg (by decide)) (if_neg (by decide)) (if_pos rfl) (if_neg (by decide)) (Nat.le_refl _) ⟨rfl, rfl, rfl, rfl, rfl, rfl⟩
theorem mc_setD {iv : IV} {b : Nat} {s : Int32} {V : Cv} (hV : MC iv b V) (hv : v_nc V ≤ 12) : MC (up2 iv b 22 s) b (v_setD V s) := mc_fld hV hv (Or.inr (Or.inr (Or.inl rfl))) (if_neg (by decide)) (if_neg (by decide)) (if_neg (by decide)) (if_pos rfl) (Nat.le_refl _) ⟨rfl, rfl, rfl, rfl, rfl, rfl⟩
theorem mc_drop {iv : IV} {b : Nat} {V : Cv} (hV : MC iv b V) (hv : v_nc V ≤ 12) : MC (up2 iv b 9 (nI (v_nc V - 1))) b (v_drop V) := mc_fld hV hv (Or.inr (Or.inr (Or.inr rfl))) (if_pos rfl) (if_neg (by decide)) (if_neg (by decide)) (if_neg (by decide)) (Nat.sub_le _ _) ⟨rfl, rfl, rfl, rfl, rfl, rfl⟩
def slB (k a o i : Nat) : Bool := if o = 5 then decide (0 < i ∧ i % (a + 1) = a) else decide (i < a ∨ (k = 3 ∧ i + 1 = 8))
theorem cntTo_congr {p q : Nat → Bool} : ∀ n, (∀ i, i < n → p i = q i) → cntTo p n = cntTo q n
  | 0, _ => rfl
  | n + 1, h => by rw [cntTo_s, cntTo_s, cntTo_congr n (fun i hi => h i (by omega)), h n (by omega)]
theorem tlV_1 {k a o : Nat} (hu : k = o ∨ o = 0 ∨ (k = 3 ∧ o = 1) ∨ (k = 4 ∧ o = 2)) (ho : o = 1 ∨ o = 3 ∨ o = 5) : tlV k a o = cntTo (slB k a o) 8 := by
  unfold tlV
  by_cases h5 : o = 5
  · rw [if_neg (by omega), if_neg (by omega), if_pos h5]
    refine cntTo_congr 8 (fun i _ => ?_)
    unfold slB echoQ
    rw [if_pos h5]
    exact decide_eq_decide.mpr (by omega)
  · rw [if_pos (by omega)]
    refine cntTo_congr 8 (fun i _ => ?_)
    unfold slB tornQ
    rw [if_neg h5]
    exact decide_eq_decide.mpr (by omega)
theorem tlV_2 {k a o : Nat} (hu : k = o ∨ o = 0 ∨ (k = 3 ∧ o = 1) ∨ (k = 4 ∧ o = 2)) (ho : o = 2 ∨ o = 4) : tlV k a o = 3 := by
  unfold tlV chg
  rw [if_neg (by omega), if_pos ho, if_pos (by omega), if_neg (by omega), if_pos rfl]
theorem tlV_0 {k a : Nat} : tlV k a 0 = a := by unfold tlV; rw [if_neg (by decide), if_neg (by decide), if_neg (by decide)]
theorem ear_sk {e k : Nat} {f : Nat → Int64} (h : e < 6) : sk (nI (10 + e), k, f) = 2 := by
  have h2 : (nI (10 + e)).toInt = ((10 + e : Nat) : Int) := nI_toInt (by omega)
  unfold sk
  rw [if_neg (fun q => by have q2 : (nI (10 + e)).toInt < 5 := q.2; omega), if_pos (show (10 : Int) ≤ (nI (10 + e)).toInt by omega)]
theorem ear_nq {e k : Nat} {f : Nat → Int64} (h : e < 6) : ¬ rowQ (nI (10 + e), k, f) := fun q => by
  have h2 : (nI (10 + e)).toInt = ((10 + e : Nat) : Int) := nI_toInt (by omega)
  have q2 : (nI (10 + e)).toInt < 5 := q.2
  omega
theorem no_nq {k : Nat} {f : Nat → Int64} : ¬ rowQ (-1, k, f) := fun q => absurd (show (0 : Int) ≤ (-1 : Int32).toInt from q.1) (by decide)
theorem no_sk {k : Nat} {f : Nat → Int64} : sk (-1, k, f) = 0 := by unfold sk; rw [if_neg no_nq, if_neg (fun q => absurd (show (10 : Int) ≤ (-1 : Int32).toInt from q) (by decide))]
theorem ms_no {iv : IV} {lw : LW} {b s k : Nat} {f : Nat → Int64} (h : iv (b + 1) s = nI 0) : MS iv lw b s (-1, k, f) := ⟨by rw [no_sk]; exact h, fun q => absurd q no_nq, fun q => absurd (show (10 : Int) ≤ (-1 : Int32).toInt from q) (by decide)⟩
theorem ms_ear {iv : IV} {lw : LW} {b s e k : Nat} {f : Nat → Int64} (he : e < 6) (h : iv (b + 1) s = nI 2) (h2 : iv (b + 14) s = nI e) : MS iv lw b s (nI (10 + e), k, f) := ⟨by rw [ear_sk he]; exact h, fun q => absurd q (ear_nq he), fun q => by rw [h2]; exact (ten_m he).symm⟩
theorem sub1 {m : Nat} : nI (m + 1) - nI 1 = nI m := by rw [nI_sub (by omega)]; rfl
set_option maxRecDepth 20000 in
theorem r_becomesRow {g : Ev} {S : St} {iv : IV} {lw : LW} {b : Nat} (hb : IsMod S b) {j m : Nat} {c : Int32} (hj : j < 8) : CN g mX10_becomesRow [.ref (b), .int (nI j), .int (c), .int (nI m)] S iv lw (fun iv2 lw2 => iv2 = (up2 (up2 (up2 iv (b + 1) j (nI 1)) (b + 2) j c) (b + 3) j (nI m)) ∧ (∀ i, i < 40 → lw2 (b + 5 + j) i = lN 0) ∧ Off (b + 5 + j) 1 lw lw2) := by
  refine CT_ofQ rfl (by decide) (Nat.le_of_ble_eq_true rfl) (lv := [(0, .ref (b)), (1, .int (nI j)), (2, .int (c)), (3, .int (nI m))]) rfl (fun Q hQ => ?_)
  refine V_aload_n (i := 0) dX10_becomesRow_0 rfl 0 rfl ?_
  refine M_getR dX10_becomesRow_1 lf_X10_7 rfl hb.1 hb.2.1.1 ?_
  refine V_iload_n (i := 1) dX10_becomesRow_4 rfl 1 rfl ?_
  refine V_iconst (v := nI 1) dX10_becomesRow_5 rfl ?_
  refine M_iastn (j := j) dX10_becomesRow_6 hb.2.1.2 (by decide) (by omega) ?_
  refine V_aload_n (i := 0) dX10_becomesRow_7 rfl 0 rfl ?_
  refine M_getR dX10_becomesRow_8 lf_X10_13 rfl hb.1 hb.2.2.1.1 ?_
  refine V_iload_n (i := 1) dX10_becomesRow_11 rfl 1 rfl ?_
  refine V_iload_n (i := 2) dX10_becomesRow_12 rfl 2 rfl ?_
  refine M_iastn (j := j) dX10_becomesRow_13 hb.2.2.1.2 (by decide) (by omega) ?_
  refine V_aload_n (i := 0) dX10_becomesRow_14 rfl 0 rfl ?_
  refine M_getR dX10_becomesRow_15 lf_X10_16 rfl hb.1 hb.2.2.2.1.1 ?_
  refine V_iload_n (i := 1) dX10_becomesRow_18 rfl 1 rfl ?_
  refine V_iload_n (i := 3) dX10_becomesRow_19 rfl 3 rfl ?_
  refine M_iastn (j := j) dX10_becomesRow_20 hb.2.2.2.1.2 (by decide) (by omega) ?_
  refine V_iconst (v := nI 0) dX10_becomesRow_21 rfl ?_
  refine V_istore (lv2 := [(4, .int (nI 0)), (0, .ref (b)), (1, .int (nI j)), (2, .int (c)), (3, .int (nI m))]) dX10_becomesRow_22 (by decide) rfl ?_
  have lp24 : ∀ i, i ≤ 40 → ∀ lw2 : LW, (∀ k, k < i → lw2 (b + 5 + j) k = lN 0) → Off (b + 5 + j) 1 lw lw2 → VM g mX10_becomesRow 24 [(4, .int (nI i)), (0, .ref (b)), (1, .int (nI j)), (2, .int (c)), (3, .int (nI m))] [] S (up2 (up2 (up2 iv (b + 1) j (nI 1)) (b + 2) j c) (b + 3) j (nI m)) lw2 Q := by
    refine up_ind fun i hi ih24 => ?_
    intro lw2 hrow hL
    refine V_iload dX10_becomesRow_24 0 rfl ?_
    refine V_bipush (v := nI 40) dX10_becomesRow_26 rfl ?_
    refine V_icmp_ge (tgt := 47) dX10_becomesRow_28 rfl (fun h28 => ?_) (fun h28 => ?_)
    · have h28 : 40 ≤ i := (nI_leI (by omega) (by omega)).mp h28
      refine V_vret dX10_becomesRow_47 ⟨rfl, rfl⟩ (Nat.zero_le _) (Nat.zero_le _) ?_
      subst hQ
      obtain rfl : i = 40 := by omega
      exact ⟨_, _, rfl, rfl, rfl, hrow, hL⟩
    · have h28 : ¬ 40 ≤ i := fun q => h28 ((nI_leI (by omega) (by omega)).mpr q)
      refine V_aload_n (i := 0) dX10_becomesRow_31 rfl 1 rfl ?_
      refine M_getR dX10_becomesRow_32 lf_X10_21 rfl hb.1 hb.2.2.2.2.1.1 ?_
      refine V_iload_n (i := 1) dX10_becomesRow_35 rfl 2 rfl ?_
      refine M_aaldn (t := 2) (j := j) dX10_becomesRow_36 (by decide) hb.2.2.2.2.1.2 (by decide) (by omega) ((hb.2.2.2.2.2.2.2.2.2.2.2.2.2.2.2.2.2.2.2.2.2.2.1 j (by omega)).1) ?_
      refine V_iload dX10_becomesRow_37 0 rfl ?_
      refine V_lconst (v := lN 0) dX10_becomesRow_39 rfl ?_
      refine M_lastn (j := i) dX10_becomesRow_40 (hb.2.2.2.2.2.2.2.2.2.2.2.2.2.2.2.2.2.2.2.2.2.2.1 j (by omega)).2 (by decide) (by omega) ?_
      refine V_iinc (v := nI (i + 1)) (lv2 := [(4, .int (nI (i + 1))), (0, .ref (b)), (1, .int (nI j)), (2, .int (c)), (3, .int (nI m))]) dX10_becomesRow_41 0 rfl (nI_inc _) (by decide) rfl ?_
      refine V_goto (tgt := 24) dX10_becomesRow_44 rfl ?_
      refine V_sub [0, 1, 2, 3, 4] rfl ?_
      exact M_at (ih24 (by omega) _ (rowAddL (f := fun _ => lN 0) hrow rfl) (hL.up (by omega) (by omega))) (rfl) rfl (rfl) (rfl)
  refine V_sub [0, 1, 2, 3, 4] rfl ?_
  exact M_at (lp24 0 (Nat.zero_le _) lw (fun k hk => absurd hk (by omega)) Off.rf) (rfl) rfl (rfl) (rfl)
set_option maxRecDepth 20000 in
theorem r_noRow {g : Ev} {S : St} {iv : IV} {lw : LW} {b : Nat} (hs : SS S b) {X : Xs} (hX : MX S iv lw b X) (hk : XOK X) {s : Int32} : CQ g mX10_noRow [.ref (b), .int (s)] S iv lw (fun w iv2 lw2 => lw = lw2 ∧ NR S b iv X (nrW X s) w iv2 lw) := by
  refine CT_ofQ rfl (by decide) (Nat.le_of_ble_eq_true rfl) (lv := [(0, .ref (b)), (1, .int (s))]) rfl (fun Q hQ => ?_)
  have hb := hs.1
  have hA := hX.1
  have hv := hk.1
  have hnc := hv.nc
  have hne := hv.ne
  have hnm := hv.nm
  refine V_iload_n (i := 1) dX10_noRow_0 rfl 1 rfl ?_
  refine V_i2l dX10_noRow_1 ?_
  refine V_lconst (v := lN 0) dX10_noRow_2 rfl ?_
  refine V_ldc2 (v := lN 7) dX10_noRow_3 mw_1215 ?_
  refine M_callSp (As := [.long ((s).toInt64), .long (lN 0), .long (lN 7)]) (st := []) dX10_noRow_6 ls_X10_91 ⟨by decide, by decide⟩ ⟨rfl, rfl⟩ rfl (Nat.le_of_ble_eq_true rfl) (r_in8) ?_
  refine V_if_ne (tgt := 19) dX10_noRow_9 rfl (fun h9 => ?_) (fun h9 => ?_)
  · have h9 : inR s 8 := bI_ne.mp h9
    have hsk := sk_c (x_T X (iN s))
    have cs := iN_eq (k := s) (by omega)
    have ds := iN_i (k := s) (by omega)
    refine M_at (lv2 := [(0, .ref (b)), (1, .int (nI (iN s)))]) (st2 := []) ?_ (by rw [← cs]) rfl rfl rfl
    refine V_aload_n (i := 0) dX10_noRow_19 rfl 0 rfl ?_
    refine M_getR dX10_noRow_20 lf_X10_7 rfl hb.1 hb.2.1.1 ?_
    refine V_iload_n (i := 1) dX10_noRow_23 rfl 1 rfl ?_
    refine M_ialdn (j := (iN s)) (x := nI (sk (x_T X (iN s)))) dX10_noRow_24 hb.2.1.2 (by decide) (by omega) ((hX.2.1 (iN s) (by omega)).1) ?_
    refine V_iconst (v := nI 2) dX10_noRow_25 rfl ?_
    refine V_icmp_ne (tgt := 36) dX10_noRow_26 rfl (fun h26 => ?_) (fun h26 => ?_)
    · have h26 : ¬ (sk (x_T X (iN s))) = 2 := fun q => h26 ((nI_eq (by omega) (by omega)).mpr q)
      refine V_aload_n (i := 0) dX10_noRow_36 rfl 0 rfl ?_
      refine M_getR dX10_noRow_37 lf_X10_7 rfl hb.1 hb.2.1.1 ?_
      refine V_iload_n (i := 1) dX10_noRow_40 rfl 1 rfl ?_
      refine M_ialdn (j := (iN s)) (x := nI (sk (x_T X (iN s)))) dX10_noRow_41 hb.2.1.2 (by decide) (by omega) ((hX.2.1 (iN s) (by omega)).1) ?_
      refine V_if_ne (tgt := 54) dX10_noRow_42 rfl (fun h42 => ?_) (fun h42 => ?_)
      · have h42 : ¬ (sk (x_T X (iN s))) = 0 := fun q => h42 ((nI_eq (b := 0) (by omega) (by omega)).mpr q)
        refine V_iconst (v := nI 0) dX10_noRow_54 rfl ?_
        refine V_iret dX10_noRow_55 ⟨rfl, rfl⟩ (Nat.zero_le _) (Nat.zero_le _) ?_
        subst hQ
        exact ⟨_, _, _, rfl, rfl, rfl, NR.yes (by unfold nrW; rw [if_neg (fun z => z h9), if_pos (by omega)])⟩
      · have h42 : (sk (x_T X (iN s))) = 0 := (nI_eq (b := 0) (by omega) (by omega)).mp h42
        refine V_aload_n (i := 0) dX10_noRow_45 rfl 0 rfl ?_
        refine V_bipush (v := (-4)) dX10_noRow_46 rfl ?_
        refine M_callVq (As := [.int ((-4))]) (st := []) dX10_noRow_48 lv_X10_107 ⟨by decide, by decide⟩ ⟨rfl, rfl⟩ rfl (ci := 7) hb.1 rfl rfl (Nat.le_of_ble_eq_true rfl) (q_refuse hs hX hk (j := 2) (by decide)) (fun w48 iv48 lw48 q48 => ?_)
        obtain ⟨rfl, e1, hXr, hOr⟩ := q48
        subst e1
        refine V_goto (tgt := 55) dX10_noRow_51 rfl ?_
        refine V_iret dX10_noRow_55 ⟨rfl, rfl⟩ (Nat.zero_le _) (Nat.zero_le _) ?_
        subst hQ
        exact ⟨_, _, _, rfl, rfl, rfl, NR.no (j := 2) (by unfold nrW; rw [if_neg (fun z => z h9), if_neg (by omega), whyJ_n (by omega)]) hXr hOr⟩
    · have h26 : (sk (x_T X (iN s))) = 2 := (nI_eq (by omega) (by omega)).mp h26
      refine V_aload_n (i := 0) dX10_noRow_29 rfl 0 rfl ?_
      refine V_bipush (v := (-3)) dX10_noRow_30 rfl ?_
      refine M_callVq (As := [.int ((-3))]) (st := []) dX10_noRow_32 lv_X10_107 ⟨by decide, by decide⟩ ⟨rfl, rfl⟩ rfl (ci := 7) hb.1 rfl rfl (Nat.le_of_ble_eq_true rfl) (q_refuse hs hX hk (j := 1) (by decide)) (fun w32 iv32 lw32 q32 => ?_)
      obtain ⟨rfl, e1, hXr, hOr⟩ := q32
      subst e1
      refine V_iret dX10_noRow_35 ⟨rfl, rfl⟩ (Nat.zero_le _) (Nat.zero_le _) ?_
      subst hQ
      exact ⟨_, _, _, rfl, rfl, rfl, NR.no (j := 1) (by unfold nrW; rw [if_neg (fun z => z h9), if_neg (by omega), whyJ_e (by omega)]) hXr hOr⟩
  · have h9 : ¬ (inR s 8) := bI_eq0.mp h9
    refine V_aload_n (i := 0) dX10_noRow_12 rfl 0 rfl ?_
    refine V_bipush (v := (-2)) dX10_noRow_13 rfl ?_
    refine M_callVq (As := [.int ((-2))]) (st := []) dX10_noRow_15 lv_X10_107 ⟨by decide, by decide⟩ ⟨rfl, rfl⟩ rfl (ci := 7) hb.1 rfl rfl (Nat.le_of_ble_eq_true rfl) (q_refuse hs hX hk (j := 0) (by decide)) (fun w15 iv15 lw15 q15 => ?_)
    obtain ⟨rfl, e1, hXr, hOr⟩ := q15
    subst e1
    refine V_iret dX10_noRow_18 ⟨rfl, rfl⟩ (Nat.zero_le _) (Nat.zero_le _) ?_
    subst hQ
    exact ⟨_, _, _, rfl, rfl, rfl, NR.no (j := 0) (by unfold nrW; rw [if_pos h9]) hXr hOr⟩
set_option maxRecDepth 20000 in
theorem q_row {g : Ev} {S : St} {iv : IV} {lw : LW} {b : Nat} (hs : SS S b) {X : Xs} (hX : MX S iv lw b X) (hk : XOK X) {s : Int32} {k : Int32} {m : Int32} : CQ g mX10_row [.ref (b), .int (s), .int (k), .int (m)] S iv lw (fun w iv2 lw2 => MP S b iv lw (o_row X s k m) w iv2 lw2) := by
  refine CT_ofQ rfl (by decide) (Nat.le_of_ble_eq_true rfl) (lv := [(0, .ref (b)), (1, .int (s)), (2, .int (k)), (3, .int (m))]) rfl (fun Q hQ => ?_)
  have hb := hs.1
  have hA := hX.1
  have hv := hk.1
  have hnc := hv.nc
  have hne := hv.ne
  have hnm := hv.nm
  refine V_iload_n (i := 1) dX10_row_0 rfl 1 rfl ?_
  refine V_i2l dX10_row_1 ?_
  refine V_lconst (v := lN 0) dX10_row_2 rfl ?_
  refine V_ldc2 (v := lN 7) dX10_row_3 mw_1215 ?_
  refine M_callSp (As := [.long ((s).toInt64), .long (lN 0), .long (lN 7)]) (st := []) dX10_row_6 ls_X10_91 ⟨by decide, by decide⟩ ⟨rfl, rfl⟩ rfl (Nat.le_of_ble_eq_true rfl) (r_in8) ?_
  refine V_if_eq (tgt := 36) dX10_row_9 rfl (fun h9 => ?_) (fun h9 => ?_)
  · have h9 : ¬ (inR s 8) := bI_eq0.mp h9
    refine V_aload_n (i := 0) dX10_row_36 rfl 0 rfl ?_
    refine V_bipush (v := (-2)) dX10_row_37 rfl ?_
    refine M_callVq (As := [.int ((-2))]) (st := []) dX10_row_39 lv_X10_107 ⟨by decide, by decide⟩ ⟨rfl, rfl⟩ rfl (ci := 7) hb.1 rfl rfl (Nat.le_of_ble_eq_true rfl) (q_refuse hs hX hk (j := 0) (by decide)) (fun w39 iv39 lw39 q39 => ?_)
    obtain ⟨rfl, e1, hXr, hOr⟩ := q39
    subst e1
    refine V_iret dX10_row_42 ⟨rfl, rfl⟩ (Nat.zero_le _) (Nat.zero_le _) ?_
    subst hQ
    exact ⟨_, _, _, rfl, rfl, by unfold o_row; rw [if_pos (by omega)]; exact ⟨rfl, hXr, hOr, Off.rf⟩⟩
  · have h9 : inR s 8 := bI_ne.mp h9
    refine V_iload_n (i := 2) dX10_row_12 rfl 2 rfl ?_
    refine V_i2l dX10_row_13 ?_
    refine V_lconst (v := lN 0) dX10_row_14 rfl ?_
    refine V_ldc2 (v := lN 4) dX10_row_15 mw_1219 ?_
    refine M_callSp (As := [.long ((k).toInt64), .long (lN 0), .long (lN 4)]) (st := []) dX10_row_18 ls_X10_91 ⟨by decide, by decide⟩ ⟨rfl, rfl⟩ rfl (Nat.le_of_ble_eq_true rfl) (r_inK (by decide) (by decide)) ?_
    refine V_if_eq (tgt := 36) dX10_row_21 rfl (fun h21 => ?_) (fun h21 => ?_)
    · have h21 : ¬ ((0 : Int) ≤ k.toInt ∧ k.toInt ≤ 4) := bI_eq0.mp h21
      refine V_aload_n (i := 0) dX10_row_36 rfl 0 rfl ?_
      refine V_bipush (v := (-2)) dX10_row_37 rfl ?_
      refine M_callVq (As := [.int ((-2))]) (st := []) dX10_row_39 lv_X10_107 ⟨by decide, by decide⟩ ⟨rfl, rfl⟩ rfl (ci := 7) hb.1 rfl rfl (Nat.le_of_ble_eq_true rfl) (q_refuse hs hX hk (j := 0) (by decide)) (fun w39 iv39 lw39 q39 => ?_)
      obtain ⟨rfl, e1, hXr, hOr⟩ := q39
      subst e1
      refine V_iret dX10_row_42 ⟨rfl, rfl⟩ (Nat.zero_le _) (Nat.zero_le _) ?_
      subst hQ
      exact ⟨_, _, _, rfl, rfl, by unfold o_row; rw [if_pos (by omega)]; exact ⟨rfl, hXr, hOr, Off.rf⟩⟩
    · have h21 : (0 : Int) ≤ k.toInt ∧ k.toInt ≤ 4 := bI_ne.mp h21
      refine V_iload_n (i := 3) dX10_row_24 rfl 3 rfl ?_
      refine V_i2l dX10_row_25 ?_
      refine V_lconst (v := lN 0) dX10_row_26 rfl ?_
      refine V_ldc2 (v := lN 40) dX10_row_27 mw_1220 ?_
      refine M_callSp (As := [.long ((m).toInt64), .long (lN 0), .long (lN 40)]) (st := []) dX10_row_30 ls_X10_91 ⟨by decide, by decide⟩ ⟨rfl, rfl⟩ rfl (Nat.le_of_ble_eq_true rfl) (r_inK (by decide) (by decide)) ?_
      refine V_if_ne (tgt := 43) dX10_row_33 rfl (fun h33 => ?_) (fun h33 => ?_)
      · have h33 : (0 : Int) ≤ m.toInt ∧ m.toInt ≤ 40 := bI_ne.mp h33
        have cs := iN_eq (k := s) (by omega)
        have ck := iN_eq (k := k) (by omega)
        have cm := iN_eq (k := m) (by omega)
        have ds := iN_i (k := s) (by omega)
        have dk := iN_i (k := k) (by omega)
        have dm := iN_i (k := m) (by omega)
        refine M_at (lv2 := [(0, .ref (b)), (1, .int (nI (iN s))), (2, .int (nI (iN k))), (3, .int (nI (iN m)))]) (st2 := []) ?_ (by rw [← cs, ← ck, ← cm]) rfl rfl rfl
        refine V_aload_n (i := 0) dX10_row_43 rfl 0 rfl ?_
        refine V_iload_n (i := 1) dX10_row_44 rfl 1 rfl ?_
        refine V_iload_n (i := 2) dX10_row_45 rfl 2 rfl ?_
        refine V_iload_n (i := 3) dX10_row_46 rfl 3 rfl ?_
        refine M_callVn (As := [.int (nI (iN s)), .int (nI (iN k)), .int (nI (iN m))]) (st := []) dX10_row_47 lv_X10_111 ⟨by decide, by decide⟩ ⟨rfl, rfl⟩ rfl (ci := 7) hb.1 rfl rfl (Nat.le_of_ble_eq_true rfl) (r_becomesRow hb (j := iN s) (m := iN m) (by omega)) (fun iv47 lw47 q47 => ?_)
        obtain ⟨rfl, hZ, hL⟩ := q47
        refine V_iconst (v := nI 1) dX10_row_50 rfl ?_
        refine V_iret dX10_row_51 ⟨rfl, rfl⟩ (Nat.zero_le _) (Nat.zero_le _) ?_
        subst hQ
        have hXn := hX.shelf hk (j := iN s) (by omega) (ms_new (iv := iv) (c := nI (iN k)) (m := iN m) (f := fun _ => lN 0) (by rw [nI_toInt (by omega)]; omega) (fun i hi => hZ i (by omega))) (fun a q hq => by rw [up2_o (by omega), up2_o (by omega), up2_o (by omega)]) (fun a h1 h2 => hL a (by omega))
        exact ⟨_, _, _, rfl, rfl, by unfold o_row; rw [if_neg (fun z => z ⟨h9, by omega, by omega, by omega, by omega⟩)]; exact ⟨rfl, hXn, ((Off.rf.up (by omega) (by omega)).up (by omega) (by omega)).up (by omega) (by omega), hL.wide (by omega) (by omega)⟩⟩
      · have h33 : ¬ ((0 : Int) ≤ m.toInt ∧ m.toInt ≤ 40) := bI_eq0.mp h33
        refine V_aload_n (i := 0) dX10_row_36 rfl 0 rfl ?_
        refine V_bipush (v := (-2)) dX10_row_37 rfl ?_
        refine M_callVq (As := [.int ((-2))]) (st := []) dX10_row_39 lv_X10_107 ⟨by decide, by decide⟩ ⟨rfl, rfl⟩ rfl (ci := 7) hb.1 rfl rfl (Nat.le_of_ble_eq_true rfl) (q_refuse hs hX hk (j := 0) (by decide)) (fun w39 iv39 lw39 q39 => ?_)
        obtain ⟨rfl, e1, hXr, hOr⟩ := q39
        subst e1
        refine V_iret dX10_row_42 ⟨rfl, rfl⟩ (Nat.zero_le _) (Nat.zero_le _) ?_
        subst hQ
        exact ⟨_, _, _, rfl, rfl, by unfold o_row; rw [if_pos (by omega)]; exact ⟨rfl, hXr, hOr, Off.rf⟩⟩
set_option maxRecDepth 20000 in
theorem q_set {g : Ev} {S : St} {iv : IV} {lw : LW} {b : Nat} (hs : SS S b) {X : Xs} (hX : MX S iv lw b X) (hk : XOK X) {s : Int32} {i : Int32} {v : Int64} : CQ g mX10_set [.ref (b), .int (s), .int (i), .long (v)] S iv lw (fun w iv2 lw2 => MP S b iv lw (o_set X s i v) w iv2 lw2) := by
  refine CT_ofQ rfl (by decide) (Nat.le_of_ble_eq_true rfl) (lv := [(0, .ref (b)), (1, .int (s)), (2, .int (i)), (3, .long (v))]) rfl (fun Q hQ => ?_)
  have hb := hs.1
  have hA := hX.1
  have hv := hk.1
  have hnc := hv.nc
  have hne := hv.ne
  have hnm := hv.nm
  refine V_aload_n (i := 0) dX10_set_0 rfl 0 rfl ?_
  refine V_iload_n (i := 1) dX10_set_1 rfl 1 rfl ?_
  refine M_callVq (As := [.int (s)]) (st := []) dX10_set_2 lv_X10_115 ⟨by decide, by decide⟩ ⟨rfl, rfl⟩ rfl (ci := 7) hb.1 rfl rfl (Nat.le_of_ble_eq_true rfl) (r_noRow hs hX hk (s := s)) (fun w2 iv2 lw2 q2 => ?_)
  obtain ⟨e1, rfl, hN0, hN1, hNO⟩ := q2
  subst e1
  refine V_istore (lv2 := [(5, .int (thA (nrW X s))), (0, .ref (b)), (1, .int (s)), (2, .int (i)), (3, .long (v))]) dX10_set_5 (by decide) rfl ?_
  refine V_iload dX10_set_7 0 rfl ?_
  refine V_if_eq (tgt := 15) dX10_set_9 rfl (fun h9 => ?_) (fun h9 => ?_)
  · have hW := thA_0.mp h9
    obtain ⟨hin, hrow⟩ := nr_none hW
    refine M_at ?_ rfl rfl (hN0 hW) rfl
    have hSK := (hk.2.1 (iN s) (in8_i hin)).1
    have cs := iN_eq (k := s) (by omega)
    have ds := iN_i (k := s) (by omega)
    refine M_at (lv2 := [(5, .int (thA (nrW X s))), (0, .ref (b)), (1, .int (nI (iN s))), (2, .int (i)), (3, .long (v))]) (st2 := []) ?_ (by rw [← cs]) rfl rfl rfl
    refine V_iload_n (i := 2) dX10_set_15 rfl 3 rfl ?_
    refine V_i2l dX10_set_16 ?_
    refine V_lconst (v := lN 0) dX10_set_17 rfl ?_
    refine V_aload_n (i := 0) dX10_set_18 rfl 1 rfl ?_
    refine M_getR dX10_set_19 lf_X10_16 rfl hb.1 hb.2.2.2.1.1 ?_
    refine V_iload_n (i := 1) dX10_set_22 rfl 2 rfl ?_
    refine M_ialdn (j := (iN s)) (x := nI (x_T X (iN s)).2.1) dX10_set_23 hb.2.2.2.1.2 (by decide) (by omega) (((hX.2.1 (iN s) (by omega)).2.1 hrow).2.1) ?_
    refine V_iconst (v := nI 1) dX10_set_24 rfl ?_
    refine V_isub dX10_set_25 ?_
    refine V_i2l dX10_set_26 ?_
    refine M_callSp (As := [.long ((i).toInt64), .long (lN 0), .long (((nI (x_T X (iN s)).2.1 - nI 1)).toInt64)]) (st := []) dX10_set_27 ls_X10_91 ⟨by decide, by decide⟩ ⟨rfl, rfl⟩ rfl (Nat.le_of_ble_eq_true rfl) (r_inN (by omega)) ?_
    refine V_if_ne (tgt := 40) dX10_set_30 rfl (fun h30 => ?_) (fun h30 => ?_)
    · have h30 : inR i ((x_T X (iN s)).2.1) := bI_ne.mp h30
      have ci := iN_eq (k := i) (by omega)
      have di := iN_i (k := i) (by omega)
      refine M_at (lv2 := [(5, .int (thA (nrW X s))), (0, .ref (b)), (1, .int (nI (iN s))), (2, .int (nI (iN i))), (3, .long (v))]) (st2 := []) ?_ (by rw [← ci]) rfl rfl rfl
      refine V_aload_n (i := 0) dX10_set_40 rfl 1 rfl ?_
      refine M_getR dX10_set_41 lf_X10_21 rfl hb.1 hb.2.2.2.2.1.1 ?_
      refine V_iload_n (i := 1) dX10_set_44 rfl 2 rfl ?_
      refine M_aaldn (t := 2) (j := (iN s)) dX10_set_45 (by decide) hb.2.2.2.2.1.2 (by decide) (by omega) ((hb.2.2.2.2.2.2.2.2.2.2.2.2.2.2.2.2.2.2.2.2.2.2.1 (iN s) (by omega)).1) ?_
      refine V_iload_n (i := 2) dX10_set_46 rfl 3 rfl ?_
      refine V_aload_n (i := 0) dX10_set_47 rfl 1 rfl ?_
      refine M_getR dX10_set_48 lf_X10_13 rfl hb.1 hb.2.2.1.1 ?_
      refine V_iload_n (i := 1) dX10_set_51 rfl 2 rfl ?_
      refine M_ialdn (j := (iN s)) (x := (x_T X (iN s)).1) dX10_set_52 hb.2.2.1.2 (by decide) (by omega) (((hX.2.1 (iN s) (by omega)).2.1 hrow).1) ?_
      refine V_lload_n (i := 3) dX10_set_53 rfl 4 rfl ?_
      refine M_callSp (As := [.int ((x_T X (iN s)).1), .long (v)]) (st := [.int (nI (iN i)), .ref (b + 5 + (iN s))]) dX10_set_54 ls_X10_118 ⟨by decide, by decide⟩ ⟨rfl, rfl⟩ rfl (Nat.le_of_ble_eq_true rfl) (r_fit hrow) ?_
      refine M_lastn (j := (iN i)) dX10_set_57 (hb.2.2.2.2.2.2.2.2.2.2.2.2.2.2.2.2.2.2.2.2.2.2.1 (iN s) (by omega)).2 (by decide) (by omega) ?_
      refine V_iconst (v := nI 1) dX10_set_58 rfl ?_
      refine V_iret dX10_set_59 ⟨rfl, rfl⟩ (Nat.zero_le _) (Nat.zero_le _) ?_
      subst hQ
      have hXn := hX.shelf hk (j := iN s) (by omega) (ms_put (j := iN i) (v := fitL (x_T X (iN s)).1 v) (hX.2.1 (iN s) (by omega)) hrow) (fun _ _ _ => rfl) (fun a h1 h2 => up2_a h1)
      exact ⟨_, _, _, rfl, rfl, by unfold o_set; rw [if_neg (fun z => z hin), if_neg (fun z => z hrow), if_neg (fun z => z h30)]; exact ⟨rfl, hXn, Off.rf, Off.rf.up (by omega) (by omega)⟩⟩
    · have h30 : ¬ (inR i ((x_T X (iN s)).2.1)) := bI_eq0.mp h30
      refine V_aload_n (i := 0) dX10_set_33 rfl 1 rfl ?_
      refine V_bipush (v := (-2)) dX10_set_34 rfl ?_
      refine M_callVq (As := [.int ((-2))]) (st := []) dX10_set_36 lv_X10_107 ⟨by decide, by decide⟩ ⟨rfl, rfl⟩ rfl (ci := 7) hb.1 rfl rfl (Nat.le_of_ble_eq_true rfl) (q_refuse hs hX hk (j := 0) (by decide)) (fun w36 iv36 lw36 q36 => ?_)
      obtain ⟨rfl, e1, hXr, hOr⟩ := q36
      subst e1
      refine V_iret dX10_set_39 ⟨rfl, rfl⟩ (Nat.zero_le _) (Nat.zero_le _) ?_
      subst hQ
      exact ⟨_, _, _, rfl, rfl, by unfold o_set; rw [if_neg (fun z => z hin), if_neg (fun z => z hrow), if_pos h30]; exact ⟨rfl, hXr, hOr, Off.rf⟩⟩
  · obtain ⟨k0, hk0⟩ := Option.ne_none_iff_exists'.mp (fun z => h9 (thA_0.mpr z))
    refine V_iload dX10_set_12 0 rfl ?_
    refine V_iret dX10_set_14 ⟨rfl, rfl⟩ (Nat.zero_le _) (Nat.zero_le _) ?_
    subst hQ
    exact ⟨_, _, _, rfl, rfl, MP.nr hk0 (fun q1 => by unfold o_set; rw [if_pos q1]) (fun q1 q2 => by unfold o_set; rw [if_neg (fun z => z q1), if_pos q2]) (hN1 _ hk0) hNO⟩
set_option maxRecDepth 20000 in
theorem q_element {g : Ev} {S : St} {iv : IV} {lw : LW} {b : Nat} (hs : SS S b) {X : Xs} (hX : MX S iv lw b X) (hk : XOK X) {s i : Int32} : CP g mX10_element [.ref (b), .int (s), .int (i)] S iv lw (.long (o_element X s i)) := by
  refine CT_ofQ rfl (by decide) (Nat.le_of_ble_eq_true rfl) (lv := [(0, .ref (b)), (1, .int (s)), (2, .int (i))]) rfl (fun Q hQ => ?_)
  have hb := hs.1
  have hA := hX.1
  have hv := hk.1
  have hnc := hv.nc
  have hne := hv.ne
  have hnm := hv.nm
  refine V_iload_n (i := 1) dX10_element_0 rfl 1 rfl ?_
  refine V_i2l dX10_element_1 ?_
  refine V_lconst (v := lN 0) dX10_element_2 rfl ?_
  refine V_ldc2 (v := lN 7) dX10_element_3 mw_1215 ?_
  refine M_callSp (As := [.long ((s).toInt64), .long (lN 0), .long (lN 7)]) (st := []) dX10_element_6 ls_X10_91 ⟨by decide, by decide⟩ ⟨rfl, rfl⟩ rfl (Nat.le_of_ble_eq_true rfl) (r_in8) ?_
  refine V_if_eq (tgt := 51) dX10_element_9 rfl (fun h9 => ?_) (fun h9 => ?_)
  · have h9 : ¬ (inR s 8) := bI_eq0.mp h9
    refine V_lconst (v := lN 0) dX10_element_51 rfl ?_
    refine V_lret dX10_element_52 ⟨rfl, rfl⟩ (Nat.zero_le _) (Nat.zero_le _) ?_
    subst hQ
    exact ⟨by unfold o_element; rw [if_neg (fun z => h9 z.1)]; try rfl, rfl⟩
  · have h9 : inR s 8 := bI_ne.mp h9
    have hsk := sk_c (x_T X (iN s))
    have hSK := (hk.2.1 (iN s) (in8_i h9)).1
    have cs := iN_eq (k := s) (by omega)
    have ds := iN_i (k := s) (by omega)
    refine M_at (lv2 := [(0, .ref (b)), (1, .int (nI (iN s))), (2, .int (i))]) (st2 := []) ?_ (by rw [← cs]) rfl rfl rfl
    refine V_aload_n (i := 0) dX10_element_12 rfl 0 rfl ?_
    refine M_getR dX10_element_13 lf_X10_7 rfl hb.1 hb.2.1.1 ?_
    refine V_iload_n (i := 1) dX10_element_16 rfl 1 rfl ?_
    refine M_ialdn (j := (iN s)) (x := nI (sk (x_T X (iN s)))) dX10_element_17 hb.2.1.2 (by decide) (by omega) ((hX.2.1 (iN s) (by omega)).1) ?_
    refine V_iconst (v := nI 1) dX10_element_18 rfl ?_
    refine V_icmp_ne (tgt := 51) dX10_element_19 rfl (fun h19 => ?_) (fun h19 => ?_)
    · have h19 : ¬ (sk (x_T X (iN s))) = 1 := fun q => h19 ((nI_eq (by omega) (by omega)).mpr q)
      refine V_lconst (v := lN 0) dX10_element_51 rfl ?_
      refine V_lret dX10_element_52 ⟨rfl, rfl⟩ (Nat.zero_le _) (Nat.zero_le _) ?_
      subst hQ
      exact ⟨by unfold o_element; rw [if_neg (fun z => by have z1 := z.2.1; omega)]; try rfl, rfl⟩
    · have h19 : (sk (x_T X (iN s))) = 1 := (nI_eq (by omega) (by omega)).mp h19
      have hrow : rowQ (x_T X (iN s)) := by omega
      refine V_iload_n (i := 2) dX10_element_22 rfl 2 rfl ?_
      refine V_i2l dX10_element_23 ?_
      refine V_lconst (v := lN 0) dX10_element_24 rfl ?_
      refine V_aload_n (i := 0) dX10_element_25 rfl 0 rfl ?_
      refine M_getR dX10_element_26 lf_X10_16 rfl hb.1 hb.2.2.2.1.1 ?_
      refine V_iload_n (i := 1) dX10_element_29 rfl 1 rfl ?_
      refine M_ialdn (j := (iN s)) (x := nI (x_T X (iN s)).2.1) dX10_element_30 hb.2.2.2.1.2 (by decide) (by omega) (((hX.2.1 (iN s) (by omega)).2.1 hrow).2.1) ?_
      refine V_iconst (v := nI 1) dX10_element_31 rfl ?_
      refine V_isub dX10_element_32 ?_
      refine V_i2l dX10_element_33 ?_
      refine M_callSp (As := [.long ((i).toInt64), .long (lN 0), .long (((nI (x_T X (iN s)).2.1 - nI 1)).toInt64)]) (st := []) dX10_element_34 ls_X10_91 ⟨by decide, by decide⟩ ⟨rfl, rfl⟩ rfl (Nat.le_of_ble_eq_true rfl) (r_inN (by omega)) ?_
      refine V_if_eq (tgt := 51) dX10_element_37 rfl (fun h37 => ?_) (fun h37 => ?_)
      · have h37 : ¬ (inR i ((x_T X (iN s)).2.1)) := bI_eq0.mp h37
        refine V_lconst (v := lN 0) dX10_element_51 rfl ?_
        refine V_lret dX10_element_52 ⟨rfl, rfl⟩ (Nat.zero_le _) (Nat.zero_le _) ?_
        subst hQ
        exact ⟨by unfold o_element; rw [if_neg (fun z => h37 z.2.2)]; try rfl, rfl⟩
      · have h37 : inR i ((x_T X (iN s)).2.1) := bI_ne.mp h37
        have ci := iN_eq (k := i) (by omega)
        have di := iN_i (k := i) (by omega)
        refine M_at (lv2 := [(0, .ref (b)), (1, .int (nI (iN s))), (2, .int (nI (iN i)))]) (st2 := []) ?_ (by rw [← ci]) rfl rfl rfl
        refine V_aload_n (i := 0) dX10_element_40 rfl 0 rfl ?_
        refine M_getR dX10_element_41 lf_X10_21 rfl hb.1 hb.2.2.2.2.1.1 ?_
        refine V_iload_n (i := 1) dX10_element_44 rfl 1 rfl ?_
        refine M_aaldn (t := 2) (j := (iN s)) dX10_element_45 (by decide) hb.2.2.2.2.1.2 (by decide) (by omega) ((hb.2.2.2.2.2.2.2.2.2.2.2.2.2.2.2.2.2.2.2.2.2.2.1 (iN s) (by omega)).1) ?_
        refine V_iload_n (i := 2) dX10_element_46 rfl 2 rfl ?_
        refine M_laldn (j := (iN i)) (x := (x_T X (iN s)).2.2 (iN i)) dX10_element_47 (hb.2.2.2.2.2.2.2.2.2.2.2.2.2.2.2.2.2.2.2.2.2.2.1 (iN s) (by omega)).2 (by decide) (by omega) (((hX.2.1 (iN s) (by omega)).2.1 hrow).2.2 (iN i) (by omega)) ?_
        refine V_goto (tgt := 52) dX10_element_48 rfl ?_
        refine V_lret dX10_element_52 ⟨rfl, rfl⟩ (Nat.zero_le _) (Nat.zero_le _) ?_
        subst hQ
        exact ⟨by unfold o_element; rw [if_pos ⟨h9, hrow, h37⟩]; try rfl, rfl⟩
set_option maxRecDepth 20000 in
theorem q_holds {g : Ev} {S : St} {iv : IV} {lw : LW} {b : Nat} (hs : SS S b) {X : Xs} (hX : MX S iv lw b X) (hk : XOK X) {s : Int32} : CQ g mX10_holds [.ref (b), .int (s)] S iv lw (fun w iv2 lw2 => MP S b iv lw (o_holds X s) w iv2 lw2) := by
  refine CT_ofQ rfl (by decide) (Nat.le_of_ble_eq_true rfl) (lv := [(0, .ref (b)), (1, .int (s))]) rfl (fun Q hQ => ?_)
  have hb := hs.1
  have hA := hX.1
  have hv := hk.1
  have hnc := hv.nc
  have hne := hv.ne
  have hnm := hv.nm
  refine V_iload_n (i := 1) dX10_holds_0 rfl 1 rfl ?_
  refine V_i2l dX10_holds_1 ?_
  refine V_lconst (v := lN 0) dX10_holds_2 rfl ?_
  refine V_ldc2 (v := lN 7) dX10_holds_3 mw_1215 ?_
  refine M_callSp (As := [.long ((s).toInt64), .long (lN 0), .long (lN 7)]) (st := []) dX10_holds_6 ls_X10_91 ⟨by decide, by decide⟩ ⟨rfl, rfl⟩ rfl (Nat.le_of_ble_eq_true rfl) (r_in8) ?_
  refine V_if_eq (tgt := 21) dX10_holds_9 rfl (fun h9 => ?_) (fun h9 => ?_)
  · have h9 : ¬ (inR s 8) := bI_eq0.mp h9
    refine V_iconst (v := (-1)) dX10_holds_21 rfl ?_
    refine V_iret dX10_holds_22 ⟨rfl, rfl⟩ (Nat.zero_le _) (Nat.zero_le _) ?_
    subst hQ
    exact ⟨_, _, _, rfl, rfl, by unfold o_holds; rw [if_neg h9]; exact MP.same hX⟩
  · have h9 : inR s 8 := bI_ne.mp h9
    have hsk := sk_c (x_T X (iN s))
    have hSK := hk.2.1 (iN s) (in8_i h9)
    have cs := iN_eq (k := s) (by omega)
    have ds := iN_i (k := s) (by omega)
    refine M_at (lv2 := [(0, .ref (b)), (1, .int (nI (iN s)))]) (st2 := []) ?_ (by rw [← cs]) rfl rfl rfl
    refine V_aload_n (i := 0) dX10_holds_12 rfl 0 rfl ?_
    refine M_getR dX10_holds_13 lf_X10_7 rfl hb.1 hb.2.1.1 ?_
    refine V_iload_n (i := 1) dX10_holds_16 rfl 1 rfl ?_
    refine M_ialdn (j := (iN s)) (x := nI (sk (x_T X (iN s)))) dX10_holds_17 hb.2.1.2 (by decide) (by omega) ((hX.2.1 (iN s) (by omega)).1) ?_
    refine V_if_ne (tgt := 23) dX10_holds_18 rfl (fun h18 => ?_) (fun h18 => ?_)
    · have h18 : ¬ (sk (x_T X (iN s))) = 0 := fun q => h18 ((nI_eq (b := 0) (by omega) (by omega)).mpr q)
      refine V_aload_n (i := 0) dX10_holds_23 rfl 0 rfl ?_
      refine M_getR dX10_holds_24 lf_X10_7 rfl hb.1 hb.2.1.1 ?_
      refine V_iload_n (i := 1) dX10_holds_27 rfl 1 rfl ?_
      refine M_ialdn (j := (iN s)) (x := nI (sk (x_T X (iN s)))) dX10_holds_28 hb.2.1.2 (by decide) (by omega) ((hX.2.1 (iN s) (by omega)).1) ?_
      refine V_iconst (v := nI 1) dX10_holds_29 rfl ?_
      refine V_icmp_ne (tgt := 42) dX10_holds_30 rfl (fun h30 => ?_) (fun h30 => ?_)
      · have h30 : ¬ (sk (x_T X (iN s))) = 1 := fun q => h30 ((nI_eq (by omega) (by omega)).mpr q)
        refine V_bipush (v := nI 10) dX10_holds_42 rfl ?_
        refine V_aload_n (i := 0) dX10_holds_44 rfl 0 rfl ?_
        refine M_getR dX10_holds_45 lf_X10_28 rfl hb.1 hb.2.2.2.2.2.2.1.1 ?_
        refine V_iload_n (i := 1) dX10_holds_48 rfl 1 rfl ?_
        refine M_ialdn (j := (iN s)) (x := (x_T X (iN s)).1 - nI 10) dX10_holds_49 hb.2.2.2.2.2.2.1.2 (by decide) (by omega) ((hX.2.1 (iN s) (by omega)).2.2 (by omega)) ?_
        refine V_iadd dX10_holds_50 ?_
        refine M_top (x2 := (x_T X (iN s)).1) (ten_a _) ?_
        refine V_iret dX10_holds_51 ⟨rfl, rfl⟩ (Nat.zero_le _) (Nat.zero_le _) ?_
        subst hQ
        exact ⟨_, _, _, rfl, rfl, by unfold o_holds; rw [if_pos h9]; exact MP.same hX⟩
      · have h30 : (sk (x_T X (iN s))) = 1 := (nI_eq (by omega) (by omega)).mp h30
        have hrow : rowQ (x_T X (iN s)) := by omega
        refine V_aload_n (i := 0) dX10_holds_33 rfl 0 rfl ?_
        refine M_getR dX10_holds_34 lf_X10_13 rfl hb.1 hb.2.2.1.1 ?_
        refine V_iload_n (i := 1) dX10_holds_37 rfl 1 rfl ?_
        refine M_ialdn (j := (iN s)) (x := (x_T X (iN s)).1) dX10_holds_38 hb.2.2.1.2 (by decide) (by omega) (((hX.2.1 (iN s) (by omega)).2.1 hrow).1) ?_
        refine V_goto (tgt := 51) dX10_holds_39 rfl ?_
        refine V_iret dX10_holds_51 ⟨rfl, rfl⟩ (Nat.zero_le _) (Nat.zero_le _) ?_
        subst hQ
        exact ⟨_, _, _, rfl, rfl, by unfold o_holds; rw [if_pos h9]; exact MP.same hX⟩
    · have h18 : (sk (x_T X (iN s))) = 0 := (nI_eq (b := 0) (by omega) (by omega)).mp h18
      refine V_iconst (v := (-1)) dX10_holds_21 rfl ?_
      refine V_iret dX10_holds_22 ⟨rfl, rfl⟩ (Nat.zero_le _) (Nat.zero_le _) ?_
      subst hQ
      exact ⟨_, _, _, rfl, rfl, by unfold o_holds; rw [if_pos h9, T_m1 hSK (by omega) (by omega)]; exact MP.same hX⟩
set_option maxRecDepth 20000 in
theorem q_show {g : Ev} {S : St} {iv : IV} {lw : LW} {b : Nat} (hs : SS S b) {X : Xs} (hX : MX S iv lw b X) (hk : XOK X) {s : Int32} {e : Int32} : CQ g mX10_show [.ref (b), .int (s), .int (e)] S iv lw (fun w iv2 lw2 => MP S b iv lw (o_show X s e) w iv2 lw2) := by
  refine CT_ofQ rfl (by decide) (Nat.le_of_ble_eq_true rfl) (lv := [(0, .ref (b)), (1, .int (s)), (2, .int (e))]) rfl (fun Q hQ => ?_)
  have hb := hs.1
  have hA := hX.1
  have hv := hk.1
  have hnc := hv.nc
  have hne := hv.ne
  have hnm := hv.nm
  refine V_iload_n (i := 1) dX10_show_0 rfl 1 rfl ?_
  refine V_i2l dX10_show_1 ?_
  refine V_lconst (v := lN 0) dX10_show_2 rfl ?_
  refine V_ldc2 (v := lN 7) dX10_show_3 mw_1215 ?_
  refine M_callSp (As := [.long ((s).toInt64), .long (lN 0), .long (lN 7)]) (st := []) dX10_show_6 ls_X10_91 ⟨by decide, by decide⟩ ⟨rfl, rfl⟩ rfl (Nat.le_of_ble_eq_true rfl) (r_in8) ?_
  refine V_if_eq (tgt := 25) dX10_show_9 rfl (fun h9 => ?_) (fun h9 => ?_)
  · have h9 : ¬ (inR s 8) := bI_eq0.mp h9
    refine V_aload_n (i := 0) dX10_show_25 rfl 0 rfl ?_
    refine V_bipush (v := (-2)) dX10_show_26 rfl ?_
    refine M_callVq (As := [.int ((-2))]) (st := []) dX10_show_28 lv_X10_107 ⟨by decide, by decide⟩ ⟨rfl, rfl⟩ rfl (ci := 7) hb.1 rfl rfl (Nat.le_of_ble_eq_true rfl) (q_refuse hs hX hk (j := 0) (by decide)) (fun w28 iv28 lw28 q28 => ?_)
    obtain ⟨rfl, e1, hXr, hOr⟩ := q28
    subst e1
    refine V_iret dX10_show_31 ⟨rfl, rfl⟩ (Nat.zero_le _) (Nat.zero_le _) ?_
    subst hQ
    exact ⟨_, _, _, rfl, rfl, by unfold o_show; rw [if_pos (fun z => h9 z.1)]; exact ⟨rfl, hXr, hOr, Off.rf⟩⟩
  · have h9 : inR s 8 := bI_ne.mp h9
    refine V_iload_n (i := 2) dX10_show_12 rfl 2 rfl ?_
    refine V_iconst (v := (-1)) dX10_show_13 rfl ?_
    refine V_icmp_eq (tgt := 32) dX10_show_14 rfl (fun h14 => ?_) (fun h14 => ?_)
    · have cs := iN_eq (k := s) (by omega)
      have ds := iN_i (k := s) (by omega)
      refine M_at (lv2 := [(0, .ref (b)), (1, .int (nI (iN s))), (2, .int (e))]) (st2 := []) ?_ (by rw [← cs]) rfl rfl rfl
      refine V_aload_n (i := 0) dX10_show_32 rfl 0 rfl ?_
      refine M_getR dX10_show_33 lf_X10_7 rfl hb.1 hb.2.1.1 ?_
      refine M_at (lv2 := [(0, .ref (b)), (1, .int (nI (iN s))), (2, .int (-1))]) (st2 := [.ref (b + 1)]) ?_ (by rw [h14]) rfl rfl rfl
      refine V_iload_n (i := 1) dX10_show_36 rfl 1 rfl ?_
      refine V_iload_n (i := 2) dX10_show_37 rfl 2 rfl ?_
      refine V_iconst (v := (-1)) dX10_show_38 rfl ?_
      refine V_icmp_ne (tgt := 46) dX10_show_39 rfl (fun q => absurd (rfl) q) (fun _ => ?_)
      refine V_iconst (v := nI 0) dX10_show_42 rfl ?_
      refine V_goto (tgt := 47) dX10_show_43 rfl ?_
      refine M_iastn (j := (iN s)) dX10_show_47 hb.2.1.2 (by decide) (by omega) ?_
      refine V_aload_n (i := 0) dX10_show_48 rfl 0 rfl ?_
      refine M_getR dX10_show_49 lf_X10_28 rfl hb.1 hb.2.2.2.2.2.2.1.1 ?_
      refine V_iload_n (i := 1) dX10_show_52 rfl 1 rfl ?_
      refine V_iload_n (i := 2) dX10_show_53 rfl 2 rfl ?_
      refine M_iastn (j := (iN s)) dX10_show_54 hb.2.2.2.2.2.2.1.2 (by decide) (by omega) ?_
      refine V_iconst (v := nI 1) dX10_show_55 rfl ?_
      refine V_iret dX10_show_56 ⟨rfl, rfl⟩ (Nat.zero_le _) (Nat.zero_le _) ?_
      subst hQ
      have hXn := hX.shelf (iv2 := up2 (up2 iv (b + 1) (iN s) (nI 0)) (b + 14) (iN s) (-1)) hk (j := iN s) (by omega) (ms_no (k := 0) (f := (x_T X (iN s)).2.2) ((up2_ne (by omega)).trans up2_s)) (fun a q hq => by rw [up2_o (by omega), up2_o (by omega)]) (fun _ _ _ => rfl)
      exact ⟨_, _, _, rfl, rfl, by unfold o_show; rw [if_neg (fun z => z ⟨h9, Or.inl h14⟩), if_pos h14]; exact ⟨rfl, hXn, (Off.rf.up (by omega) (by omega)).up (by omega) (by omega), Off.rf⟩⟩
    · refine V_aload_n (i := 0) dX10_show_17 rfl 0 rfl ?_
      refine V_iload_n (i := 2) dX10_show_18 rfl 2 rfl ?_
      refine M_callVp (As := [.int (e)]) (st := []) dX10_show_19 lv_X10_122 ⟨by decide, by decide⟩ ⟨rfl, rfl⟩ rfl (ci := 7) hb.1 rfl rfl (Nat.le_of_ble_eq_true rfl) (r_isEar hb hA hv) ?_
      refine V_if_ne (tgt := 32) dX10_show_22 rfl (fun h22 => ?_) (fun h22 => ?_)
      · have h22 : inR e (v_ne (x_A X)) := bI_ne.mp h22
        have cs := iN_eq (k := s) (by omega)
        have ce := iN_eq (k := e) (by omega)
        have ds := iN_i (k := s) (by omega)
        have de := iN_i (k := e) (by omega)
        refine M_at (lv2 := [(0, .ref (b)), (1, .int (nI (iN s))), (2, .int (nI (iN e)))]) (st2 := []) ?_ (by rw [← cs, ← ce]) rfl rfl rfl
        refine V_aload_n (i := 0) dX10_show_32 rfl 0 rfl ?_
        refine M_getR dX10_show_33 lf_X10_7 rfl hb.1 hb.2.1.1 ?_
        refine V_iload_n (i := 1) dX10_show_36 rfl 1 rfl ?_
        refine V_iload_n (i := 2) dX10_show_37 rfl 2 rfl ?_
        refine V_iconst (v := (-1)) dX10_show_38 rfl ?_
        refine V_icmp_ne (tgt := 46) dX10_show_39 rfl (fun _ => ?_) (fun q => absurd q (by rw [← ce]; exact h14))
        refine V_iconst (v := nI 2) dX10_show_46 rfl ?_
        refine M_iastn (j := (iN s)) dX10_show_47 hb.2.1.2 (by decide) (by omega) ?_
        refine V_aload_n (i := 0) dX10_show_48 rfl 0 rfl ?_
        refine M_getR dX10_show_49 lf_X10_28 rfl hb.1 hb.2.2.2.2.2.2.1.1 ?_
        refine V_iload_n (i := 1) dX10_show_52 rfl 1 rfl ?_
        refine V_iload_n (i := 2) dX10_show_53 rfl 2 rfl ?_
        refine M_iastn (j := (iN s)) dX10_show_54 hb.2.2.2.2.2.2.1.2 (by decide) (by omega) ?_
        refine V_iconst (v := nI 1) dX10_show_55 rfl ?_
        refine V_iret dX10_show_56 ⟨rfl, rfl⟩ (Nat.zero_le _) (Nat.zero_le _) ?_
        subst hQ
        have hXn := hX.shelf (iv2 := up2 (up2 iv (b + 1) (iN s) (nI 2)) (b + 14) (iN s) (nI (iN e))) hk (j := iN s) (by omega) (ms_ear (k := 0) (f := (x_T X (iN s)).2.2) (e := iN e) (by omega) ((up2_ne (by omega)).trans up2_s) up2_s) (fun a q hq => by rw [up2_o (by omega), up2_o (by omega)]) (fun _ _ _ => rfl)
        exact ⟨_, _, _, rfl, rfl, by unfold o_show; rw [if_neg (fun z => z ⟨h9, Or.inr h22⟩), if_neg h14]; exact ⟨rfl, hXn, (Off.rf.up (by omega) (by omega)).up (by omega) (by omega), Off.rf⟩⟩
      · have h22 : ¬ (inR e (v_ne (x_A X))) := bI_eq0.mp h22
        refine V_aload_n (i := 0) dX10_show_25 rfl 0 rfl ?_
        refine V_bipush (v := (-2)) dX10_show_26 rfl ?_
        refine M_callVq (As := [.int ((-2))]) (st := []) dX10_show_28 lv_X10_107 ⟨by decide, by decide⟩ ⟨rfl, rfl⟩ rfl (ci := 7) hb.1 rfl rfl (Nat.le_of_ble_eq_true rfl) (q_refuse hs hX hk (j := 0) (by decide)) (fun w28 iv28 lw28 q28 => ?_)
        obtain ⟨rfl, e1, hXr, hOr⟩ := q28
        subst e1
        refine V_iret dX10_show_31 ⟨rfl, rfl⟩ (Nat.zero_le _) (Nat.zero_le _) ?_
        subst hQ
        exact ⟨_, _, _, rfl, rfl, by unfold o_show; rw [if_pos (fun z => z.2.elim h14 h22)]; exact ⟨rfl, hXr, hOr, Off.rf⟩⟩
set_option maxRecDepth 20000 in
theorem r_isUnder {g : Ev} {S : St} {iv : IV} {lw : LW} {k o : Nat} (hk : k ≤ 5) (ho : o ≤ 5) : CP g mX10_isUnder [.int (nI k), .int (nI o)] S iv lw (.int (bI (k = o ∨ o = 0 ∨ (k = 3 ∧ o = 1) ∨ (k = 4 ∧ o = 2)))) := by
  refine CT_ofQ rfl (by decide) (Nat.le_of_ble_eq_true rfl) (lv := [(0, .int (nI k)), (1, .int (nI o))]) rfl (fun Q hQ => ?_)
  refine V_iload_n (i := 1) dX10_isUnder_0 rfl 1 rfl ?_
  refine V_if_eq (tgt := 29) dX10_isUnder_1 rfl (fun h1 => ?_) (fun h1 => ?_)
  · have h1 : o = 0 := (nI_eq (b := 0) (by omega) (by omega)).mp h1
    refine V_iconst (v := nI 1) dX10_isUnder_29 rfl ?_
    refine V_goto (tgt := 34) dX10_isUnder_30 rfl ?_
    refine V_zret dX10_isUnder_34 ⟨rfl, rfl⟩ (by rfl) (Nat.zero_le _) (Nat.zero_le _) ?_
    subst hQ
    exact ⟨by rw [bI_t (by omega)], rfl⟩
  · have h1 : ¬ o = 0 := fun q => h1 ((nI_eq (b := 0) (by omega) (by omega)).mpr q)
    refine V_iload_n (i := 0) dX10_isUnder_4 rfl 0 rfl ?_
    refine V_iload_n (i := 1) dX10_isUnder_5 rfl 1 rfl ?_
    refine V_icmp_eq (tgt := 29) dX10_isUnder_6 rfl (fun h6 => ?_) (fun h6 => ?_)
    · have h6 : k = o := (nI_eq (by omega) (by omega)).mp h6
      refine V_iconst (v := nI 1) dX10_isUnder_29 rfl ?_
      refine V_goto (tgt := 34) dX10_isUnder_30 rfl ?_
      refine V_zret dX10_isUnder_34 ⟨rfl, rfl⟩ (by rfl) (Nat.zero_le _) (Nat.zero_le _) ?_
      subst hQ
      exact ⟨by rw [bI_t (by omega)], rfl⟩
    · have h6 : ¬ k = o := fun q => h6 ((nI_eq (by omega) (by omega)).mpr q)
      refine V_iload_n (i := 1) dX10_isUnder_9 rfl 1 rfl ?_
      refine V_iconst (v := nI 1) dX10_isUnder_10 rfl ?_
      refine V_icmp_ne (tgt := 19) dX10_isUnder_11 rfl (fun h11 => ?_) (fun h11 => ?_)
      · have h11 : ¬ o = 1 := fun q => h11 ((nI_eq (by omega) (by omega)).mpr q)
        refine V_iload_n (i := 1) dX10_isUnder_19 rfl 1 rfl ?_
        refine V_iconst (v := nI 2) dX10_isUnder_20 rfl ?_
        refine V_icmp_ne (tgt := 33) dX10_isUnder_21 rfl (fun h21 => ?_) (fun h21 => ?_)
        · have h21 : ¬ o = 2 := fun q => h21 ((nI_eq (by omega) (by omega)).mpr q)
          refine V_iconst (v := nI 0) dX10_isUnder_33 rfl ?_
          refine V_zret dX10_isUnder_34 ⟨rfl, rfl⟩ (by rfl) (Nat.zero_le _) (Nat.zero_le _) ?_
          subst hQ
          exact ⟨by rw [bI_f (by omega)], rfl⟩
        · have h21 : o = 2 := (nI_eq (by omega) (by omega)).mp h21
          refine V_iload_n (i := 0) dX10_isUnder_24 rfl 0 rfl ?_
          refine V_iconst (v := nI 4) dX10_isUnder_25 rfl ?_
          refine V_icmp_ne (tgt := 33) dX10_isUnder_26 rfl (fun h26 => ?_) (fun h26 => ?_)
          · have h26 : ¬ k = 4 := fun q => h26 ((nI_eq (by omega) (by omega)).mpr q)
            refine V_iconst (v := nI 0) dX10_isUnder_33 rfl ?_
            refine V_zret dX10_isUnder_34 ⟨rfl, rfl⟩ (by rfl) (Nat.zero_le _) (Nat.zero_le _) ?_
            subst hQ
            exact ⟨by rw [bI_f (by omega)], rfl⟩
          · have h26 : k = 4 := (nI_eq (by omega) (by omega)).mp h26
            refine V_iconst (v := nI 1) dX10_isUnder_29 rfl ?_
            refine V_goto (tgt := 34) dX10_isUnder_30 rfl ?_
            refine V_zret dX10_isUnder_34 ⟨rfl, rfl⟩ (by rfl) (Nat.zero_le _) (Nat.zero_le _) ?_
            subst hQ
            exact ⟨by rw [bI_t (by omega)], rfl⟩
      · have h11 : o = 1 := (nI_eq (by omega) (by omega)).mp h11
        refine V_iload_n (i := 0) dX10_isUnder_14 rfl 0 rfl ?_
        refine V_iconst (v := nI 3) dX10_isUnder_15 rfl ?_
        refine V_icmp_eq (tgt := 29) dX10_isUnder_16 rfl (fun h16 => ?_) (fun h16 => ?_)
        · have h16 : k = 3 := (nI_eq (by omega) (by omega)).mp h16
          refine V_iconst (v := nI 1) dX10_isUnder_29 rfl ?_
          refine V_goto (tgt := 34) dX10_isUnder_30 rfl ?_
          refine V_zret dX10_isUnder_34 ⟨rfl, rfl⟩ (by rfl) (Nat.zero_le _) (Nat.zero_le _) ?_
          subst hQ
          exact ⟨by rw [bI_t (by omega)], rfl⟩
        · have h16 : ¬ k = 3 := fun q => h16 ((nI_eq (by omega) (by omega)).mpr q)
          refine V_iload_n (i := 1) dX10_isUnder_19 rfl 1 rfl ?_
          refine V_iconst (v := nI 2) dX10_isUnder_20 rfl ?_
          refine V_icmp_ne (tgt := 33) dX10_isUnder_21 rfl (fun h21 => ?_) (fun h21 => ?_)
          · have h21 : ¬ o = 2 := fun q => h21 ((nI_eq (by omega) (by omega)).mpr q)
            refine V_iconst (v := nI 0) dX10_isUnder_33 rfl ?_
            refine V_zret dX10_isUnder_34 ⟨rfl, rfl⟩ (by rfl) (Nat.zero_le _) (Nat.zero_le _) ?_
            subst hQ
            exact ⟨by rw [bI_f (by omega)], rfl⟩
          · have h21 : o = 2 := (nI_eq (by omega) (by omega)).mp h21
            refine V_iload_n (i := 0) dX10_isUnder_24 rfl 0 rfl ?_
            refine V_iconst (v := nI 4) dX10_isUnder_25 rfl ?_
            refine V_icmp_ne (tgt := 33) dX10_isUnder_26 rfl (fun h26 => ?_) (fun h26 => ?_)
            · have h26 : ¬ k = 4 := fun q => h26 ((nI_eq (by omega) (by omega)).mpr q)
              refine V_iconst (v := nI 0) dX10_isUnder_33 rfl ?_
              refine V_zret dX10_isUnder_34 ⟨rfl, rfl⟩ (by rfl) (Nat.zero_le _) (Nat.zero_le _) ?_
              subst hQ
              exact ⟨by rw [bI_f (by omega)], rfl⟩
            · have h26 : k = 4 := (nI_eq (by omega) (by omega)).mp h26
              refine V_iconst (v := nI 1) dX10_isUnder_29 rfl ?_
              refine V_goto (tgt := 34) dX10_isUnder_30 rfl ?_
              refine V_zret dX10_isUnder_34 ⟨rfl, rfl⟩ (by rfl) (Nat.zero_le _) (Nat.zero_le _) ?_
              subst hQ
              exact ⟨by rw [bI_t (by omega)], rfl⟩
set_option maxRecDepth 20000 in
theorem q_says {g : Ev} {S : St} {iv : IV} {lw : LW} {b : Nat} (hs : SS S b) {X : Xs} (hX : MX S iv lw b X) (hk : XOK X) {s : Int32} {k : Int32} : CQ g mX10_says [.ref (b), .int (s), .int (k)] S iv lw (fun w iv2 lw2 => MP S b iv lw (o_says X s k) w iv2 lw2) := by
  refine CT_ofQ rfl (by decide) (Nat.le_of_ble_eq_true rfl) (lv := [(0, .ref (b)), (1, .int (s)), (2, .int (k))]) rfl (fun Q hQ => ?_)
  have hb := hs.1
  have hA := hX.1
  have hv := hk.1
  have hnc := hv.nc
  have hne := hv.ne
  have hnm := hv.nm
  refine V_iload_n (i := 1) dX10_says_0 rfl 1 rfl ?_
  refine V_i2l dX10_says_1 ?_
  refine V_lconst (v := lN 0) dX10_says_2 rfl ?_
  refine V_ldc2 (v := lN 7) dX10_says_3 mw_1215 ?_
  refine M_callSp (As := [.long ((s).toInt64), .long (lN 0), .long (lN 7)]) (st := []) dX10_says_6 ls_X10_91 ⟨by decide, by decide⟩ ⟨rfl, rfl⟩ rfl (Nat.le_of_ble_eq_true rfl) (r_in8) ?_
  refine V_if_eq (tgt := 24) dX10_says_9 rfl (fun h9 => ?_) (fun h9 => ?_)
  · have h9 : ¬ (inR s 8) := bI_eq0.mp h9
    refine V_aload_n (i := 0) dX10_says_24 rfl 0 rfl ?_
    refine V_bipush (v := (-2)) dX10_says_25 rfl ?_
    refine M_callVq (As := [.int ((-2))]) (st := []) dX10_says_27 lv_X10_107 ⟨by decide, by decide⟩ ⟨rfl, rfl⟩ rfl (ci := 7) hb.1 rfl rfl (Nat.le_of_ble_eq_true rfl) (q_refuse hs hX hk (j := 0) (by decide)) (fun w27 iv27 lw27 q27 => ?_)
    obtain ⟨rfl, e1, hXr, hOr⟩ := q27
    subst e1
    refine V_iret dX10_says_30 ⟨rfl, rfl⟩ (Nat.zero_le _) (Nat.zero_le _) ?_
    subst hQ
    exact ⟨_, _, _, rfl, rfl, by unfold o_says; rw [if_pos (fun z => by have z1 := z.2; have z2 := z.1; omega)]; exact ⟨rfl, hXr, hOr, Off.rf⟩⟩
  · have h9 : inR s 8 := bI_ne.mp h9
    refine V_iload_n (i := 2) dX10_says_12 rfl 2 rfl ?_
    refine V_i2l dX10_says_13 ?_
    refine V_lconst (v := lN 0) dX10_says_14 rfl ?_
    refine V_ldc2 (v := lN 5) dX10_says_15 mw_1264 ?_
    refine M_callSp (As := [.long ((k).toInt64), .long (lN 0), .long (lN 5)]) (st := []) dX10_says_18 ls_X10_91 ⟨by decide, by decide⟩ ⟨rfl, rfl⟩ rfl (Nat.le_of_ble_eq_true rfl) (r_inK (by decide) (by decide)) ?_
    refine V_if_ne (tgt := 31) dX10_says_21 rfl (fun h21 => ?_) (fun h21 => ?_)
    · have h21 : (0 : Int) ≤ k.toInt ∧ k.toInt ≤ 5 := bI_ne.mp h21
      have hsk := sk_c (x_T X (iN s))
      have cs := iN_eq (k := s) (by omega)
      have ck := iN_eq (k := k) (by omega)
      have ds := iN_i (k := s) (by omega)
      have dk := iN_i (k := k) (by omega)
      refine M_at (lv2 := [(0, .ref (b)), (1, .int (nI (iN s))), (2, .int (nI (iN k)))]) (st2 := []) ?_ (by rw [← cs, ← ck]) rfl rfl rfl
      refine V_aload_n (i := 0) dX10_says_31 rfl 0 rfl ?_
      refine M_getR dX10_says_32 lf_X10_7 rfl hb.1 hb.2.1.1 ?_
      refine V_iload_n (i := 1) dX10_says_35 rfl 1 rfl ?_
      refine M_ialdn (j := (iN s)) (x := nI (sk (x_T X (iN s)))) dX10_says_36 hb.2.1.2 (by decide) (by omega) ((hX.2.1 (iN s) (by omega)).1) ?_
      refine V_iconst (v := nI 1) dX10_says_37 rfl ?_
      refine V_icmp_eq (tgt := 69) dX10_says_38 rfl (fun h38 => ?_) (fun h38 => ?_)
      · have h38 : (sk (x_T X (iN s))) = 1 := (nI_eq (by omega) (by omega)).mp h38
        refine V_aload_n (i := 0) dX10_says_69 rfl 0 rfl ?_
        refine V_bipush (v := (-3)) dX10_says_70 rfl ?_
        refine M_callVq (As := [.int ((-3))]) (st := []) dX10_says_72 lv_X10_107 ⟨by decide, by decide⟩ ⟨rfl, rfl⟩ rfl (ci := 7) hb.1 rfl rfl (Nat.le_of_ble_eq_true rfl) (q_refuse hs hX hk (j := 1) (by decide)) (fun w72 iv72 lw72 q72 => ?_)
        obtain ⟨rfl, e1, hXr, hOr⟩ := q72
        subst e1
        refine V_iret dX10_says_75 ⟨rfl, rfl⟩ (Nat.zero_le _) (Nat.zero_le _) ?_
        subst hQ
        exact ⟨_, _, _, rfl, rfl, by unfold o_says; rw [if_neg (fun z => z ⟨h9, by omega, by omega⟩), if_pos (by omega)]; exact ⟨rfl, hXr, hOr, Off.rf⟩⟩
      · have h38 : ¬ (sk (x_T X (iN s))) = 1 := fun q => h38 ((nI_eq (by omega) (by omega)).mpr q)
        refine V_aload_n (i := 0) dX10_says_41 rfl 0 rfl ?_
        refine M_getR dX10_says_42 lf_X10_7 rfl hb.1 hb.2.1.1 ?_
        refine V_iload_n (i := 1) dX10_says_45 rfl 1 rfl ?_
        refine M_ialdn (j := (iN s)) (x := nI (sk (x_T X (iN s)))) dX10_says_46 hb.2.1.2 (by decide) (by omega) ((hX.2.1 (iN s) (by omega)).1) ?_
        refine V_iconst (v := nI 2) dX10_says_47 rfl ?_
        refine V_icmp_ne (tgt := 76) dX10_says_48 rfl (fun h48 => ?_) (fun h48 => ?_)
        · have h48 : ¬ (sk (x_T X (iN s))) = 2 := fun q => h48 ((nI_eq (by omega) (by omega)).mpr q)
          refine V_aload_n (i := 0) dX10_says_76 rfl 0 rfl ?_
          refine M_getR dX10_says_77 lf_X10_7 rfl hb.1 hb.2.1.1 ?_
          refine V_iload_n (i := 1) dX10_says_80 rfl 1 rfl ?_
          refine M_ialdn (j := (iN s)) (x := nI (sk (x_T X (iN s)))) dX10_says_81 hb.2.1.2 (by decide) (by omega) ((hX.2.1 (iN s) (by omega)).1) ?_
          refine V_if_ne (tgt := 92) dX10_says_82 rfl (fun q => absurd (by rw [show sk (x_T X (iN s)) = 0 by omega]; rfl) q) (fun _ => ?_)
          refine V_aload_n (i := 0) dX10_says_85 rfl 0 rfl ?_
          refine V_bipush (v := (-4)) dX10_says_86 rfl ?_
          refine M_callVq (As := [.int ((-4))]) (st := []) dX10_says_88 lv_X10_107 ⟨by decide, by decide⟩ ⟨rfl, rfl⟩ rfl (ci := 7) hb.1 rfl rfl (Nat.le_of_ble_eq_true rfl) (q_refuse hs hX hk (j := 2) (by decide)) (fun w88 iv88 lw88 q88 => ?_)
          obtain ⟨rfl, e1, hXr, hOr⟩ := q88
          subst e1
          refine V_iret dX10_says_91 ⟨rfl, rfl⟩ (Nat.zero_le _) (Nat.zero_le _) ?_
          subst hQ
          exact ⟨_, _, _, rfl, rfl, by unfold o_says; rw [if_neg (fun z => z ⟨h9, by omega, by omega⟩), if_neg (by omega), if_pos (by omega)]; exact ⟨rfl, hXr, hOr, Off.rf⟩⟩
        · have h48 : (sk (x_T X (iN s))) = 2 := (nI_eq (by omega) (by omega)).mp h48
          have hear : earQ (x_T X (iN s)) := by omega
          obtain ⟨e0, he0, he1⟩ := hk.2.2.1 (iN s) (by omega) hear
          have he6 : e0 < 6 := by omega
          have he2 : (x_T X (iN s)).1 - nI 10 = nI e0 := by rw [he1, ten_m he6]
          have he3 : iN ((x_T X (iN s)).1 - nI 10) = e0 := by rw [he2, iN_nI (by omega)]
          have hkd := hv.kd he0
          have hby := hv.by he0
          refine V_aload_n (i := 0) dX10_says_51 rfl 0 rfl ?_
          refine M_getR dX10_says_52 lf_X10_51 rfl hb.1 hb.2.2.2.2.2.2.2.2.2.2.2.2.2.1.1 ?_
          refine V_aload_n (i := 0) dX10_says_55 rfl 0 rfl ?_
          refine M_getR dX10_says_56 lf_X10_28 rfl hb.1 hb.2.2.2.2.2.2.1.1 ?_
          refine V_iload_n (i := 1) dX10_says_59 rfl 1 rfl ?_
          refine M_ialdn (j := (iN s)) (x := nI e0) dX10_says_60 hb.2.2.2.2.2.2.1.2 (by decide) (by omega) (((hX.2.1 (iN s) (by omega)).2.2 hear).trans he2) ?_
          refine M_ialdn (j := e0) (x := nI (v_kd (x_A X) e0)) dX10_says_61 hb.2.2.2.2.2.2.2.2.2.2.2.2.2.1.2 (by decide) (by omega) (hA.kd (e := e0) (by omega)) ?_
          refine V_iload_n (i := 2) dX10_says_62 rfl 2 rfl ?_
          refine M_callSp (As := [.int (nI (v_kd (x_A X) e0)), .int (nI (iN k))]) (st := []) dX10_says_63 ls_X10_128 ⟨by decide, by decide⟩ ⟨rfl, rfl⟩ rfl (Nat.le_of_ble_eq_true rfl) (r_isUnder (k := v_kd (x_A X) e0) (o := iN k) (by omega) (by omega)) ?_
          refine V_if_ne (tgt := 76) dX10_says_66 rfl (fun h66 => ?_) (fun h66 => ?_)
          · have h66 : v_kd (x_A X) e0 = iN k ∨ iN k = 0 ∨ (v_kd (x_A X) e0 = 3 ∧ iN k = 1) ∨ (v_kd (x_A X) e0 = 4 ∧ iN k = 2) := bI_ne.mp h66
            refine V_aload_n (i := 0) dX10_says_76 rfl 0 rfl ?_
            refine M_getR dX10_says_77 lf_X10_7 rfl hb.1 hb.2.1.1 ?_
            refine V_iload_n (i := 1) dX10_says_80 rfl 1 rfl ?_
            refine M_ialdn (j := (iN s)) (x := nI (sk (x_T X (iN s)))) dX10_says_81 hb.2.1.2 (by decide) (by omega) ((hX.2.1 (iN s) (by omega)).1) ?_
            refine V_if_ne (tgt := 92) dX10_says_82 rfl (fun _ => ?_) (fun q => absurd q (fun z => by have := (nI_eq (b := 0) (by omega) (by omega)).mp z; omega))
            refine V_aload_n (i := 0) dX10_says_92 rfl 0 rfl ?_
            refine M_getR dX10_says_93 lf_X10_28 rfl hb.1 hb.2.2.2.2.2.2.1.1 ?_
            refine V_iload_n (i := 1) dX10_says_96 rfl 1 rfl ?_
            refine M_ialdn (j := (iN s)) (x := nI e0) dX10_says_97 hb.2.2.2.2.2.2.1.2 (by decide) (by omega) (((hX.2.1 (iN s) (by omega)).2.2 hear).trans he2) ?_
            refine V_istore_n (lv2 := [(3, .int (nI e0)), (0, .ref (b)), (1, .int (nI (iN s))), (2, .int (nI (iN k)))]) dX10_says_98 rfl (by decide) rfl ?_
            refine V_iconst (v := nI 0) dX10_says_99 rfl ?_
            refine V_istore (lv2 := [(4, .int (nI 0)), (3, .int (nI e0)), (0, .ref (b)), (1, .int (nI (iN s))), (2, .int (nI (iN k)))]) dX10_says_100 (by decide) rfl ?_
            refine V_iload_n (i := 2) dX10_says_102 rfl 4 rfl ?_
            by_cases hs103_0 : ((iN k) : Int) = 0
            · refine V_tabIn (v := 0) (tgt := 136) dX10_says_103 (by rw [nI_toInt (n := (iN k)) (by omega)]; exact hs103_0) (by decide) rfl rfl ?_
              have hs103_0 : (iN k) = 0 := by omega
              refine V_aload_n (i := 0) dX10_says_136 rfl 2 rfl ?_
              refine M_getR dX10_says_137 lf_X10_54 rfl hb.1 hb.2.2.2.2.2.2.2.2.2.2.2.2.2.2.1.1 ?_
              refine V_iload_n (i := 3) dX10_says_140 rfl 1 rfl ?_
              refine M_ialdn (j := e0) (x := nI (v_by (x_A X) e0)) dX10_says_141 hb.2.2.2.2.2.2.2.2.2.2.2.2.2.2.1.2 (by decide) (by omega) (hA.by (e := e0) (by omega)) ?_
              refine V_iret dX10_says_142 ⟨rfl, rfl⟩ (Nat.zero_le _) (Nat.zero_le _) ?_
              subst hQ
              exact ⟨_, _, _, rfl, rfl, by unfold o_says; rw [he3, if_neg (fun z => z ⟨h9, by omega, by omega⟩), if_neg (by omega), if_neg (fun z => z hear), if_neg (fun z => z (decide_eq_true h66)), hs103_0, tlV_0]; exact MP.same hX⟩
            by_cases hs103_1 : ((iN k) : Int) = 1
            · refine V_tabIn (v := 1) (tgt := 145) dX10_says_103 (by rw [nI_toInt (n := (iN k)) (by omega)]; exact hs103_1) (by decide) rfl rfl ?_
              have hs103_1 : (iN k) = 1 := by omega
              refine V_iconst (v := nI 0) dX10_says_145 rfl ?_
              refine V_istore (lv2 := [(5, .int (nI 0)), (4, .int (nI 0)), (3, .int (nI e0)), (0, .ref (b)), (1, .int (nI (iN s))), (2, .int (nI (iN k)))]) dX10_says_146 (by decide) rfl ?_
              have lp148 : ∀ j, j ≤ 8 → VM g mX10_says 148 [(5, .int (nI j)), (4, .int (nI (cntTo (slB (v_kd (x_A X) e0) (v_by (x_A X) e0) (iN k)) j))), (0, .ref (b)), (1, .int (nI (iN s))), (2, .int (nI (iN k))), (3, .int (nI e0))] [] S iv lw Q := by
                refine up_ind fun j hj ih148 => ?_
                refine V_iload dX10_says_148 0 rfl ?_
                refine V_bipush (v := nI 8) dX10_says_150 rfl ?_
                refine V_icmp_ge (tgt := 215) dX10_says_152 rfl (fun h152 => ?_) (fun h152 => ?_)
                · have h152 : 8 ≤ j := (nI_leI (by omega) (by omega)).mp h152
                  refine V_iload dX10_says_215 1 rfl ?_
                  refine V_iret dX10_says_217 ⟨rfl, rfl⟩ (Nat.zero_le _) (Nat.zero_le _) ?_
                  subst hQ
                  obtain rfl : j = 8 := by omega
                  exact ⟨_, _, _, rfl, rfl, by unfold o_says; rw [he3, if_neg (fun z => z ⟨h9, by omega, by omega⟩), if_neg (by omega), if_neg (fun z => z hear), if_neg (fun z => z (decide_eq_true h66)), tlV_1 h66 (by omega)]; exact MP.same hX⟩
                · have h152 : ¬ 8 ≤ j := fun q => h152 ((nI_leI (by omega) (by omega)).mpr q)
                  refine V_iload_n (i := 2) dX10_says_155 rfl 4 rfl ?_
                  refine V_iconst (v := nI 5) dX10_says_156 rfl ?_
                  refine V_icmp_ne (tgt := 183) dX10_says_157 rfl (fun h157 => ?_) (fun h157 => ?_)
                  · have h157 : ¬ (iN k) = 5 := fun q => h157 ((nI_eq (by omega) (by omega)).mpr q)
                    refine V_aload_n (i := 0) dX10_says_183 rfl 2 rfl ?_
                    refine V_iload_n (i := 3) dX10_says_184 rfl 5 rfl ?_
                    refine V_bipush (v := nI 8) dX10_says_185 rfl ?_
                    refine V_iload dX10_says_187 0 rfl ?_
                    refine M_callVp (As := [.int (nI e0), .int (nI 8), .int (nI j)]) (st := []) dX10_says_189 lv_X10_135 ⟨by decide, by decide⟩ ⟨rfl, rfl⟩ rfl (ci := 7) hb.1 rfl rfl (Nat.le_of_ble_eq_true rfl) (r_isTorn hb hA hv he0 (m := 8) (i := j) (by omega) (by omega)) ?_
                    refine V_istore (lv2 := [(6, .int (bI (j < v_by (x_A X) e0 ∨ (v_kd (x_A X) e0 = 3 ∧ j + 1 = 8)))), (5, .int (nI j)), (4, .int (nI (cntTo (slB (v_kd (x_A X) e0) (v_by (x_A X) e0) (iN k)) j))), (0, .ref (b)), (1, .int (nI (iN s))), (2, .int (nI (iN k))), (3, .int (nI e0))]) dX10_says_192 (by decide) rfl ?_
                    refine V_iload dX10_says_194 2 rfl ?_
                    refine V_iload dX10_says_196 0 rfl ?_
                    refine V_if_eq (tgt := 205) dX10_says_198 rfl (fun h198 => ?_) (fun h198 => ?_)
                    · have h198 : ¬ (j < v_by (x_A X) e0 ∨ (v_kd (x_A X) e0 = 3 ∧ j + 1 = 8)) := bI_eq0.mp h198
                      refine V_iconst (v := nI 0) dX10_says_205 rfl ?_
                      refine V_iadd dX10_says_206 ?_
                      refine M_top (nI_add _ _) ?_
                      refine V_istore (lv2 := [(4, .int (nI ((cntTo (slB (v_kd (x_A X) e0) (v_by (x_A X) e0) (iN k)) j) + 0))), (6, .int (bI (j < v_by (x_A X) e0 ∨ (v_kd (x_A X) e0 = 3 ∧ j + 1 = 8)))), (5, .int (nI j)), (0, .ref (b)), (1, .int (nI (iN s))), (2, .int (nI (iN k))), (3, .int (nI e0))]) dX10_says_207 (by decide) rfl ?_
                      refine V_iinc (v := nI (j + 1)) (lv2 := [(5, .int (nI (j + 1))), (4, .int (nI ((cntTo (slB (v_kd (x_A X) e0) (v_by (x_A X) e0) (iN k)) j) + 0))), (6, .int (bI (j < v_by (x_A X) e0 ∨ (v_kd (x_A X) e0 = 3 ∧ j + 1 = 8)))), (0, .ref (b)), (1, .int (nI (iN s))), (2, .int (nI (iN k))), (3, .int (nI e0))]) dX10_says_209 2 rfl (nI_inc _) (by decide) rfl ?_
                      refine V_goto (tgt := 148) dX10_says_212 rfl ?_
                      refine V_sub [0, 1, 3, 4, 5, 6] rfl ?_
                      exact M_at (ih148 (by omega)) (by rw [cntTo_f (by unfold slB; rw [if_neg h157]; exact decide_eq_false h198)]; rfl) rfl (rfl) (rfl)
                    · have h198 : j < v_by (x_A X) e0 ∨ (v_kd (x_A X) e0 = 3 ∧ j + 1 = 8) := bI_ne.mp h198
                      refine V_iconst (v := nI 1) dX10_says_201 rfl ?_
                      refine V_goto (tgt := 206) dX10_says_202 rfl ?_
                      refine V_iadd dX10_says_206 ?_
                      refine M_top (nI_add _ _) ?_
                      refine V_istore (lv2 := [(4, .int (nI ((cntTo (slB (v_kd (x_A X) e0) (v_by (x_A X) e0) (iN k)) j) + 1))), (6, .int (bI (j < v_by (x_A X) e0 ∨ (v_kd (x_A X) e0 = 3 ∧ j + 1 = 8)))), (5, .int (nI j)), (0, .ref (b)), (1, .int (nI (iN s))), (2, .int (nI (iN k))), (3, .int (nI e0))]) dX10_says_207 (by decide) rfl ?_
                      refine V_iinc (v := nI (j + 1)) (lv2 := [(5, .int (nI (j + 1))), (4, .int (nI ((cntTo (slB (v_kd (x_A X) e0) (v_by (x_A X) e0) (iN k)) j) + 1))), (6, .int (bI (j < v_by (x_A X) e0 ∨ (v_kd (x_A X) e0 = 3 ∧ j + 1 = 8)))), (0, .ref (b)), (1, .int (nI (iN s))), (2, .int (nI (iN k))), (3, .int (nI e0))]) dX10_says_209 2 rfl (nI_inc _) (by decide) rfl ?_
                      refine V_goto (tgt := 148) dX10_says_212 rfl ?_
                      refine V_sub [0, 1, 3, 4, 5, 6] rfl ?_
                      exact M_at (ih148 (by omega)) (by rw [cntTo_t (by unfold slB; rw [if_neg h157]; exact decide_eq_true h198)]; rfl) rfl (rfl) (rfl)
                  · have h157 : (iN k) = 5 := (nI_eq (by omega) (by omega)).mp h157
                    refine V_iload dX10_says_160 0 rfl ?_
                    refine V_if_le (tgt := 179) dX10_says_162 rfl (fun h162 => ?_) (fun h162 => ?_)
                    · have h162 : j ≤ 0 := (nI_leI (b := 0) (by omega) (by omega)).mp h162
                      refine V_iconst (v := nI 0) dX10_says_179 rfl ?_
                      refine V_goto (tgt := 192) dX10_says_180 rfl ?_
                      refine V_istore (lv2 := [(6, .int (nI 0)), (5, .int (nI j)), (4, .int (nI (cntTo (slB (v_kd (x_A X) e0) (v_by (x_A X) e0) (iN k)) j))), (0, .ref (b)), (1, .int (nI (iN s))), (2, .int (nI (iN k))), (3, .int (nI e0))]) dX10_says_192 (by decide) rfl ?_
                      refine V_iload dX10_says_194 2 rfl ?_
                      refine V_iload dX10_says_196 0 rfl ?_
                      refine V_if_eq (tgt := 205) dX10_says_198 rfl (fun _ => ?_) (fun q => absurd (by decide) q)
                      refine V_iconst (v := nI 0) dX10_says_205 rfl ?_
                      refine V_iadd dX10_says_206 ?_
                      refine M_top (nI_add _ _) ?_
                      refine V_istore (lv2 := [(4, .int (nI ((cntTo (slB (v_kd (x_A X) e0) (v_by (x_A X) e0) (iN k)) j) + 0))), (6, .int (nI 0)), (5, .int (nI j)), (0, .ref (b)), (1, .int (nI (iN s))), (2, .int (nI (iN k))), (3, .int (nI e0))]) dX10_says_207 (by decide) rfl ?_
                      refine V_iinc (v := nI (j + 1)) (lv2 := [(5, .int (nI (j + 1))), (4, .int (nI ((cntTo (slB (v_kd (x_A X) e0) (v_by (x_A X) e0) (iN k)) j) + 0))), (6, .int (nI 0)), (0, .ref (b)), (1, .int (nI (iN s))), (2, .int (nI (iN k))), (3, .int (nI e0))]) dX10_says_209 2 rfl (nI_inc _) (by decide) rfl ?_
                      refine V_goto (tgt := 148) dX10_says_212 rfl ?_
                      refine V_sub [0, 1, 3, 4, 5, 6] rfl ?_
                      exact M_at (ih148 (by omega)) (by rw [cntTo_f (by unfold slB; rw [if_pos h157]; exact decide_eq_false (fun z => absurd z.1 (by omega)))]; rfl) rfl (rfl) (rfl)
                    · have h162 : ¬ j ≤ 0 := fun q => h162 ((nI_leI (b := 0) (by omega) (by omega)).mpr q)
                      refine V_aload_n (i := 0) dX10_says_165 rfl 2 rfl ?_
                      refine V_iload_n (i := 3) dX10_says_166 rfl 5 rfl ?_
                      refine V_iload dX10_says_167 0 rfl ?_
                      refine M_callVp (As := [.int (nI e0), .int (nI j)]) (st := []) dX10_says_169 lv_X10_132 ⟨by decide, by decide⟩ ⟨rfl, rfl⟩ rfl (ci := 7) hb.1 rfl rfl (Nat.le_of_ble_eq_true rfl) (r_isEchoed hb hA hv he0 (i := j) (by omega)) ?_
                      refine V_if_eq (tgt := 179) dX10_says_172 rfl (fun h172 => ?_) (fun h172 => ?_)
                      · have h172 : ¬ (j % (v_by (x_A X) e0 + 1) = v_by (x_A X) e0) := bI_eq0.mp h172
                        refine V_iconst (v := nI 0) dX10_says_179 rfl ?_
                        refine V_goto (tgt := 192) dX10_says_180 rfl ?_
                        refine V_istore (lv2 := [(6, .int (nI 0)), (5, .int (nI j)), (4, .int (nI (cntTo (slB (v_kd (x_A X) e0) (v_by (x_A X) e0) (iN k)) j))), (0, .ref (b)), (1, .int (nI (iN s))), (2, .int (nI (iN k))), (3, .int (nI e0))]) dX10_says_192 (by decide) rfl ?_
                        refine V_iload dX10_says_194 2 rfl ?_
                        refine V_iload dX10_says_196 0 rfl ?_
                        refine V_if_eq (tgt := 205) dX10_says_198 rfl (fun _ => ?_) (fun q => absurd (by decide) q)
                        refine V_iconst (v := nI 0) dX10_says_205 rfl ?_
                        refine V_iadd dX10_says_206 ?_
                        refine M_top (nI_add _ _) ?_
                        refine V_istore (lv2 := [(4, .int (nI ((cntTo (slB (v_kd (x_A X) e0) (v_by (x_A X) e0) (iN k)) j) + 0))), (6, .int (nI 0)), (5, .int (nI j)), (0, .ref (b)), (1, .int (nI (iN s))), (2, .int (nI (iN k))), (3, .int (nI e0))]) dX10_says_207 (by decide) rfl ?_
                        refine V_iinc (v := nI (j + 1)) (lv2 := [(5, .int (nI (j + 1))), (4, .int (nI ((cntTo (slB (v_kd (x_A X) e0) (v_by (x_A X) e0) (iN k)) j) + 0))), (6, .int (nI 0)), (0, .ref (b)), (1, .int (nI (iN s))), (2, .int (nI (iN k))), (3, .int (nI e0))]) dX10_says_209 2 rfl (nI_inc _) (by decide) rfl ?_
                        refine V_goto (tgt := 148) dX10_says_212 rfl ?_
                        refine V_sub [0, 1, 3, 4, 5, 6] rfl ?_
                        exact M_at (ih148 (by omega)) (by rw [cntTo_f (by unfold slB; rw [if_pos h157]; exact decide_eq_false (fun z => h172 z.2))]; rfl) rfl (rfl) (rfl)
                      · have h172 : j % (v_by (x_A X) e0 + 1) = v_by (x_A X) e0 := bI_ne.mp h172
                        refine V_iconst (v := nI 1) dX10_says_175 rfl ?_
                        refine V_goto (tgt := 192) dX10_says_176 rfl ?_
                        refine V_istore (lv2 := [(6, .int (nI 1)), (5, .int (nI j)), (4, .int (nI (cntTo (slB (v_kd (x_A X) e0) (v_by (x_A X) e0) (iN k)) j))), (0, .ref (b)), (1, .int (nI (iN s))), (2, .int (nI (iN k))), (3, .int (nI e0))]) dX10_says_192 (by decide) rfl ?_
                        refine V_iload dX10_says_194 2 rfl ?_
                        refine V_iload dX10_says_196 0 rfl ?_
                        refine V_if_eq (tgt := 205) dX10_says_198 rfl (fun q => absurd q (by decide)) (fun _ => ?_)
                        refine V_iconst (v := nI 1) dX10_says_201 rfl ?_
                        refine V_goto (tgt := 206) dX10_says_202 rfl ?_
                        refine V_iadd dX10_says_206 ?_
                        refine M_top (nI_add _ _) ?_
                        refine V_istore (lv2 := [(4, .int (nI ((cntTo (slB (v_kd (x_A X) e0) (v_by (x_A X) e0) (iN k)) j) + 1))), (6, .int (nI 1)), (5, .int (nI j)), (0, .ref (b)), (1, .int (nI (iN s))), (2, .int (nI (iN k))), (3, .int (nI e0))]) dX10_says_207 (by decide) rfl ?_
                        refine V_iinc (v := nI (j + 1)) (lv2 := [(5, .int (nI (j + 1))), (4, .int (nI ((cntTo (slB (v_kd (x_A X) e0) (v_by (x_A X) e0) (iN k)) j) + 1))), (6, .int (nI 1)), (0, .ref (b)), (1, .int (nI (iN s))), (2, .int (nI (iN k))), (3, .int (nI e0))]) dX10_says_209 2 rfl (nI_inc _) (by decide) rfl ?_
                        refine V_goto (tgt := 148) dX10_says_212 rfl ?_
                        refine V_sub [0, 1, 3, 4, 5, 6] rfl ?_
                        exact M_at (ih148 (by omega)) (by rw [cntTo_t (by unfold slB; rw [if_pos h157]; exact decide_eq_true ⟨by omega, h172⟩)]; rfl) rfl (rfl) (rfl)
              refine V_sub [0, 1, 3, 4, 5, 2] rfl ?_
              exact M_at (lp148 0 (Nat.zero_le _)) (rfl) rfl (rfl) (rfl)
            by_cases hs103_2 : ((iN k) : Int) = 2
            · refine V_tabIn (v := 2) (tgt := 143) dX10_says_103 (by rw [nI_toInt (n := (iN k)) (by omega)]; exact hs103_2) (by decide) rfl rfl ?_
              have hs103_2 : (iN k) = 2 := by omega
              refine V_iconst (v := nI 3) dX10_says_143 rfl ?_
              refine V_iret dX10_says_144 ⟨rfl, rfl⟩ (Nat.zero_le _) (Nat.zero_le _) ?_
              subst hQ
              exact ⟨_, _, _, rfl, rfl, by unfold o_says; rw [he3, if_neg (fun z => z ⟨h9, by omega, by omega⟩), if_neg (by omega), if_neg (fun z => z hear), if_neg (fun z => z (decide_eq_true h66)), tlV_2 h66 (by omega)]; exact MP.same hX⟩
            by_cases hs103_3 : ((iN k) : Int) = 3
            · refine V_tabIn (v := 3) (tgt := 145) dX10_says_103 (by rw [nI_toInt (n := (iN k)) (by omega)]; exact hs103_3) (by decide) rfl rfl ?_
              have hs103_3 : (iN k) = 3 := by omega
              refine V_iconst (v := nI 0) dX10_says_145 rfl ?_
              refine V_istore (lv2 := [(5, .int (nI 0)), (4, .int (nI 0)), (3, .int (nI e0)), (0, .ref (b)), (1, .int (nI (iN s))), (2, .int (nI (iN k)))]) dX10_says_146 (by decide) rfl ?_
              have lp148 : ∀ j, j ≤ 8 → VM g mX10_says 148 [(5, .int (nI j)), (4, .int (nI (cntTo (slB (v_kd (x_A X) e0) (v_by (x_A X) e0) (iN k)) j))), (0, .ref (b)), (1, .int (nI (iN s))), (2, .int (nI (iN k))), (3, .int (nI e0))] [] S iv lw Q := by
                refine up_ind fun j hj ih148 => ?_
                refine V_iload dX10_says_148 0 rfl ?_
                refine V_bipush (v := nI 8) dX10_says_150 rfl ?_
                refine V_icmp_ge (tgt := 215) dX10_says_152 rfl (fun h152 => ?_) (fun h152 => ?_)
                · have h152 : 8 ≤ j := (nI_leI (by omega) (by omega)).mp h152
                  refine V_iload dX10_says_215 1 rfl ?_
                  refine V_iret dX10_says_217 ⟨rfl, rfl⟩ (Nat.zero_le _) (Nat.zero_le _) ?_
                  subst hQ
                  obtain rfl : j = 8 := by omega
                  exact ⟨_, _, _, rfl, rfl, by unfold o_says; rw [he3, if_neg (fun z => z ⟨h9, by omega, by omega⟩), if_neg (by omega), if_neg (fun z => z hear), if_neg (fun z => z (decide_eq_true h66)), tlV_1 h66 (by omega)]; exact MP.same hX⟩
                · have h152 : ¬ 8 ≤ j := fun q => h152 ((nI_leI (by omega) (by omega)).mpr q)
                  refine V_iload_n (i := 2) dX10_says_155 rfl 4 rfl ?_
                  refine V_iconst (v := nI 5) dX10_says_156 rfl ?_
                  refine V_icmp_ne (tgt := 183) dX10_says_157 rfl (fun h157 => ?_) (fun h157 => ?_)
                  · have h157 : ¬ (iN k) = 5 := fun q => h157 ((nI_eq (by omega) (by omega)).mpr q)
                    refine V_aload_n (i := 0) dX10_says_183 rfl 2 rfl ?_
                    refine V_iload_n (i := 3) dX10_says_184 rfl 5 rfl ?_
                    refine V_bipush (v := nI 8) dX10_says_185 rfl ?_
                    refine V_iload dX10_says_187 0 rfl ?_
                    refine M_callVp (As := [.int (nI e0), .int (nI 8), .int (nI j)]) (st := []) dX10_says_189 lv_X10_135 ⟨by decide, by decide⟩ ⟨rfl, rfl⟩ rfl (ci := 7) hb.1 rfl rfl (Nat.le_of_ble_eq_true rfl) (r_isTorn hb hA hv he0 (m := 8) (i := j) (by omega) (by omega)) ?_
                    refine V_istore (lv2 := [(6, .int (bI (j < v_by (x_A X) e0 ∨ (v_kd (x_A X) e0 = 3 ∧ j + 1 = 8)))), (5, .int (nI j)), (4, .int (nI (cntTo (slB (v_kd (x_A X) e0) (v_by (x_A X) e0) (iN k)) j))), (0, .ref (b)), (1, .int (nI (iN s))), (2, .int (nI (iN k))), (3, .int (nI e0))]) dX10_says_192 (by decide) rfl ?_
                    refine V_iload dX10_says_194 2 rfl ?_
                    refine V_iload dX10_says_196 0 rfl ?_
                    refine V_if_eq (tgt := 205) dX10_says_198 rfl (fun h198 => ?_) (fun h198 => ?_)
                    · have h198 : ¬ (j < v_by (x_A X) e0 ∨ (v_kd (x_A X) e0 = 3 ∧ j + 1 = 8)) := bI_eq0.mp h198
                      refine V_iconst (v := nI 0) dX10_says_205 rfl ?_
                      refine V_iadd dX10_says_206 ?_
                      refine M_top (nI_add _ _) ?_
                      refine V_istore (lv2 := [(4, .int (nI ((cntTo (slB (v_kd (x_A X) e0) (v_by (x_A X) e0) (iN k)) j) + 0))), (6, .int (bI (j < v_by (x_A X) e0 ∨ (v_kd (x_A X) e0 = 3 ∧ j + 1 = 8)))), (5, .int (nI j)), (0, .ref (b)), (1, .int (nI (iN s))), (2, .int (nI (iN k))), (3, .int (nI e0))]) dX10_says_207 (by decide) rfl ?_
                      refine V_iinc (v := nI (j + 1)) (lv2 := [(5, .int (nI (j + 1))), (4, .int (nI ((cntTo (slB (v_kd (x_A X) e0) (v_by (x_A X) e0) (iN k)) j) + 0))), (6, .int (bI (j < v_by (x_A X) e0 ∨ (v_kd (x_A X) e0 = 3 ∧ j + 1 = 8)))), (0, .ref (b)), (1, .int (nI (iN s))), (2, .int (nI (iN k))), (3, .int (nI e0))]) dX10_says_209 2 rfl (nI_inc _) (by decide) rfl ?_
                      refine V_goto (tgt := 148) dX10_says_212 rfl ?_
                      refine V_sub [0, 1, 3, 4, 5, 6] rfl ?_
                      exact M_at (ih148 (by omega)) (by rw [cntTo_f (by unfold slB; rw [if_neg h157]; exact decide_eq_false h198)]; rfl) rfl (rfl) (rfl)
                    · have h198 : j < v_by (x_A X) e0 ∨ (v_kd (x_A X) e0 = 3 ∧ j + 1 = 8) := bI_ne.mp h198
                      refine V_iconst (v := nI 1) dX10_says_201 rfl ?_
                      refine V_goto (tgt := 206) dX10_says_202 rfl ?_
                      refine V_iadd dX10_says_206 ?_
                      refine M_top (nI_add _ _) ?_
                      refine V_istore (lv2 := [(4, .int (nI ((cntTo (slB (v_kd (x_A X) e0) (v_by (x_A X) e0) (iN k)) j) + 1))), (6, .int (bI (j < v_by (x_A X) e0 ∨ (v_kd (x_A X) e0 = 3 ∧ j + 1 = 8)))), (5, .int (nI j)), (0, .ref (b)), (1, .int (nI (iN s))), (2, .int (nI (iN k))), (3, .int (nI e0))]) dX10_says_207 (by decide) rfl ?_
                      refine V_iinc (v := nI (j + 1)) (lv2 := [(5, .int (nI (j + 1))), (4, .int (nI ((cntTo (slB (v_kd (x_A X) e0) (v_by (x_A X) e0) (iN k)) j) + 1))), (6, .int (bI (j < v_by (x_A X) e0 ∨ (v_kd (x_A X) e0 = 3 ∧ j + 1 = 8)))), (0, .ref (b)), (1, .int (nI (iN s))), (2, .int (nI (iN k))), (3, .int (nI e0))]) dX10_says_209 2 rfl (nI_inc _) (by decide) rfl ?_
                      refine V_goto (tgt := 148) dX10_says_212 rfl ?_
                      refine V_sub [0, 1, 3, 4, 5, 6] rfl ?_
                      exact M_at (ih148 (by omega)) (by rw [cntTo_t (by unfold slB; rw [if_neg h157]; exact decide_eq_true h198)]; rfl) rfl (rfl) (rfl)
                  · have h157 : (iN k) = 5 := (nI_eq (by omega) (by omega)).mp h157
                    refine V_iload dX10_says_160 0 rfl ?_
                    refine V_if_le (tgt := 179) dX10_says_162 rfl (fun h162 => ?_) (fun h162 => ?_)
                    · have h162 : j ≤ 0 := (nI_leI (b := 0) (by omega) (by omega)).mp h162
                      refine V_iconst (v := nI 0) dX10_says_179 rfl ?_
                      refine V_goto (tgt := 192) dX10_says_180 rfl ?_
                      refine V_istore (lv2 := [(6, .int (nI 0)), (5, .int (nI j)), (4, .int (nI (cntTo (slB (v_kd (x_A X) e0) (v_by (x_A X) e0) (iN k)) j))), (0, .ref (b)), (1, .int (nI (iN s))), (2, .int (nI (iN k))), (3, .int (nI e0))]) dX10_says_192 (by decide) rfl ?_
                      refine V_iload dX10_says_194 2 rfl ?_
                      refine V_iload dX10_says_196 0 rfl ?_
                      refine V_if_eq (tgt := 205) dX10_says_198 rfl (fun _ => ?_) (fun q => absurd (by decide) q)
                      refine V_iconst (v := nI 0) dX10_says_205 rfl ?_
                      refine V_iadd dX10_says_206 ?_
                      refine M_top (nI_add _ _) ?_
                      refine V_istore (lv2 := [(4, .int (nI ((cntTo (slB (v_kd (x_A X) e0) (v_by (x_A X) e0) (iN k)) j) + 0))), (6, .int (nI 0)), (5, .int (nI j)), (0, .ref (b)), (1, .int (nI (iN s))), (2, .int (nI (iN k))), (3, .int (nI e0))]) dX10_says_207 (by decide) rfl ?_
                      refine V_iinc (v := nI (j + 1)) (lv2 := [(5, .int (nI (j + 1))), (4, .int (nI ((cntTo (slB (v_kd (x_A X) e0) (v_by (x_A X) e0) (iN k)) j) + 0))), (6, .int (nI 0)), (0, .ref (b)), (1, .int (nI (iN s))), (2, .int (nI (iN k))), (3, .int (nI e0))]) dX10_says_209 2 rfl (nI_inc _) (by decide) rfl ?_
                      refine V_goto (tgt := 148) dX10_says_212 rfl ?_
                      refine V_sub [0, 1, 3, 4, 5, 6] rfl ?_
                      exact M_at (ih148 (by omega)) (by rw [cntTo_f (by unfold slB; rw [if_pos h157]; exact decide_eq_false (fun z => absurd z.1 (by omega)))]; rfl) rfl (rfl) (rfl)
                    · have h162 : ¬ j ≤ 0 := fun q => h162 ((nI_leI (b := 0) (by omega) (by omega)).mpr q)
                      refine V_aload_n (i := 0) dX10_says_165 rfl 2 rfl ?_
                      refine V_iload_n (i := 3) dX10_says_166 rfl 5 rfl ?_
                      refine V_iload dX10_says_167 0 rfl ?_
                      refine M_callVp (As := [.int (nI e0), .int (nI j)]) (st := []) dX10_says_169 lv_X10_132 ⟨by decide, by decide⟩ ⟨rfl, rfl⟩ rfl (ci := 7) hb.1 rfl rfl (Nat.le_of_ble_eq_true rfl) (r_isEchoed hb hA hv he0 (i := j) (by omega)) ?_
                      refine V_if_eq (tgt := 179) dX10_says_172 rfl (fun h172 => ?_) (fun h172 => ?_)
                      · have h172 : ¬ (j % (v_by (x_A X) e0 + 1) = v_by (x_A X) e0) := bI_eq0.mp h172
                        refine V_iconst (v := nI 0) dX10_says_179 rfl ?_
                        refine V_goto (tgt := 192) dX10_says_180 rfl ?_
                        refine V_istore (lv2 := [(6, .int (nI 0)), (5, .int (nI j)), (4, .int (nI (cntTo (slB (v_kd (x_A X) e0) (v_by (x_A X) e0) (iN k)) j))), (0, .ref (b)), (1, .int (nI (iN s))), (2, .int (nI (iN k))), (3, .int (nI e0))]) dX10_says_192 (by decide) rfl ?_
                        refine V_iload dX10_says_194 2 rfl ?_
                        refine V_iload dX10_says_196 0 rfl ?_
                        refine V_if_eq (tgt := 205) dX10_says_198 rfl (fun _ => ?_) (fun q => absurd (by decide) q)
                        refine V_iconst (v := nI 0) dX10_says_205 rfl ?_
                        refine V_iadd dX10_says_206 ?_
                        refine M_top (nI_add _ _) ?_
                        refine V_istore (lv2 := [(4, .int (nI ((cntTo (slB (v_kd (x_A X) e0) (v_by (x_A X) e0) (iN k)) j) + 0))), (6, .int (nI 0)), (5, .int (nI j)), (0, .ref (b)), (1, .int (nI (iN s))), (2, .int (nI (iN k))), (3, .int (nI e0))]) dX10_says_207 (by decide) rfl ?_
                        refine V_iinc (v := nI (j + 1)) (lv2 := [(5, .int (nI (j + 1))), (4, .int (nI ((cntTo (slB (v_kd (x_A X) e0) (v_by (x_A X) e0) (iN k)) j) + 0))), (6, .int (nI 0)), (0, .ref (b)), (1, .int (nI (iN s))), (2, .int (nI (iN k))), (3, .int (nI e0))]) dX10_says_209 2 rfl (nI_inc _) (by decide) rfl ?_
                        refine V_goto (tgt := 148) dX10_says_212 rfl ?_
                        refine V_sub [0, 1, 3, 4, 5, 6] rfl ?_
                        exact M_at (ih148 (by omega)) (by rw [cntTo_f (by unfold slB; rw [if_pos h157]; exact decide_eq_false (fun z => h172 z.2))]; rfl) rfl (rfl) (rfl)
                      · have h172 : j % (v_by (x_A X) e0 + 1) = v_by (x_A X) e0 := bI_ne.mp h172
                        refine V_iconst (v := nI 1) dX10_says_175 rfl ?_
                        refine V_goto (tgt := 192) dX10_says_176 rfl ?_
                        refine V_istore (lv2 := [(6, .int (nI 1)), (5, .int (nI j)), (4, .int (nI (cntTo (slB (v_kd (x_A X) e0) (v_by (x_A X) e0) (iN k)) j))), (0, .ref (b)), (1, .int (nI (iN s))), (2, .int (nI (iN k))), (3, .int (nI e0))]) dX10_says_192 (by decide) rfl ?_
                        refine V_iload dX10_says_194 2 rfl ?_
                        refine V_iload dX10_says_196 0 rfl ?_
                        refine V_if_eq (tgt := 205) dX10_says_198 rfl (fun q => absurd q (by decide)) (fun _ => ?_)
                        refine V_iconst (v := nI 1) dX10_says_201 rfl ?_
                        refine V_goto (tgt := 206) dX10_says_202 rfl ?_
                        refine V_iadd dX10_says_206 ?_
                        refine M_top (nI_add _ _) ?_
                        refine V_istore (lv2 := [(4, .int (nI ((cntTo (slB (v_kd (x_A X) e0) (v_by (x_A X) e0) (iN k)) j) + 1))), (6, .int (nI 1)), (5, .int (nI j)), (0, .ref (b)), (1, .int (nI (iN s))), (2, .int (nI (iN k))), (3, .int (nI e0))]) dX10_says_207 (by decide) rfl ?_
                        refine V_iinc (v := nI (j + 1)) (lv2 := [(5, .int (nI (j + 1))), (4, .int (nI ((cntTo (slB (v_kd (x_A X) e0) (v_by (x_A X) e0) (iN k)) j) + 1))), (6, .int (nI 1)), (0, .ref (b)), (1, .int (nI (iN s))), (2, .int (nI (iN k))), (3, .int (nI e0))]) dX10_says_209 2 rfl (nI_inc _) (by decide) rfl ?_
                        refine V_goto (tgt := 148) dX10_says_212 rfl ?_
                        refine V_sub [0, 1, 3, 4, 5, 6] rfl ?_
                        exact M_at (ih148 (by omega)) (by rw [cntTo_t (by unfold slB; rw [if_pos h157]; exact decide_eq_true ⟨by omega, h172⟩)]; rfl) rfl (rfl) (rfl)
              refine V_sub [0, 1, 3, 4, 5, 2] rfl ?_
              exact M_at (lp148 0 (Nat.zero_le _)) (rfl) rfl (rfl) (rfl)
            by_cases hs103_4 : ((iN k) : Int) = 4
            · refine V_tabIn (v := 4) (tgt := 143) dX10_says_103 (by rw [nI_toInt (n := (iN k)) (by omega)]; exact hs103_4) (by decide) rfl rfl ?_
              have hs103_4 : (iN k) = 4 := by omega
              refine V_iconst (v := nI 3) dX10_says_143 rfl ?_
              refine V_iret dX10_says_144 ⟨rfl, rfl⟩ (Nat.zero_le _) (Nat.zero_le _) ?_
              subst hQ
              exact ⟨_, _, _, rfl, rfl, by unfold o_says; rw [he3, if_neg (fun z => z ⟨h9, by omega, by omega⟩), if_neg (by omega), if_neg (fun z => z hear), if_neg (fun z => z (decide_eq_true h66)), tlV_2 h66 (by omega)]; exact MP.same hX⟩
            refine V_tableOut (tgt := 145) dX10_says_103 (by rw [nI_toInt (n := (iN k)) (by omega)]; omega) rfl ?_
            refine V_iconst (v := nI 0) dX10_says_145 rfl ?_
            refine V_istore (lv2 := [(5, .int (nI 0)), (4, .int (nI 0)), (3, .int (nI e0)), (0, .ref (b)), (1, .int (nI (iN s))), (2, .int (nI (iN k)))]) dX10_says_146 (by decide) rfl ?_
            have lp148 : ∀ j, j ≤ 8 → VM g mX10_says 148 [(5, .int (nI j)), (4, .int (nI (cntTo (slB (v_kd (x_A X) e0) (v_by (x_A X) e0) (iN k)) j))), (0, .ref (b)), (1, .int (nI (iN s))), (2, .int (nI (iN k))), (3, .int (nI e0))] [] S iv lw Q := by
              refine up_ind fun j hj ih148 => ?_
              refine V_iload dX10_says_148 0 rfl ?_
              refine V_bipush (v := nI 8) dX10_says_150 rfl ?_
              refine V_icmp_ge (tgt := 215) dX10_says_152 rfl (fun h152 => ?_) (fun h152 => ?_)
              · have h152 : 8 ≤ j := (nI_leI (by omega) (by omega)).mp h152
                refine V_iload dX10_says_215 1 rfl ?_
                refine V_iret dX10_says_217 ⟨rfl, rfl⟩ (Nat.zero_le _) (Nat.zero_le _) ?_
                subst hQ
                obtain rfl : j = 8 := by omega
                exact ⟨_, _, _, rfl, rfl, by unfold o_says; rw [he3, if_neg (fun z => z ⟨h9, by omega, by omega⟩), if_neg (by omega), if_neg (fun z => z hear), if_neg (fun z => z (decide_eq_true h66)), tlV_1 h66 (by omega)]; exact MP.same hX⟩
              · have h152 : ¬ 8 ≤ j := fun q => h152 ((nI_leI (by omega) (by omega)).mpr q)
                refine V_iload_n (i := 2) dX10_says_155 rfl 4 rfl ?_
                refine V_iconst (v := nI 5) dX10_says_156 rfl ?_
                refine V_icmp_ne (tgt := 183) dX10_says_157 rfl (fun h157 => ?_) (fun h157 => ?_)
                · have h157 : ¬ (iN k) = 5 := fun q => h157 ((nI_eq (by omega) (by omega)).mpr q)
                  refine V_aload_n (i := 0) dX10_says_183 rfl 2 rfl ?_
                  refine V_iload_n (i := 3) dX10_says_184 rfl 5 rfl ?_
                  refine V_bipush (v := nI 8) dX10_says_185 rfl ?_
                  refine V_iload dX10_says_187 0 rfl ?_
                  refine M_callVp (As := [.int (nI e0), .int (nI 8), .int (nI j)]) (st := []) dX10_says_189 lv_X10_135 ⟨by decide, by decide⟩ ⟨rfl, rfl⟩ rfl (ci := 7) hb.1 rfl rfl (Nat.le_of_ble_eq_true rfl) (r_isTorn hb hA hv he0 (m := 8) (i := j) (by omega) (by omega)) ?_
                  refine V_istore (lv2 := [(6, .int (bI (j < v_by (x_A X) e0 ∨ (v_kd (x_A X) e0 = 3 ∧ j + 1 = 8)))), (5, .int (nI j)), (4, .int (nI (cntTo (slB (v_kd (x_A X) e0) (v_by (x_A X) e0) (iN k)) j))), (0, .ref (b)), (1, .int (nI (iN s))), (2, .int (nI (iN k))), (3, .int (nI e0))]) dX10_says_192 (by decide) rfl ?_
                  refine V_iload dX10_says_194 2 rfl ?_
                  refine V_iload dX10_says_196 0 rfl ?_
                  refine V_if_eq (tgt := 205) dX10_says_198 rfl (fun h198 => ?_) (fun h198 => ?_)
                  · have h198 : ¬ (j < v_by (x_A X) e0 ∨ (v_kd (x_A X) e0 = 3 ∧ j + 1 = 8)) := bI_eq0.mp h198
                    refine V_iconst (v := nI 0) dX10_says_205 rfl ?_
                    refine V_iadd dX10_says_206 ?_
                    refine M_top (nI_add _ _) ?_
                    refine V_istore (lv2 := [(4, .int (nI ((cntTo (slB (v_kd (x_A X) e0) (v_by (x_A X) e0) (iN k)) j) + 0))), (6, .int (bI (j < v_by (x_A X) e0 ∨ (v_kd (x_A X) e0 = 3 ∧ j + 1 = 8)))), (5, .int (nI j)), (0, .ref (b)), (1, .int (nI (iN s))), (2, .int (nI (iN k))), (3, .int (nI e0))]) dX10_says_207 (by decide) rfl ?_
                    refine V_iinc (v := nI (j + 1)) (lv2 := [(5, .int (nI (j + 1))), (4, .int (nI ((cntTo (slB (v_kd (x_A X) e0) (v_by (x_A X) e0) (iN k)) j) + 0))), (6, .int (bI (j < v_by (x_A X) e0 ∨ (v_kd (x_A X) e0 = 3 ∧ j + 1 = 8)))), (0, .ref (b)), (1, .int (nI (iN s))), (2, .int (nI (iN k))), (3, .int (nI e0))]) dX10_says_209 2 rfl (nI_inc _) (by decide) rfl ?_
                    refine V_goto (tgt := 148) dX10_says_212 rfl ?_
                    refine V_sub [0, 1, 3, 4, 5, 6] rfl ?_
                    exact M_at (ih148 (by omega)) (by rw [cntTo_f (by unfold slB; rw [if_neg h157]; exact decide_eq_false h198)]; rfl) rfl (rfl) (rfl)
                  · have h198 : j < v_by (x_A X) e0 ∨ (v_kd (x_A X) e0 = 3 ∧ j + 1 = 8) := bI_ne.mp h198
                    refine V_iconst (v := nI 1) dX10_says_201 rfl ?_
                    refine V_goto (tgt := 206) dX10_says_202 rfl ?_
                    refine V_iadd dX10_says_206 ?_
                    refine M_top (nI_add _ _) ?_
                    refine V_istore (lv2 := [(4, .int (nI ((cntTo (slB (v_kd (x_A X) e0) (v_by (x_A X) e0) (iN k)) j) + 1))), (6, .int (bI (j < v_by (x_A X) e0 ∨ (v_kd (x_A X) e0 = 3 ∧ j + 1 = 8)))), (5, .int (nI j)), (0, .ref (b)), (1, .int (nI (iN s))), (2, .int (nI (iN k))), (3, .int (nI e0))]) dX10_says_207 (by decide) rfl ?_
                    refine V_iinc (v := nI (j + 1)) (lv2 := [(5, .int (nI (j + 1))), (4, .int (nI ((cntTo (slB (v_kd (x_A X) e0) (v_by (x_A X) e0) (iN k)) j) + 1))), (6, .int (bI (j < v_by (x_A X) e0 ∨ (v_kd (x_A X) e0 = 3 ∧ j + 1 = 8)))), (0, .ref (b)), (1, .int (nI (iN s))), (2, .int (nI (iN k))), (3, .int (nI e0))]) dX10_says_209 2 rfl (nI_inc _) (by decide) rfl ?_
                    refine V_goto (tgt := 148) dX10_says_212 rfl ?_
                    refine V_sub [0, 1, 3, 4, 5, 6] rfl ?_
                    exact M_at (ih148 (by omega)) (by rw [cntTo_t (by unfold slB; rw [if_neg h157]; exact decide_eq_true h198)]; rfl) rfl (rfl) (rfl)
                · have h157 : (iN k) = 5 := (nI_eq (by omega) (by omega)).mp h157
                  refine V_iload dX10_says_160 0 rfl ?_
                  refine V_if_le (tgt := 179) dX10_says_162 rfl (fun h162 => ?_) (fun h162 => ?_)
                  · have h162 : j ≤ 0 := (nI_leI (b := 0) (by omega) (by omega)).mp h162
                    refine V_iconst (v := nI 0) dX10_says_179 rfl ?_
                    refine V_goto (tgt := 192) dX10_says_180 rfl ?_
                    refine V_istore (lv2 := [(6, .int (nI 0)), (5, .int (nI j)), (4, .int (nI (cntTo (slB (v_kd (x_A X) e0) (v_by (x_A X) e0) (iN k)) j))), (0, .ref (b)), (1, .int (nI (iN s))), (2, .int (nI (iN k))), (3, .int (nI e0))]) dX10_says_192 (by decide) rfl ?_
                    refine V_iload dX10_says_194 2 rfl ?_
                    refine V_iload dX10_says_196 0 rfl ?_
                    refine V_if_eq (tgt := 205) dX10_says_198 rfl (fun _ => ?_) (fun q => absurd (by decide) q)
                    refine V_iconst (v := nI 0) dX10_says_205 rfl ?_
                    refine V_iadd dX10_says_206 ?_
                    refine M_top (nI_add _ _) ?_
                    refine V_istore (lv2 := [(4, .int (nI ((cntTo (slB (v_kd (x_A X) e0) (v_by (x_A X) e0) (iN k)) j) + 0))), (6, .int (nI 0)), (5, .int (nI j)), (0, .ref (b)), (1, .int (nI (iN s))), (2, .int (nI (iN k))), (3, .int (nI e0))]) dX10_says_207 (by decide) rfl ?_
                    refine V_iinc (v := nI (j + 1)) (lv2 := [(5, .int (nI (j + 1))), (4, .int (nI ((cntTo (slB (v_kd (x_A X) e0) (v_by (x_A X) e0) (iN k)) j) + 0))), (6, .int (nI 0)), (0, .ref (b)), (1, .int (nI (iN s))), (2, .int (nI (iN k))), (3, .int (nI e0))]) dX10_says_209 2 rfl (nI_inc _) (by decide) rfl ?_
                    refine V_goto (tgt := 148) dX10_says_212 rfl ?_
                    refine V_sub [0, 1, 3, 4, 5, 6] rfl ?_
                    exact M_at (ih148 (by omega)) (by rw [cntTo_f (by unfold slB; rw [if_pos h157]; exact decide_eq_false (fun z => absurd z.1 (by omega)))]; rfl) rfl (rfl) (rfl)
                  · have h162 : ¬ j ≤ 0 := fun q => h162 ((nI_leI (b := 0) (by omega) (by omega)).mpr q)
                    refine V_aload_n (i := 0) dX10_says_165 rfl 2 rfl ?_
                    refine V_iload_n (i := 3) dX10_says_166 rfl 5 rfl ?_
                    refine V_iload dX10_says_167 0 rfl ?_
                    refine M_callVp (As := [.int (nI e0), .int (nI j)]) (st := []) dX10_says_169 lv_X10_132 ⟨by decide, by decide⟩ ⟨rfl, rfl⟩ rfl (ci := 7) hb.1 rfl rfl (Nat.le_of_ble_eq_true rfl) (r_isEchoed hb hA hv he0 (i := j) (by omega)) ?_
                    refine V_if_eq (tgt := 179) dX10_says_172 rfl (fun h172 => ?_) (fun h172 => ?_)
                    · have h172 : ¬ (j % (v_by (x_A X) e0 + 1) = v_by (x_A X) e0) := bI_eq0.mp h172
                      refine V_iconst (v := nI 0) dX10_says_179 rfl ?_
                      refine V_goto (tgt := 192) dX10_says_180 rfl ?_
                      refine V_istore (lv2 := [(6, .int (nI 0)), (5, .int (nI j)), (4, .int (nI (cntTo (slB (v_kd (x_A X) e0) (v_by (x_A X) e0) (iN k)) j))), (0, .ref (b)), (1, .int (nI (iN s))), (2, .int (nI (iN k))), (3, .int (nI e0))]) dX10_says_192 (by decide) rfl ?_
                      refine V_iload dX10_says_194 2 rfl ?_
                      refine V_iload dX10_says_196 0 rfl ?_
                      refine V_if_eq (tgt := 205) dX10_says_198 rfl (fun _ => ?_) (fun q => absurd (by decide) q)
                      refine V_iconst (v := nI 0) dX10_says_205 rfl ?_
                      refine V_iadd dX10_says_206 ?_
                      refine M_top (nI_add _ _) ?_
                      refine V_istore (lv2 := [(4, .int (nI ((cntTo (slB (v_kd (x_A X) e0) (v_by (x_A X) e0) (iN k)) j) + 0))), (6, .int (nI 0)), (5, .int (nI j)), (0, .ref (b)), (1, .int (nI (iN s))), (2, .int (nI (iN k))), (3, .int (nI e0))]) dX10_says_207 (by decide) rfl ?_
                      refine V_iinc (v := nI (j + 1)) (lv2 := [(5, .int (nI (j + 1))), (4, .int (nI ((cntTo (slB (v_kd (x_A X) e0) (v_by (x_A X) e0) (iN k)) j) + 0))), (6, .int (nI 0)), (0, .ref (b)), (1, .int (nI (iN s))), (2, .int (nI (iN k))), (3, .int (nI e0))]) dX10_says_209 2 rfl (nI_inc _) (by decide) rfl ?_
                      refine V_goto (tgt := 148) dX10_says_212 rfl ?_
                      refine V_sub [0, 1, 3, 4, 5, 6] rfl ?_
                      exact M_at (ih148 (by omega)) (by rw [cntTo_f (by unfold slB; rw [if_pos h157]; exact decide_eq_false (fun z => h172 z.2))]; rfl) rfl (rfl) (rfl)
                    · have h172 : j % (v_by (x_A X) e0 + 1) = v_by (x_A X) e0 := bI_ne.mp h172
                      refine V_iconst (v := nI 1) dX10_says_175 rfl ?_
                      refine V_goto (tgt := 192) dX10_says_176 rfl ?_
                      refine V_istore (lv2 := [(6, .int (nI 1)), (5, .int (nI j)), (4, .int (nI (cntTo (slB (v_kd (x_A X) e0) (v_by (x_A X) e0) (iN k)) j))), (0, .ref (b)), (1, .int (nI (iN s))), (2, .int (nI (iN k))), (3, .int (nI e0))]) dX10_says_192 (by decide) rfl ?_
                      refine V_iload dX10_says_194 2 rfl ?_
                      refine V_iload dX10_says_196 0 rfl ?_
                      refine V_if_eq (tgt := 205) dX10_says_198 rfl (fun q => absurd q (by decide)) (fun _ => ?_)
                      refine V_iconst (v := nI 1) dX10_says_201 rfl ?_
                      refine V_goto (tgt := 206) dX10_says_202 rfl ?_
                      refine V_iadd dX10_says_206 ?_
                      refine M_top (nI_add _ _) ?_
                      refine V_istore (lv2 := [(4, .int (nI ((cntTo (slB (v_kd (x_A X) e0) (v_by (x_A X) e0) (iN k)) j) + 1))), (6, .int (nI 1)), (5, .int (nI j)), (0, .ref (b)), (1, .int (nI (iN s))), (2, .int (nI (iN k))), (3, .int (nI e0))]) dX10_says_207 (by decide) rfl ?_
                      refine V_iinc (v := nI (j + 1)) (lv2 := [(5, .int (nI (j + 1))), (4, .int (nI ((cntTo (slB (v_kd (x_A X) e0) (v_by (x_A X) e0) (iN k)) j) + 1))), (6, .int (nI 1)), (0, .ref (b)), (1, .int (nI (iN s))), (2, .int (nI (iN k))), (3, .int (nI e0))]) dX10_says_209 2 rfl (nI_inc _) (by decide) rfl ?_
                      refine V_goto (tgt := 148) dX10_says_212 rfl ?_
                      refine V_sub [0, 1, 3, 4, 5, 6] rfl ?_
                      exact M_at (ih148 (by omega)) (by rw [cntTo_t (by unfold slB; rw [if_pos h157]; exact decide_eq_true ⟨by omega, h172⟩)]; rfl) rfl (rfl) (rfl)
            refine V_sub [0, 1, 3, 4, 5, 2] rfl ?_
            exact M_at (lp148 0 (Nat.zero_le _)) (rfl) rfl (rfl) (rfl)
          · have h66 : ¬ (v_kd (x_A X) e0 = iN k ∨ iN k = 0 ∨ (v_kd (x_A X) e0 = 3 ∧ iN k = 1) ∨ (v_kd (x_A X) e0 = 4 ∧ iN k = 2)) := bI_eq0.mp h66
            refine V_aload_n (i := 0) dX10_says_69 rfl 0 rfl ?_
            refine V_bipush (v := (-3)) dX10_says_70 rfl ?_
            refine M_callVq (As := [.int ((-3))]) (st := []) dX10_says_72 lv_X10_107 ⟨by decide, by decide⟩ ⟨rfl, rfl⟩ rfl (ci := 7) hb.1 rfl rfl (Nat.le_of_ble_eq_true rfl) (q_refuse hs hX hk (j := 1) (by decide)) (fun w72 iv72 lw72 q72 => ?_)
            obtain ⟨rfl, e1, hXr, hOr⟩ := q72
            subst e1
            refine V_iret dX10_says_75 ⟨rfl, rfl⟩ (Nat.zero_le _) (Nat.zero_le _) ?_
            subst hQ
            exact ⟨_, _, _, rfl, rfl, by unfold o_says; rw [he3, if_neg (fun z => z ⟨h9, by omega, by omega⟩), if_neg (by omega), if_neg (fun z => z hear), if_pos (show ¬ unQ (v_kd (x_A X) e0) (iN k) = true from fun z => h66 (of_decide_eq_true z))]; exact ⟨rfl, hXr, hOr, Off.rf⟩⟩
    · have h21 : ¬ ((0 : Int) ≤ k.toInt ∧ k.toInt ≤ 5) := bI_eq0.mp h21
      refine V_aload_n (i := 0) dX10_says_24 rfl 0 rfl ?_
      refine V_bipush (v := (-2)) dX10_says_25 rfl ?_
      refine M_callVq (As := [.int ((-2))]) (st := []) dX10_says_27 lv_X10_107 ⟨by decide, by decide⟩ ⟨rfl, rfl⟩ rfl (ci := 7) hb.1 rfl rfl (Nat.le_of_ble_eq_true rfl) (q_refuse hs hX hk (j := 0) (by decide)) (fun w27 iv27 lw27 q27 => ?_)
      obtain ⟨rfl, e1, hXr, hOr⟩ := q27
      subst e1
      refine V_iret dX10_says_30 ⟨rfl, rfl⟩ (Nat.zero_le _) (Nat.zero_le _) ?_
      subst hQ
      exact ⟨_, _, _, rfl, rfl, by unfold o_says; rw [if_pos (fun z => by have z1 := z.2; have z2 := z.1; omega)]; exact ⟨rfl, hXr, hOr, Off.rf⟩⟩
set_option maxRecDepth 20000 in
theorem r_addCall {g : Ev} {S : St} {iv : IV} {lw : LW} {b : Nat} (hb : IsMod S b) {q m u k : Nat} (h9 : iv b 9 = nI q) (hn : q < 12) : CN g mX10_addCall [.ref (b), .int (nI m), .int (nI u), .int (nI k)] S iv lw (fun iv2 lw2 => lw = lw2 ∧ iv2 = up2 (up2 (up2 (up2 iv (b + 30) q (nI m)) (b + 31) q (nI u)) (b + 32) q (nI k)) b 9 (nI (q + 1))) := by
  refine CT_ofQ rfl (by decide) (Nat.le_of_ble_eq_true rfl) (lv := [(0, .ref (b)), (1, .int (nI m)), (2, .int (nI u)), (3, .int (nI k))]) rfl (fun Q hQ => ?_)
  refine V_aload_n (i := 0) dX10_addCall_0 rfl 0 rfl ?_
  refine M_getR dX10_addCall_1 lf_X10_42 rfl hb.1 hb.2.2.2.2.2.2.2.2.2.2.1.1 ?_
  refine V_aload_n (i := 0) dX10_addCall_4 rfl 0 rfl ?_
  refine M_getI (x := nI q) dX10_addCall_5 lf_X10_88 rfl hb.1 (h9) ?_
  refine V_iload_n (i := 1) dX10_addCall_8 rfl 1 rfl ?_
  refine M_iastn (j := q) dX10_addCall_9 hb.2.2.2.2.2.2.2.2.2.2.1.2 (by decide) (by omega) ?_
  refine V_aload_n (i := 0) dX10_addCall_10 rfl 0 rfl ?_
  refine M_getR dX10_addCall_11 lf_X10_45 rfl hb.1 hb.2.2.2.2.2.2.2.2.2.2.2.1.1 ?_
  refine V_aload_n (i := 0) dX10_addCall_14 rfl 0 rfl ?_
  refine M_getI (x := nI q) dX10_addCall_15 lf_X10_88 rfl hb.1 ((up2_ne (by omega)).trans (h9)) ?_
  refine V_iload_n (i := 2) dX10_addCall_18 rfl 2 rfl ?_
  refine M_iastn (j := q) dX10_addCall_19 hb.2.2.2.2.2.2.2.2.2.2.2.1.2 (by decide) (by omega) ?_
  refine V_aload_n (i := 0) dX10_addCall_20 rfl 0 rfl ?_
  refine M_getR dX10_addCall_21 lf_X10_48 rfl hb.1 hb.2.2.2.2.2.2.2.2.2.2.2.2.1.1 ?_
  refine V_aload_n (i := 0) dX10_addCall_24 rfl 0 rfl ?_
  refine M_getI (x := nI q) dX10_addCall_25 lf_X10_88 rfl hb.1 ((up2_ne (by omega)).trans ((up2_ne (by omega)).trans (h9))) ?_
  refine V_iload_n (i := 3) dX10_addCall_28 rfl 3 rfl ?_
  refine M_iastn (j := q) dX10_addCall_29 hb.2.2.2.2.2.2.2.2.2.2.2.2.1.2 (by decide) (by omega) ?_
  refine V_aload_n (i := 0) dX10_addCall_30 rfl 0 rfl ?_
  refine V_dup dX10_addCall_31 rfl ?_
  refine M_getI (x := nI q) dX10_addCall_32 lf_X10_88 rfl hb.1 ((up2_ne (by omega)).trans ((up2_ne (by omega)).trans ((up2_ne (by omega)).trans (h9)))) ?_
  refine V_iconst (v := nI 1) dX10_addCall_35 rfl ?_
  refine V_iadd dX10_addCall_36 ?_
  refine M_top (nI_add _ _) ?_
  refine M_putI dX10_addCall_37 lf_X10_88 rfl hb.1 ⟨rfl, rfl⟩ ?_
  refine V_vret dX10_addCall_40 ⟨rfl, rfl⟩ (Nat.zero_le _) (Nat.zero_le _) ?_
  subst hQ
  exact ⟨_, _, rfl, rfl, rfl, rfl⟩
set_option maxRecDepth 20000 in
theorem r_addEar {g : Ev} {S : St} {iv : IV} {lw : LW} {b : Nat} (hb : IsMod S b) {V : Cv} (hV : MC iv b V) (hv : VOK V) {k a : Nat} (hn : v_ne V < 6) : CN g mX10_addEar [.ref (b), .int (nI k), .int (nI a)] S iv lw (fun iv2 lw2 => lw = lw2 ∧ MC iv2 b (v_addE V k a) ∧ MB b iv iv2) := by
  refine CT_ofQ rfl (by decide) (Nat.le_of_ble_eq_true rfl) (lv := [(0, .ref (b)), (1, .int (nI k)), (2, .int (nI a))]) rfl (fun Q hQ => ?_)
  refine V_aload_n (i := 0) dX10_addEar_0 rfl 0 rfl ?_
  refine M_getR dX10_addEar_1 lf_X10_51 rfl hb.1 hb.2.2.2.2.2.2.2.2.2.2.2.2.2.1.1 ?_
  refine V_aload_n (i := 0) dX10_addEar_4 rfl 0 rfl ?_
  refine M_getI (x := nI (v_ne V)) dX10_addEar_5 lf_X10_95 rfl hb.1 (hV.ne) ?_
  refine V_iload_n (i := 1) dX10_addEar_8 rfl 1 rfl ?_
  refine M_iastn (j := (v_ne V)) dX10_addEar_9 hb.2.2.2.2.2.2.2.2.2.2.2.2.2.1.2 (by decide) (by omega) ?_
  refine V_aload_n (i := 0) dX10_addEar_10 rfl 0 rfl ?_
  refine M_getR dX10_addEar_11 lf_X10_54 rfl hb.1 hb.2.2.2.2.2.2.2.2.2.2.2.2.2.2.1.1 ?_
  refine V_aload_n (i := 0) dX10_addEar_14 rfl 0 rfl ?_
  refine M_getI (x := nI (v_ne V)) dX10_addEar_15 lf_X10_95 rfl hb.1 ((up2_ne (by omega)).trans (hV.ne)) ?_
  refine V_iload_n (i := 2) dX10_addEar_18 rfl 2 rfl ?_
  refine M_iastn (j := (v_ne V)) dX10_addEar_19 hb.2.2.2.2.2.2.2.2.2.2.2.2.2.2.1.2 (by decide) (by omega) ?_
  refine V_aload_n (i := 0) dX10_addEar_20 rfl 0 rfl ?_
  refine V_dup dX10_addEar_21 rfl ?_
  refine M_getI (x := nI (v_ne V)) dX10_addEar_22 lf_X10_95 rfl hb.1 ((up2_ne (by omega)).trans ((up2_ne (by omega)).trans (hV.ne))) ?_
  refine V_iconst (v := nI 1) dX10_addEar_25 rfl ?_
  refine V_iadd dX10_addEar_26 ?_
  refine M_top (nI_add _ _) ?_
  refine M_putI dX10_addEar_27 lf_X10_95 rfl hb.1 ⟨rfl, rfl⟩ ?_
  refine V_vret dX10_addEar_30 ⟨rfl, rfl⟩ (Nat.zero_le _) (Nat.zero_le _) ?_
  subst hQ
  exact ⟨_, _, rfl, rfl, rfl, mc_addE hV hv, ((MB.rf.up (by omega)).up (by omega)).up (by omega)⟩
set_option maxRecDepth 20000 in
theorem r_addMan {g : Ev} {S : St} {iv : IV} {lw : LW} {b : Nat} (hb : IsMod S b) {V : Cv} (hV : MC iv b V) (hv : VOK V) {k a : Nat} (hn : v_nm V < 8) : CN g mX10_addMan [.ref (b), .int (nI k), .int (nI a)] S iv lw (fun iv2 lw2 => lw = lw2 ∧ MC iv2 b (v_addM V k a) ∧ MB b iv iv2) := by
  refine CT_ofQ rfl (by decide) (Nat.le_of_ble_eq_true rfl) (lv := [(0, .ref (b)), (1, .int (nI k)), (2, .int (nI a))]) rfl (fun Q hQ => ?_)
  refine V_aload_n (i := 0) dX10_addMan_0 rfl 0 rfl ?_
  refine M_getR dX10_addMan_1 lf_X10_57 rfl hb.1 hb.2.2.2.2.2.2.2.2.2.2.2.2.2.2.2.1.1 ?_
  refine V_aload_n (i := 0) dX10_addMan_4 rfl 0 rfl ?_
  refine M_getI (x := nI (v_nm V)) dX10_addMan_5 lf_X10_98 rfl hb.1 (hV.nm) ?_
  refine V_iload_n (i := 1) dX10_addMan_8 rfl 1 rfl ?_
  refine M_iastn (j := (v_nm V)) dX10_addMan_9 hb.2.2.2.2.2.2.2.2.2.2.2.2.2.2.2.1.2 (by decide) (by omega) ?_
  refine V_aload_n (i := 0) dX10_addMan_10 rfl 0 rfl ?_
  refine M_getR dX10_addMan_11 lf_X10_60 rfl hb.1 hb.2.2.2.2.2.2.2.2.2.2.2.2.2.2.2.2.1.1 ?_
  refine V_aload_n (i := 0) dX10_addMan_14 rfl 0 rfl ?_
  refine M_getI (x := nI (v_nm V)) dX10_addMan_15 lf_X10_98 rfl hb.1 ((up2_ne (by omega)).trans (hV.nm)) ?_
  refine V_iload_n (i := 2) dX10_addMan_18 rfl 2 rfl ?_
  refine M_iastn (j := (v_nm V)) dX10_addMan_19 hb.2.2.2.2.2.2.2.2.2.2.2.2.2.2.2.2.1.2 (by decide) (by omega) ?_
  refine V_aload_n (i := 0) dX10_addMan_20 rfl 0 rfl ?_
  refine V_dup dX10_addMan_21 rfl ?_
  refine M_getI (x := nI (v_nm V)) dX10_addMan_22 lf_X10_98 rfl hb.1 ((up2_ne (by omega)).trans ((up2_ne (by omega)).trans (hV.nm))) ?_
  refine V_iconst (v := nI 1) dX10_addMan_25 rfl ?_
  refine V_iadd dX10_addMan_26 ?_
  refine M_top (nI_add _ _) ?_
  refine M_putI dX10_addMan_27 lf_X10_98 rfl hb.1 ⟨rfl, rfl⟩ ?_
  refine V_vret dX10_addMan_30 ⟨rfl, rfl⟩ (Nat.zero_le _) (Nat.zero_le _) ?_
  subst hQ
  exact ⟨_, _, rfl, rfl, rfl, mc_addM hV hv, ((MB.rf.up (by omega)).up (by omega)).up (by omega)⟩
set_option maxRecDepth 20000 in
theorem q_ear {g : Ev} {S : St} {iv : IV} {lw : LW} {b : Nat} (hs : SS S b) {X : Xs} (hX : MX S iv lw b X) (hk : XOK X) {k : Int32} {a : Int32} : CQ g mX10_ear [.ref (b), .int (k), .int (a)] S iv lw (fun w iv2 lw2 => MP S b iv lw (o_ear X k a) w iv2 lw2) := by
  refine CT_ofQ rfl (by decide) (Nat.le_of_ble_eq_true rfl) (lv := [(0, .ref (b)), (1, .int (k)), (2, .int (a))]) rfl (fun Q hQ => ?_)
  have hb := hs.1
  have hA := hX.1
  have hv := hk.1
  have hnc := hv.nc
  have hne := hv.ne
  have hnm := hv.nm
  refine V_iload_n (i := 1) dX10_ear_0 rfl 1 rfl ?_
  refine V_i2l dX10_ear_1 ?_
  refine V_lconst (v := lN 0) dX10_ear_2 rfl ?_
  refine V_ldc2 (v := lN 5) dX10_ear_3 mw_1264 ?_
  refine M_callSp (As := [.long ((k).toInt64), .long (lN 0), .long (lN 5)]) (st := []) dX10_ear_6 ls_X10_91 ⟨by decide, by decide⟩ ⟨rfl, rfl⟩ rfl (Nat.le_of_ble_eq_true rfl) (r_inK (by decide) (by decide)) ?_
  refine V_if_eq (tgt := 24) dX10_ear_9 rfl (fun h9 => ?_) (fun h9 => ?_)
  · have h9 : ¬ ((0 : Int) ≤ k.toInt ∧ k.toInt ≤ 5) := bI_eq0.mp h9
    refine V_aload_n (i := 0) dX10_ear_24 rfl 0 rfl ?_
    refine V_bipush (v := (-2)) dX10_ear_25 rfl ?_
    refine M_callVq (As := [.int ((-2))]) (st := []) dX10_ear_27 lv_X10_107 ⟨by decide, by decide⟩ ⟨rfl, rfl⟩ rfl (ci := 7) hb.1 rfl rfl (Nat.le_of_ble_eq_true rfl) (q_refuse hs hX hk (j := 0) (by decide)) (fun w27 iv27 lw27 q27 => ?_)
    obtain ⟨rfl, e1, hXr, hOr⟩ := q27
    subst e1
    refine V_iret dX10_ear_30 ⟨rfl, rfl⟩ (Nat.zero_le _) (Nat.zero_le _) ?_
    subst hQ
    exact ⟨_, _, _, rfl, rfl, by unfold o_ear; rw [if_pos (by omega)]; exact ⟨rfl, hXr, hOr, Off.rf⟩⟩
  · have h9 : (0 : Int) ≤ k.toInt ∧ k.toInt ≤ 5 := bI_ne.mp h9
    refine V_iload_n (i := 2) dX10_ear_12 rfl 2 rfl ?_
    refine V_i2l dX10_ear_13 ?_
    refine V_lconst (v := lN 0) dX10_ear_14 rfl ?_
    refine V_ldc2 (v := lN 9) dX10_ear_15 mw_1290 ?_
    refine M_callSp (As := [.long ((a).toInt64), .long (lN 0), .long (lN 9)]) (st := []) dX10_ear_18 ls_X10_91 ⟨by decide, by decide⟩ ⟨rfl, rfl⟩ rfl (Nat.le_of_ble_eq_true rfl) (r_inK (by decide) (by decide)) ?_
    refine V_if_ne (tgt := 31) dX10_ear_21 rfl (fun h21 => ?_) (fun h21 => ?_)
    · have h21 : (0 : Int) ≤ a.toInt ∧ a.toInt ≤ 9 := bI_ne.mp h21
      refine V_aload_n (i := 0) dX10_ear_31 rfl 0 rfl ?_
      refine M_getI (x := nI (v_ne (x_A X))) dX10_ear_32 lf_X10_95 rfl hb.1 (hA.ne) ?_
      refine V_bipush (v := nI 6) dX10_ear_35 rfl ?_
      refine V_icmp_ne (tgt := 47) dX10_ear_37 rfl (fun h37 => ?_) (fun h37 => ?_)
      · have h37 : ¬ (v_ne (x_A X)) = 6 := fun q => h37 ((nI_eq (by omega) (by omega)).mpr q)
        have ck := iN_eq (k := k) (by omega)
        have ca := iN_eq (k := a) (by omega)
        have dk := iN_i (k := k) (by omega)
        have da := iN_i (k := a) (by omega)
        refine M_at (lv2 := [(0, .ref (b)), (1, .int (nI (iN k))), (2, .int (nI (iN a)))]) (st2 := []) ?_ (by rw [← ck, ← ca]) rfl rfl rfl
        refine V_aload_n (i := 0) dX10_ear_47 rfl 0 rfl ?_
        refine V_iload_n (i := 1) dX10_ear_48 rfl 1 rfl ?_
        refine V_iload_n (i := 2) dX10_ear_49 rfl 2 rfl ?_
        refine M_callVn (As := [.int (nI (iN k)), .int (nI (iN a))]) (st := []) dX10_ear_50 lv_X10_148 ⟨by decide, by decide⟩ ⟨rfl, rfl⟩ rfl (ci := 7) hb.1 rfl rfl (Nat.le_of_ble_eq_true rfl) (r_addEar hb hA hv (k := iN k) (a := iN a) (by omega)) (fun iv50 lw50 q50 => ?_)
        obtain ⟨e1, hAn, hBn⟩ := q50
        subst e1
        refine V_aload_n (i := 0) dX10_ear_53 rfl 0 rfl ?_
        refine M_getI (x := nI (v_ne (x_A X) + 1)) dX10_ear_54 lf_X10_95 rfl hb.1 (hAn.ne) ?_
        refine V_iconst (v := nI 1) dX10_ear_57 rfl ?_
        refine V_isub dX10_ear_58 ?_
        refine M_top (x2 := nI (v_ne (x_A X))) (sub1) ?_
        refine V_iret dX10_ear_59 ⟨rfl, rfl⟩ (Nat.zero_le _) (Nat.zero_le _) ?_
        subst hQ
        exact ⟨_, _, _, rfl, rfl, by unfold o_ear; rw [if_neg (by omega), if_pos (by omega)]; exact ⟨rfl, hX.now hk hAn hBn Off.rf, hBn.off, Off.rf⟩⟩
      · have h37 : (v_ne (x_A X)) = 6 := (nI_eq (by omega) (by omega)).mp h37
        refine V_aload_n (i := 0) dX10_ear_40 rfl 0 rfl ?_
        refine V_bipush (v := (-6)) dX10_ear_41 rfl ?_
        refine M_callVq (As := [.int ((-6))]) (st := []) dX10_ear_43 lv_X10_107 ⟨by decide, by decide⟩ ⟨rfl, rfl⟩ rfl (ci := 7) hb.1 rfl rfl (Nat.le_of_ble_eq_true rfl) (q_refuse hs hX hk (j := 4) (by decide)) (fun w43 iv43 lw43 q43 => ?_)
        obtain ⟨rfl, e1, hXr, hOr⟩ := q43
        subst e1
        refine V_iret dX10_ear_46 ⟨rfl, rfl⟩ (Nat.zero_le _) (Nat.zero_le _) ?_
        subst hQ
        exact ⟨_, _, _, rfl, rfl, by unfold o_ear; rw [if_neg (by omega), if_neg (by omega)]; exact ⟨rfl, hXr, hOr, Off.rf⟩⟩
    · have h21 : ¬ ((0 : Int) ≤ a.toInt ∧ a.toInt ≤ 9) := bI_eq0.mp h21
      refine V_aload_n (i := 0) dX10_ear_24 rfl 0 rfl ?_
      refine V_bipush (v := (-2)) dX10_ear_25 rfl ?_
      refine M_callVq (As := [.int ((-2))]) (st := []) dX10_ear_27 lv_X10_107 ⟨by decide, by decide⟩ ⟨rfl, rfl⟩ rfl (ci := 7) hb.1 rfl rfl (Nat.le_of_ble_eq_true rfl) (q_refuse hs hX hk (j := 0) (by decide)) (fun w27 iv27 lw27 q27 => ?_)
      obtain ⟨rfl, e1, hXr, hOr⟩ := q27
      subst e1
      refine V_iret dX10_ear_30 ⟨rfl, rfl⟩ (Nat.zero_le _) (Nat.zero_le _) ?_
      subst hQ
      exact ⟨_, _, _, rfl, rfl, by unfold o_ear; rw [if_pos (by omega)]; exact ⟨rfl, hXr, hOr, Off.rf⟩⟩
set_option maxRecDepth 20000 in
theorem q_man {g : Ev} {S : St} {iv : IV} {lw : LW} {b : Nat} (hs : SS S b) {X : Xs} (hX : MX S iv lw b X) (hk : XOK X) {e : Int32} {l : Int32} : CQ g mX10_man [.ref (b), .int (e), .int (l)] S iv lw (fun w iv2 lw2 => MP S b iv lw (o_man X e l) w iv2 lw2) := by
  refine CT_ofQ rfl (by decide) (Nat.le_of_ble_eq_true rfl) (lv := [(0, .ref (b)), (1, .int (e)), (2, .int (l))]) rfl (fun Q hQ => ?_)
  have hb := hs.1
  have hA := hX.1
  have hv := hk.1
  have hnc := hv.nc
  have hne := hv.ne
  have hnm := hv.nm
  refine V_aload_n (i := 0) dX10_man_0 rfl 0 rfl ?_
  refine V_iload_n (i := 1) dX10_man_1 rfl 1 rfl ?_
  refine M_callVp (As := [.int (e)]) (st := []) dX10_man_2 lv_X10_122 ⟨by decide, by decide⟩ ⟨rfl, rfl⟩ rfl (ci := 7) hb.1 rfl rfl (Nat.le_of_ble_eq_true rfl) (r_isEar hb hA hv) ?_
  refine V_if_eq (tgt := 18) dX10_man_5 rfl (fun h5 => ?_) (fun h5 => ?_)
  · have h5 : ¬ (inR e (v_ne (x_A X))) := bI_eq0.mp h5
    refine V_aload_n (i := 0) dX10_man_18 rfl 0 rfl ?_
    refine V_bipush (v := (-2)) dX10_man_19 rfl ?_
    refine M_callVq (As := [.int ((-2))]) (st := []) dX10_man_21 lv_X10_107 ⟨by decide, by decide⟩ ⟨rfl, rfl⟩ rfl (ci := 7) hb.1 rfl rfl (Nat.le_of_ble_eq_true rfl) (q_refuse hs hX hk (j := 0) (by decide)) (fun w21 iv21 lw21 q21 => ?_)
    obtain ⟨rfl, e1, hXr, hOr⟩ := q21
    subst e1
    refine V_iret dX10_man_24 ⟨rfl, rfl⟩ (Nat.zero_le _) (Nat.zero_le _) ?_
    subst hQ
    exact ⟨_, _, _, rfl, rfl, by unfold o_man; rw [if_pos (fun z => h5 z.1)]; exact ⟨rfl, hXr, hOr, Off.rf⟩⟩
  · have h5 : inR e (v_ne (x_A X)) := bI_ne.mp h5
    refine V_iload_n (i := 2) dX10_man_8 rfl 2 rfl ?_
    refine V_i2l dX10_man_9 ?_
    refine V_lconst (v := lN 0) dX10_man_10 rfl ?_
    refine V_lconst (v := lN 1) dX10_man_11 rfl ?_
    refine M_callSp (As := [.long ((l).toInt64), .long (lN 0), .long (lN 1)]) (st := []) dX10_man_12 ls_X10_91 ⟨by decide, by decide⟩ ⟨rfl, rfl⟩ rfl (Nat.le_of_ble_eq_true rfl) (r_inK (by decide) (by decide)) ?_
    refine V_if_ne (tgt := 25) dX10_man_15 rfl (fun h15 => ?_) (fun h15 => ?_)
    · have h15 : (0 : Int) ≤ l.toInt ∧ l.toInt ≤ 1 := bI_ne.mp h15
      refine V_aload_n (i := 0) dX10_man_25 rfl 0 rfl ?_
      refine M_getI (x := nI (v_nm (x_A X))) dX10_man_26 lf_X10_98 rfl hb.1 (hA.nm) ?_
      refine V_bipush (v := nI 8) dX10_man_29 rfl ?_
      refine V_icmp_ne (tgt := 41) dX10_man_31 rfl (fun h31 => ?_) (fun h31 => ?_)
      · have h31 : ¬ (v_nm (x_A X)) = 8 := fun q => h31 ((nI_eq (by omega) (by omega)).mpr q)
        have ce := iN_eq (k := e) (by omega)
        have cl := iN_eq (k := l) (by omega)
        have de := iN_i (k := e) (by omega)
        have dl := iN_i (k := l) (by omega)
        refine M_at (lv2 := [(0, .ref (b)), (1, .int (nI (iN e))), (2, .int (nI (iN l)))]) (st2 := []) ?_ (by rw [← ce, ← cl]) rfl rfl rfl
        refine V_aload_n (i := 0) dX10_man_41 rfl 0 rfl ?_
        refine V_iload_n (i := 1) dX10_man_42 rfl 1 rfl ?_
        refine V_iload_n (i := 2) dX10_man_43 rfl 2 rfl ?_
        refine M_callVn (As := [.int (nI (iN e)), .int (nI (iN l))]) (st := []) dX10_man_44 lv_X10_152 ⟨by decide, by decide⟩ ⟨rfl, rfl⟩ rfl (ci := 7) hb.1 rfl rfl (Nat.le_of_ble_eq_true rfl) (r_addMan hb hA hv (k := iN e) (a := iN l) (by omega)) (fun iv44 lw44 q44 => ?_)
        obtain ⟨e1, hAn, hBn⟩ := q44
        subst e1
        refine V_aload_n (i := 0) dX10_man_47 rfl 0 rfl ?_
        refine M_getI (x := nI (v_nm (x_A X) + 1)) dX10_man_48 lf_X10_98 rfl hb.1 (hAn.nm) ?_
        refine V_iconst (v := nI 1) dX10_man_51 rfl ?_
        refine V_isub dX10_man_52 ?_
        refine M_top (x2 := nI (v_nm (x_A X))) (sub1) ?_
        refine V_iret dX10_man_53 ⟨rfl, rfl⟩ (Nat.zero_le _) (Nat.zero_le _) ?_
        subst hQ
        exact ⟨_, _, _, rfl, rfl, by unfold o_man; rw [if_neg (fun z => z ⟨h5, by omega⟩), if_pos (by omega)]; exact ⟨rfl, hX.now hk hAn hBn Off.rf, hBn.off, Off.rf⟩⟩
      · have h31 : (v_nm (x_A X)) = 8 := (nI_eq (by omega) (by omega)).mp h31
        refine V_aload_n (i := 0) dX10_man_34 rfl 0 rfl ?_
        refine V_bipush (v := (-6)) dX10_man_35 rfl ?_
        refine M_callVq (As := [.int ((-6))]) (st := []) dX10_man_37 lv_X10_107 ⟨by decide, by decide⟩ ⟨rfl, rfl⟩ rfl (ci := 7) hb.1 rfl rfl (Nat.le_of_ble_eq_true rfl) (q_refuse hs hX hk (j := 4) (by decide)) (fun w37 iv37 lw37 q37 => ?_)
        obtain ⟨rfl, e1, hXr, hOr⟩ := q37
        subst e1
        refine V_iret dX10_man_40 ⟨rfl, rfl⟩ (Nat.zero_le _) (Nat.zero_le _) ?_
        subst hQ
        exact ⟨_, _, _, rfl, rfl, by unfold o_man; rw [if_neg (fun z => z ⟨h5, by omega⟩), if_neg (by omega)]; exact ⟨rfl, hXr, hOr, Off.rf⟩⟩
    · have h15 : ¬ ((0 : Int) ≤ l.toInt ∧ l.toInt ≤ 1) := bI_eq0.mp h15
      refine V_aload_n (i := 0) dX10_man_18 rfl 0 rfl ?_
      refine V_bipush (v := (-2)) dX10_man_19 rfl ?_
      refine M_callVq (As := [.int ((-2))]) (st := []) dX10_man_21 lv_X10_107 ⟨by decide, by decide⟩ ⟨rfl, rfl⟩ rfl (ci := 7) hb.1 rfl rfl (Nat.le_of_ble_eq_true rfl) (q_refuse hs hX hk (j := 0) (by decide)) (fun w21 iv21 lw21 q21 => ?_)
      obtain ⟨rfl, e1, hXr, hOr⟩ := q21
      subst e1
      refine V_iret dX10_man_24 ⟨rfl, rfl⟩ (Nat.zero_le _) (Nat.zero_le _) ?_
      subst hQ
      exact ⟨_, _, _, rfl, rfl, by unfold o_man; rw [if_pos (fun z => absurd z.2 (by omega))]; exact ⟨rfl, hXr, hOr, Off.rf⟩⟩
