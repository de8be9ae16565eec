/-! the start: the numbers of the launch -/
def tmS (i : Nat) : Term := .string "SoupOrHorses$Reader" ([35, 49, 57, 65, 70, 75].getD i 0)
theorem eq_ref {args : Array Value} {s : State} {t1 t2 : Term} {a : Nat} (h : (Cond.eq t1 t2).before args s = true) (h1 : t1.eval args s none [] s = some (.ref a)) : t2.eval args s none [] s = some (.ref a) := by
  cases hv : t2.eval args s none [] s with
  | none => simp [Cond.before, Cond.holds, Cond.value, hv, h1] at h
  | some w =>
    simp only [Cond.before, Cond.holds, Cond.value, hv, h1] at h
    cases w <;> simp_all
def adrS (b : Nat) (adK adV : Nat → Nat) (n : Nat) : Nat := if n = 0 then b else if 51 ≤ n then adV (n - 51) else adK (n - 1)
theorem adrS_K {b i : Nat} {adK adV : Nat → Nat} (h : i < 6) : adrS b adK adV (1 + i) = adK i := by
  unfold adrS
  rw [if_neg (by omega), if_neg (by omega), show 1 + i - 1 = i by omega]
theorem adrS_V {b i : Nat} {adK adV : Nat → Nat} : adrS b adK adV (51 + i) = adV i := by
  unfold adrS
  rw [if_neg (by omega), if_pos (by omega), show 51 + i - 51 = i by omega]
theorem ln_all : ∀ c, c < 8 → ∃ own idx, LN own idx c := fun c hc => by
  have : c = 0 ∨ c = 1 ∨ c = 2 ∨ c = 3 ∨ c = 4 ∨ c = 5 ∨ c = 6 ∨ c = 7 := by omega
  rcases this with rfl | rfl | rfl | rfl | rfl | rfl | rfl | rfl
  · exact ⟨_, _, ln_X9_7⟩
  · exact ⟨_, _, ln_X9_47⟩
  · exact ⟨_, _, ln_X9_40⟩
  · exact ⟨_, _, ln_X9_54⟩
  · exact ⟨_, _, ln_X9_26⟩
  · exact ⟨_, _, ln_X9_33⟩
  · exact ⟨_, _, ln_L_7⟩
  · exact ⟨_, _, ln_L_10⟩
theorem kn_ex {args : Array Value} {s : State} (hW : ∀ w ∈ WS, w.before args s = true) : ∃ D : va_G, ∀ (c : Nat) (q : vw_C), vwCl[c]? = some q → u_Kn s q.1 q.2.1 q.2.2 (D.1 c) (D.2 c) := by
  have h : ∀ c : Nat, ∃ z : ClassId × (Nat → Nat), ∀ q : vw_C, vwCl[c]? = some q → u_Kn s q.1 q.2.1 q.2.2 z.1 z.2 := fun c => by
    by_cases hc : c < 8
    · obtain ⟨own, idx, cl, h1, -, h3, -, h5, -⟩ := ln_all c hc
      obtain ⟨cC, iS, h6⟩ := u_known (args := args) (s := s) hW h3 (hW _ h5)
      refine ⟨(cC, iS), fun q hq => ?_⟩
      have e : cl = q := Option.some.inj (h1.symm.trans hq)
      subst e
      exact h6
    · refine ⟨(0, fun _ => 0), fun q hq => ?_⟩
      have h9 := (List.getElem?_eq_some_iff.mp hq).1
      have h8 : vwCl.length = 8 := rfl
      omega
  obtain ⟨f, hf⟩ := Classical.axiomOfChoice h
  exact ⟨(fun c => (f c).1, fun c => (f c).2), fun c q hq => hf c q hq⟩
theorem ar_ex {args : Array Value} {s : State} (h1 : (Cond.arrayClass .int).before args s = true) (h2 : (Cond.arrayClass .long).before args s = true) (h3 : (Cond.arrayOver (.object "SoupOrHorses$Shelf")).before args s = true) (h4 : (Cond.arrayOver (.array .int)).before args s = true) (h5 : (Cond.arrayOver (.array .long)).before args s = true) :
    ∃ A : Nat → ClassId, (ArrOfT s (A 0) .int ∧ va_RA s (A 0) .int) ∧ (ArrOfT s (A 1) .long ∧ va_RA s (A 1) .long) ∧ (ArrOfT s (A 2) (.object "SoupOrHorses$Shelf") ∧ va_RA s (A 2) (.object "SoupOrHorses$Shelf")) ∧ (ArrOfT s (A 3) (.array .int) ∧ va_RA s (A 3) (.array .int)) ∧ (ArrOfT s (A 4) (.array .long) ∧ va_RA s (A 4) (.array .long)) := by
  obtain ⟨c0, k0, p0, a1, a2, a3⟩ := Cond.arrayClass_spec h1
  obtain ⟨c1, k1, p1, b1, b2, b3⟩ := Cond.arrayClass_spec h2
  obtain ⟨p2, c2, k2, d1, d2, d3, d4, d5⟩ := Cond.arrayOver_spec h3
  obtain ⟨p3, c3, k3, e1, e2, e3, e4, e5⟩ := arrayOverA_spec h4
  obtain ⟨p4, c4, k4, f1, f2, f3, f4, f5⟩ := arrayOverA_spec h5
  refine ⟨fun i => match i with | 0 => c0 | 1 => c1 | 2 => c2 | 3 => c3 | _ => c4, ⟨fun n z => ⟨fun k h => (by cases h), k0, a2, p0, a3⟩, a1⟩, ⟨fun n z => ⟨fun k h => (by cases h), k1, b2, p1, b3⟩, b1⟩, ⟨fun n z => ⟨fun k h => (by cases h), k2, d3, p2, d4⟩, k2, p2, d3, d4, d1, d5⟩, ⟨fun n z => ⟨fun k h => (by cases h), k3, e3, p3, e4⟩, e5⟩, ⟨fun n z => ⟨fun k h => (by cases h), k4, f3, p4, f4⟩, f5⟩⟩
abbrev stC : Cond := Jvm.Cond.and given_1 narrow_1
theorem st_ex : ∀ i : Nat, i < 6 → Cond.exactly (tmS i) "java/lang/String" ∈ flatC stC := by decide +kernel
theorem st_co : ∀ i : Nat, i < 6 → Cond.eq (.field (tmS i) "java/lang/String" "coder" "B") (.int 0) ∈ flatC stC := by decide +kernel
theorem st_ar : ∀ i : Nat, i < 6 → Cond.arrayOf (.field (tmS i) "java/lang/String" "value" "[B") .byte ∈ flatC stC := by decide +kernel
theorem st_le : ∀ i : Nat, i < 6 → Cond.eq (.length (.field (tmS i) "java/lang/String" "value" "[B")) (.int (Int32.ofNat (slen.getD i 0))) ∈ flatC stC := by decide +kernel
theorem st_el : ∀ i : Nat, i < 6 → ∀ j : Nat, j < slen.getD i 0 → Cond.eq (.elem (.field (tmS i) "java/lang/String" "value" "[B") (.int (Int32.ofNat j))) (.int ((sbyt.getD i []).getD j 0)) ∈ flatC stC := by decide +kernel
theorem st_ne : ∀ i : Nat, i < 6 → ∀ j : Nat, j < 6 → i ≠ j → Cond.not (Cond.eq (tmS i) (tmS j)) ∈ flatC stC ∨ Cond.not (Cond.eq (tmS j) (tmS i)) ∈ flatC stC := by decide +kernel
theorem ws_of {s : State} {args : Array Value} (h : ∀ w ∈ lw_tbl, w.before args s = true) : ∀ w ∈ WS, w.before args s = true := fun w hw => h w (List.mem_filter.mp hw).1
theorem es_of {p : Program} {s : State} {m : MethodId} {meth : Method} {c : Code} {b L : Nat} {xs : Nat → Int32} (C0 : lw_At p s m meth c b L xs) : ∃ g : Ev, g.1 = s.heap.size ∧ g.2.2.2.1 0 = b ∧ g.2.2.2.2.2 = (L, xs) ∧ ES g s := by
  obtain ⟨-, -, -, -, -, hts, hX, hb, -, hgv⟩ := C0
  have hg := flat_of_before _ hgv
  have hW := ws_of hts
  obtain ⟨D, hD⟩ := kn_ex hW
  obtain ⟨A, hA0, hA1, hA2, hA3, hA4⟩ := ar_ex (hts (.arrayClass .int) (by decide +kernel)) (hts (.arrayClass .long) (by decide +kernel)) (hts (.arrayOver (.object "SoupOrHorses$Shelf")) (by decide +kernel)) (hts (.arrayOver (.array .int)) (by decide +kernel)) (hts (.arrayOver (.array .long)) (by decide +kernel))
  have hnA : ∀ a : Nat, a < s.heap.size → ¬ (fun q : Nat => s.heap.size ≤ q) a := fun a ha => Nat.not_le.mpr ha
  obtain ⟨adK, adV, hS, hK⟩ := vk_Sof (args := #[Value.ref b]) (s := s) (N := 6) (tm := tmS) (len := slen) (byt := sbyt) (A := fun q => s.heap.size ≤ q) (by decide) (fun i hi => hg _ (st_ex i hi)) (fun i hi => hg _ (st_co i hi)) (fun i hi => hg _ (st_ar i hi)) (fun i hi => hg _ (st_le i hi)) (fun i hi j hj => hg _ (st_el i hi j hj)) (fun i j hi hj e => (st_ne i hi j hj e).imp (hg _) (hg _)) hnA
  have hF : va_Zq "jdk/internal/util/Preconditions" "SIOOBE_FORMATTER" "Ljava/util/function/BiFunction;" (fun q => s.heap.size ≤ q) s s.heap := va_Zqof (args := #[Value.ref b]) (hts _ (by decide +kernel)) (hts _ (by decide +kernel)) (hg _ (by decide +kernel)) hnA
  have hC : va_Z "java/lang/String" "COMPACT_STRINGS" "Z" (.int 1) (fun q => s.heap.size ≤ q) s s.heap := va_Zof (args := #[Value.ref b]) (hts _ (by decide +kernel)) (hts _ (by decide +kernel)) (va_eqt (hg _ (by decide +kernel))) hnA
  obtain ⟨fo, hfo⟩ : ∃ fo : Option Nat, va_Z "jdk/internal/util/Preconditions" "SIOOBE_FORMATTER" "Ljava/util/function/BiFunction;" (va_rf fo) (fun q => s.heap.size ≤ q) s s.heap := by
    rcases hF with h | ⟨t, h⟩
    · exact ⟨none, h⟩
    · exact ⟨some t, h⟩
  refine ⟨(s.heap.size, D, A, adrS b adK adV, fo, (L, xs)), rfl, rfl, rfl, Nat.le_refl _, ⟨hD, fun k q hk => ?_⟩, ⟨⟨va_AO.of (hts (.arrayOver (.object "SoupOrHorses$Shelf")) (by decide +kernel)), fun t ht => ?_⟩, fun q hq => ?_⟩, ⟨hX, hb⟩, ⟨fun i hi => ?_, fun i j hi hj e => ?_⟩, fun q hq => ?_, hC, hfo⟩
  · have hk5 := (List.getElem?_eq_some_iff.mp hk).1
    have hk6 : k < 5 := hk5
    have : k = 0 ∨ k = 1 ∨ k = 2 ∨ k = 3 ∨ k = 4 := by omega
    rcases this with rfl | rfl | rfl | rfl | rfl
    · cases hk; exact hA0
    · cases hk; exact hA1
    · cases hk; exact hA2
    · cases hk; exact hA3
    · cases hk; exact hA4
  · simp only [ovT, List.mem_cons, List.not_mem_nil, or_false] at ht
    rcases ht with rfl | rfl
    · exact over_moved (Vm.Alike.refl s.vm) (hts (.arrayOver (.array .int)) (by decide +kernel))
    · exact over_moved (Vm.Alike.refl s.vm) (hts (.arrayOver (.array .long)) (by decide +kernel))
  · simp only [nestT, List.mem_cons, List.not_mem_nil, or_false] at hq
    rcases hq with rfl | rfl | rfl | rfl | rfl | rfl
    · exact va_Nw.of rfl (hts _ (by decide +kernel))
    · exact va_Nw.of rfl (hts _ (by decide +kernel))
    · exact va_Nw.of rfl (hts _ (by decide +kernel))
    · exact va_Nw.of rfl (hts _ (by decide +kernel))
    · exact va_Nw.of rfl (hts _ (by decide +kernel))
    · exact va_Nw.of rfl (hts _ (by decide +kernel))
  · show va_O _ (adrS b adK adV (1 + i)) _ _ _ ∧ va_OF _ _ _ _ (adrS b adK adV (1 + i)) _ _ _ ∧ va_OF _ _ _ (.ref (adrS b adK adV (51 + i))) (adrS b adK adV (1 + i)) _ _ _ ∧ va_T _ (adrS b adK adV (51 + i)) _ _ _ _ _
    rw [adrS_K hi, adrS_V]
    exact hS.1 i hi
  · have e2 : adrS b adK adV (1 + i) = adrS b adK adV (1 + j) := e
    rw [adrS_K hi, adrS_K hj] at e2
    exact hS.2 i j hi hj e2
  · simp only [strT, List.mem_cons, List.not_mem_nil, or_false] at hq
    rcases hq with rfl | rfl | rfl | rfl | rfl | rfl | rfl | rfl | rfl | rfl | rfl | rfl
    · show vk_R "SoupOrHorses$Reader" 35 "call" (adrS b adK adV (1 + 0)) s
      rw [adrS_K (by decide)]
      exact vk_R.of (hts _ (by decide +kernel)) (hK 0 (by decide))
    · show vk_R "SoupOrHorses$Reader" 49 "ear" (adrS b adK adV (1 + 1)) s
      rw [adrS_K (by decide)]
      exact vk_R.of (hts _ (by decide +kernel)) (hK 1 (by decide))
    · show vk_R "SoupOrHorses$Reader" 57 "man" (adrS b adK adV (1 + 2)) s
      rw [adrS_K (by decide)]
      exact vk_R.of (hts _ (by decide +kernel)) (hK 2 (by decide))
    · show vk_R "SoupOrHorses$Reader" 65 "sure" (adrS b adK adV (1 + 3)) s
      rw [adrS_K (by decide)]
      exact vk_R.of (hts _ (by decide +kernel)) (hK 3 (by decide))
    · show vk_R "SoupOrHorses$Reader" 70 "lost" (adrS b adK adV (1 + 4)) s
      rw [adrS_K (by decide)]
      exact vk_R.of (hts _ (by decide +kernel)) (hK 4 (by decide))
    · show vk_R "SoupOrHorses$Reader" 75 "use" (adrS b adK adV (1 + 5)) s
      rw [adrS_K (by decide)]
      exact vk_R.of (hts _ (by decide +kernel)) (hK 5 (by decide))
    · show vk_R "SoupOrHorsesModel" 208 "call" (adrS b adK adV (1 + 0)) s
      rw [adrS_K (by decide)]
      exact vk_R.of (hts _ (by decide +kernel)) (eq_ref (t1 := tmS 0) (hg _ (by decide +kernel)) (hK 0 (by decide)))
    · show vk_R "SoupOrHorsesModel" 217 "ear" (adrS b adK adV (1 + 1)) s
      rw [adrS_K (by decide)]
      exact vk_R.of (hts _ (by decide +kernel)) (eq_ref (t1 := tmS 1) (hg _ (by decide +kernel)) (hK 1 (by decide)))
    · show vk_R "SoupOrHorsesModel" 222 "man" (adrS b adK adV (1 + 2)) s
      rw [adrS_K (by decide)]
      exact vk_R.of (hts _ (by decide +kernel)) (eq_ref (t1 := tmS 2) (hg _ (by decide +kernel)) (hK 2 (by decide)))
    · show vk_R "SoupOrHorsesModel" 224 "sure" (adrS b adK adV (1 + 3)) s
      rw [adrS_K (by decide)]
      exact vk_R.of (hts _ (by decide +kernel)) (eq_ref (t1 := tmS 3) (hg _ (by decide +kernel)) (hK 3 (by decide)))
    · show vk_R "SoupOrHorsesModel" 225 "lost" (adrS b adK adV (1 + 4)) s
      rw [adrS_K (by decide)]
      exact vk_R.of (hts _ (by decide +kernel)) (eq_ref (t1 := tmS 4) (hg _ (by decide +kernel)) (hK 4 (by decide)))
    · show vk_R "SoupOrHorsesModel" 226 "use" (adrS b adK adV (1 + 5)) s
      rw [adrS_K (by decide)]
      exact vk_R.of (hts _ (by decide +kernel)) (eq_ref (t1 := tmS 5) (hg _ (by decide +kernel)) (hK 5 (by decide)))
