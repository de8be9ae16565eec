/-! from the entry to the end -/
set_option maxRecDepth 20000 in
theorem whole_start {p : Program} {e : Env} {s : State} {m : MethodId} {below : List Frame} {meth : Method} {c : Code} (l : Launch) (hflags : l.flags = flags0) {b L : Nat} {xs : Nat → Int32} (hL : L ≤ 3072) (C0 : lw_At p s m meth c b L xs) : W p l e room_1 s m #[Value.ref b] below meth c s.heap [] 0 0 (lw_Z below #[Value.ref b] s) (entryFrame m ([Value.ref b] : List Value).toArray 4) := by
  obtain ⟨g, g1, g2, g3, hES⟩ := es_of C0
  subst g2
  have hw := L_start (g := g) (Q := fun _ _ => True) (by rw [g3]; exact hL)
  rw [lg_entry_eq]
  have hl := lv_entry [Value.ref (g.2.2.2.1 0)] (n := 4) (Nat.le_of_ble_eq_true rfl)
  have ea : shl g [(0, .ref (100000 + 0))] = lv_args 0 [Value.ref (g.2.2.2.1 0)] := by
    show [(0, Value.ref (ph g (100000 + 0)))] = _
    rw [ph_ext]
    rfl
  rw [← ea] at hl
  exact hw p l e s m #[Value.ref (g.2.2.2.1 0)] below meth c s.heap [] _ ⟨C0.1, C0.2.1, C0.2.2.1, C0.2.2.2.1, C0.2.2.2.2.1, ws_of C0.2.2.2.2.2.1, C0.2.2.2.2.2.2.2.2.1, fun h => absurd h (by decide), hES, fun _ => ⟨rfl, g1.symm⟩⟩ hl ⟨g1.symm, Nat.zero_le _, fun a ha => absurd ha (Nat.not_lt_zero _)⟩ va_S.rf
