/-! Hearing from a shelf and in truth; Crowd -/
theorem rowAdd {iv iv2 : IV} {a j : Nat} {f : Nat → Int32} {v : Int32} (h : ∀ i, i < j → iv a i = f i) (h2 : iv2 a = iv a) (hv : v = f j) : ∀ i, i < j + 1 → up2 iv2 a j v a i = f i := fun i hi => by
  by_cases e : i = j
  · subst e; rw [up2_s, hv]
  · rw [up2_k e, h2]; exact h i (by omega)
theorem atV_0 (V : Cv) : atV V 0 = V := rfl
theorem sdAt_s (s : Int32) (j : Nat) : sdAt s (j + 1) = nxt (sdAt s j) := rfl
theorem atV_se (V : Cv) (j : Nat) : v_se (atV V j) = sdAt (v_se V) j := rfl
theorem setD2 (V : Cv) (a c : Int32) : v_setD (v_setD V a) c = v_setD V c := rfl
theorem atV_s (V : Cv) (j : Nat) : v_setD (atV V j) (nxt (v_se (atV V j))) = atV V (j + 1) := by
  rw [atV_se, setD2, ← sdAt_s]
theorem drwAt {g : Ev} {S : St} {iv : IV} {lw : LW} {b : Nat} (hb : IsCamp S b) {V : Cv} {j : Nat} (hV : XC iv b (atV V j)) : CQ g mX0_drawBelow [.ref b, .int (nI 100)] S iv lw (fun w iv2 lw2 => w = .int (nI (drw (sdAt (v_se V) j) % 100)) ∧ lw = lw2 ∧ XC iv2 b (atV V (j + 1)) ∧ Off b 9 iv iv2) := by
  have h := t_drawBelow (g := g) (lw := lw) hb hV (m := 100) (by omega) (by omega)
  rw [atV_s, atV_se] at h
  exact h
theorem goneB_is (V : Cv) (i : Nat) : goneB V i = decide (drw (sdAt (v_se V) i) % 100 < v_lo V) := rfl
theorem goneB_t {V : Cv} {i : Nat} (h : ¬ v_lo V ≤ drw (sdAt (v_se V) i) % 100) : goneB V i = true := by rw [goneB_is]; exact decide_eq_true (Nat.lt_of_not_le h)
theorem goneB_f {V : Cv} {i : Nat} (h : v_lo V ≤ drw (sdAt (v_se V) i) % 100) : goneB V i = false := by rw [goneB_is]; exact decide_eq_false (Nat.not_lt.mpr h)
theorem sndN_t {V : Cv} {c i : Nat} (h : ¬ v_lo V ≤ drw (sdAt (v_se V) i) % 100) : nI 9 = nI (sndN V c i) := by unfold sndN; rw [if_pos (goneB_t h)]
theorem sndN_f {V : Cv} {c i : Nat} (h : v_lo V ≤ drw (sdAt (v_se V) i) % 100) : nI (v_nt V c i) = nI (sndN V c i) := by unfold sndN; rw [goneB_f h]; rfl
theorem atV_nt {g : Ev} {S : St} {iv : IV} {lw : LW} {b : Nat} (hb : IsCamp S b) {V : Cv} {j c i : Nat} (hV : XC iv b (atV V j)) (hc : c < v_nc V) (hi : i < v_sz V c) : CP g mX0_noteAt [.ref b, .int (nI c), .int (nI i)] S iv lw (.int (nI (v_nt V c i))) := t_X0_noteAt (V := atV V j) hb hV hc hi
theorem atV_lo {iv : IV} {b : Nat} {V : Cv} {j : Nat} (hV : XC iv b (atV V j)) : iv b 12 = nI (v_lo V) := hV.lo
def hOf (T : Sv) (m : Nat) (o : Bool) : Hv := (m, o, fun i => heN (T.2.2 i))
abbrev heQ (v : Int64) : Prop := ntQ v ∨ v.toInt = 9
theorem heN_le {v : Int64} (h : heQ v) : heN v ≤ 9 := by unfold heN; have h1 := h; unfold heQ ntQ at h1; omega
theorem heN_q {v : Int64} (h : heQ v) : v.toInt32 = nI (heN v) := heN_32 (by have h1 := h; unfold heQ ntQ at h1; omega) (by have h1 := h; unfold heQ ntQ at h1; omega)
theorem oI_inj {a c : Option Nat} (ha : ∀ k, a = some k → k < 12) (hc : ∀ k, c = some k → k < 12) : oI a = oI c ↔ a = c := by
  cases c with
  | none => exact oI_m1 ha (by omega)
  | some k =>
    rw [eq_comm (a := oI a), oI_some]
    exact oI_eq ha (by omega) (hc k rfl)
def gV (V : Cv) (c m : Nat) : Option Nat := gsTo V (hearOf V c (v_eo V m) (v_sz V c) true) (v_eo V m) (v_nc V)
def lV (V : Cv) (c m : Nat) : Nat := perK (usO V (gV V c m)) (usF V (hearOf V c (v_eo V m) (v_sz V c) true) (v_eo V m))
/-- the most counted, of several the least -/
def mdTo (t : Nat → Nat) : Nat → Option Nat
  | 0 => none
  | c + 1 => if valO t (mdTo t c) < t c then some c else mdTo t c
theorem mdTo_lt {t : Nat → Nat} : ∀ n k, mdTo t n = some k → k < n
  | 0, _, h => by cases h
  | n + 1, k, h => by
    unfold mdTo at h
    split at h
    · cases h; omega
    · have := mdTo_lt n k h; omega
theorem mdEx (t : Nat → Nat) : ∃ o, o = mdTo t 12 := ⟨_, rfl⟩
noncomputable def mdAll (t : Nat → Nat) : Option Nat := Classical.choose (mdEx t)
theorem mdAll_eq (t : Nat → Nat) : mdAll t = mdTo t 12 := Classical.choose_spec (mdEx t)
theorem mdAll_lt {t : Nat → Nat} : ∀ k, mdAll t = some k → k < 12 := by rw [mdAll_eq]; exact mdTo_lt 12
theorem md_val {t : Nat → Nat} {M : Nat} (h : ∀ c, c < 12 → t c ≤ M) (n : Nat) (hn : n ≤ 12) : valO t (mdTo t n) ≤ M := by
  cases e : mdTo t n with
  | none => exact Nat.zero_le _
  | some k => exact h k (by have := mdTo_lt n k e; omega)
noncomputable def deedN (g : Nat → Option Nat) (l lk : Nat → Nat) (s : Nat) (f : Nat → Option Nat) (m : Nat) : Option Nat :=
  if l m < s ∧ lk m = 1 ∧ ¬ mdAll (fun c => cntTo (fun k => decide (f k = some c)) m) = none then mdAll (fun c => cntTo (fun k => decide (f k = some c)) m) else g m
noncomputable def ddF (g : Nat → Option Nat) (l lk : Nat → Nat) (s : Nat) : Nat → Nat → Option Nat
  | 0 => fun _ => none
  | m + 1 => fun k => if k = m then deedN g l lk s (ddF g l lk s m) m else ddF g l lk s m k
def XG (iv : IV) (w : Nat) (g : Nat → Option Nat) (l : Nat → Nat) (n : Nat) : Prop := (n ≤ 8 ∧ ∀ m, m < n → (∀ k, g m = some k → k < 12) ∧ l m ≤ 99000) ∧ iv w 4 = nI n ∧ ∀ m, m < n → iv (w + 1) m = oI (g m) ∧ iv (w + 2) m = nI (l m)
def XD (iv : IV) (w : Nat) (d : Nat → Option Nat) (n : Nat) : Prop := ∀ m, m < n → (∀ k, d m = some k → k < 12) ∧ iv (w + 3) m = oI (d m)
def XT (iv : IV) (w : Nat) (t : Nat → Nat) : Prop := ∀ c, c < 12 → t c ≤ 8 ∧ iv (w + 4) c = nI (t c)
theorem XG.of {iv iv2 : IV} {w n : Nat} {g : Nat → Option Nat} {l : Nat → Nat} (h : XG iv w g l n) (h0 : iv2 w = iv w) (h1 : iv2 (w + 1) = iv (w + 1)) (h2 : iv2 (w + 2) = iv (w + 2)) : XG iv2 w g l n := by
  obtain ⟨a, b, c⟩ := h
  exact ⟨a, by rw [h0]; exact b, by rw [h1, h2]; exact c⟩
theorem XD.of {iv iv2 : IV} {w n : Nat} {d : Nat → Option Nat} (h : XD iv w d n) (h1 : iv2 (w + 3) = iv (w + 3)) : XD iv2 w d n := fun m hm => by rw [h1]; exact h m hm
theorem XT.of {iv iv2 : IV} {w : Nat} {t : Nat → Nat} (h : XT iv w t) (h1 : iv2 (w + 4) = iv (w + 4)) : XT iv2 w t := fun m hm => by rw [h1]; exact h m hm
theorem gV_lt {V : Cv} {c m : Nat} (h : VOK V) : ∀ k, gV V c m = some k → k < 12 := fun k hk => by
  have := gsTo_lt _ hk
  have := h.nc
  omega
theorem lV_le {V : Cv} {c m : Nat} (h : VOK V) : lV V c m ≤ 99000 := by
  unfold lV perK
  have := usO_le (H := hearOf V c (v_eo V m) (v_sz V c) true) (e := v_eo V m) h (Nat.le_refl _)
  split
  · exact Nat.le_trans (Nat.div_le_self _ _) (by unfold gV; omega)
  · omega
def btTo (p : Nat → Bool) : Nat → Nat
  | 0 => 0
  | n + 1 => if p n = true then btTo p n ||| 2 ^ n else btTo p n
theorem deedN_lt {g : Nat → Option Nat} {l lk : Nat → Nat} {s m : Nat} {f : Nat → Option Nat} (h : ∀ k, g m = some k → k < 12) : ∀ k, deedN g l lk s f m = some k → k < 12 := fun k hk => by
  unfold deedN at hk
  split at hk
  · exact mdAll_lt k hk
  · exact h k hk
set_option maxRecDepth 20000 in
theorem t_takeShelf {g : Ev} {S : St} {iv : IV} {lw : LW} {q : Nat} (hq : IsHear S q) {p : Nat} (hp : IsShelf S p) {T : Sv} (hT : XS iv lw p T) (hd : p + 1 < q ∨ q + 1 < p) {m : Nat} (hr : rowQ T) (hm : m ≤ T.2.1) (hm8 : m ≤ 8) (hh : ∀ i, i < m → heQ (T.2.2 i)) {z : Int32} {o : Bool} (hz : z = bI (o = true)) : CN g mX2_takeShelf [.ref (q), .ref (p), .int (nI m), .int (z)] S iv lw (fun iv2 lw2 => lw = lw2 ∧ XH iv2 q (hOf T m o) ∧ Off q 2 iv iv2) := by
  refine CT_ofQ rfl (by decide) (Nat.le_of_ble_eq_true rfl) (lv := [(0, .ref (q)), (1, .ref (p)), (2, .int (nI m)), (3, .int (z))]) rfl (fun Q hQ => ?_)
  have h40 := hT.1.1
  refine V_aload_n (i := 0) dX2_takeShelf_0 rfl 0 rfl ?_
  refine V_iload_n (i := 2) dX2_takeShelf_1 rfl 2 rfl ?_
  refine V_iload_n (i := 3) dX2_takeShelf_2 rfl 3 rfl ?_
  refine M_callVn (As := [.int (nI m), .int (z)]) (st := []) dX2_takeShelf_3 lv_X2_32 ⟨by decide, by decide⟩ ⟨rfl, rfl⟩ rfl (ci := 2) hq.1 rfl rfl (Nat.le_of_ble_eq_true rfl) (t_cutTo hq (n := m) hm8 hz) (fun iv3 lw3 q3 => ?_)
  obtain ⟨rfl, rfl⟩ := q3
  refine V_iconst (v := nI 0) dX2_takeShelf_6 rfl ?_
  refine V_istore (lv2 := [(4, .int (nI 0)), (0, .ref (q)), (1, .ref (p)), (2, .int (nI m)), (3, .int (z))]) dX2_takeShelf_7 (by decide) rfl ?_
  have lp9 : ∀ j, j ≤ m → VM g mX2_takeShelf 9 [(4, .int (nI j)), (0, .ref (q)), (1, .ref (p)), (2, .int (nI m)), (3, .int (z))] [] S (wrTo (up2 (up2 iv q 1 (nI m)) q 2 z) (q + 1) (fun i => nI (heN (T.2.2 i))) j) lw Q := by
    refine up_ind fun j hj ih9 => ?_
    have hTj : XS (wrTo (up2 (up2 iv q 1 (nI m)) q 2 z) (q + 1) (fun i => nI (heN (T.2.2 i))) j) lw p T := hT.of (wrTo_off off_cut (by omega) (by omega) j p (by omega)) rfl
    refine V_iload dX2_takeShelf_9 0 rfl ?_
    refine V_aload_n (i := 0) dX2_takeShelf_11 rfl 1 rfl ?_
    refine M_getI (x := nI m) dX2_takeShelf_12 lf_X2_15 rfl hq.1 ((congrFun (wrTo_n (by omega) _) _).trans ((up2_k (by decide)).trans up2_s)) ?_
    refine V_icmp_ge (tgt := 37) dX2_takeShelf_15 rfl (fun h15 => ?_) (fun h15 => ?_)
    · have h15 : m ≤ j := (nI_leI (by omega) (by omega)).mp h15
      refine V_vret dX2_takeShelf_37 ⟨rfl, rfl⟩ (Nat.zero_le _) (Nat.zero_le _) ?_
      subst hQ
      obtain rfl : j = m := by omega
      refine ⟨_, _, rfl, rfl, rfl, ⟨⟨hm8, fun i hi => heN_le (hh i hi)⟩, ?_, ?_, fun i hi => wrTo_in _ hi⟩, wrTo_off off_cut (by omega) (by omega) _⟩
      · exact (congrFun (wrTo_n (by omega) _) _).trans ((up2_k (by decide)).trans up2_s)
      · exact (congrFun (wrTo_n (by omega) _) _).trans (up2_s.trans hz)
    · have h15 : ¬ m ≤ j := fun q => h15 ((nI_leI (by omega) (by omega)).mpr q)
      refine V_aload_n (i := 0) dX2_takeShelf_18 rfl 1 rfl ?_
      refine V_iload dX2_takeShelf_19 0 rfl ?_
      refine V_aload_n (i := 1) dX2_takeShelf_21 rfl 2 rfl ?_
      refine V_iload dX2_takeShelf_22 0 rfl ?_
      refine M_callVp (As := [.int (nI j)]) (st := [.int (nI j), .ref (q)]) dX2_takeShelf_24 lv_X2_36 ⟨by decide, by decide⟩ ⟨rfl, rfl⟩ rfl (ci := 4) hp.1 rfl rfl (Nat.le_of_ble_eq_true rfl) ((show CP g mX7_elementAt _ _ _ _ (.long (T.2.2 j)) from (by have h := t_elementAt (g := g) hp hTj (i := nI j) hr (by rw [nI_toInt (by omega)]; omega); rw [nI_clamp (by omega)] at h; exact h))) ?_
      refine V_l2i dX2_takeShelf_27 ?_
      refine M_top (x2 := nI (heN (T.2.2 j))) (heN_q (hh j (by omega))) ?_
      refine M_callVn (As := [.int (nI j), .int (nI (heN (T.2.2 j)))]) (st := []) dX2_takeShelf_28 lv_X2_42 ⟨by decide, by decide⟩ ⟨rfl, rfl⟩ rfl (ci := 2) hq.1 rfl rfl (Nat.le_of_ble_eq_true rfl) (t_putNote hq (i := j) (by omega)) (fun iv28 lw28 q28 => ?_)
      obtain ⟨rfl, rfl⟩ := q28
      refine V_iinc (v := nI (j + 1)) (lv2 := [(4, .int (nI (j + 1))), (0, .ref (q)), (1, .ref (p)), (2, .int (nI m)), (3, .int (z))]) dX2_takeShelf_31 0 rfl (nI_inc _) (by decide) rfl ?_
      refine V_goto (tgt := 9) dX2_takeShelf_34 rfl ?_
      refine V_sub [0, 1, 2, 3, 4] rfl ?_
      exact M_at (ih9 (by omega)) (rfl) rfl (rfl) (rfl)
  refine V_sub [0, 1, 2, 3, 4] rfl ?_
  exact M_at (lp9 0 (Nat.zero_le _)) (rfl) rfl (rfl) (rfl)
set_option maxRecDepth 20000 in
theorem t_takeSounded {g : Ev} {S : St} {iv : IV} {lw : LW} {q : Nat} (hq : IsHear S q) {b : Nat} (hb : IsCamp S b) {V : Cv} (hV : XC iv b V) (hd : b + 8 < q) {c : Nat} (hc : c < v_nc V) : CQ g mX2_takeSounded [.ref (q), .ref (b), .int (nI c)] S iv lw (fun w iv2 lw2 => w = .int (nI (cntTo (goneB V) (v_sz V c))) ∧ lw = lw2 ∧ XC iv2 b (atV V (v_sz V c)) ∧ XH iv2 q (v_sz V c, true, sndN V c) ∧ Of2 b 9 q 2 iv iv2) := by
  refine CT_ofQ rfl (by decide) (Nat.le_of_ble_eq_true rfl) (lv := [(0, .ref (q)), (1, .ref (b)), (2, .int (nI c))]) rfl (fun Q hQ => ?_)
  have hsz := hV.ok.sz hc
  have hlo := hV.ok.lo
  refine V_aload_n (i := 0) dX2_takeSounded_0 rfl 0 rfl ?_
  refine V_aload_n (i := 1) dX2_takeSounded_1 rfl 1 rfl ?_
  refine V_iload_n (i := 2) dX2_takeSounded_2 rfl 2 rfl ?_
  refine M_callVp (As := [.int (nI c)]) (st := [.ref (q)]) dX2_takeSounded_3 lv_X2_46 ⟨by decide, by decide⟩ ⟨rfl, rfl⟩ rfl (ci := 0) hb.1 rfl rfl (Nat.le_of_ble_eq_true rfl) (t_X0_sizeOf hb hV hc) ?_
  refine V_iconst (v := nI 1) dX2_takeSounded_6 rfl ?_
  refine M_callVn (As := [.int (nI (v_sz V c)), .int (nI 1)]) (st := []) dX2_takeSounded_7 lv_X2_32 ⟨by decide, by decide⟩ ⟨rfl, rfl⟩ rfl (ci := 2) hq.1 rfl rfl (Nat.le_of_ble_eq_true rfl) (t_cutTo hq (n := v_sz V c) (by omega) (o := true) rfl) (fun iv7 lw7 q7 => ?_)
  obtain ⟨rfl, rfl⟩ := q7
  refine V_iconst (v := nI 0) dX2_takeSounded_10 rfl ?_
  refine V_istore_n (lv2 := [(3, .int (nI 0)), (0, .ref (q)), (1, .ref (b)), (2, .int (nI c))]) dX2_takeSounded_11 rfl (by decide) rfl ?_
  refine V_iconst (v := nI 0) dX2_takeSounded_12 rfl ?_
  refine V_istore (lv2 := [(4, .int (nI 0)), (3, .int (nI 0)), (0, .ref (q)), (1, .ref (b)), (2, .int (nI c))]) dX2_takeSounded_13 (by decide) rfl ?_
  have lp15 : ∀ j, j ≤ (v_sz V c) → ∀ iv2 : IV, XC iv2 b (atV V j) → iv2 q 1 = nI (v_sz V c) → iv2 q 2 = nI 1 → (∀ i, i < j → iv2 (q + 1) i = nI (sndN V c i)) → Of2 b 9 q 2 iv iv2 → VM g mX2_takeSounded 15 [(3, .int (nI (cntTo (goneB V) j))), (4, .int (nI j)), (0, .ref (q)), (1, .ref (b)), (2, .int (nI c))] [] S iv2 lw Q := by
    refine up_ind fun j hj ih15 => ?_
    intro iv2 hVj hq1 hq2 hrow hO
    refine V_iload dX2_takeSounded_15 1 rfl ?_
    refine V_aload_n (i := 0) dX2_takeSounded_17 rfl 2 rfl ?_
    refine M_getI (x := nI (v_sz V c)) dX2_takeSounded_18 lf_X2_15 rfl hq.1 (hq1) ?_
    refine V_icmp_ge (tgt := 81) dX2_takeSounded_21 rfl (fun h21 => ?_) (fun h21 => ?_)
    · have h21 : (v_sz V c) ≤ j := (nI_leI (by omega) (by omega)).mp h21
      refine V_iload_n (i := 3) dX2_takeSounded_81 rfl 0 rfl ?_
      refine V_iret dX2_takeSounded_82 ⟨rfl, rfl⟩ (Nat.zero_le _) (Nat.zero_le _) ?_
      subst hQ
      obtain rfl : j = v_sz V c := by omega
      exact ⟨_, _, _, rfl, rfl, rfl, rfl, hVj, ⟨⟨hsz, fun i hi => by show sndN V c i ≤ 9; unfold sndN; have := hV.ok.nt hc hi; split <;> omega⟩, hq1, hq2, hrow⟩, hO⟩
    · have h21 : ¬ (v_sz V c) ≤ j := fun q => h21 ((nI_leI (by omega) (by omega)).mpr q)
      refine V_aload_n (i := 1) dX2_takeSounded_24 rfl 3 rfl ?_
      refine V_bipush (v := nI 100) dX2_takeSounded_25 rfl ?_
      refine M_callVq (As := [.int (nI 100)]) (st := []) dX2_takeSounded_27 lv_X2_56 ⟨by decide, by decide⟩ ⟨rfl, rfl⟩ rfl (ci := 0) hb.1 rfl rfl (Nat.le_of_ble_eq_true rfl) (drwAt hb hVj) (fun w27 iv27 lw27 q27 => ?_)
      obtain ⟨rfl, rfl, hV27, hO27⟩ := q27
      have hdr := drw_lt (sdAt (v_se V) j)
      have hmm := Nat.mod_lt (drw (sdAt (v_se V) j)) (show 0 < 100 by decide)
      refine V_aload_n (i := 1) dX2_takeSounded_30 rfl 3 rfl ?_
      refine M_getI (x := nI (v_lo V)) dX2_takeSounded_31 lf_X2_59 rfl hb.1 (atV_lo hV27) ?_
      refine V_icmp_ge (tgt := 41) dX2_takeSounded_34 rfl (fun h34 => ?_) (fun h34 => ?_)
      · have h34 : (v_lo V) ≤ (drw (sdAt (v_se V) j) % 100) := (nI_leI (by omega) (by omega)).mp h34
        refine V_iconst (v := nI 0) dX2_takeSounded_41 rfl ?_
        refine V_istore (lv2 := [(5, .int (nI 0)), (3, .int (nI (cntTo (goneB V) j))), (4, .int (nI j)), (0, .ref (q)), (1, .ref (b)), (2, .int (nI c))]) dX2_takeSounded_42 (by decide) rfl ?_
        refine V_aload_n (i := 0) dX2_takeSounded_44 rfl 3 rfl ?_
        refine V_iload dX2_takeSounded_45 2 rfl ?_
        refine V_iload dX2_takeSounded_47 0 rfl ?_
        refine V_if_eq (tgt := 57) dX2_takeSounded_49 rfl (fun _ => ?_) (fun q => absurd (by decide) q)
        refine V_aload_n (i := 1) dX2_takeSounded_57 rfl 4 rfl ?_
        refine V_iload_n (i := 2) dX2_takeSounded_58 rfl 5 rfl ?_
        refine V_iload dX2_takeSounded_59 2 rfl ?_
        have hnt := hV.ok.nt hc (i := j) (by omega)
        refine M_callVp (As := [.int (nI c), .int (nI j)]) (st := [.int (nI j), .ref (q)]) dX2_takeSounded_61 lv_X2_62 ⟨by decide, by decide⟩ ⟨rfl, rfl⟩ rfl (ci := 0) hb.1 rfl rfl (Nat.le_of_ble_eq_true rfl) (atV_nt hb hV27 hc (i := j) (by omega)) ?_
        refine M_callVn (As := [.int (nI j), .int (nI (v_nt V c j))]) (st := []) dX2_takeSounded_64 lv_X2_42 ⟨by decide, by decide⟩ ⟨rfl, rfl⟩ rfl (ci := 2) hq.1 rfl rfl (Nat.le_of_ble_eq_true rfl) (t_putNote hq (i := j) (by omega)) (fun iv64 lw64 q64 => ?_)
        obtain ⟨rfl, rfl⟩ := q64
        refine V_iload dX2_takeSounded_67 0 rfl ?_
        refine V_if_eq (tgt := 75) dX2_takeSounded_69 rfl (fun _ => ?_) (fun q => absurd (by decide) q)
        refine V_iinc (v := nI (j + 1)) (lv2 := [(4, .int (nI (j + 1))), (5, .int (nI 0)), (3, .int (nI (cntTo (goneB V) j))), (0, .ref (q)), (1, .ref (b)), (2, .int (nI c))]) dX2_takeSounded_75 2 rfl (nI_inc _) (by decide) rfl ?_
        refine V_goto (tgt := 15) dX2_takeSounded_78 rfl ?_
        refine V_sub [2, 0, 3, 4, 5] rfl ?_
        exact M_at (ih15 (by omega) (up2 iv27 (q + 1) j (nI (v_nt V c j))) (hV27.of (fun a h1 h2 => up2_a (by omega))) ((up2_ne (by omega)).trans ((congrFun (hO27 q (by omega)) _).trans hq1)) ((up2_ne (by omega)).trans ((congrFun (hO27 q (by omega)) _).trans hq2)) (rowAdd (f := fun i => nI (sndN V c i)) hrow (hO27 (q + 1) (by omega)) (sndN_f h34)) (fun a h1 h2 => by rw [up2_a (by omega), hO27 a h1]; exact hO a h1 h2)) (by rw [cntTo_f (goneB_f h34)]; rfl) rfl (rfl) (rfl)
      · have h34 : ¬ (v_lo V) ≤ (drw (sdAt (v_se V) j) % 100) := fun q => h34 ((nI_leI (by omega) (by omega)).mpr q)
        refine V_iconst (v := nI 1) dX2_takeSounded_37 rfl ?_
        refine V_goto (tgt := 42) dX2_takeSounded_38 rfl ?_
        refine V_istore (lv2 := [(5, .int (nI 1)), (3, .int (nI (cntTo (goneB V) j))), (4, .int (nI j)), (0, .ref (q)), (1, .ref (b)), (2, .int (nI c))]) dX2_takeSounded_42 (by decide) rfl ?_
        refine V_aload_n (i := 0) dX2_takeSounded_44 rfl 3 rfl ?_
        refine V_iload dX2_takeSounded_45 2 rfl ?_
        refine V_iload dX2_takeSounded_47 0 rfl ?_
        refine V_if_eq (tgt := 57) dX2_takeSounded_49 rfl (fun q => absurd q (by decide)) (fun _ => ?_)
        refine V_bipush (v := nI 9) dX2_takeSounded_52 rfl ?_
        refine V_goto (tgt := 64) dX2_takeSounded_54 rfl ?_
        refine M_callVn (As := [.int (nI j), .int (nI 9)]) (st := []) dX2_takeSounded_64 lv_X2_42 ⟨by decide, by decide⟩ ⟨rfl, rfl⟩ rfl (ci := 2) hq.1 rfl rfl (Nat.le_of_ble_eq_true rfl) (t_putNote hq (i := j) (by omega)) (fun iv64 lw64 q64 => ?_)
        obtain ⟨rfl, rfl⟩ := q64
        refine V_iload dX2_takeSounded_67 0 rfl ?_
        refine V_if_eq (tgt := 75) dX2_takeSounded_69 rfl (fun q => absurd q (by decide)) (fun _ => ?_)
        refine V_iinc (v := nI ((cntTo (goneB V) j) + 1)) (lv2 := [(3, .int (nI ((cntTo (goneB V) j) + 1))), (5, .int (nI 1)), (4, .int (nI j)), (0, .ref (q)), (1, .ref (b)), (2, .int (nI c))]) dX2_takeSounded_72 1 rfl (nI_inc _) (by decide) rfl ?_
        refine V_iinc (v := nI (j + 1)) (lv2 := [(4, .int (nI (j + 1))), (3, .int (nI ((cntTo (goneB V) j) + 1))), (5, .int (nI 1)), (0, .ref (q)), (1, .ref (b)), (2, .int (nI c))]) dX2_takeSounded_75 2 rfl (nI_inc _) (by decide) rfl ?_
        refine V_goto (tgt := 15) dX2_takeSounded_78 rfl ?_
        refine V_sub [1, 0, 3, 4, 5] rfl ?_
        exact M_at (ih15 (by omega) (up2 iv27 (q + 1) j (nI (9))) (hV27.of (fun a h1 h2 => up2_a (by omega))) ((up2_ne (by omega)).trans ((congrFun (hO27 q (by omega)) _).trans hq1)) ((up2_ne (by omega)).trans ((congrFun (hO27 q (by omega)) _).trans hq2)) (rowAdd (f := fun i => nI (sndN V c i)) hrow (hO27 (q + 1) (by omega)) (sndN_t h34)) (fun a h1 h2 => by rw [up2_a (by omega), hO27 a h1]; exact hO a h1 h2)) (by rw [cntTo_t (goneB_t h34)]; rfl) rfl (rfl) (rfl)
  refine V_sub [1, 0, 2, 3, 4] rfl ?_
  exact M_at (lp15 0 (Nat.zero_le _) (up2 (up2 iv q 1 (nI (v_sz V c))) q 2 (nI 1)) (by rw [atV_0]; exact hV.off off_cut hd) ((up2_k (by decide)).trans up2_s) up2_s (fun i hi => absurd hi (by omega)) (fun a _ h2 => off_cut a h2)) (rfl) rfl (rfl) (rfl)
